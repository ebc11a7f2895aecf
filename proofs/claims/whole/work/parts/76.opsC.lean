def s7 (u : tS) (O E : Nat → Int32) : tS := (u.1, va_up (va_up u.2 17 O) 18 E)
theorem s7_eta (u : tS) : s7 u (u.2 17) (u.2 18) = u := by
  obtain ⟨a, b⟩ := u
  show (a, va_up (va_up b 17 (b 17)) 18 (b 18)) = (a, b)
  congr 1
  funext k; unfold va_up; split
  · rename_i e; rw [e]
  · split
    · rename_i e; rw [e]
    · rfl
theorem s7_17 (u : tS) (O E : Nat → Int32) : (s7 u O E).2 17 = O := rfl
theorem s7_18 (u : tS) (O E : Nat → Int32) : (s7 u O E).2 18 = E := rfl
theorem s7_ne (u : tS) (O E : Nat → Int32) {j : Nat} (h1 : j ≠ 17) (h2 : j ≠ 18) : (s7 u O E).2 j = u.2 j := by
  show va_up (va_up u.2 17 O) 18 E j = _
  rw [st_ne _ _ h2, st_ne _ _ h1]
theorem s7_A17 (u : tS) (O E : Nat → Int32) (i x : Int32) : tA (s7 u O E) 17 i x = s7 u (upd O i.toNatClampNeg x) E := by
  unfold tA s7
  congr 1
  funext k
  show va_up (va_up (va_up u.2 17 O) 18 E) 17 (upd O i.toNatClampNeg x) k = _
  unfold va_up
  by_cases a : k = 17
  · rw [if_pos a, if_neg (by omega), if_pos a]
  · rw [if_neg a, if_neg a, if_neg a]
theorem s7_A18 (u : tS) (O E : Nat → Int32) (i x : Int32) : tA (s7 u O E) 18 i x = s7 u O (upd E i.toNatClampNeg x) := by
  unfold tA s7
  congr 1
  show va_up (va_up (va_up u.2 17 O) 18 E) 18 (upd E i.toNatClampNeg x) = _
  rw [bx_uu]
theorem s7_e (u : tS) (O E : Nat → Int32) : eU u (s7 u O E) := ⟨rfl, fun j hj => s7_ne u O E (by omega) (by omega)⟩
theorem s7_S (u : tS) (O E : Nat → Int32) : gS (s7 u O E) = gS u := gS_e (s7_e u O E)
theorem z_m1 (x : Int32) : x + (-1) = x - 1 := (Int32.sub_eq_add_neg x 1).symm
theorem z_s1 (i : Nat) : nI (i + 1) - 1 = nI i := nI_pred i
/-- the onward ends of a board -/
theorem on_ex {u : tS} {g : nT} {nb : Nat} {dp : Nat → Nat} (hg : nOk g) (hu : nU u g) (hb : nB u g nb dp) (hd : mD 1000000 (gW g) (gS u)) (z : Nat) : ∃ on : Nat → Int, ∀ q, q < nb → mO 1000000 (gS u) nb (bY g dp) (bX g dp) (bL g dp) (bV g dp) (gC g) z on q ∧ bL g dp q < on q := by
  refine mO_ex (fun q hq => ?_) (fun q hq => ?_) (fun x => ?_) (fun x y => (mg_b hg hd x y).1) (fun q i h1 h2 h3 => nB_s hb q i h1 h2 h3)
  · have := (nB_p hg hu hb hq).2.2.2.2.2.2.2.2.2.2.2.1; omega
  · exact (nB_p hg hu hb hq).2.2.2.2.2.2.2.2.2.2.2.2.1
  · exact mA_nn (by decide) (fun _ _ _ hw => (gW_b hg hw).1) hd x z
/-- the arrival is what the onward ends say -/
theorem on_eq {u : tS} {g : nT} {nb : Nat} {dp : Nat → Nat} (hg : nOk g) (hu : nU u g) (hb : nB u g nb dp) (hd : mD 1000000 (gW g) (gS u)) {z f t : Nat} {on : Nat → Int} (hon : ∀ q, q < nb → mO 1000000 (gS u) nb (bY g dp) (bX g dp) (bL g dp) (bV g dp) (gC g) z on q ∧ bL g dp q < on q)
    {R V : Nat → Int} (hG : mG 1000000 (gW g) (gD g) (gC g) f t R V) {e : Int} (he : mZ 1000000 (gS u) nb (bY g dp) (bL g dp) on f z t e) : mn (R z) (V z) = e := by
  rw [← nB_Q hb] at hG
  refine mZ_eq (by decide) (fun _ _ _ hw => (gW_b hg hw).1) hd (by omega) (fun q hq => ?_) hG (fun q hq => (hon q hq).1) (fun q hq => ?_) (fun x => by unfold gC; omega) (fun q i h1 h2 h3 => nB_s hb q i h1 h2 h3) (fun q hq => ?_) he
  · have := nB_p hg hu hb hq
    have := this.2.2.2.2.2.2.2.2.2.2
    show 0 ≤ bV g dp q; omega
  · have := (nB_p hg hu hb hq).2.2.2.2.2.2.2.2.2.2.2.1; show bL g dp q < _; omega
  · exact (nB_p hg hu hb hq).2.2.2.2.2.2.2.2.2.2.2.2.1
set_option maxHeartbeats 1000000 in
theorem sp_latestBeginning {post : Int32 → tS → Prop} {u : tS} {g : nT} {nb : Nat} {dp : Nat → Nat} (hg : nOk g) (hu : nU u g) (hb : nB u g nb dp) (hd : mD 1000000 (gW g) (gS u)) {z f B : Nat} {on : Nat → Int} (hz : z < nSt g) (hf : f < nSt g) (hB : B ≤ 20000) (hon : ∀ q, q < nb → mO 1000000 (gS u) nb (bY g dp) (bX g dp) (bL g dp) (bV g dp) (gC g) z on q ∧ bL g dp q < on q)
    (h : ∀ (O : Nat → Int32) (r : Int32) (L : Int), (B : Int) - mA (gS u) f z ≤ L → (∀ j, j < nb → on j ≤ B → bL g dp j - mA (gS u) f (bY g dp j) ≤ L) → (L = (B : Int) - mA (gS u) f z ∨ ∃ j, j < nb ∧ on j ≤ B ∧ L = bL g dp j - mA (gS u) f (bY g dp j)) → r.toInt = (if L < 0 then -1 else if 10079 < L then 10079 else L) → post r (s7 u O (u.2 18))) : w_Sp_latestBeginning post (nI f) (nI z) (nI B) u := by
  have g1 := hg.1; have h2 := hb.2.1; have g2 := hg.2.1
  have mAb : ∀ x y, 0 ≤ mA (gS u) x y ∧ mA (gS u) x y ≤ 1000000 := fun x y => by
    have := gS_b hg hd x y; unfold mA; split <;> omega
  refine sp_anyNumber (by omega) (by omega) (fun r0 hr0 => ?_)
  have e0 : (nI B - r0).toInt = (B : Int) - mA (gS u) f z := by
    have := mAb f z; rw [zi_sub] <;> rw [hr0, zi_n (by omega)] <;> omega
  have key := pk_loopD (σ := (Nat → Int32) × Int32) (fun n i p => w_Sp_latestBeginning_25 post n (nI f) (nI z) (nI B) p.2 (nI i - 1) (s7 u p.1 (u.2 18)))
    (fun i p => i ≤ nb ∧ (∀ j, i ≤ j → j < nb → (p.1 j).toInt = on j) ∧ (B : Int) - mA (gS u) f z ≤ p.2.toInt ∧ (∀ j, i ≤ j → j < nb → on j ≤ B → bL g dp j - mA (gS u) f (bY g dp j) ≤ p.2.toInt) ∧ (p.2.toInt = (B : Int) - mA (gS u) f z ∨ ∃ j, j < nb ∧ on j ≤ B ∧ p.2.toInt = bL g dp j - mA (gS u) f (bY g dp j)))
    (fun n p hI => ⟨fun _ => ?_, fun c => absurd (show nI 0 - 1 < 0 by decide) c⟩)
    (fun n i p hI hw => ?_) nb (u.2 17, nI B - r0) ⟨Nat.le_refl _, fun j h1 h3 => absurd h1 (by omega), by show _ ≤ (nI B - r0).toInt; rw [e0]; exact Int.le_refl _, fun j h1 h3 => absurd h1 (by omega), Or.inl e0⟩
  · refine ⟨nb + 1, ?_⟩
    rw [hb.1]
    have := key
    (try dsimp only at this)
    rw [s7_eta] at this; exact this
  · -- the end
    obtain ⟨-, i2, i3, i4, i5⟩ := hI
    have fin : ∀ r : Int32, r.toInt = (if p.2.toInt < 0 then -1 else if 10079 < p.2.toInt then 10079 else p.2.toInt) → post r (s7 u p.1 (u.2 18)) := fun r hr => h p.1 r p.2.toInt i3 (fun j h1 => i4 j (by omega) h1) i5 hr
    refine ⟨fun c => fin _ ?_, fun c => fin _ ?_⟩
    · rw [zi_le, show (0 : Int32).toInt = 0 from rfl] at c
      rw [show (if p.2.toInt < 0 then (-1 : Int) else if 10079 < p.2.toInt then 10079 else p.2.toInt) = if 10079 < p.2.toInt then 10079 else p.2.toInt from if_neg (by omega), zi_if]
      have : ((10079 : Int32) < p.2) ↔ 10079 < p.2.toInt := by rw [zi_lt]; exact Iff.rfl
      by_cases q : (10079 : Int32) < p.2
      · rw [if_pos q, if_pos (this.mp q)]; rfl
      · rw [if_neg q, if_neg (fun z => q (this.mpr z))]
    · rw [zi_le, show (0 : Int32).toInt = 0 from rfl] at c
      rw [if_pos (by omega)]; rfl
  · -- a place
    obtain ⟨i1, i2, i3, i4, i5⟩ := hI
    obtain ⟨O, L⟩ := p
    have hi : i < nb := by omega
    have ivi : vp_in (nI i) 280 := vp_in_nI (by omega) (by omega)
    have eU7 := s7_e u O (u.2 18)
    show w_Sp_latestBeginning_25 post (n + 1) (nI f) (nI z) (nI B) L (nI (i + 1) - 1) (s7 u O (u.2 18))
    rw [z_s1]
    refine ⟨fun c => absurd c (nI_pos (by omega)), fun _ => ?_⟩
    refine sp_endOf hg (nU_e eU7 hu) (nB_e eU7 hb) (by rw [s7_S]; exact hd) hi hz (by rw [s7_S]; exact hon) (fun j h1 h3 => i2 j (by omega) h3) (fun r hr => ⟨ivi, ivi, ?_⟩)
    rw [s7_A17, z_m1, nI_clamp (by omega), s7_17, pk_us]
    have eU8 := s7_e u (upd O i r) (u.2 18)
    have on' : ∀ j, i ≤ j → j < nb → (upd O i r j).toInt = on j := fun j h1 h3 => by
      by_cases e : j = i
      · subst e; rw [pk_us]; exact hr
      · rw [pk_un e]; exact i2 j (by omega) h3
    refine ⟨fun c => ?_, fun c => ?_⟩
    · rw [zi_lt, hr, zi_n (by omega)] at c
      refine hw (upd O i r, L) ⟨by omega, on', i3, fun j h1 h3 h4 => ?_, i5⟩
      by_cases e : j = i
      · subst e; omega
      · exact i4 j (by omega) h3 h4
    · rw [zi_lt, hr, zi_n (by omega)] at c
      refine sp_latestFor hg (nU_e eU8 hu) (nB_e eU8 hb) (by rw [s7_S]; exact hd) hi hf (fun r2 hr2 => ?_)
      rw [s7_S] at hr2
      have i3 : (B : Int) - mA (gS u) f z ≤ L.toInt := i3
      have el : (if L < r2 then r2 else L).toInt = if L.toInt < r2.toInt then r2.toInt else L.toInt := by
        rw [zi_if]
        by_cases q : L < r2
        · rw [if_pos q, if_pos (by rw [zi_lt] at q; exact q)]
        · rw [if_neg q, if_neg (by rw [zi_lt] at q; exact q)]
      refine hw (upd O i r, if L < r2 then r2 else L) ⟨by omega, on', ?_, fun j h1 h3 h4 => ?_, ?_⟩
      · show _ ≤ (if L < r2 then r2 else L).toInt
        rw [el]; split <;> omega
      · show _ ≤ (if L < r2 then r2 else L).toInt
        rw [el]
        by_cases e : j = i
        · subst e; rw [← hr2]; split <;> omega
        · have : _ ≤ L.toInt := i4 j (by omega) h3 h4
          split <;> omega
      · show (if L < r2 then r2 else L).toInt = _ ∨ _
        by_cases q : L.toInt < r2.toInt
        · right; exact ⟨i, hi, by omega, by show (if L < r2 then r2 else L).toInt = _; rw [el, if_pos q, hr2]⟩
        · rw [el, if_neg q]
          rcases i5 with q | ⟨j, j1, j2, j3⟩
          · exact Or.inl q
          · exact Or.inr ⟨j, j1, j2, j3⟩
theorem gl_eq {g : nT} {f t : Nat} {R V : Nat → Int} (hg : nOk g) (ht : t ≤ 10079) (hG : mG 1000000 (gW g) (gD g) (gC g) f t R V) (x : Nat) : 0 ≤ R x ∧ 0 ≤ V x := by
  have := mG_low (fun _ _ _ hw => (gW_b hg hw).1) (fun y x l v hq => by
    obtain ⟨k, hk, hl, -, -, rfl, rfl⟩ := hq
    have := hg.2.2.2.2.1 (k / 7) (by omega); omega) (fun x => by unfold gC; omega) (by omega) hG x
  omega
theorem sp_isByM {post : Int32 → tS → Prop} {v : tS} {g : nT} (hg : nOk g) (hv : nV v g) {f x t : Nat} {B : Int32} (hf : f < nSt g) (hx : x < nSt g) (ht : t ≤ 10079)
    (h1 : ∀ (v' : tS) (R V : Nat → Int), eV v v' → mG 1000000 (gW g) (gD g) (gC g) f t R V → mn (R x) (V x) ≤ B.toInt → post 1 v') (h0 : ∀ (v' : tS) (R V : Nat → Int), eV v v' → mG 1000000 (gW g) (gD g) (gC g) f t R V → ¬ mn (R x) (V x) ≤ B.toInt → post 0 v') : w_M_isBy post (nI f) (nI x) (nI t) B v := by
  have g1 := hg.1
  refine sp_findM hg hv hf ht (fun v' R V b e o1 o2 hG => sp_arrival (by omega) (fun r hr => ⟨fun c => ?_, fun c => ?_⟩))
  · rw [zi_lt, hr] at c; exact h0 _ _ _ (m3_E R V b e) hG (by omega)
  · rw [zi_lt, hr] at c; exact h1 _ _ _ (m3_E R V b e) hG (by omega)
