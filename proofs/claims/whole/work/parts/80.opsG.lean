/-! profile -/
def t9 (s : tS) (c : Nat) (T D : Nat → Int32) : tS := (upd s.1 4 (nI c), va_up (va_up s.2 19 T) 20 D)
theorem t9_1 (s : tS) (c : Nat) (T D : Nat → Int32) : (t9 s c T D).1 4 = nI c := by
  show upd s.1 4 (nI c) 4 = nI c
  exact pk_us
theorem t9_1n (s : tS) (c : Nat) (T D : Nat → Int32) {k : Nat} (h : k ≠ 4) : (t9 s c T D).1 k = s.1 k := by
  show upd s.1 4 (nI c) k = s.1 k
  exact pk_un h
theorem t9_19 (s : tS) (c : Nat) (T D : Nat → Int32) : (t9 s c T D).2 19 = T := rfl
theorem t9_20 (s : tS) (c : Nat) (T D : Nat → Int32) : (t9 s c T D).2 20 = D := rfl
theorem t9_ne (s : tS) (c : Nat) (T D : Nat → Int32) {j : Nat} (h1 : j ≠ 19) (h2 : j ≠ 20) : (t9 s c T D).2 j = s.2 j := by
  show va_up (va_up s.2 19 T) 20 D j = _
  rw [st_ne _ _ h2, st_ne _ _ h1]
theorem t9_I (s : tS) (c c' : Nat) (T D : Nat → Int32) : tI (t9 s c T D) 4 (nI c') = t9 s c' T D := by
  unfold t9 tI
  congr 1
  funext k
  show upd (upd s.1 4 (nI c)) 4 (nI c') k = upd s.1 4 (nI c') k
  by_cases e : k = 4
  · subst e; rw [pk_us, pk_us]
  · rw [pk_un e, pk_un e, pk_un e]
theorem t9_A19 (s : tS) (c : Nat) (T D : Nat → Int32) (i x : Int32) : tA (t9 s c T D) 19 i x = t9 s c (upd T i.toNatClampNeg x) D := by
  unfold tA t9
  congr 1
  funext k
  show va_up (va_up (va_up s.2 19 T) 20 D) 19 (upd T i.toNatClampNeg x) k = _
  unfold va_up
  by_cases a : k = 19
  · rw [if_pos a, if_neg (by omega), if_pos a]
  · rw [if_neg a, if_neg a, if_neg a]
theorem t9_A20 (s : tS) (c : Nat) (T D : Nat → Int32) (i x : Int32) : tA (t9 s c T D) 20 i x = t9 s c T (upd D i.toNatClampNeg x) := by
  unfold tA t9
  congr 1
  show va_up (va_up (va_up s.2 19 T) 20 D) 20 (upd D i.toNatClampNeg x) = _
  rw [bx_uu]
theorem t9_0 (s : tS) : tI s 4 0 = t9 s 0 (s.2 19) (s.2 20) := by
  unfold t9 tI
  congr 1
  funext k; unfold va_up; split
  · rename_i e; rw [e]
  · split
    · rename_i e; rw [e]
    · rfl
/-- the steps of the first i minutes -/
def pS (E : Nat → Int32) (F : Nat) (T0 D0 : Nat → Int32) : Nat → Nat × (Nat → Int32) × (Nat → Int32)
  | 0 => (0, T0, D0)
  | i + 1 => if i = 0 ∨ E i ≠ E (i - 1) then ((pS E F T0 D0 i).1 + 1, upd (pS E F T0 D0 i).2.1 (pS E F T0 D0 i).1 (nI (F + i)), upd (pS E F T0 D0 i).2.2 (pS E F T0 D0 i).1 (E i)) else pS E F T0 D0 i
theorem pS_s (E : Nat → Int32) (F : Nat) (T0 D0 : Nat → Int32) (i : Nat) : pS E F T0 D0 (i + 1) = if i = 0 ∨ E i ≠ E (i - 1) then ((pS E F T0 D0 i).1 + 1, upd (pS E F T0 D0 i).2.1 (pS E F T0 D0 i).1 (nI (F + i)), upd (pS E F T0 D0 i).2.2 (pS E F T0 D0 i).1 (E i)) else pS E F T0 D0 i := rfl
theorem pS_le (E : Nat → Int32) (F : Nat) (T0 D0 : Nat → Int32) (i : Nat) : (pS E F T0 D0 i).1 ≤ i := by
  induction i with
  | zero => exact Nat.le_refl _
  | succ i ih => rw [pS_s]; split; show (pS E F T0 D0 i).1 + 1 ≤ i + 1; omega; omega
theorem pS_last (E : Nat → Int32) (F : Nat) (T0 D0 : Nat → Int32) (i : Nat) : 0 < (pS E F T0 D0 (i + 1)).1 ∧ (pS E F T0 D0 (i + 1)).2.2 ((pS E F T0 D0 (i + 1)).1 - 1) = E i := by
  induction i with
  | zero =>
    rw [pS_s, if_pos (Or.inl rfl)]
    exact ⟨Nat.succ_pos _, by show upd (pS E F T0 D0 0).2.2 (pS E F T0 D0 0).1 (E 0) ((pS E F T0 D0 0).1 + 1 - 1) = E 0; rw [Nat.add_sub_cancel]; exact pk_us⟩
  | succ i ih =>
    rw [pS_s]; split
    · exact ⟨Nat.succ_pos _, by show upd (pS E F T0 D0 (i + 1)).2.2 (pS E F T0 D0 (i + 1)).1 (E (i + 1)) ((pS E F T0 D0 (i + 1)).1 + 1 - 1) = E (i + 1); rw [Nat.add_sub_cancel]; exact pk_us⟩
    · rename_i q
      have : E (i + 1) = E i := Classical.byContradiction (fun y => q (Or.inr y))
      rw [this]; exact ih
set_option maxHeartbeats 1000000 in
theorem sp_take {post : tS → Prop} {s : tS} {E : Nat → Int32} {F L : Nat} (h1 : F ≤ L) (h2 : L ≤ F + 600) (h3 : L ≤ 10079) (hE : s.2 18 = E) (h : ∀ c T D, (c, T, D) = pS E F (s.2 19) (s.2 20) (L - F + 1) → post (t9 s c T D)) : w_St_take post (nI F) (nI L) s := by
  unfold w_St_take
  rw [t9_0]
  have eL : nI L - nI F = nI (L - F) := pk_sub h1
  refine pk_loop (fun n i (_ : Unit) => w_St_take_8 post n (nI F) (nI L) (nI i) (t9 s (pS E F (s.2 19) (s.2 20) i).1 (pS E F (s.2 19) (s.2 20) i).2.1 (pS E F (s.2 19) (s.2 20) i).2.2)) (fun _ _ => True) (L - F + 1) 0 () (by omega) trivial
    (fun n _ _ => ⟨fun _ => h _ _ _ rfl, fun q => absurd (by rw [eL]; exact nI_lt (by omega) (by omega)) q⟩)
    (fun n i _ hi _ hw => ⟨fun q => absurd q (by rw [eL]; exact nI_nlt (by omega) (by omega)), fun _ => ?_⟩)
  have hc := pS_le E F (s.2 19) (s.2 20) i
  have n1 := hw () trivial
  have ivc : vp_in (nI (pS E F (s.2 19) (s.2 20) i).1) 601 := vp_in_nI (by omega) (by omega)
  have ivi : vp_in (nI i) 601 := vp_in_nI (by omega) (by omega)
  have add : (i = 0 ∨ E i ≠ E (i - 1)) → w_St_take_40 post (w_St_take_8 post n) (nI F) (nI L) (nI i) (t9 s (pS E F (s.2 19) (s.2 20) i).1 (pS E F (s.2 19) (s.2 20) i).2.1 (pS E F (s.2 19) (s.2 20) i).2.2) := by
    intro hq
    rw [pS_s, if_pos hq] at n1
    unfold w_St_take_40
    simp only [tA_1, t9_1]
    refine ⟨ivc, ivi, ivc, ?_⟩
    rw [t9_A19, t9_A20, nI_1, nI_1, t9_I, t9_ne _ _ _ _ (by omega) (by omega), hE, nI_clamp (by omega), nI_clamp (by omega), nI_add]
    exact n1
  refine ⟨fun q => add (Or.inl ?_), fun q => ?_⟩
  · exact (nI_eq (by omega) (by omega)).mp (show nI i = nI 0 from q)
  · have i0 : i ≠ 0 := fun e => q (by rw [e]; rfl)
    have ei : nI i - 1 = nI (i - 1) := by
      obtain ⟨j, rfl⟩ : ∃ j, i = j + 1 := ⟨i - 1, by omega⟩
      exact nI_pred j
    rw [ei, t9_ne _ _ _ _ (by omega) (by omega), hE, nI_clamp (by omega), nI_clamp (by omega)]
    refine ⟨ivi, vp_in_nI (by omega) (by omega), fun y => ?_, fun y => add (Or.inr y)⟩
    rw [pS_s, if_neg (by intro z; rcases z with z | z; exact i0 z; exact z y)] at n1
    rw [nI_1]; exact n1
def fV (v v' : tS) : Prop := (∀ k, k ≠ 3 → k ≠ 5 → v'.1 k = v.1 k) ∧ ∀ j, j ≠ 10 → j ≠ 11 → ¬ (13 ≤ j ∧ j ≤ 15) → v'.2 j = v.2 j
theorem fV_e {v v' w : tS} (h : fV v v') (e : eV v' w) : fV v w := ⟨fun k h1 h2 => (e.1 k h2).trans (h.1 k h1 h2), fun j h1 h2 h3 => (e.2 j h3).trans (h.2 j h1 h2 h3)⟩
theorem nV_f {v v' : tS} {g : nT} (e : fV v v') (h : nV v g) : nV v' g := by
  obtain ⟨e1, e2⟩ := e
  unfold nV at *
  rw [e1 0 (by omega) (by omega), e1 1 (by omega) (by omega), e1 2 (by omega) (by omega), e2 0 (by omega) (by omega) (by omega), e2 1 (by omega) (by omega) (by omega), e2 2 (by omega) (by omega) (by omega), e2 3 (by omega) (by omega) (by omega), e2 4 (by omega) (by omega) (by omega), e2 5 (by omega) (by omega) (by omega), e2 6 (by omega) (by omega) (by omega), e2 7 (by omega) (by omega) (by omega), e2 8 (by omega) (by omega) (by omega), e2 9 (by omega) (by omega) (by omega)]
  exact h
def oN (x : Int32) : Int32 := if x < 1000000 then x else -1
theorem oN_v {x : Int32} (h : x.toInt ≤ 1000000) : (oN x).toInt = if x.toInt < 1000000 then x.toInt else -1 := by
  unfold oN; rw [zi_if]
  by_cases q : x < 1000000
  · rw [if_pos q, if_pos (by rw [zi_lt, z_M] at q; exact q)]
  · rw [if_neg q, if_neg (by rw [zi_lt, z_M] at q; exact q)]; rfl
theorem oN_inj {x y : Int32} (hx : 0 ≤ x.toInt ∧ x.toInt ≤ 1000000) (hy : 0 ≤ y.toInt ∧ y.toInt ≤ 1000000) (h : oN x = oN y) : x = y := by
  have := congrArg Int32.toInt h
  rw [oN_v hx.2, oN_v hy.2] at this
  rw [zi_eq]; split at this <;> split at this <;> omega
set_option maxHeartbeats 2000000 in
theorem pr_profile (u v : tS) (x1 x2 x3 x4 : Int32) (h : Rel u v) : w_T_profile (fun r1 u1 => w_M_profile (fun r2 v1 => r1 = r2 ∧ Rel u1 v1) x1 x2 x3 x4 v) x1 x2 x3 x4 u := by
  obtain ⟨g, nb, dp, hg, hu, hv, hb, hd, hp, ha⟩ := id h
  have g1 := hg.1
  have bad : ¬ (zS g x1 ∧ zS g x2 ∧ zP x3 x4) → w_M_profile (fun r2 v1 => (-2) = r2 ∧ Rel u v1) x1 x2 x3 x4 v := fun hn => sp_isSpanM hg hv (fun a b c => absurd ⟨a, b, c⟩ hn) (fun _ => q0 ⟨rfl, h⟩)
  refine sp_hasStops hg hu (fun a b => q1 (sp_isSpan (fun c => q1 ?_) (fun c => q0 (bad (fun k => c k.2.2))))) (fun k => q0 (bad (fun z => k ⟨z.1, z.2.1⟩)))
  obtain ⟨f, hf, rfl⟩ := z_S a
  obtain ⟨x, hx, rfl⟩ := z_S b
  obtain ⟨F, L, rfl, rfl, c1, c2, c3⟩ := z_P c
  obtain ⟨on, hon⟩ := on_ex hg hu hb hd x
  refine sp_spanFind hg hu hb hd hx hf c1 c2 c3 hon (fun O E hE => ?_)
  have eb : ∀ k, k ≤ L - F → 0 ≤ (E k).toInt ∧ (E k).toInt ≤ 1000000 := fun k hk => ⟨by have := mZ_low hg hd (fun q hq => (hon q hq).2) (by omega) (hE k hk); omega, (hE k hk).1⟩
  refine sp_take c1 c2 c3 (s7_18 u O E) (fun cN T D hcTD => ?_)
  rw [t9_1]
  refine sp_isSpanM hg hv (fun _ _ _ => q1 ?_) (fun k => absurd ⟨a, b, c⟩ k)
  have hcn : cN ≤ 601 := by
    have := pS_le E F ((s7 u O E).2 19) ((s7 u O E).2 20) (L - F + 1)
    rw [← hcTD] at this
    have this : cN ≤ L - F + 1 := this
    omega
  obtain ⟨T0, hT0⟩ : ∃ T0, T0 = (s7 u O E).2 19 := ⟨_, rfl⟩
  obtain ⟨D0, hD0⟩ : ∃ D0, D0 = (s7 u O E).2 20 := ⟨_, rfl⟩
  rw [← hT0, ← hD0] at hcTD
  refine pk_loop (fun n t v' => w_M_profile_23 (fun r2 v1 => nI cN = r2 ∧ Rel (t9 (s7 u O E) cN T D) v1) n (nI f) (nI x) (nI L) (nI t) v')
    (fun t v' => F ≤ t ∧ fV v v' ∧ v'.1 3 = nI (pS E F T0 D0 (t - F)).1 ∧ ∀ j, j < (pS E F T0 D0 (t - F)).1 → v'.2 10 j = (pS E F T0 D0 (t - F)).2.1 j ∧ v'.2 11 j = oN ((pS E F T0 D0 (t - F)).2.2 j)) (L + 1) F (tI v 3 0) (by omega)
    ⟨Nat.le_refl _, ⟨fun k h1 h2 => tI_ne v 0 h1, fun j _ _ _ => rfl⟩, by rw [Nat.sub_self]; exact tI_eq v 3 0, fun j hj => by rw [Nat.sub_self] at hj; exact absurd hj (Nat.not_lt_zero _)⟩
    (fun n v' hI => ⟨fun _ => ?_, fun q => absurd (nI_lt (by omega) (by omega)) q⟩)
    (fun n t v' ht hI hw => ⟨fun q => absurd q (nI_nlt (by omega) (by omega)), fun _ => ?_⟩)
  · obtain ⟨-, i2, i3, i4⟩ := hI
    rw [show L + 1 - F = L - F + 1 by omega, ← hcTD] at i3 i4
    have i3 : v'.1 3 = nI cN := i3
    refine ⟨i3.symm, ?_⟩
    have eU : ∀ j, j ≠ 19 → j ≠ 20 → ¬ (13 ≤ j ∧ j ≤ 18) → (t9 (s7 u O E) cN T D).2 j = u.2 j := fun j h1 h2 h3 => by
      rw [t9_ne _ _ _ _ h1 h2]; exact (s7_e u O E).2 j h3
    have eI : ∀ k, k ≠ 4 → (t9 (s7 u O E) cN T D).1 k = u.1 k := fun k h1 => t9_1n _ _ _ _ h1
    refine ⟨g, nb, dp, hg, ?_, nV_f i2 hv, ?_, ?_, ⟨cN, hcn, t9_1 _ _ _ _, i3, fun i hi => ?_⟩, ?_⟩
    · unfold nU at *
      rw [eI 0 (by omega), eI 1 (by omega), eI 3 (by omega), eU 0 (by omega) (by omega) (by omega), eU 1 (by omega) (by omega) (by omega), eU 2 (by omega) (by omega) (by omega), eU 3 (by omega) (by omega) (by omega), eU 4 (by omega) (by omega) (by omega), eU 5 (by omega) (by omega) (by omega), eU 6 (by omega) (by omega) (by omega), eU 9 (by omega) (by omega) (by omega), eU 10 (by omega) (by omega) (by omega), eU 11 (by omega) (by omega) (by omega)]
      exact hu
    · unfold nB at *
      rw [eI 2 (by omega), eU 7 (by omega) (by omega) (by omega), eU 8 (by omega) (by omega) (by omega)]; exact hb
    · have : gS (t9 (s7 u O E) cN T D) = gS u := by funext p q; unfold gS; rw [eU 12 (by omega) (by omega) (by omega)]
      rw [this]; exact hd
    · have k := i4 i hi
      rw [t9_19, t9_20]
      exact ⟨k.1.symm, k.2⟩
    · unfold nA at *
      rw [eI 5 (by omega), i2.1 4 (by omega) (by omega), eU 21 (by omega) (by omega) (by omega), eU 22 (by omega) (by omega) (by omega), eU 23 (by omega) (by omega) (by omega), eU 24 (by omega) (by omega) (by omega), i2.2 12 (by omega) (by omega) (by omega)]
      exact ha
  · obtain ⟨i1, i2, i3, i4⟩ := hI
    obtain ⟨i, hi⟩ : ∃ i, i = t - F := ⟨_, rfl⟩
    rw [← hi] at i3 i4
    have hk : i ≤ L - F := by omega
    have hc := pS_le E F T0 D0 i
    refine sp_found hg (nV_f i2 hv) hf hx (by omega) (fun v2 R V b2 r2 e2 o1 o2 hG hr2 => ?_)
    have hZ := hE i hk
    rw [show F + i = t by omega] at hZ
    have eq := on_eq hg hu hb hd hon hG hZ
    have er : r2 = oN (E i) := by rw [zi_eq, hr2, eq, oN_v (eb i hk).2]
    have e3 := m3_E R V b2 e2
    have f3 := fV_e i2 e3
    obtain ⟨w, hw0⟩ : ∃ w, w = m3 v2 R V b2 := ⟨_, rfl⟩
    rw [← hw0] at e3 f3
    show ((m3 v2 R V b2).1 3 = 0 → _) ∧ _
    rw [← hw0]
    have j3 : w.1 3 = nI (pS E F T0 D0 i).1 := (e3.1 3 (by omega)).trans i3
    have j4 : ∀ j, j < (pS E F T0 D0 i).1 → w.2 10 j = (pS E F T0 D0 i).2.1 j ∧ w.2 11 j = oN ((pS E F T0 D0 i).2.2 j) := fun j hj => by
      rw [e3.2 10 (by omega), e3.2 11 (by omega)]; exact i4 j hj
    have ivc : vp_in (nI (pS E F T0 D0 i).1) 601 := vp_in_nI (by omega) (by omega)
    have e1t : t + 1 - F = i + 1 := by omega
    have add : (i = 0 ∨ E i ≠ E (i - 1)) → w_M_profile_63 (fun r2 v1 => nI cN = r2 ∧ Rel (t9 (s7 u O E) cN T D) v1) (w_M_profile_23 (fun r2 v1 => nI cN = r2 ∧ Rel (t9 (s7 u O E) cN T D) v1) n) (nI f) (nI x) (nI L) (nI t) r2 w := by
      intro hq
      unfold w_M_profile_63
      simp only [tA_1, j3]
      refine ⟨ivc, ivc, ?_⟩
      rw [nI_1, nI_1]
      refine hw _ ⟨by omega, ⟨fun k h1 h2 => ?_, fun j h1 h2 h3 => ?_⟩, ?_, fun j hj => ?_⟩
      · rw [tI_ne _ _ h1]; exact f3.1 k h1 h2
      · rw [tI_2, tA_ne _ _ _ h2, tA_ne _ _ _ h1]; exact f3.2 j h1 h2 h3
      · rw [tI_eq, e1t, pS_s, if_pos hq]
      · rw [e1t, pS_s, if_pos hq] at hj ⊢
        have hj : j < (pS E F T0 D0 i).1 + 1 := hj
        rw [tI_2, tA_ne _ _ _ (show (10 : Nat) ≠ 11 by omega), tA_eq, tA_eq, tA_ne _ _ _ (show (11 : Nat) ≠ 10 by omega), nI_clamp (by omega)]
        show upd (w.2 10) (pS E F T0 D0 i).1 (nI t) j = upd (pS E F T0 D0 i).2.1 (pS E F T0 D0 i).1 (nI (F + i)) j ∧ upd (w.2 11) (pS E F T0 D0 i).1 r2 j = oN (upd (pS E F T0 D0 i).2.2 (pS E F T0 D0 i).1 (E i) j)
        by_cases e : j = (pS E F T0 D0 i).1
        · subst e; rw [pk_us, pk_us, pk_us, pk_us, show F + i = t by omega]; exact ⟨rfl, er⟩
        · rw [pk_un e, pk_un e, pk_un e, pk_un e]; exact j4 j (by omega)
    rw [j3]
    refine ⟨fun q => add ?_, fun q => ?_⟩
    · have q := (nI_eq (by omega) (by omega)).mp (show nI (pS E F T0 D0 i).1 = nI 0 from q)
      left
      refine Classical.byContradiction (fun y => ?_)
      obtain ⟨k, rfl⟩ : ∃ k, i = k + 1 := ⟨i - 1, by omega⟩
      have := (pS_last E F T0 D0 k).1; omega
    · have c0 : (pS E F T0 D0 i).1 ≠ 0 := fun e => q (by rw [e]; rfl)
      obtain ⟨k, rfl⟩ : ∃ k, i = k + 1 := ⟨i - 1, by
        have : i ≠ 0 := fun e => c0 (by rw [e]; rfl)
        omega⟩
      have ei : nI (pS E F T0 D0 (k + 1)).1 - 1 = nI ((pS E F T0 D0 (k + 1)).1 - 1) := by
        obtain ⟨j, hj⟩ : ∃ j, (pS E F T0 D0 (k + 1)).1 = j + 1 := ⟨(pS E F T0 D0 (k + 1)).1 - 1, by omega⟩
        rw [hj, Nat.add_sub_cancel]; exact nI_pred j
      have la := pS_last E F T0 D0 k
      rw [ei, nI_clamp (by omega), (j4 _ (by omega)).2, la.2]
      refine ⟨vp_in_nI (by omega) (by omega), fun y => ?_, fun y => add (Or.inr (fun z => y ?_))⟩
      · rw [er] at y
        have y := oN_inj (eb k (by omega)) (eb (k + 1) hk) y
        rw [nI_1]
        refine hw w ⟨by omega, f3, ?_, fun j hj => ?_⟩
        · rw [e1t, pS_s, if_neg (by intro z; rcases z with z | z; omega; exact z (by rw [Nat.add_sub_cancel]; exact y.symm))]; exact j3
        · rw [e1t, pS_s, if_neg (by intro z; rcases z with z | z; omega; exact z (by rw [Nat.add_sub_cancel]; exact y.symm))] at hj ⊢; exact j4 j hj
      · rw [er, z, Nat.add_sub_cancel]
