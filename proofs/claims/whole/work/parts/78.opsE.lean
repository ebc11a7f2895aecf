/-! SPAN -/
/-- 'or', as a word that omega leaves alone -/
def orE (A B : Prop) : Prop := A ∨ B
theorem orE_i {A B : Prop} (h : A ∨ B) : orE A B := h
theorem orE_o {A B : Prop} (h : orE A B) : A ∨ B := h
theorem sp_fill2 {post : tS → Prop} {u : tS} (h : ∀ E : Nat → Int32, (∀ j : Nat, j < 601 → E j = 1000000) → post (s7 u (u.2 17) E)) : w_J_fill2 post 1000000 u := by
  suffices hh : ∃ n, w_J_fill2_5 post n 1000000 (nI 0) 601 (s7 u (u.2 17) (u.2 18)) by
    rw [s7_eta] at hh; exact hh
  refine pk_loop (fun n i E => w_J_fill2_5 post n 1000000 (nI i) 601 (s7 u (u.2 17) E)) (fun i E => ∀ j, j < i → E j = 1000000) 601 0 (u.2 18) (by omega) (fun j hj => absurd hj (by omega))
    (fun n E hI => ⟨fun _ => h E hI, fun c => absurd (show (601 : Int32) ≤ nI 601 by decide) c⟩)
    (fun n i E hi hI hw => ⟨fun c => absurd c (show ¬ nI 601 ≤ nI i from nI_ge hi (by omega)), fun _ => ⟨vp_in_nI hi (by omega), ?_⟩⟩)
  rw [s7_A18, nI_1, nI_clamp (by omega)]
  refine hw _ (fun j hj => ?_)
  by_cases e : j = i
  · subst e; exact pk_us
  · rw [pk_un e]; exact hI j (by omega)
/-- the latest minute of the span at which a place may be come to -/
def bG (u : tS) (g : nT) (dp : Nat → Nat) (f Lst : Nat) (j : Nat) : Int := if bL g dp j - mA (gS u) f (bY g dp j) < Lst then bL g dp j - mA (gS u) f (bY g dp j) else Lst
def eP (u : tS) (g : nT) (nb : Nat) (dp : Nat → Nat) (on : Nat → Int) (f F Lst i : Nat) (E : Nat → Int32) : Prop :=
  ∀ k, k < 601 → 0 ≤ (E k).toInt ∧ (E k).toInt ≤ 1000000 ∧ (∀ j, i ≤ j → j < nb → bG u g dp f Lst j = F + k → (E k).toInt ≤ on j) ∧ orE ((E k).toInt = 1000000) (∃ j, j < nb ∧ bG u g dp f Lst j = F + k ∧ (E k).toInt = on j)
set_option maxHeartbeats 1000000 in
theorem sp_spread {post : tS → Prop} {u : tS} {g : nT} {nb : Nat} {dp : Nat → Nat} (hg : nOk g) (hd : mD 1000000 (gW g) (gS u)) {z f F Lst : Nat} {on : Nat → Int} {O E0 : Nat → Int32} {r : Int32} (hr : r.toInt = mA (gS u) f z) (h1 : F ≤ Lst) (h2 : Lst ≤ F + 600) (h3 : Lst ≤ 10079)
    (hE : eP u g nb dp on f F Lst 0 E0) (h : ∀ E : Nat → Int32, (∀ k, k ≤ Lst - F → mZ 1000000 (gS u) nb (bY g dp) (bL g dp) on f z ((F + k : Nat) : Int) (E k).toInt) → post (s7 u O E)) : w_Sp_spread post (nI F) (nI Lst) r (s7 u O E0) := by
  have mAb : 0 ≤ mA (gS u) f z ∧ mA (gS u) f z ≤ 1000000 := by
    have := gS_b hg hd f z; unfold mA; split <;> omega
  have key := pk_loopD (σ := (Nat → Int32) × Int32) (fun n m p => w_Sp_spread_7 post n (nI F) r p.2 (nI (F + m) - 1) (s7 u O p.1))
    (fun m p => m ≤ Lst - F + 1 ∧ (∀ k, k < m → p.1 k = E0 k) ∧ (∀ k, m ≤ k → k ≤ Lst - F → mZ 1000000 (gS u) nb (bY g dp) (bL g dp) on f z ((F + k : Nat) : Int) (p.1 k).toInt) ∧ 0 ≤ p.2.toInt ∧ p.2.toInt ≤ 1000000 ∧ (∀ j, j < nb → ((F + m : Nat) : Int) ≤ bG u g dp f Lst j → p.2.toInt ≤ on j) ∧ orE (p.2.toInt = 1000000) (∃ j, j < nb ∧ ((F + m : Nat) : Int) ≤ bG u g dp f Lst j ∧ p.2.toInt = on j))
    (fun n p hI => ⟨fun _ => h p.1 (fun k hk => hI.2.2.1 k (by omega) hk), fun c => ?_⟩)
    (fun n m p hI hw => ?_) (Lst - F + 1) (E0, 1000000) ⟨Nat.le_refl _, fun k hk => rfl, fun k a b => absurd a (by omega), by show 0 ≤ (1000000 : Int32).toInt; decide, by show (1000000 : Int32).toInt ≤ 1000000; decide, fun j hj q => ?_, orE_i (Or.inl rfl)⟩
  · refine ⟨Lst - F + 1 + 1, ?_⟩
    have := key; (try dsimp only at this)
    rw [show F + (Lst - F + 1) = Lst + 1 by omega, z_s1] at this; exact this
  · refine absurd ?_ c
    have e : (nI (F + 0) - 1).toInt = (F : Int) - 1 := by
      rw [zi_sub] <;> rw [zi_n (by omega), show (1 : Int32).toInt = 1 from rfl] <;> omega
    rw [zi_lt, e, zi_n (by omega)]; omega
  · obtain ⟨E, best⟩ := p
    obtain ⟨i1, i2, i3, i4, i5, i6, i7⟩ := hI
    have i4 : 0 ≤ best.toInt := i4
    have i5 : best.toInt ≤ 1000000 := i5
    have i6 : ∀ j, j < nb → ((F + (m + 1) : Nat) : Int) ≤ bG u g dp f Lst j → best.toInt ≤ on j := i6
    have i7 : orE (best.toInt = 1000000) (∃ j, j < nb ∧ ((F + (m + 1) : Nat) : Int) ≤ bG u g dp f Lst j ∧ best.toInt = on j) := i7
    have i2 : ∀ k, k < m + 1 → E k = E0 k := i2
    show w_Sp_spread_7 post (n + 1) (nI F) r best (nI (F + (m + 1)) - 1) (s7 u O E)
    rw [show F + (m + 1) = F + m + 1 by omega, z_s1]
    have hm : m ≤ Lst - F := by omega
    have ei : nI (F + m) - nI F = nI m := by rw [pk_sub (by omega), show F + m - F = m by omega]
    have ivm : vp_in (nI m) 601 := vp_in_nI (by omega) (by omega)
    refine ⟨fun c => absurd c (nI_nlt (by omega) (by omega)), fun _ => ?_⟩
    rw [ei, s7_18, s7_A18, nI_clamp (by omega), z_m1, i2 m (by omega)]
    refine ⟨ivm, ivm, ?_⟩
    obtain ⟨e1, e2, e3, e4⟩ := hE m (by omega)
    obtain ⟨nbst, hnb⟩ : ∃ w : Int32, w = if E0 m < best then E0 m else best := ⟨_, rfl⟩
    rw [← hnb]
    have vb : nbst.toInt = if (E0 m).toInt < best.toInt then (E0 m).toInt else best.toInt := by
      rw [hnb, zi_if]
      by_cases q : E0 m < best
      · rw [if_pos q, if_pos (by rw [zi_lt] at q; exact q)]
      · rw [if_neg q, if_neg (by rw [zi_lt] at q; exact q)]
    have bb : 0 ≤ nbst.toInt ∧ nbst.toInt ≤ 1000000 ∧ nbst.toInt ≤ best.toInt ∧ nbst.toInt ≤ (E0 m).toInt := by rw [vb]; split <;> omega
    have b6 : ∀ j, j < nb → ((F + m : Nat) : Int) ≤ bG u g dp f Lst j → nbst.toInt ≤ on j := fun j hj q => by
      by_cases e : bG u g dp f Lst j = F + m
      · have := e3 j (by omega) hj e; omega
      · have := i6 j hj (by omega); omega
    have b7 : orE (nbst.toInt = 1000000) (∃ j, j < nb ∧ ((F + m : Nat) : Int) ≤ bG u g dp f Lst j ∧ nbst.toInt = on j) := by
      refine orE_i ?_
      by_cases q : (E0 m).toInt < best.toInt
      · rw [if_pos q] at vb
        rcases orE_o e4 with k | ⟨j, j1, j2, k⟩
        · left; omega
        · right; exact ⟨j, j1, by omega, by omega⟩
      · rw [if_neg q] at vb
        rcases orE_o i7 with k | ⟨j, j1, j2, k⟩
        · left; omega
        · right; exact ⟨j, j1, by omega, by omega⟩
    have et : (nI (F + m) + r).toInt = ((F + m : Nat) : Int) + mA (gS u) f z := by
      rw [zi_add] <;> rw [zi_n (by omega), hr] <;> omega
    obtain ⟨w, hw0⟩ : ∃ w : Int32, w = if nI (F + m) + r < nbst then nI (F + m) + r else nbst := ⟨_, rfl⟩
    rw [← hw0]
    have vw : w.toInt = if ((F + m : Nat) : Int) + mA (gS u) f z < nbst.toInt then ((F + m : Nat) : Int) + mA (gS u) f z else nbst.toInt := by
      rw [hw0, zi_if, et]
      by_cases q : nI (F + m) + r < nbst
      · rw [if_pos q, if_pos (by rw [zi_lt, et] at q; exact q)]
      · rw [if_neg q, if_neg (by rw [zi_lt, et] at q; exact q)]
    have low : ∀ j, ((F + m : Nat) : Int) + mA (gS u) f (bY g dp j) ≤ bL g dp j ↔ ((F + m : Nat) : Int) ≤ bG u g dp f Lst j := fun j => by unfold bG; split <;> omega
    refine hw (upd E m w, nbst) ⟨by omega, fun k hk => ?_, fun k a b => ?_, bb.1, bb.2.1, b6, b7⟩
    · show upd E m w k = E0 k
      rw [pk_un (by omega)]; exact i2 k (by omega)
    · show mZ _ _ _ _ _ _ _ _ _ (upd E m w k).toInt
      by_cases e : k = m
      · subst e; rw [pk_us]
        refine ⟨by rw [vw]; split <;> omega, by rw [vw]; split <;> omega, fun i hi hc => ?_, ?_⟩
        · have := b6 i hi ((low i).mp hc); rw [vw]; split <;> omega
        · rw [vw]; split
          · exact Or.inr (Or.inl rfl)
          · rcases orE_o b7 with q | ⟨j, j1, j2, q⟩
            · exact Or.inl q
            · exact Or.inr (Or.inr ⟨j, j1, (low j).mpr j2, q⟩)
      · rw [pk_un e]; exact i3 k (by omega) b
  · exfalso
    have : bG u g dp f Lst j ≤ Lst := by unfold bG; split <;> omega
    omega
set_option maxHeartbeats 1000000 in
theorem sp_spanFind {post : tS → Prop} {u : tS} {g : nT} {nb : Nat} {dp : Nat → Nat} (hg : nOk g) (hu : nU u g) (hb : nB u g nb dp) (hd : mD 1000000 (gW g) (gS u)) {z f F Lst : Nat} {on : Nat → Int} (hz : z < nSt g) (hf : f < nSt g) (h1 : F ≤ Lst) (h2 : Lst ≤ F + 600) (h3 : Lst ≤ 10079) (hon : ∀ q, q < nb → mO 1000000 (gS u) nb (bY g dp) (bX g dp) (bL g dp) (bV g dp) (gC g) z on q ∧ bL g dp q < on q)
    (h : ∀ O E : Nat → Int32, (∀ k, k ≤ Lst - F → mZ 1000000 (gS u) nb (bY g dp) (bL g dp) on f z ((F + k : Nat) : Int) (E k).toInt) → post (s7 u O E)) : w_Sp_find post (nI f) (nI z) (nI F) (nI Lst) u := by
  have g1 := hg.1; have hn2 := hb.2.1; have g2 := hg.2.1
  refine sp_fill2 (fun E0 hE0 => ?_)
  -- the end of the look
  have fin : ∀ (i : Nat) (O E : Nat → Int32), (∀ j, j < i → j < nb → bL g dp j < F) → eP u g nb dp on f F Lst i E → w_Sp_find_112 post (nI f) (nI z) (nI F) (nI Lst) (s7 u O E) := by
    intro i O E hlow hE
    refine sp_anyNumber (by omega) (by omega) (fun r hr => ?_)
    rw [s7_S] at hr
    refine sp_spread (nb := nb) (dp := dp) (on := on) hg hd hr h1 h2 h3 (fun k hk => ?_) (fun E' hE' => h O E' hE')
    obtain ⟨e1, e2, e3, e4⟩ := hE k hk
    refine ⟨e1, e2, fun j _ hj q => ?_, e4⟩
    rcases Nat.lt_or_ge j i with y | y
    · exfalso
      have := hlow j y hj
      have b : 0 ≤ mA (gS u) f (bY g dp j) := mA_nn (by decide) (fun _ _ _ hw => (gW_b hg hw).1) hd f _
      unfold bG at q; split at q <;> omega
    · exact e3 j y hj q
  have key := pk_loopD (σ := (Nat → Int32) × (Nat → Int32)) (fun n i p => w_Sp_find_20 post n (nI f) (nI z) (nI F) (nI Lst) (nI i - 1) (s7 u p.1 p.2))
    (fun i p => i ≤ nb ∧ (∀ j, i ≤ j → j < nb → (p.1 j).toInt = on j) ∧ eP u g nb dp on f F Lst i p.2)
    (fun n p hI => ⟨fun _ => fin 0 p.1 p.2 (fun j hj => absurd hj (by omega)) hI.2.2, fun c => absurd (show nI 0 - 1 < 0 by decide) c⟩)
    (fun n i p hI hw => ?_) nb (u.2 17, E0) ⟨Nat.le_refl _, fun j a b => absurd a (by omega), fun k hk => ?_⟩
  · refine ⟨nb + 1, ?_⟩
    show w_Sp_find_20 post (nb + 1) (nI f) (nI z) (nI F) (nI Lst) (u.1 2 - 1) _
    rw [hb.1]; exact key
  · obtain ⟨O, E⟩ := p
    obtain ⟨i1, i2, i3⟩ := hI
    have hi : i < nb := by omega
    obtain ⟨p1, p2, p3, p4, p5, p6, p7, p8, p9, p10, p11, p12, -⟩ := nB_p hg hu hb hi
    have ivi : vp_in (nI i) 280 := vp_in_nI p1 (by omega)
    have eU7 := s7_e u O E
    show w_Sp_find_20 post (n + 1) (nI f) (nI z) (nI F) (nI Lst) (nI (i + 1) - 1) (s7 u O E)
    rw [z_s1]
    refine ⟨fun c => absurd c (nI_pos (by omega)), fun _ => ⟨ivi, fun c => ?_, fun c => ?_⟩⟩
    · rw [nI_clamp (by omega), s7_ne _ _ _ (by omega) (by omega), zi_lt, p7, zi_n (by omega)] at c
      refine fin (i + 1) O E (fun j hj hj' => ?_) i3
      have := nB_m hb hi (show j ≤ i by omega); omega
    · rw [nI_clamp (by omega), s7_ne _ _ _ (by omega) (by omega), zi_lt, p7, zi_n (by omega)] at c
      refine sp_endOf hg (nU_e eU7 hu) (nB_e eU7 hb) (by rw [s7_S]; exact hd) hi hz (by rw [s7_S]; exact hon) (fun j a b => i2 j (by omega) b) (fun r hr => ⟨ivi, ?_⟩)
      rw [s7_A17, z_m1, nI_clamp (by omega)]
      have eU8 := s7_e u (upd O i r) E
      have on' : ∀ j, i ≤ j → j < nb → (upd O i r j).toInt = on j := fun j a b => by
        by_cases e : j = i
        · subst e; rw [pk_us]; exact hr
        · rw [pk_un e]; exact i2 j (by omega) b
      refine sp_latestFor hg (nU_e eU8 hu) (nB_e eU8 hb) (by rw [s7_S]; exact hd) hi hf (fun r2 hr2 => ?_)
      rw [s7_S] at hr2
      obtain ⟨w, hw0⟩ : ∃ w : Int32, w = if r2 < nI Lst then r2 else nI Lst := ⟨_, rfl⟩
      rw [← hw0]
      have vw : w.toInt = bG u g dp f Lst i := by
        unfold bG; rw [hw0, zi_if, zi_n (by omega), hr2]
        by_cases q : r2 < nI Lst
        · rw [if_pos q, if_pos (by rw [zi_lt, zi_n (by omega), hr2] at q; exact q)]
        · rw [if_neg q, if_neg (by rw [zi_lt, zi_n (by omega), hr2] at q; exact q)]
      have bGb : bG u g dp f Lst i ≤ Lst := by unfold bG; split <;> omega
      refine ⟨fun q => ?_, fun q => ?_⟩
      · rw [zi_lt, vw, zi_n (by omega)] at q
        refine hw (upd O i r, E) ⟨by omega, on', fun k hk => ?_⟩
        obtain ⟨e1, e2, e3, e4⟩ := i3 k hk
        refine ⟨e1, e2, fun j a b y => ?_, e4⟩
        by_cases e : j = i
        · subst e; exfalso; omega
        · exact e3 j (by omega) b y
      · rw [zi_lt, vw, zi_n (by omega)] at q
        obtain ⟨m, hm⟩ : ∃ m : Nat, bG u g dp f Lst i = F + m := ⟨(bG u g dp f Lst i - F).toNat, by omega⟩
        have ew : w - nI F = nI m := by
          apply zi_nI; rw [zi_sub] <;> rw [vw, zi_n (by omega)] <;> omega
        have ivm : vp_in (nI m) 601 := vp_in_nI (by omega) (by omega)
        rw [ew]
        refine ⟨ivm, ivi, ivm, ?_⟩
        rw [s7_A18, s7_17, s7_18, nI_clamp (by omega), pk_us]
        have vE : ∀ x : Int32, x = (if r < E m then r else E m) → x.toInt = if r.toInt < (E m).toInt then r.toInt else (E m).toInt := fun x hx => by
          rw [hx, zi_if]
          by_cases y : r < E m
          · rw [if_pos y, if_pos (by rw [zi_lt] at y; exact y)]
          · rw [if_neg y, if_neg (by rw [zi_lt] at y; exact y)]
        have vE := vE _ rfl
        refine hw (upd O i r, upd E m _) ⟨by omega, on', fun k hk => ?_⟩
        show 0 ≤ (upd E m (if r < E m then r else E m) k).toInt ∧ (upd E m (if r < E m then r else E m) k).toInt ≤ 1000000 ∧ (∀ j, i ≤ j → j < nb → bG u g dp f Lst j = F + k → (upd E m (if r < E m then r else E m) k).toInt ≤ on j) ∧ orE ((upd E m (if r < E m then r else E m) k).toInt = 1000000) (∃ j, j < nb ∧ bG u g dp f Lst j = F + k ∧ (upd E m (if r < E m then r else E m) k).toInt = on j)
        obtain ⟨e1, e2, e3, e4⟩ := i3 k hk
        have e1 : 0 ≤ (E k).toInt := e1
        have e2 : (E k).toInt ≤ 1000000 := e2
        have e3 : ∀ j, i + 1 ≤ j → j < nb → bG u g dp f Lst j = F + k → (E k).toInt ≤ on j := e3
        have o := hon i hi
        by_cases e : k = m
        · subst e; rw [pk_us, vE]
          refine ⟨by rw [hr]; split <;> omega, by rw [hr]; split <;> omega, fun j a b y => ?_, ?_⟩
          · by_cases ej : j = i
            · subst ej; rw [hr]; split <;> omega
            · have := e3 j (by omega) b y; rw [hr]; split <;> omega
          · rw [hr]; split
            · exact orE_i (Or.inr ⟨i, hi, hm, rfl⟩)
            · exact e4
        · rw [pk_un e]
          refine ⟨e1, e2, fun j a b y => ?_, e4⟩
          by_cases ej : j = i
          · subst ej; exfalso; omega
          · exact e3 j (by omega) b y
  · have e : (E0 k).toInt = 1000000 := by rw [hE0 k hk]; rfl
    exact ⟨by show 0 ≤ (E0 k).toInt; omega, by show (E0 k).toInt ≤ 1000000; omega, fun j a b => absurd a (by omega), orE_i (Or.inl e)⟩
