/-! THE CLASS'S LOOK FROM THE END -/
abbrev bY (g : nT) (dp : Nat → Nat) : Nat → Nat := fun p => nRf g (dp p / 7)
abbrev bX (g : nT) (dp : Nat → Nat) : Nat → Nat := fun p => nRt g (dp p / 7)
abbrev bL (g : nT) (dp : Nat → Nat) : Nat → Int := fun p => nLv g (dp p)
abbrev bV (g : nT) (dp : Nat → Nat) : Nat → Int := fun p => nLv g (dp p) + nRk g (dp p / 7)
/-- a place's facts -/
theorem nB_p {u : tS} {g : nT} {nb : Nat} {dp : Nat → Nat} (hg : nOk g) (hu : nU u g) (hb : nB u g nb dp) {p : Nat} (hp : p < nb) : p < 280 ∧ dp p < 280 ∧ dp p / 7 < 40 ∧ bY g dp p < nSt g ∧ bX g dp p < nSt g ∧ u.2 7 p = nI (dp p) ∧ (u.2 8 p).toInt = bL g dp p ∧ u.2 1 (dp p / 7) = nI (bY g dp p) ∧ u.2 2 (dp p / 7) = nI (bX g dp p) ∧ u.2 4 (dp p / 7) = nI (nRk g (dp p / 7)) ∧ 0 ≤ bL g dp p ∧ bL g dp p ≤ 10379 ∧ bL g dp p < bV g dp p ∧ bV g dp p ≤ 11819 ∧ bV g dp p = bL g dp p + nRk g (dp p / 7) ∧ nRk g (dp p / 7) ≤ 1440 := by
  have g2 := hg.2.1; have h2 := hb.2.1; have hB := hb.2.2.1 p hp
  have hr : dp p / 7 < nRi g := by omega
  have g5 := hg.2.2.2.2.1 (dp p / 7) hr
  have U := hu.2.2.2.2.1 (dp p / 7) hr
  have lv := nLv_b hg hB.1 hB.2.1
  refine ⟨by omega, by omega, by omega, g5.1, g5.2.1, hB.2.2.1, hB.2.2.2, U.1, U.2.1, U.2.2.2.1, lv.1, lv.2, ?_, ?_, rfl, g5.2.2.2.2.2.1⟩
  · show nLv g (dp p) < nLv g (dp p) + nRk g (dp p / 7); omega
  · show nLv g (dp p) + nRk g (dp p / 7) ≤ 11819; omega
theorem nB_s {u : tS} {g : nT} {nb : Nat} {dp : Nat → Nat} (hb : nB u g nb dp) (q i : Nat) (hq : q < nb) (hi : i < nb) (h : bL g dp q < bL g dp i) : q < i := by
  rcases Nat.lt_or_ge q i with z | z
  · exact z
  · exfalso
    rcases Nat.lt_or_ge i q with y | y
    · have := hb.2.2.2.1 i q y hq
      have h : nLv g (dp q) < nLv g (dp i) := h
      omega
    · have e : q = i := by omega
      subst e; exact absurd h (by omega)
theorem nB_m {u : tS} {g : nT} {nb : Nat} {dp : Nat → Nat} (hb : nB u g nb dp) {i j : Nat} (hj : j < nb) (h : i ≤ j) : bL g dp i ≤ bL g dp j := by
  rcases Nat.lt_or_ge i j with z | z
  · have := hb.2.2.2.1 i j z hj
    show nLv g (dp i) ≤ nLv g (dp j); omega
  · have e : i = j := by omega
    subst e; exact Int.le_refl _
theorem sp_gap {post : Int32 → tS → Prop} {u : tS} {g : nT} (hg : nOk g) (hu : nU u g) {x y : Nat} (hx : x < nSt g) (hy : y < nSt g) (h : ∀ r : Int32, r.toInt = mg (gC g) (gS u) x y → post r u) : w_Ne_gap post (nI x) (nI y) u := by
  have g1 := hg.1
  refine sp_atLeastOne (by omega) (by omega) (fun r hr => ⟨fun e => ⟨vp_in_nI (by omega) (by omega), h _ ?_⟩, fun e => h r ?_⟩)
  · have e := (nI_eq (by omega) (by omega)).mp e
    subst e
    have c := hg.2.2.2.1 x hx
    rw [nI_clamp (by omega), hu.2.2.2.1 x hx, zi_if, hr, zi_n (by omega)]
    unfold mg; rw [if_pos rfl]
    have : (r < nI (nCh g x)) ↔ gS u x x < gC g x := by rw [zi_lt, hr, zi_n (by omega)]; exact Iff.rfl
    by_cases q : r < nI (nCh g x)
    · rw [if_pos q, if_pos (this.mp q)]
    · rw [if_neg q, if_neg (fun z => q (this.mpr z))]; rfl
  · unfold mg; rw [if_neg (fun q => e (by rw [q]))]; exact hr
theorem mg_b {u : tS} {g : nT} (hg : nOk g) (hd : mD 1000000 (gW g) (gS u)) (x y : Nat) : 0 ≤ mg (gC g) (gS u) x y ∧ mg (gC g) (gS u) x y ≤ 1000000 := by
  have := gS_b hg hd x y
  have c : (0 : Int) ≤ gC g x := by unfold gC; omega
  unfold mg; split <;> (try split) <;> omega
theorem sp_mayFollow {post : Int32 → tS → Prop} {u : tS} {g : nT} {nb : Nat} {dp : Nat → Nat} (hg : nOk g) (hu : nU u g) (hb : nB u g nb dp) (hd : mD 1000000 (gW g) (gS u)) {i x : Nat} {τ : Int32} (hi : i < nb) (hx : x < nSt g) (hτ : 0 ≤ τ.toInt ∧ τ.toInt ≤ 20000) (h1 : τ.toInt + mg (gC g) (gS u) x (bY g dp i) ≤ bL g dp i → post 1 u) (h0 : ¬ τ.toInt + mg (gC g) (gS u) x (bY g dp i) ≤ bL g dp i → post 0 u) : w_Sp_mayFollow post (nI i) (nI x) τ u := by
  obtain ⟨p1, p2, p3, p4, p5, p6, p7, p8, -⟩ := nB_p hg hu hb hi
  refine sp_rideAt p1 p2 p6 ⟨vp_in_nI p3 (by omega), vp_in_nI p1 (by omega), ?_⟩
  rw [nI_clamp (by omega), nI_clamp (by omega), p8]
  refine sp_gap hg hu hx p4 (fun r hr => ?_)
  have b := mg_b hg hd x (bY g dp i)
  have es : (τ + r).toInt = τ.toInt + mg (gC g) (gS u) x (bY g dp i) := by rw [zi_add] <;> rw [hr] <;> omega
  refine ⟨fun q => h0 ?_, fun q => h1 ?_⟩
  · rw [zi_lt, es, p7] at q; omega
  · rw [zi_lt, es, p7] at q; omega
theorem sp_latestFor {post : Int32 → tS → Prop} {u : tS} {g : nT} {nb : Nat} {dp : Nat → Nat} (hg : nOk g) (hu : nU u g) (hb : nB u g nb dp) (hd : mD 1000000 (gW g) (gS u)) {f i : Nat} (hi : i < nb) (hf : f < nSt g) (h : ∀ r : Int32, r.toInt = bL g dp i - mA (gS u) f (bY g dp i) → post r u) : w_Sp_latestFor post (nI f) (nI i) u := by
  obtain ⟨p1, p2, p3, p4, p5, p6, p7, p8, p9, p10, p11, p12, -⟩ := nB_p hg hu hb hi
  have g1 := hg.1
  refine sp_rideAt p1 p2 p6 ⟨vp_in_nI p3 (by omega), vp_in_nI p1 (by omega), ?_⟩
  rw [nI_clamp (by omega), nI_clamp (by omega), p8]
  refine sp_anyNumber (by omega) (by omega) (fun r hr => h _ ?_)
  have b : 0 ≤ mA (gS u) f (bY g dp i) ∧ mA (gS u) f (bY g dp i) ≤ 1000000 := by
    have := gS_b hg hd f (bY g dp i); unfold mA; split <;> omega
  rw [zi_sub] <;> rw [hr, p7] <;> omega
set_option maxHeartbeats 1000000 in
theorem sp_endOf {post : Int32 → tS → Prop} {u : tS} {g : nT} {nb : Nat} {dp : Nat → Nat} (hg : nOk g) (hu : nU u g) (hb : nB u g nb dp) (hd : mD 1000000 (gW g) (gS u)) {p z : Nat} {on : Nat → Int} (hp : p < nb) (hz : z < nSt g)
    (hon : ∀ q, q < nb → mO 1000000 (gS u) nb (bY g dp) (bX g dp) (bL g dp) (bV g dp) (gC g) z on q ∧ bL g dp q < on q) (hO : ∀ i, p < i → i < nb → (u.2 17 i).toInt = on i) (h : ∀ r : Int32, r.toInt = on p → post r u) : w_Sp_endOf post (nI p) (nI z) u := by
  obtain ⟨p1, p2, p3, p4, p5, p6, p7, p8, p9, p10, p11, p12, p13, p14, p15, p16⟩ := nB_p hg hu hb hp
  have g1 := hg.1; have h2 := hb.2.1; have g2 := hg.2.1
  have iv : vp_in (nI (dp p / 7)) 40 := vp_in_nI p3 (by omega)
  have mAb : 0 ≤ mA (gS u) (bX g dp p) z ∧ mA (gS u) (bX g dp p) z ≤ 1000000 := by
    have := gS_b hg hd (bX g dp p) z; unfold mA; split <;> omega
  refine sp_rideAt p1 p2 p6 ⟨iv, vp_in_nI p1 (by omega), iv, ?_⟩
  rw [nI_clamp (by omega), nI_clamp (by omega), p9, p10]
  have ea : (u.2 8 p + nI (nRk g (dp p / 7))).toInt = bV g dp p := by
    rw [zi_add] <;> rw [p7, zi_n (by omega)] <;> omega
  refine sp_anyNumber (by omega) (by omega) (fun r hr => ?_)
  have es : (u.2 8 p + nI (nRk g (dp p / 7)) + r).toInt = bV g dp p + mA (gS u) (bX g dp p) z := by rw [zi_add] <;> rw [ea, hr] <;> omega
  obtain ⟨⟨o1, o2, o3, o4⟩, o5⟩ := hon p hp
  have fol : ∀ j, j < nb → bV g dp p + mg (gC g) (gS u) (bX g dp p) (bY g dp j) ≤ bL g dp j → p < j := fun j h1 h3 => nB_s hb p j hp h1 (by have := (mg_b hg hd (bX g dp p) (bY g dp j)).1; omega)
  -- what is known of the best so far, at place i
  have fin : ∀ (best : Int32) (i : Nat), (0 ≤ best.toInt ∧ best.toInt ≤ 1000000 ∧ best.toInt ≤ bV g dp p + mA (gS u) (bX g dp p) z ∧ (∀ j, p < j → j < i → j < nb → bV g dp p + mg (gC g) (gS u) (bX g dp p) (bY g dp j) ≤ bL g dp j → best.toInt ≤ on j) ∧ (best.toInt = 1000000 ∨ best.toInt = bV g dp p + mA (gS u) (bX g dp p) z ∨ ∃ j, j < nb ∧ bV g dp p + mg (gC g) (gS u) (bX g dp p) (bY g dp j) ≤ bL g dp j ∧ best.toInt = on j)) → (∀ j, i ≤ j → j < nb → best.toInt ≤ on j) → best.toInt = on p := by
    rintro best i ⟨b0, b1, b2, b3, b4⟩ hrest
    refine Int.le_antisymm ?_ ?_
    · rcases o4 with q | q | ⟨j, j1, j2, q⟩
      · omega
      · omega
      · rw [q]
        have := fol j j1 j2
        rcases Nat.lt_or_ge j i with y | y
        · exact b3 j this y j1 j2
        · exact hrest j y j1
    · rcases b4 with q | q | ⟨j, j1, j2, q⟩
      · omega
      · omega
      · rw [q]; exact o3 j j1 j2
  rw [nI_1]
  have hcur : ∀ {best : Int32}, best = (if u.2 8 p + nI (nRk g (dp p / 7)) + r < 1000000 then u.2 8 p + nI (nRk g (dp p / 7)) + r else 1000000) → (best.toInt = 1000000 ∨ best.toInt = bV g dp p + mA (gS u) (bX g dp p) z) ∧ 0 ≤ best.toInt ∧ best.toInt ≤ 1000000 ∧ best.toInt ≤ bV g dp p + mA (gS u) (bX g dp p) z := by
    intro best e
    by_cases q : u.2 8 p + nI (nRk g (dp p / 7)) + r < 1000000
    · rw [if_pos q] at e; subst e; rw [zi_lt, es, z_M] at q; rw [es]; omega
    · rw [if_neg q] at e; subst e; rw [zi_lt, es, z_M] at q; rw [z_M]; omega
  have c0 := hcur rfl
  refine pk_loop (fun n i best => w_Sp_endOf_69 post n (nI (bX g dp p)) (u.2 8 p + nI (nRk g (dp p / 7))) best (nI i) u)
    (fun i best => p < i ∧ 0 ≤ best.toInt ∧ best.toInt ≤ 1000000 ∧ best.toInt ≤ bV g dp p + mA (gS u) (bX g dp p) z ∧ (∀ j, p < j → j < i → j < nb → bV g dp p + mg (gC g) (gS u) (bX g dp p) (bY g dp j) ≤ bL g dp j → best.toInt ≤ on j) ∧ (best.toInt = 1000000 ∨ best.toInt = bV g dp p + mA (gS u) (bX g dp p) z ∨ ∃ j, j < nb ∧ bV g dp p + mg (gC g) (gS u) (bX g dp p) (bY g dp j) ≤ bL g dp j ∧ best.toInt = on j)) nb (p + 1) _ (by omega)
    ⟨by omega, c0.2.1, c0.2.2.1, c0.2.2.2, fun j h1 h2 => absurd h1 (by omega), by rcases c0.1 with q | q; exact Or.inl q; exact Or.inr (Or.inl q)⟩
    (fun n best hI => ⟨fun _ => h best (fin best nb hI.2 (fun j h1 h2 => absurd h1 (by omega))), fun q => absurd (show u.1 2 ≤ nI nb by rw [hb.1]; exact nI_le (Nat.le_refl _) (by omega)) q⟩)
    (fun n i best hi hI hw => ⟨fun q => absurd q (by rw [hb.1]; exact nI_ge hi (by omega)), fun _ => ?_⟩)
  -- a step
  obtain ⟨hpi, hI⟩ := hI
  · obtain ⟨q1', q2, q3, q4, q5, q6, q7, -⟩ := nB_p hg hu hb hi
    have ivi : vp_in (nI i) 280 := vp_in_nI q1' (by omega)
    rw [nI_clamp (by omega), nI_1]
    refine ⟨ivi, fun c => h best (fin best i hI (fun j h1 h2 => ?_)), fun c => ⟨ivi, fun d => ?_, fun d => ?_⟩⟩
    · rw [zi_le, q7] at c
      have := nB_m hb h2 h1; have := (hon j h2).2; omega
    · rw [zi_le, hO i hpi hi] at d
      refine hw best ⟨by omega, hI.1, hI.2.1, hI.2.2.1, fun j h1 h2 h3 h4 => ?_, hI.2.2.2.2⟩
      by_cases e : j = i
      · subst e; exact d
      · exact hI.2.2.2.1 j h1 (by omega) h3 h4
    · rw [zi_le, hO i hpi hi] at d
      refine sp_mayFollow hg hu hb hd hi p5 (by rw [ea]; omega) (fun m => q1 ⟨ivi, ?_⟩) (fun m => q0 ?_)
      · rw [ea] at m
        have := (hon i hi)
        refine hw _ ⟨by omega, by rw [hO i hpi hi]; have := (nB_p hg hu hb hi).2.2.2.2.2.2.2.2.2.2.1; omega, by rw [hO i hpi hi]; exact this.1.1, by rw [hO i hpi hi]; have := hI.2.2.1; omega, fun j h1 h2 h3 h4 => ?_, Or.inr (Or.inr ⟨i, hi, m, hO i hpi hi⟩)⟩
        rw [hO i hpi hi]
        by_cases e : j = i
        · subst e; exact Int.le_refl _
        · have := hI.2.2.2.1 j h1 (by omega) h3 h4; omega
      · rw [ea] at m
        refine hw best ⟨by omega, hI.1, hI.2.1, hI.2.2.1, fun j h1 h2 h3 h4 => ?_, hI.2.2.2.2⟩
        by_cases e : j = i
        · subst e; exact absurd h4 m
        · exact hI.2.2.2.1 j h1 (by omega) h3 h4
