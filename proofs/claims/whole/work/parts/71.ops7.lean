def w5 (v : tS) (X : Nat → Int32) : tS := (v.1, va_up v.2 15 X)
theorem w5_ne (v : tS) (X : Nat → Int32) {j : Nat} (h : j ≠ 15) : (w5 v X).2 j = v.2 j := st_ne _ _ h
theorem w5_e (v : tS) (X : Nat → Int32) : eV v (w5 v X) := ⟨fun _ _ => rfl, fun j hj => w5_ne v X (by omega)⟩
theorem w5_eta (v : tS) : w5 v (v.2 15) = v := st_eta v 15
theorem m3_A15 (v : tS) (X R V : Nat → Int32) (b i x : Int32) : tA (m3 (w5 v X) R V b) 15 i x = m3 (w5 v (upd X i.toNatClampNeg x)) R V b := by
  unfold tA m3 s2 w5 tI
  congr 1
  funext k
  show va_up (va_up (va_up (va_up v.2 15 X) 13 R) 14 V) 15 (upd X i.toNatClampNeg x) k = va_up (va_up (va_up v.2 15 (upd X i.toNatClampNeg x)) 13 R) 14 V k
  unfold va_up
  by_cases a : k = 15
  · subst a; rfl
  · rw [if_neg a]
    by_cases c : k = 14
    · rw [if_pos c, if_pos c]
    · rw [if_neg c, if_neg c]
      by_cases e : k = 13
      · rw [if_pos e, if_pos e]
      · rw [if_neg e, if_neg e, if_neg a, if_neg a]
theorem m3_15 (v : tS) (X R V : Nat → Int32) (b : Int32) : (m3 (w5 v X) R V b).2 15 = X := rfl
/-- whether a departure may be taken -/
def gM (g : nT) (R V : Nat → Int) (k : Nat) : Prop := nLa g k ≠ -1 ∧ (V (nRf g (k / 7)) ≤ nLv g k ∨ R (nRf g (k / 7)) + gC g (nRf g (k / 7)) ≤ nLv g k)
def gA (g : nT) (k : Nat) : Int := nLv g k + nRk g (k / 7)
theorem sp_mayTakeM {post : Int32 → tS → Prop} {v : tS} {g : nT} (hg : nOk g) (hv : nV v g) {R V : Nat → Int32} {b : Int32} (hR : okR R) {r d : Nat} (hr : r < nRi g) (hd : d < 7) (h1 : gM g (iA R) (iA V) (7 * r + d) → post 1 (m3 v R V b)) (h0 : ¬ gM g (iA R) (iA V) (7 * r + d) → post 0 (m3 v R V b)) : w_M_mayTake post (nI r) (nI d) (m3 v R V b) := by
  have g1 := hg.1; have g2 := hg.2.1; have g5 := hg.2.2.2.2.1 r hr
  have hv' : nV (m3 v R V b) g := nV_e (m3_e v R V b) hv
  have iv : vp_in (nI r) 40 := vp_in_nI (by omega) (by omega)
  have cl : (nI r).toNatClampNeg = r := nI_clamp (by omega)
  have yi : nRf g r < 12 := by omega
  have ivy : vp_in (nI (nRf g r)) 12 := vp_in_nI yi (by omega)
  have e1 : (m3 v R V b).2 1 r = nI (nRf g r) := (hv'.2.2.2.2.1 r hr).1
  have eq7 : (7 * r + d) / 7 = r := by omega
  unfold gM at h1 h0; rw [eq7] at h1 h0
  refine ⟨iv, ?_⟩
  rw [cl, e1, nI_clamp (by omega)]
  refine sp_goesM hg hv' hr hd (fun q => q1 ?_) (fun q => q0 (h0 (fun z => z.1 q)))
  refine sp_leavesM hg hv' hr hd q (fun z hz => ⟨ivy, fun c => ?_, fun c => ?_⟩)
  · refine h1 ⟨q, Or.inl ?_⟩
    rw [zi_le, hz] at c; rw [iA_in yi]; exact c
  · refine sp_leavesM hg hv' hr hd q (fun z2 hz2 => ⟨ivy, ivy, ?_⟩)
    have e0 : (m3 v R V b).2 0 (nRf g r) = nI (nCh g (nRf g r)) := hv'.2.2.2.1 _ g5.1
    have c60 := hg.2.2.2.1 _ g5.1
    have rb := hR _ yi
    have es : (R (nRf g r) + nI (nCh g (nRf g r))).toInt = iA R (nRf g r) + gC g (nRf g r) := by
      unfold gC; rw [iA_in yi, zi_add] <;> rw [zi_n (by omega)] <;> omega
    rw [e0]
    show (z2 < R (nRf g r) + nI (nCh g (nRf g r)) → _) ∧ (¬ z2 < R (nRf g r) + nI (nCh g (nRf g r)) → _)
    rw [zi_le, hz] at c
    refine ⟨fun y => h0 (fun k => ?_), fun y => h1 ⟨q, Or.inr ?_⟩⟩
    · rw [zi_lt, hz2, es] at y
      rcases k.2 with k | k
      · rw [iA_in yi] at k; exact c k
      · omega
    · rw [zi_lt, hz2, es] at y; omega
set_option maxHeartbeats 1000000 in
theorem sp_goRides {post : tS → Prop} {v : tS} {g : nT} (hg : nOk g) (hv : nV v g) {R V : Nat → Int32} {b : Int32} (hR : okR R) (hV : okR V) (T : (Nat → Int) → (Nat → Int) → Prop)
    (hT : ∀ R' V', T R' V' → ∀ y x d, gW g y x d → V' x ≤ R' y + d ∧ V' x ≤ V' y + d) (hT2 : ∀ R' V', T R' V' → ∀ k, k < 7 * nRi g → gM g (iA R) (iA V) k → R' (nRt g (k / 7)) ≤ gA g k) (hU : ∀ R' V', T R' V' → ∀ x, R' x ≤ iA R x ∧ V' x ≤ iA V x)
    (h : ∀ (v' : tS) (R1 V1 : Nat → Int32) (b1 : Int32), eV v v' → okR R1 → okR V1 → (∀ x, iA R1 x ≤ iA R x) → (∀ x, iA V1 x ≤ iA V x) → (∀ y x d, gW g y x d → iA V1 x ≤ iA R1 y + d ∧ iA V1 x ≤ iA V1 y + d) → (∀ k, k < 7 * nRi g → gM g (iA R) (iA V) k → iA R1 (nRt g (k / 7)) ≤ gA g k) → (∀ R' V', T R' V' → ∀ x, R' x ≤ iA R1 x ∧ V' x ≤ iA V1 x) → (b1 = 0 ∧ (∀ x, iA R1 x = iA R x) ∧ (∀ x, iA V1 x = iA V x)) ∨ (b1 = 1 ∧ sN (iA R1) 12 + sN (iA V1) 12 < sN (iA R) 12 + sN (iA V) 12) → post (m3 v' R1 V1 b1)) : w_M_goRides post (m3 v R V b) := by
  have g1 := hg.1; have g2 := hg.2.1
  unfold w_M_goRides
  rw [m3_I]
  -- nextRide is byRide
  suffices hh : ∃ n, w_M_goRides_7 post n (nI 0) (m3 (w5 v (v.2 15)) R V 0) by
    rw [w5_eta] at hh; exact hh
  refine pk_loop (fun n x X => w_M_goRides_7 post n (nI x) (m3 (w5 v X) R V 0)) (fun x X => ∀ y, y < x → X y = R y) 12 0 (v.2 15) (by omega) (fun y hy => absurd hy (by omega))
    (fun n X hX => ⟨fun _ => ?_, fun c => absurd (show (12 : Int32) ≤ nI 12 by decide) c⟩)
    (fun n x X hx hI hw => ⟨fun c => absurd c (show ¬ nI 12 ≤ nI x from nI_ge hx (by omega)), fun _ => ⟨vp_in_nI hx (by omega), vp_in_nI hx (by omega), ?_⟩⟩)
  rotate_left
  · rw [m3_A15, nI_1, nI_clamp (by omega)]
    refine hw _ (fun y hy => ?_)
    by_cases e : y = x
    · subst e; rw [pk_us]; rfl
    · rw [pk_un e]; exact hI y (by omega)
  -- along the rides and days
  have iX : iA X = iA R := by funext y; unfold iA; split; rename_i q; rw [hX y q]; rfl
  refine pk_loop (σ := (Nat → Int32) × Int32) (fun n r p => w_M_goRides_33 post n (nI r) (m3 (w5 v p.1) R V p.2))
    (fun r p => okR p.1 ∧ (∀ x, iA p.1 x ≤ iA R x) ∧ (∀ k, k < 7 * r → gM g (iA R) (iA V) k → iA p.1 (nRt g (k / 7)) ≤ gA g k) ∧ (∀ R' V', T R' V' → ∀ x, R' x ≤ iA p.1 x) ∧ ((p.2 = 0 ∧ ∀ x, iA p.1 x = iA R x) ∨ (p.2 = 1 ∧ sN (iA p.1) 12 < sN (iA R) 12))) (nRi g) 0 (X, 0) (by omega)
    ⟨fun x hx => by show 0 ≤ (X x).toInt ∧ (X x).toInt ≤ 1000000; rw [hX x hx]; exact hR x hx, fun x => by show iA X x ≤ iA R x; rw [iX]; exact Int.le_refl _, fun k hk => absurd hk (by omega), fun R' V' ht x => by show R' x ≤ iA X x; rw [iX]; exact (hU R' V' ht x).1, Or.inl ⟨rfl, fun x => by show iA X x = iA R x; rw [iX]⟩⟩
    (fun n p hI => ⟨fun _ => ?_, fun c => absurd (show (m3 (w5 v p.1) R V p.2).1 1 ≤ nI (nRi g) by rw [m3_1 _ _ _ _ (by omega)]; show v.1 1 ≤ _; rw [hv.2.1]; exact nI_le (Nat.le_refl _) (by omega)) c⟩)
    (fun n r p hr hI hw => ⟨fun c => absurd c (by rw [m3_1 _ _ _ _ (by omega)]; show ¬ v.1 1 ≤ _; rw [hv.2.1]; exact nI_ge hr (by omega)), fun _ => ?_⟩)
  · -- byRide is nextRide, then the walks
    obtain ⟨X, b1⟩ := p
    obtain ⟨i1, i2, i3, i4, i5⟩ := hI
    refine pk_loop (fun n x R1 => w_M_goRides_114 post n (nI x) (m3 (w5 v X) R1 V b1)) (fun x R1 => ∀ y, y < x → R1 y = X y) 12 0 R (by omega) (fun y hy => absurd hy (by omega))
      (fun n R1 hR1 => ⟨fun _ => ?_, fun c => absurd (show (12 : Int32) ≤ nI 12 by decide) c⟩)
      (fun n x R1 hx hI hw => ⟨fun c => absurd c (show ¬ nI 12 ≤ nI x from nI_ge hx (by omega)), fun _ => ⟨vp_in_nI hx (by omega), vp_in_nI hx (by omega), ?_⟩⟩)
    · have i1 : okR X := i1
      have eR : iA R1 = iA X := by funext y; unfold iA; split; rename_i q; rw [hR1 y q]; rfl
      have ok1 : okR R1 := fun x hx => by rw [hR1 x hx]; exact i1 x hx
      refine sp_goWalks (g := g) hg (nV_e (w5_e v X) hv) ok1 hV T hT (fun R' V' ht x => ⟨by rw [eR]; exact i4 R' V' ht x, (hU R' V' ht x).2⟩) (fun V1 b2 o1 l1 c1 u1 r1 => ?_)
      refine h (w5 v X) R1 V1 b2 (w5_e v X) ok1 o1 (fun x => by rw [eR]; exact i2 x) l1 c1 (fun k hk hm => by rw [eR]; exact i3 k hk hm) u1 ?_
      rw [eR]
      have i5 : (b1 = 0 ∧ ∀ x, iA X x = iA R x) ∨ (b1 = 1 ∧ sN (iA X) 12 < sN (iA R) 12) := i5
      have i2 : ∀ x, iA X x ≤ iA R x := i2
      have s1 := sN_le (n := 12) (fun x _ => i2 x); have s2 := sN_le (n := 12) (fun x _ => l1 x)
      rcases r1 with ⟨e1, e2⟩ | ⟨e1, e2⟩
      · rcases i5 with ⟨f1, f2⟩ | ⟨f1, f2⟩
        · left; exact ⟨e1.trans f1, f2, e2⟩
        · right; exact ⟨e1.trans f1, by omega⟩
      · right; exact ⟨e1, by omega⟩
    · rw [m3_A13, nI_1, nI_clamp (by omega)]
      refine hw _ (fun y hy => ?_)
      by_cases e : y = x
      · subst e; rw [pk_us]; rfl
      · rw [pk_un e]; exact hI y (by omega)
  · -- a ride's days
    obtain ⟨X0, c0⟩ := p
    have g5 := hg.2.2.2.2.1 r hr
    have xi : nRt g r < 12 := by omega
    have iv : vp_in (nI r) 40 := vp_in_nI (by omega) (by omega)
    have cl : (nI r).toNatClampNeg = r := nI_clamp (by omega)
    refine pk_loop (σ := (Nat → Int32) × Int32) (fun n' d p => w_M_goRides_43 post (w_M_goRides_33 post n) n' (nI r) (nI d) (m3 (w5 v p.1) R V p.2))
      (fun d p => okR p.1 ∧ (∀ x, iA p.1 x ≤ iA R x) ∧ (∀ k, k < 7 * r + d → gM g (iA R) (iA V) k → iA p.1 (nRt g (k / 7)) ≤ gA g k) ∧ (∀ R' V', T R' V' → ∀ x, R' x ≤ iA p.1 x) ∧ ((p.2 = 0 ∧ ∀ x, iA p.1 x = iA R x) ∨ (p.2 = 1 ∧ sN (iA p.1) 12 < sN (iA R) 12))) 7 0 (X0, c0) (by omega) hI
      (fun n' p hI => ⟨fun _ => by rw [nI_1]; exact hw p hI, fun c => absurd (show (7 : Int32) ≤ nI 7 by decide) c⟩)
      (fun n' d p hd hI hw' => ⟨fun c => absurd c (show ¬ nI 7 ≤ nI d from nI_ge hd (by omega)), fun _ => ?_⟩)
    obtain ⟨X, c⟩ := p
    obtain ⟨i1, i2, i3, i4, i5⟩ := hI
    have i1 : okR X := i1
    have i2 : ∀ x, iA X x ≤ iA R x := i2
    have hvX : nV (w5 v X) g := nV_e (w5_e v X) hv
    have hk : 7 * r + d < 7 * nRi g := by omega
    have eq7 : (7 * r + d) / 7 = r := by omega
    rw [nI_1]
    have skip : (gM g (iA R) (iA V) (7 * r + d) → iA X (nRt g r) ≤ gA g (7 * r + d)) → w_M_goRides_43 post (w_M_goRides_33 post n) n' (nI r) (nI (d + 1)) (m3 (w5 v X) R V c) := fun hs => hw' (X, c) ⟨i1, i2, fun k hk hm => by
      by_cases e : k = 7 * r + d
      · subst e; show iA X (nRt g ((7 * r + d) / 7)) ≤ _; rw [eq7]; exact hs hm
      · exact i3 k (by omega) hm, i4, i5⟩
    refine sp_mayTakeM hg hvX hR hr hd (fun m => q1 ?_) (fun m => q0 (skip (fun z => absurd z m)))
    have hvM : nV (m3 (w5 v X) R V c) g := nV_e (m3_e _ R V c) hvX
    have lv := nLv_b hg hk m.1
    have ga : gA g (7 * r + d) = nLv g (7 * r + d) + nRk g r := by unfold gA; rw [eq7]
    refine sp_arrivesM hg hvM hr hd m.1 (fun z hz => ?_)
    have e2 : (m3 (w5 v X) R V c).2 2 r = nI (nRt g r) := (hvM.2.2.2.2.1 r hr).2.1
    rw [cl, e2, nI_clamp (by omega)]
    refine ⟨iv, vp_in_nI xi (by omega), fun q => skip (fun _ => ?_), fun q => ⟨iv, sp_arrivesM hg hvM hr hd m.1 (fun z2 hz2 => ⟨vp_in_nI xi (by omega), ?_⟩)⟩⟩
    · rw [zi_le, hz] at q
      have q : (X (nRt g r)).toInt ≤ nLv g (7 * r + d) + nRk g r := q
      rw [iA_in xi, ga]; exact q
    · rw [zi_le, hz] at q
      have q : ¬ (X (nRt g r)).toInt ≤ nLv g (7 * r + d) + nRk g r := q
      rw [m3_A15, m3_I, nI_clamp (by omega)]
      have ev := iA_upd (V := X) (z := z2) xi
      rw [hz2, ← ga] at ev
      have lt : gA g (7 * r + d) < iA X (nRt g r) := by rw [iA_in xi, ga]; omega
      have lw : ∀ x, iA (upd X (nRt g r) z2) x ≤ iA X x := fun x => by
        rw [ev]; (try dsimp only); split
        · rename_i e; subst e; omega
        · exact Int.le_refl _
      refine hw' (upd X (nRt g r) z2, 1) ⟨fun x hx => ?_, fun x => Int.le_trans (lw x) (i2 x), fun k hk hm => ?_, fun R' V' ht x => ?_, Or.inr ⟨rfl, ?_⟩⟩
      · show 0 ≤ (upd X (nRt g r) z2 x).toInt ∧ (upd X (nRt g r) z2 x).toInt ≤ 1000000
        by_cases e : x = nRt g r
        · subst e; rw [pk_us, hz2]; have := i1 _ xi; omega
        · rw [pk_un e]; exact i1 x hx
      · show iA (upd X (nRt g r) z2) (nRt g (k / 7)) ≤ gA g k
        by_cases e : k = 7 * r + d
        · subst e; rw [eq7, ev]; (try dsimp only); rw [if_pos rfl]; exact Int.le_refl _
        · exact Int.le_trans (lw _) (i3 k (by omega) hm)
      · show R' x ≤ iA (upd X (nRt g r) z2) x
        rw [ev]; (try dsimp only); split
        · rename_i e; subst e
          have := hT2 R' V' ht (7 * r + d) hk m
          rw [eq7] at this; exact this
        · exact i4 R' V' ht x
      · have k1 : sN (iA (upd X (nRt g r) z2)) 12 < sN (iA X) 12 := sN_lt (fun x _ => lw x) xi (by rw [ev]; (try dsimp only); rw [if_pos rfl]; exact lt)
        have k2 := sN_le (n := 12) (fun x _ => i2 x)
        show sN (iA (upd X (nRt g r) z2)) 12 < _
        omega
