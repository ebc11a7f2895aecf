/-! WAY: all acts -/
def pN (R V : Nat → Int) (m : Nat) : Int := if m < 12 then V m else R (m - 12)
theorem pN_T {R V : Nat → Int} {x : Nat} (b : Bool) (hx : x < 12) : ∃ m, m < 24 ∧ pN R V m = pT R V x b := by
  cases b with
  | true => exact ⟨x, by omega, by unfold pN pT; rw [if_pos hx, if_pos rfl]⟩
  | false => exact ⟨12 + x, by omega, by unfold pN pT; rw [if_neg (by omega), if_neg (by decide), show 12 + x - 12 = x by omega]⟩
/-- i acts back from (x0, b0) -/
def wP (g : nT) (R V : Nat → Int) (f x0 : Nat) (b0 : Bool) (i : Nat) (X : Nat → Nat) (B : Nat → Bool) (A : Nat → Nat) : Prop :=
  X 0 = x0 ∧ B 0 = b0 ∧ (∀ j, j ≤ i → X j < 12) ∧ (∀ j, j < i → wS g R V (X j) (B j) (A j) (X (j + 1)) (B (j + 1)) ∧ ¬ (B j = true ∧ X j = f)) ∧ pT R V (X i) (B i) < 1000000 ∧ mN (pN R V) (pT R V (X i) (B i)) 24 + i ≤ 23
theorem wP_0 {g : nT} {R V : Nat → Int} {f x : Nat} {b : Bool} (hx : x < 12) (hT : pT R V x b < 1000000) : wP g R V f x b 0 (fun _ => x) (fun _ => b) (fun _ => 0) := by
  refine ⟨rfl, rfl, fun _ _ => hx, fun j hj => absurd hj (by omega), hT, ?_⟩
  obtain ⟨m, hm, e⟩ := pN_T (R := R) (V := V) b hx
  have h1 := mN_lt (pN R V) (pN R V) (pT R V x b) (pT R V x b + 1) 24 m (fun j _ hj => by omega) hm (by omega) (by omega)
  have h2 := mN_le (pN R V) (pT R V x b + 1) 24
  show mN (pN R V) (pT R V x b) 24 + 0 ≤ 23
  omega
theorem wP_s {g : nT} {R V : Nat → Int} {f x0 : Nat} {b0 : Bool} {i : Nat} {X : Nat → Nat} {B : Nat → Bool} {A : Nat → Nat} (h : wP g R V f x0 b0 i X B A) {a x' : Nat} {b' : Bool} (hs : wS g R V (X i) (B i) a x' b') (hx' : x' < 12) (hT : pT R V x' b' < pT R V (X i) (B i)) (hn : ¬ (B i = true ∧ X i = f)) :
    wP g R V f x0 b0 (i + 1) (fun j => if j ≤ i then X j else x') (fun j => if j ≤ i then B j else b') (fun j => if j < i then A j else a) := by
  obtain ⟨h1, h2, h3, h4, h5, h6⟩ := h
  have l : ¬ i + 1 ≤ i := by omega
  refine ⟨by (try dsimp only); rw [if_pos (by omega)]; exact h1, by (try dsimp only); rw [if_pos (by omega)]; exact h2, fun j hj => ?_, fun j hj => ?_, ?_, ?_⟩
  · (try dsimp only); split
    · rename_i q; exact h3 j q
    · exact hx'
  · (try dsimp only)
    by_cases e : j = i
    · subst e; rw [if_pos (Nat.le_refl _), if_pos (Nat.le_refl _), if_neg (Nat.lt_irrefl _), if_neg l, if_neg l]; exact ⟨hs, hn⟩
    · rw [if_pos (by omega), if_pos (by omega), if_pos (by omega), if_pos (by omega), if_pos (by omega)]; exact h4 j (by omega)
  · (try dsimp only); rw [if_neg l, if_neg l]; omega
  · (try dsimp only); rw [if_neg l, if_neg l]
    obtain ⟨m, hm, e⟩ := pN_T (R := R) (V := V) b' hx'
    have := mN_lt (pN R V) (pN R V) (pT R V x' b') (pT R V (X i) (B i)) 24 m (fun j _ hj => by omega) hm (by omega) (by omega)
    omega
/-- the class's acts -/
theorem sp_trace {post : tS → Prop} {s0 : tS} {g : nT} (hg : nOk g) (hs : nU s0 g) {f t : Nat} {R V : Nat → Int} (hR : iA (s0.2 13) = R) (hV : iA (s0.2 14) = V) (bd : ∀ y, 0 ≤ R y ∧ R y ≤ 1000000 ∧ 0 ≤ V y ∧ V y ≤ 1000000) (hG : mG 1000000 (gW g) (gD g) (gC g) f t R V) (hf : f < 12) {x : Nat} {b : Bool} (hx : x < 12) (hT : pT R V x b < 1000000) (h5 : s0.1 5 = nI 0)
    (h : ∀ (s : tS) (n : Nat) (X : Nat → Nat) (B : Nat → Bool) (A : Nat → Nat), eC s0 s → s.1 5 = nI n → wP g R V f x b n X B A → B n = true → X n = f → (∀ j, j < n → aC g R V (X j) (B j) (A j) (X (j + 1)) (s.2 21 j) (s.2 22 j) (s.2 23 j) (s.2 24 j)) → post s) : ∃ k, w_Ac_trace_26 post k (nI f) (nI x) (bI b) 0 s0 := by
  refine pk_loop (σ := tS × Nat × Bool) (fun n i p => w_Ac_trace_26 post n (nI f) (nI p.2.1) (bI p.2.2) (nI i) p.1)
    (fun i p => eC s0 p.1 ∧ p.1.1 5 = nI i ∧ ∃ (X : Nat → Nat) (B : Nat → Bool) (A : Nat → Nat), X i = p.2.1 ∧ B i = p.2.2 ∧ wP g R V f x b i X B A ∧ ∀ j, j < i → aC g R V (X j) (B j) (A j) (X (j + 1)) (p.1.2 21 j) (p.1.2 22 j) (p.1.2 23 j) (p.1.2 24 j)) 24 0 (s0, x, b) (by omega)
    ⟨eC_rf s0, h5, _, _, _, rfl, rfl, wP_0 hx hT, fun j hj => absurd hj (by omega)⟩
    (fun n p hI => ?_) (fun n i p hi hI hw => ?_)
  · obtain ⟨-, -, X, B, A, -, -, hP, -⟩ := hI
    have := hP.2.2.2.2.2; omega
  · obtain ⟨s, y, c⟩ := p
    obtain ⟨e0, e1, X, B, A, rfl, rfl, hP, hA⟩ := hI
    have e0 : eC s0 s := e0
    have e1 : s.1 5 = nI i := e1
    have hA : ∀ j, j < i → aC g R V (X j) (B j) (A j) (X (j + 1)) (s.2 21 j) (s.2 22 j) (s.2 23 j) (s.2 24 j) := hA
    have xi := hP.2.2.1 i (Nat.le_refl _)
    have go : ¬ (B i = true ∧ X i = f) → w_Ac_trace_44 post (w_Ac_trace_26 post n) (nI f) (nI (X i)) (bI (B i)) (nI i) s := fun hn => by
      obtain ⟨a, x', b', k1, k2, k3⟩ := wS_ex hg hG hP.2.2.2.2.1 hn
      refine sp_actC hg (nU_C e0 hs) (by rw [e0.2 13 (by omega)]; exact hR) (by rw [e0.2 14 (by omega)]; exact hV) bd xi k2 k1 e1 hi (fun s' p q r z d0 d1 d2 d3 d4 d5 ha => ?_)
      rw [nI_1]
      have l : ¬ i + 1 ≤ i := by omega
      refine hw (s', x', b') ⟨eC_tr e0 d0, d1, _, _, _, ?_, ?_, wP_s hP k1 k2 k3 hn, fun j hj => ?_⟩
      · (try dsimp only); rw [if_neg l]
      · (try dsimp only); rw [if_neg l]
      · show aC g R V (if j ≤ i then X j else x') (if j ≤ i then B j else b') (if j < i then A j else a) (if j + 1 ≤ i then X (j + 1) else x') (s'.2 21 j) (s'.2 22 j) (s'.2 23 j) (s'.2 24 j)
        rw [d2, d3, d4, d5]
        by_cases e : j = i
        · subst e; rw [if_pos (Nat.le_refl _), if_pos (Nat.le_refl _), if_neg (Nat.lt_irrefl _), if_neg l, pk_us, pk_us, pk_us, pk_us]; exact ha
        · rw [if_pos (by omega), if_pos (by omega), if_pos (by omega), if_pos (by omega), pk_un e, pk_un e, pk_un e, pk_un e]; exact hA j (by omega)
    show (24 ≤ nI i → post s) ∧ (¬ 24 ≤ nI i → ((bI (B i) = 0 → _) ∧ (¬ bI (B i) = 0 → ((nI (X i) = nI f → post s) ∧ (¬ nI (X i) = nI f → _)))))
    refine ⟨fun q => absurd q (show ¬ nI 24 ≤ nI i from nI_ge hi (by omega)), fun _ => ⟨fun q => go (fun z => ?_), fun q => ⟨fun z => ?_, fun z => go (fun k => z (by rw [k.2]))⟩⟩⟩
    · rw [z.1] at q; exact absurd q (by decide)
    · have bt : B i = true := by
        cases hB : B i with
        | true => rfl
        | false => rw [hB] at q; exact absurd rfl q
      exact h s i X B A e0 e1 hP bt ((nI_eq (by omega) (by omega)).mp z) hA
/-- the reference's acts are the same -/
theorem sp_wayM {post : Int32 → tS → Prop} {s0 : tS} {g : nT} (hg : nOk g) (hs : nV s0 g) {f t : Nat} {R V : Nat → Int} (hR : iA (s0.2 13) = R) (hV : iA (s0.2 14) = V) (bd : ∀ y, 0 ≤ R y ∧ R y ≤ 1000000 ∧ 0 ≤ V y ∧ V y ≤ 1000000) (hf : f < 12) (ht : t ≤ 10079) (hft : V f = t) {x : Nat} {b : Bool} (h4 : s0.1 4 = nI 0) {n : Nat} {X : Nat → Nat} {B : Nat → Bool} {A : Nat → Nat} (hP : wP g R V f x b n X B A) (hB : B n = true) (hX : X n = f)
    (h : ∀ s : tS, eM s0 s → s.1 4 = nI n → (∀ j, j < n → s.2 12 (5 * j) = (if B j then 0 else 1) ∧ aC g R V (X j) (B j) (A j) (X (j + 1)) (s.2 12 (5 * j + 1)) (s.2 12 (5 * j + 2)) (s.2 12 (5 * j + 3)) (s.2 12 (5 * j + 4))) → post (nI n) s) : ∃ k, w_M_way_58 post k (nI f) (nI t) (nI x) (bI b) s0 := by
  have hn := hP.2.2.2.2.2
  rw [← hP.1, ← hP.2.1]
  refine pk_loop (σ := tS) (fun m i s => w_M_way_58 post m (nI f) (nI t) (nI (X i)) (bI (B i)) s)
    (fun i s => eM s0 s ∧ s.1 4 = nI i ∧ ∀ j, j < i → s.2 12 (5 * j) = (if B j then 0 else 1) ∧ aC g R V (X j) (B j) (A j) (X (j + 1)) (s.2 12 (5 * j + 1)) (s.2 12 (5 * j + 2)) (s.2 12 (5 * j + 3)) (s.2 12 (5 * j + 4))) n 0 s0 (by omega)
    ⟨eM_rf s0, h4, fun j hj => absurd hj (by omega)⟩
    (fun m s hI => ?_) (fun m i s hi hI hw => ?_)
  · obtain ⟨e0, e1, e2⟩ := hI
    show (bI (B n) = 0 → _) ∧ (¬ bI (B n) = 0 → ((nI (X n) = nI f → _) ∧ (¬ nI (X n) = nI f → _)))
    rw [hB, hX]
    refine ⟨fun q => absurd q (by decide), fun _ => ⟨fun _ => ⟨vp_in_nI hf (by omega), fun _ => ?_, fun q => absurd ?_ q⟩, fun q => absurd rfl q⟩⟩
    · rw [e1]; exact h s e0 e1 e2
    · rw [nI_clamp (by omega), zi_eq, zi_n (by omega), e0.2 14 (by omega), ← hft, ← hV, iA_in hf]
  · obtain ⟨e0, e1, e2⟩ := hI
    obtain ⟨k1, k2⟩ := hP.2.2.2.1 i hi
    have go : w_M_way_80 post (w_M_way_58 post m) (nI f) (nI t) (nI (X i)) (bI (B i)) s := by
      refine sp_actM hg (nV_M e0 hs) (by rw [e0.2 13 (by omega)]; exact hR) (by rw [e0.2 14 (by omega)]; exact hV) bd (hP.2.2.1 i (by omega)) (hP.2.2.1 (i + 1) (by omega)) k1 e1 (by omega) (fun s' p q r z d0 d1 d2 d3 d4 d5 d6 d7 ha => ?_)
      refine hw s' ⟨eM_tr e0 d0, d1, fun j hj => ?_⟩
      by_cases e : j = i
      · subst e; rw [d3, d4, d5, d6, d7]; exact ⟨rfl, ha⟩
      · rw [d2 _ (by omega), d2 _ (by omega), d2 _ (by omega), d2 _ (by omega), d2 _ (by omega)]; exact e2 j (by omega)
    show (bI (B i) = 0 → _) ∧ (¬ bI (B i) = 0 → ((nI (X i) = nI f → _) ∧ (¬ nI (X i) = nI f → _)))
    refine ⟨fun _ => go, fun q => ⟨fun z => absurd ⟨?_, (nI_eq (by have := hP.2.2.1 i (by omega); omega) (by omega)).mp z⟩ k2, fun _ => go⟩⟩
    cases hB : B i with
    | true => rfl
    | false => rw [hB] at q; exact absurd rfl q
theorem aC_one {g : nT} {R V : Nat → Int} {x a x' : Nat} {b : Bool} {p q r s p' q' r' s' : Int32} (h : aC g R V x b a x' p q r s) (h' : aC g R V x b a x' p' q' r' s') : p = p' ∧ q = q' ∧ r = r' ∧ s = s' :=
  ⟨h.1.trans h'.1.symm, h.2.1.trans h'.2.1.symm, by rw [zi_eq, h.2.2.1, h'.2.2.1], by rw [zi_eq, h.2.2.2, h'.2.2.2]⟩
set_option maxHeartbeats 1000000 in
theorem pr_way (u v : tS) (x1 x2 x3 : Int32) (h : Rel u v) : w_T_way (fun r1 u1 => w_M_way (fun r2 v1 => r1 = r2 ∧ Rel u1 v1) x1 x2 x3 v) x1 x2 x3 u := by
  obtain ⟨g, nb, dp, hg, hu, hv, hb, hd, hp, ha⟩ := id h
  have g1 := hg.1
  have bad : ¬ (zS g x1 ∧ zS g x2 ∧ zIn x3 0 10079) → w_M_way (fun r2 v1 => (-2) = r2 ∧ Rel u v1) x1 x2 x3 v := fun hn => sp_isAsked hg hv (fun a b c => absurd ⟨a, b, c⟩ hn) (fun _ => q0 ⟨rfl, h⟩)
  refine sp_hasStops hg hu (fun a b => q1 (sp_isTime (fun c => q1 ?_) (fun c => q0 (bad (fun k => c k.2.2))))) (fun k => q0 (bad (fun z => k ⟨z.1, z.2.1⟩)))
  obtain ⟨f, hf, rfl⟩ := z_S a
  obtain ⟨x, hx, rfl⟩ := z_S b
  obtain ⟨t, t1, t2, rfl⟩ := z_of c (by decide)
  have ht : t ≤ 10079 := by omega
  refine sp_find hg hu hb hd hf ht (fun R V hG => sp_first (by omega) (fun r hr => ⟨fun lt => ?_, fun ge => ?_⟩))
  · rw [zi_lt, hr, z_M] at lt
    have low := mG_low (fun _ _ _ hw => (gW_b hg hw).1) (fun y x l v hq => (gD_b hg y x l v hq).1) (fun x => by unfold gC; omega) (by omega) hG
    have hft := mG_from (fun _ _ _ hw => (gW_b hg hw).1) (fun y x l v hq => (gD_b hg y x l v hq).1) (fun x => by unfold gC; omega) (by omega) hG
    have bd : ∀ y, 0 ≤ iA R y ∧ iA R y ≤ 1000000 ∧ 0 ≤ iA V y ∧ iA V y ≤ 1000000 := fun y => by
      have := low y; have := hG.1 y; omega
    have hm := mn_l (iA R x) (iA V x)
    have hT : pT (iA R) (iA V) x (decide (iA V x ≤ iA R x)) < 1000000 := by
      unfold pT
      by_cases q : iA V x ≤ iA R x
      · rw [decide_eq_true q, if_pos rfl]; omega
      · rw [decide_eq_false q, if_neg (by decide)]; omega
    obtain ⟨w0, hw0⟩ : ∃ w0, w0 = tI (s2 u R V) 5 0 := ⟨_, rfl⟩
    have w13 : w0.2 13 = R := by rw [hw0]; rfl
    have w14 : w0.2 14 = V := by rw [hw0]; rfl
    have wn : ∀ j, j ≠ 13 → j ≠ 14 → w0.2 j = u.2 j := fun j j1 j2 => by rw [hw0, tI_2]; exact s2_ne u R V j1 j2
    have wi : ∀ k, k ≠ 5 → w0.1 k = u.1 k := fun k hk => by rw [hw0]; exact tI_ne _ _ hk
    have w5' : w0.1 5 = nI 0 := by rw [hw0]; exact tI_eq _ _ _
    have hw : nU w0 g := by
      unfold nU at *
      rw [wi 0 (by omega), wi 1 (by omega), wi 3 (by omega), wn 0 (by omega) (by omega), wn 1 (by omega) (by omega), wn 2 (by omega) (by omega), wn 3 (by omega) (by omega), wn 4 (by omega) (by omega), wn 5 (by omega) (by omega), wn 6 (by omega) (by omega), wn 9 (by omega) (by omega), wn 10 (by omega) (by omega), wn 11 (by omega) (by omega)]
      exact hu
    -- the reference, behind the class
    have fin : ∀ (s : tS) (n : Nat) (X : Nat → Nat) (B : Nat → Bool) (A : Nat → Nat), eC w0 s → s.1 5 = nI n → wP g (iA R) (iA V) f x (decide (iA V x ≤ iA R x)) n X B A → B n = true → X n = f → (∀ j, j < n → aC g (iA R) (iA V) (X j) (B j) (A j) (X (j + 1)) (s.2 21 j) (s.2 22 j) (s.2 23 j) (s.2 24 j)) → w_M_way (fun r2 v1 => s.1 5 = r2 ∧ Rel s v1) (nI f) (nI x) (nI t) v := by
      intro s n X B A ec e5 hP hB hX hA
      have hn := hP.2.2.2.2.2
      refine sp_isAsked hg hv (fun _ _ _ => q1 (sp_found hg hv hf hx ht (fun v' R2 V2 b2 r2 e o1 o2 hG2 hr2 => ⟨fun q => ?_, fun q => ⟨vp_in_nI (by omega) (by omega), vp_in_nI (by omega) (by omega), ?_⟩⟩))) (fun k => absurd ⟨a, b, c⟩ k)
      · have k := mG_one hG hG2 x
        rw [zi_eq, hr2, ← k.1, ← k.2, if_pos lt] at q
        have := bd x; have z : (-1 : Int32).toInt = -1 := rfl
        omega
      · have eR : iA R2 = iA R := funext (fun y => ((mG_one hG hG2 y).1).symm)
        have eV' : iA V2 = iA V := funext (fun y => ((mG_one hG hG2 y).2).symm)
        obtain ⟨y0, hy0⟩ : ∃ y0, y0 = tI (m3 v' R2 V2 b2) 4 0 := ⟨_, rfl⟩
        rw [← hy0]
        have y13 : y0.2 13 = R2 := by rw [hy0]; rfl
        have y14 : y0.2 14 = V2 := by rw [hy0]; rfl
        have m3e := m3_E R2 V2 b2 e
        have yn : ∀ j, ¬ (13 ≤ j ∧ j ≤ 15) → y0.2 j = v.2 j := fun j hj => by rw [hy0, tI_2]; exact m3e.2 j hj
        have yi : ∀ k, k ≠ 4 → k ≠ 5 → y0.1 k = v.1 k := fun k k4 k5 => by rw [hy0, tI_ne _ _ k4]; exact m3e.1 k k5
        have y4 : y0.1 4 = nI 0 := by rw [hy0]; exact tI_eq _ _ _
        have hy : nV y0 g := by
          unfold nV at *
          rw [yi 0 (by omega) (by omega), yi 1 (by omega) (by omega), yi 2 (by omega) (by omega), yn 0 (by omega), yn 1 (by omega), yn 2 (by omega), yn 3 (by omega), yn 4 (by omega), yn 5 (by omega), yn 6 (by omega), yn 7 (by omega), yn 8 (by omega), yn 9 (by omega)]
          exact hv
        have run : ∃ k, w_M_way_58 (fun r2 v1 => s.1 5 = r2 ∧ Rel s v1) k (nI f) (nI t) (nI x) (bI (decide (iA V x ≤ iA R x))) y0 := by
          refine sp_wayM hg hy (by rw [y13]; exact eR) (by rw [y14]; exact eV') bd (by omega) ht hft y4 hP hB hX (fun s2 em e4 hA2 => ⟨e5, g, nb, dp, hg, nU_C ec hw, nV_M em hy, ?_, ?_, ?_, ?_⟩)
          · unfold nB at *; rw [ec.1 2 (by omega), ec.2 7 (by omega), ec.2 8 (by omega), wi 2 (by omega), wn 7 (by omega) (by omega), wn 8 (by omega) (by omega)]; exact hb
          · have : gS s = gS u := by funext p q; unfold gS; rw [ec.2 12 (by omega), wn 12 (by omega) (by omega)]
            rw [this]; exact hd
          · unfold nP at *; rw [ec.1 4 (by omega), wi 4 (by omega), ec.2 19 (by omega), ec.2 20 (by omega), wn 19 (by omega) (by omega), wn 20 (by omega) (by omega), em.1 3 (by omega), yi 3 (by omega) (by omega), em.2 10 (by omega), em.2 11 (by omega), yn 10 (by omega), yn 11 (by omega)]; exact hp
          · refine ⟨n, by omega, e5, e4, fun i hi => ?_⟩
            have k := aC_one (hA i hi) (hA2 i hi).2
            refine ⟨?_, k.1.symm, k.2.1.symm, k.2.2.1.symm, k.2.2.2.symm⟩
            rw [(hA2 i hi).1, (hA i hi).2.1]
            cases B i with
            | true => rfl
            | false =>
              show (1 : Int32) = if nI (A i % 7) = -1 then 0 else 1
              rw [if_neg]
              intro q
              have := congrArg Int32.toInt q; rw [zi_n (by omega)] at this; have z : (-1 : Int32).toInt = -1 := rfl; omega
        have er : (y0.2 13 (nI x).toNatClampNeg).toInt = iA R x := by rw [nI_clamp (by omega), y13, ← eR, iA_in (by omega)]
        have ev : (y0.2 14 (nI x).toNatClampNeg).toInt = iA V x := by rw [nI_clamp (by omega), y14, ← eV', iA_in (by omega)]
        rw [zi_lt, er, ev]
        refine ⟨fun q => ?_, fun q => ?_⟩
        · rw [decide_eq_false (by omega)] at run; exact run
        · rw [decide_eq_true (by omega)] at run; exact run
    unfold w_Ac_trace
    rw [← hw0]
    have run := sp_trace (post := fun u64 => w_M_way (fun r2 v1 => u64.1 5 = r2 ∧ Rel u64 v1) (nI f) (nI x) (nI t) v) hg hw (by rw [w13]) (by rw [w14]) bd hG (by omega) (show x < 12 by omega) hT w5' fin
    refine sp_first' (by omega) (by rw [w13]) (by rw [w14]) (fun r15 hr15 => ⟨vp_in_nI (by omega) (by omega), ?_⟩)
    have ev : (w0.2 14 (nI x).toNatClampNeg).toInt = iA V x := by rw [nI_clamp (by omega), w14, iA_in (by omega)]
    rw [zi_lt, ev, hr15]
    refine ⟨fun q => ?_, fun q => ?_⟩
    · rw [decide_eq_false (by omega)] at run; exact run
    · rw [decide_eq_true (by omega)] at run; exact run
  · rw [zi_lt, hr, z_M] at ge
    refine sp_isAsked hg hv (fun _ _ _ => q1 (sp_found hg hv hf hx ht (fun v' R2 V2 b2 r2 e o1 o2 hG2 hr2 => ⟨fun q => ⟨rfl, Rel_e (s2_e u R V) (m3_E R2 V2 b2 e) h⟩, fun q => absurd ?_ q⟩))) (fun k => absurd ⟨a, b, c⟩ k)
    have k := mG_one hG hG2 x
    rw [zi_eq, hr2, ← k.1, ← k.2, if_neg ge]; rfl
