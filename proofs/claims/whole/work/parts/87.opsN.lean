/-! WAY: one act back -/
def pW (g : nT) (R V : Nat → Int) (x w : Nat) : Prop := w < nWa g ∧ nWt g w = x ∧ mn (R (nWf g w)) (V (nWf g w)) + nWk g w = V x
def pD (g : nT) (R V : Nat → Int) (x k : Nat) : Prop := k < 7 * nRi g ∧ nRt g (k / 7) = x ∧ gM g R V k ∧ gA g k = R x
def bI (b : Bool) : Int32 := if b then 1 else 0
def pT (R V : Nat → Int) (x : Nat) (b : Bool) : Int := if b then V x else R x
/-- from (x, b) the act a leads back to (x', b') -/
def wS (g : nT) (R V : Nat → Int) (x : Nat) (b : Bool) (a x' : Nat) (b' : Bool) : Prop :=
  if b then pW g R V x a ∧ (∀ a', a' < a → ¬ pW g R V x a') ∧ x' = nWf g a ∧ b' = decide (V x' ≤ R x')
  else pD g R V x a ∧ (∀ a', a' < a → ¬ pD g R V x a') ∧ x' = nRf g (a / 7) ∧ b' = decide (V x' ≤ nLv g a)
/-- the four numbers of an act -/
def aC (g : nT) (R V : Nat → Int) (x : Nat) (b : Bool) (a x' : Nat) (p q r s : Int32) : Prop := p = nI (if b then a else a / 7) ∧ q = (if b then -1 else nI (a % 7)) ∧ r.toInt = (if b then mn (R x') (V x') else nLv g a) ∧ s.toInt = pT R V x b
theorem mn_l (a b : Int) : mn a b ≤ a ∧ mn a b ≤ b ∧ (mn a b = a ∨ mn a b = b) := by unfold mn; split <;> omega
theorem wS_ex {g : nT} (hg : nOk g) {f : Nat} {t : Int} {R V : Nat → Int} (h : mG 1000000 (gW g) (gD g) (gC g) f t R V) {x : Nat} {b : Bool} (hT : pT R V x b < 1000000) (hn : ¬ (b = true ∧ x = f)) : ∃ a x' b', wS g R V x b a x' b' ∧ x' < 12 ∧ pT R V x' b' < pT R V x b := by
  have g1 := hg.1
  cases b with
  | true =>
    have hT : V x < 1000000 := hT
    have ex : ∃ w, pW g R V x w := by
      obtain ⟨y, d, ⟨w, hw, rfl, e2, rfl⟩, hy⟩ := mG_lastW h hT (fun e => hn ⟨rfl, e⟩)
      have c := h.2.1.2.1 (nWf g w) x (nWk g w) ⟨w, hw, rfl, e2, rfl⟩
      refine ⟨w, hw, e2.symm, ?_⟩
      have := mn_l (R (nWf g w)) (V (nWf g w)); omega
    obtain ⟨w, hw, hl⟩ := pk_least _ ex
    refine ⟨w, nWf g w, decide (V (nWf g w) ≤ R (nWf g w)), ?_, ?_, ?_⟩
    · unfold wS; rw [if_pos rfl]; exact ⟨hw, hl, rfl, rfl⟩
    · have := (hg.2.2.2.2.2.2 w hw.1).1; omega
    · have h1 := (hg.2.2.2.2.2.2 w hw.1).2.2.2.1; have h2 := hw.2.2
      unfold pT; rw [if_pos rfl]
      by_cases c : V (nWf g w) ≤ R (nWf g w)
      · rw [decide_eq_true c, if_pos rfl]; unfold mn at h2; split at h2 <;> omega
      · rw [decide_eq_false c, if_neg (by decide)]; unfold mn at h2; split at h2 <;> omega
  | false =>
    have hT : R x < 1000000 := hT
    have ex : ∃ k, pD g R V x k := by
      obtain ⟨y, l, v, ⟨k, hk, hl, rfl, e2, rfl, rfl⟩, hy, e⟩ := mG_lastD h hT
      exact ⟨k, hk, e2.symm, ⟨hl, hy⟩, e.symm⟩
    obtain ⟨k, hk, hl⟩ := pk_least _ ex
    have g5 := hg.2.2.2.2.1 (k / 7) (by have := hk.1; omega)
    refine ⟨k, nRf g (k / 7), decide (V (nRf g (k / 7)) ≤ nLv g k), ?_, by omega, ?_⟩
    · unfold wS; rw [if_neg (by decide)]; exact ⟨hk, hl, rfl, rfl⟩
    · have h2 := hk.2.2.2; have h3 := hk.2.2.1.2; unfold gA at h2; unfold gC at h3
      unfold pT; rw [if_neg (show ¬ (false = true) by decide)]
      by_cases c : V (nRf g (k / 7)) ≤ nLv g k
      · rw [decide_eq_true c, if_pos rfl]; omega
      · rw [decide_eq_false c, if_neg (by decide)]; omega
/-! the class -/
theorem sp_first' {post : Int32 → tS → Prop} {s : tS} {x : Nat} {R V : Nat → Int} (hx : x < 12) (hR : iA (s.2 13) = R) (hV : iA (s.2 14) = V) (h : ∀ r : Int32, r.toInt = mn (R x) (V x) → post r s) : w_Ar_first post (nI x) s := by
  have := sp_first (u := s) (R := s.2 13) (V := s.2 14) (post := post) hx (fun r hr => by rw [s2_eta]; exact h r (by rw [hr, hR, hV]))
  rw [s2_eta] at this; exact this
theorem sp_lastWalk1 {post : Int32 → tS → Prop} {s : tS} {g : nT} (hg : nOk g) (hs : nU s g) {x n i : Nat} (hx : x < 12) {R V : Nat → Int} (hR : iA (s.2 13) = R) (hV : iA (s.2 14) = V) (bd : ∀ y, 0 ≤ R y ∧ R y ≤ 1000000 ∧ 0 ≤ V y ∧ V y ≤ 1000000) (hi : i < nWa g) (h1 : pW g R V x i → post (nI i) s) (h0 : ¬ pW g R V x i → w_Ar_lastWalk_2 post n (nI x) (nI (i + 1)) s) : w_Ar_lastWalk_2 post (n + 1) (nI x) (nI i) s := by
  have g1 := hg.1; have g3 := hg.2.2.1; have g7 := hg.2.2.2.2.2.2 i hi
  have U := hs.2.2.2.2.2.2 i hi
  have iv : vp_in (nI i) 30 := vp_in_nI (by omega) (by omega)
  have cl : (nI i).toNatClampNeg = i := nI_clamp (by omega)
  refine ⟨fun c => absurd c (by rw [hs.2.2.1]; exact nI_ge hi (by omega)), fun _ => ⟨iv, ?_⟩⟩
  rw [cl, U.1]
  refine sp_first' (by omega) hR hV (fun r hr => ⟨iv, iv, ?_⟩)
  rw [U.2.1, U.2.2, nI_1]
  have ex : (s.2 14 (nI x).toNatClampNeg).toInt = V x := by rw [nI_clamp (by omega), ← hV, iA_in hx]
  have es : (r + nI (nWk g i)).toInt = mn (R (nWf g i)) (V (nWf g i)) + nWk g i := by
    have := mn_l (R (nWf g i)) (V (nWf g i)); have := bd (nWf g i)
    rw [zi_add] <;> rw [hr, zi_n (by omega)] <;> omega
  refine ⟨fun c => ⟨vp_in_nI hx (by omega), fun d => h1 ?_, fun d => h0 ?_⟩, fun c => h0 (fun q => c (by rw [q.2.1]))⟩
  · rw [zi_eq, es, ex] at d
    exact ⟨hi, (nI_eq (by omega) (by omega)).mp c, d⟩
  · rw [zi_eq, es, ex] at d
    exact fun q => d q.2.2
theorem sp_lastWalk {post : Int32 → tS → Prop} {s : tS} {g : nT} (hg : nOk g) (hs : nU s g) {x w : Nat} (hx : x < 12) {R V : Nat → Int} (hR : iA (s.2 13) = R) (hV : iA (s.2 14) = V) (bd : ∀ y, 0 ≤ R y ∧ R y ≤ 1000000 ∧ 0 ≤ V y ∧ V y ≤ 1000000) (hw : pW g R V x w) (hl : ∀ w', w' < w → ¬ pW g R V x w') (h : post (nI w) s) : w_Ar_lastWalk post (nI x) s :=
  pk_loop (fun n i (_ : Unit) => w_Ar_lastWalk_2 post n (nI x) (nI i) s) (fun _ _ => True) w 0 () (by omega) trivial
    (fun n _ _ => sp_lastWalk1 hg hs hx hR hV bd hw.1 (fun _ => h) (fun q => absurd hw q))
    (fun n i _ hi _ ih => sp_lastWalk1 hg hs hx hR hV bd (Nat.lt_trans hi hw.1) (fun q => absurd q (hl i hi)) (fun _ => ih () trivial))
theorem sp_endsByRide {post : Int32 → tS → Prop} {s : tS} {g : nT} (hg : nOk g) (hs : nU s g) {r d : Nat} {R V : Nat → Int} (hR : iA (s.2 13) = R) (hV : iA (s.2 14) = V) (bd : ∀ y, 0 ≤ R y ∧ R y ≤ 1000000 ∧ 0 ≤ V y ∧ V y ≤ 1000000) (hr : r < nRi g) (hd : d < 7) (h1 : pD g R V (nRt g r) (7 * r + d) → post 1 s) (h0 : ¬ pD g R V (nRt g r) (7 * r + d) → post 0 s) : w_Ar_endsByRide post (nI r) (nI d) s := by
  have g1 := hg.1; have g2 := hg.2.1; have g5 := hg.2.2.2.2.1 r hr
  have U := hs.2.2.2.2.1 r hr
  have iv : vp_in (nI r) 40 := vp_in_nI (by omega) (by omega)
  have cl : (nI r).toNatClampNeg = r := nI_clamp (by omega)
  have e7 : (7 * r + d) / 7 = r := by omega
  have hk : 7 * r + d < 7 * nRi g := by omega
  have lb := nLa_b hg hk
  unfold w_Ar_endsByRide
  rw [z_7]
  refine sp_goes (by omega) (nU_la hs hk) (fun ne => q1 (sp_leaves (m := nRm g r) (by omega) g5.2.2.2.1 (by rw [e7]; exact U.2.2.1) (nU_la hs hk) lb (fun z hz => ⟨iv, iv, ?_⟩))) (fun e => q0 (h0 (fun q => q.2.2.1.1 e)))
  have ez : z.toInt = nLv g (7 * r + d) := by rw [hz]; unfold nLv; rw [e7]
  have bz := nLv_b hg hk ne
  rw [cl, U.2.1, U.2.2.2.1, U.1]
  have xi : nRt g r < 12 := by omega
  have yi : nRf g r < 12 := by omega
  have ex : (s.2 13 (nI (nRt g r)).toNatClampNeg).toInt = R (nRt g r) := by rw [nI_clamp (by omega), ← hR, iA_in xi]
  have es : (z + nI (nRk g r)).toInt = gA g (7 * r + d) := by
    unfold gA; rw [e7, zi_add] <;> rw [ez, zi_n (by omega)] <;> omega
  refine ⟨vp_in_nI xi (by omega), fun c => ⟨iv, ?_⟩, fun c => h0 (fun q => c ?_)⟩
  · rw [zi_eq, es, ex] at c
    refine sp_mayTake (Ry := R (nRf g r)) (Vy := V (nRf g r)) (c := nCh g (nRf g r)) yi (by rw [← hR, iA_in yi]) (by rw [← hV, iA_in yi]) (hs.2.2.2.1 _ g5.1) (hg.2.2.2.1 _ g5.1) ⟨(bd _).1, (bd _).2.1⟩ (fun m => q1 (h1 ⟨hk, by rw [e7], ⟨ne, ?_⟩, c⟩)) (fun m => q0 (h0 (fun q => m ?_)))
    · rw [e7]; rw [ez] at m; exact m
    · have := q.2.2.1.2; rw [e7] at this; rw [ez]; exact this
  · rw [zi_eq, es, ex]; exact q.2.2.2
theorem sp_lastDeparture {post : Int32 → tS → Prop} {s : tS} {g : nT} (hg : nOk g) (hs : nU s g) {x k : Nat} (hx : x < 12) {R V : Nat → Int} (hR : iA (s.2 13) = R) (hV : iA (s.2 14) = V) (bd : ∀ y, 0 ≤ R y ∧ R y ≤ 1000000 ∧ 0 ≤ V y ∧ V y ≤ 1000000) (hk : pD g R V x k) (hl : ∀ k', k' < k → ¬ pD g R V x k') (h : post (nI k) s) : w_Ar_lastDeparture post (nI x) s := by
  have g1 := hg.1; have g2 := hg.2.1
  have hk1 := hk.1
  have hr : k / 7 < nRi g := by omega
  have head : ∀ (n i : Nat), i < nRi g → (nRt g i = x → ∃ m, w_Ar_lastDeparture_32 post (w_Ar_lastDeparture_2 post n) m (nI x) (nI i) (nI 0) s) → (nRt g i ≠ x → w_Ar_lastDeparture_2 post n (nI x) (nI (i + 1)) s) → w_Ar_lastDeparture_2 post (n + 1) (nI x) (nI i) s := fun n i hi a b => by
    have g5 := hg.2.2.2.2.1 i hi
    refine ⟨fun c => absurd c (by rw [hs.2.1]; exact nI_ge hi (by omega)), fun _ => ⟨vp_in_nI (by omega) (by omega), ?_⟩⟩
    rw [nI_clamp (by omega), (hs.2.2.2.2.1 i hi).2.1, nI_1]
    exact ⟨fun c => a ((nI_eq (by omega) (by omega)).mp c), fun c => b (fun q => c (by rw [q]))⟩
  refine pk_loop (fun n i (_ : Unit) => w_Ar_lastDeparture_2 post n (nI x) (nI i) s) (fun _ _ => True) (k / 7) 0 () (by omega) trivial
    (fun n _ _ => head n (k / 7) hr (fun e => ?_) (fun e => absurd hk.2.1 e))
    (fun n i _ hi _ ih => head n i (by omega) (fun e => ?_) (fun e => ih () trivial))
  · refine pk_loop (fun m d (_ : Unit) => w_Ar_lastDeparture_32 post (w_Ar_lastDeparture_2 post n) m (nI x) (nI (k / 7)) (nI d) s) (fun _ _ => True) (k % 7) 0 () (by omega) trivial
      (fun m _ _ => ⟨fun c => absurd c (show ¬ nI 7 ≤ nI (k % 7) from nI_ge (by omega) (by omega)), fun _ => sp_endsByRide hg hs hR hV bd hr (by omega) (fun q => q1 ?_) (fun q => absurd ?_ q)⟩)
      (fun m d _ hd _ ih => ⟨fun c => absurd c (show ¬ nI 7 ≤ nI d from nI_ge (by omega) (by omega)), fun _ => sp_endsByRide hg hs hR hV bd hr (by omega) (fun q => absurd ?_ (hl (7 * (k / 7) + d) (by omega))) (fun q => q0 (by rw [nI_1]; exact ih () trivial))⟩)
    · rw [z_7, show 7 * (k / 7) + k % 7 = k by omega]; exact h
    · rw [e, show 7 * (k / 7) + k % 7 = k by omega]; exact hk
    · rw [e] at q; exact q
  · refine pk_loop (fun m d (_ : Unit) => w_Ar_lastDeparture_32 post (w_Ar_lastDeparture_2 post n) m (nI x) (nI i) (nI d) s) (fun _ _ => True) 7 0 () (by omega) trivial
      (fun m _ _ => ⟨fun _ => by rw [nI_1]; exact ih () trivial, fun c => absurd (show (7 : Int32) ≤ nI 7 by decide) c⟩)
      (fun m d _ hd _ ih' => ⟨fun c => absurd c (show ¬ nI 7 ≤ nI d from nI_ge (by omega) (by omega)), fun _ => sp_endsByRide hg hs hR hV bd (by omega) hd (fun q => absurd ?_ (hl (7 * i + d) (by omega))) (fun q => q0 (by rw [nI_1]; exact ih' () trivial))⟩)
    rw [e] at q; exact q
/-- but the acts nothing is another -/
def eC (u u' : tS) : Prop := (∀ k, k ≠ 5 → u'.1 k = u.1 k) ∧ ∀ j, ¬ (21 ≤ j ∧ j ≤ 24) → u'.2 j = u.2 j
theorem eC_rf (u : tS) : eC u u := ⟨fun _ _ => rfl, fun _ _ => rfl⟩
theorem eC_tr {u v w : tS} (h : eC u v) (h' : eC v w) : eC u w := ⟨fun k hk => (h'.1 k hk).trans (h.1 k hk), fun j hj => (h'.2 j hj).trans (h.2 j hj)⟩
theorem nU_C {u u' : tS} {g : nT} (e : eC u u') (h : nU u g) : nU u' g := by
  obtain ⟨e1, e2⟩ := e
  unfold nU at *
  rw [e1 0 (by omega), e1 1 (by omega), e1 3 (by omega), e2 0 (by omega), e2 1 (by omega), e2 2 (by omega), e2 3 (by omega), e2 4 (by omega), e2 5 (by omega), e2 6 (by omega), e2 9 (by omega), e2 10 (by omega), e2 11 (by omega)]
  exact h
theorem sp_put {post : tS → Prop} {s : tS} {n : Nat} (hn : s.1 5 = nI n) (hn' : n < 24) {x1 x2 x3 x4 : Int32} (h : ∀ s', eC s s' → s'.1 5 = nI (n + 1) → s'.2 21 = upd (s.2 21) n x1 → s'.2 22 = upd (s.2 22) n x2 → s'.2 23 = upd (s.2 23) n x3 → s'.2 24 = upd (s.2 24) n (x3 + x4) → post s') : w_Ac_put post x1 x2 x3 x4 s := by
  have iv : vp_in (nI n) 24 := vp_in_nI hn' (by omega)
  have cl : (nI n).toNatClampNeg = n := nI_clamp (by omega)
  unfold w_Ac_put
  simp only [tA_1, hn]
  refine ⟨iv, iv, iv, iv, h _ ⟨fun k hk => tI_ne _ _ hk, fun j hj => ?_⟩ ?_ ?_ ?_ ?_ ?_⟩
  · rw [tI_2, tA_ne _ _ _ (by omega), tA_ne _ _ _ (by omega), tA_ne _ _ _ (by omega), tA_ne _ _ _ (by omega)]
  · rw [tI_eq, nI_1]
  · show upd (s.2 21) (nI n).toNatClampNeg x1 = _
    rw [cl]
  · show upd (s.2 22) (nI n).toNatClampNeg x2 = _
    rw [cl]
  · show upd (s.2 23) (nI n).toNatClampNeg x3 = _
    rw [cl]
  · show upd (s.2 24) (nI n).toNatClampNeg (x3 + x4) = _
    rw [cl]
theorem bI_t : bI true = 1 := rfl
theorem bI_f : bI false = 0 := rfl
/-- one act of the class -/
theorem sp_actC {post : tS → Prop} {K : Int32 → Int32 → Int32 → Int32 → tS → Prop} {s : tS} {g : nT} (hg : nOk g) (hs : nU s g) {R V : Nat → Int} (hR : iA (s.2 13) = R) (hV : iA (s.2 14) = V) (bd : ∀ y, 0 ≤ R y ∧ R y ≤ 1000000 ∧ 0 ≤ V y ∧ V y ≤ 1000000) {x a x' n : Nat} {b b' : Bool} {x3 x7 : Int32} (hx : x < 12) (hx' : x' < 12) (hp : wS g R V x b a x' b') (hn : s.1 5 = nI n) (hn' : n < 24)
    (h : ∀ (s' : tS) (p q r z : Int32), eC s s' → s'.1 5 = nI (n + 1) → s'.2 21 = upd (s.2 21) n p → s'.2 22 = upd (s.2 22) n q → s'.2 23 = upd (s.2 23) n r → s'.2 24 = upd (s.2 24) n z → aC g R V x b a x' p q r z → K x3 (nI x') (bI b') (x7 + 1) s') : w_Ac_trace_44 post K x3 (nI x) (bI b) x7 s := by
  have g1 := hg.1; have g2 := hg.2.1; have g3 := hg.2.2.1
  have ne : ∀ m : Nat, m < 1000 → ¬ nI m = -1 := fun m hm e => by
    have := congrArg Int32.toInt e; rw [zi_n (by omega)] at this; have h2 : (-1 : Int32).toInt = -1 := rfl; omega
  -- behind an act
  have aft : ∀ (s' : tS) (p q r z : Int32), eC s s' → s'.1 5 = nI (n + 1) → s'.2 21 = upd (s.2 21) n p → s'.2 22 = upd (s.2 22) n q → s'.2 23 = upd (s.2 23) n r → s'.2 24 = upd (s.2 24) n z → aC g R V x b a x' p q r z → b' = decide (V x' ≤ r.toInt) → w_Ac_trace_68 post K x3 x7 (nI x') s' := by
    intro s' p q r z e0 e1 e2 e3 e4 e5 ha hb
    refine ⟨fun c => absurd c (ne x' (by omega)), fun _ => ?_⟩
    rw [e1, nI_pred, nI_clamp (by omega), e4, pk_us]
    have k := h s' p q r z e0 e1 e2 e3 e4 e5 ha
    have ex : (s'.2 14 (nI x').toNatClampNeg).toInt = V x' := by rw [nI_clamp (by omega), e0.2 14 (by omega), ← hV, iA_in hx']
    refine ⟨vp_in_nI hn' (by omega), vp_in_nI hx' (by omega), fun c => ?_, fun c => ?_⟩
    · rw [zi_lt, ex] at c
      rw [hb, decide_eq_false (by omega)] at k; exact k
    · rw [zi_lt, ex] at c
      rw [hb, decide_eq_true (by omega)] at k; exact k
  cases b with
  | true =>
    unfold wS at hp; rw [if_pos rfl] at hp
    obtain ⟨p1, p2, p3, p4⟩ := hp
    have U := hs.2.2.2.2.2.2 a p1.1; have g7 := hg.2.2.2.2.2.2 a p1.1
    have pa := p1.1
    have iv : vp_in (nI a) 30 := vp_in_nI (by omega) (by omega)
    have cl : (nI a).toNatClampNeg = a := nI_clamp (by omega)
    refine ⟨fun c => absurd c (by decide), fun _ => sp_lastWalk hg hs hx hR hV bd p1 p2 ⟨fun c => absurd c (ne a (by omega)), fun _ => ⟨iv, ?_⟩⟩⟩
    rw [cl, U.1]
    refine sp_first' (R := R) (V := V) (by omega) hR hV (fun r hr => ⟨iv, sp_put hn hn' (fun s' e0 e1 e2 e3 e4 e5 => ?_)⟩)
    rw [← p3] at hr ⊢
    have sm : (r + s.2 11 a).toInt = V x := by
      have := mn_l (R x') (V x'); have := bd x'; have := p1.2.2; rw [← p3] at this
      rw [U.2.2, zi_add] <;> rw [hr, zi_n (by omega)] <;> omega
    refine aft s' _ _ _ _ e0 e1 e2 e3 e4 e5 ⟨rfl, rfl, ?_, ?_⟩ ?_
    · rw [if_pos rfl]; exact hr
    · show _ = V x
      exact sm
    · rw [p4, hr]
      have := mn_l (R x') (V x')
      by_cases c : V x' ≤ R x'
      · rw [decide_eq_true c, decide_eq_true (by omega)]
      · rw [decide_eq_false c, decide_eq_false (by omega)]
  | false =>
    unfold wS at hp; rw [if_neg (by decide)] at hp
    obtain ⟨p1, p2, p3, p4⟩ := hp
    have pa := p1.1
    have hr' : a / 7 < nRi g := by omega
    have U := hs.2.2.2.2.1 (a / 7) hr'; have g5 := hg.2.2.2.2.1 (a / 7) hr'
    have iv : vp_in (nI (a / 7)) 40 := vp_in_nI (by omega) (by omega)
    have cl : (nI (a / 7)).toNatClampNeg = a / 7 := nI_clamp (by omega)
    have lb := nLa_b hg pa
    have bz := nLv_b hg pa p1.2.2.1.1
    refine ⟨fun _ => sp_lastDeparture hg hs hx hR hV bd p1 p2 ⟨fun c => absurd c (ne a (by omega)), fun _ => sp_leaves (m := nRm g (a / 7)) (by omega) g5.2.2.2.1 U.2.2.1 (nU_la hs pa) lb (fun r hr => ?_)⟩, fun c => absurd rfl c⟩
    rw [z_m7 (by omega), z_d7 (by omega), cl]
    refine ⟨iv, sp_put hn hn' (fun s' e0 e1 e2 e3 e4 e5 => ⟨iv, ?_⟩)⟩
    rw [e0.2 1 (by omega), U.1, ← p3]
    have er : r.toInt = nLv g a := by rw [hr]; rfl
    refine aft s' _ _ _ _ e0 e1 e2 e3 e4 e5 ⟨rfl, rfl, ?_, ?_⟩ ?_
    · rw [if_neg (by decide)]; exact er
    · show _ = R x
      have := p1.2.2.2; unfold gA at this
      rw [U.2.2.2.1, zi_add] <;> rw [er, zi_n (by omega)] <;> omega
    · rw [p4, er]
