/-! WAY: the reference -/
def eM (v v' : tS) : Prop := (∀ k, k ≠ 4 → v'.1 k = v.1 k) ∧ ∀ j, j ≠ 12 → v'.2 j = v.2 j
theorem eM_rf (u : tS) : eM u u := ⟨fun _ _ => rfl, fun _ _ => rfl⟩
theorem eM_tr {u v w : tS} (h : eM u v) (h' : eM v w) : eM u w := ⟨fun k hk => (h'.1 k hk).trans (h.1 k hk), fun j hj => (h'.2 j hj).trans (h.2 j hj)⟩
theorem nV_M {u u' : tS} {g : nT} (e : eM u u') (h : nV u g) : nV u' g := by
  obtain ⟨e1, e2⟩ := e
  unfold nV at *
  rw [e1 0 (by omega), e1 1 (by omega), e1 2 (by omega), e2 0 (by omega), e2 1 (by omega), e2 2 (by omega), e2 3 (by omega), e2 4 (by omega), e2 5 (by omega), e2 6 (by omega), e2 7 (by omega), e2 8 (by omega), e2 9 (by omega)]
  exact h
theorem sp_arrival' {post : Int32 → tS → Prop} {s : tS} {x : Nat} {R V : Nat → Int} (hx : x < 12) (hR : iA (s.2 13) = R) (hV : iA (s.2 14) = V) (h : ∀ r : Int32, r.toInt = mn (R x) (V x) → post r s) : w_M_arrival post (nI x) s := by
  have := sp_arrival (v := s) (R := s.2 13) (V := s.2 14) (b := s.1 5) (post := post) hx (fun r hr => by rw [m3_eta]; exact h r (by rw [hr, hR, hV]))
  rw [m3_eta] at this; exact this
theorem sp_walkBefore1 {post : Int32 → tS → Prop} {s : tS} {g : nT} (hg : nOk g) (hs : nV s g) {x n i : Nat} (hx : x < 12) {R V : Nat → Int} (hR : iA (s.2 13) = R) (hV : iA (s.2 14) = V) (bd : ∀ y, 0 ≤ R y ∧ R y ≤ 1000000 ∧ 0 ≤ V y ∧ V y ≤ 1000000) (hi : i < nWa g) (h1 : pW g R V x i → post (nI i) s) (h0 : ¬ pW g R V x i → w_M_walkBefore_2 post n (nI x) (nI (i + 1)) s) : w_M_walkBefore_2 post (n + 1) (nI x) (nI i) s := by
  have g1 := hg.1; have g3 := hg.2.2.1; have g7 := hg.2.2.2.2.2.2 i hi
  have U := hs.2.2.2.2.2.2 i hi
  have iv : vp_in (nI i) 30 := vp_in_nI (by omega) (by omega)
  have cl : (nI i).toNatClampNeg = i := nI_clamp (by omega)
  unfold w_M_walkBefore_2
  rw [cl, U.1, U.2.1, nI_1]
  refine ⟨iv, fun c => ⟨iv, sp_arrival' (by omega) hR hV (fun r hr => ⟨iv, vp_in_nI hx (by omega), ?_⟩)⟩, fun c => h0 (fun q => c (by rw [q.2.1]))⟩
  rw [U.2.2]
  have ex : (s.2 14 (nI x).toNatClampNeg).toInt = V x := by rw [nI_clamp (by omega), ← hV, iA_in hx]
  have es : (r + nI (nWk g i)).toInt = mn (R (nWf g i)) (V (nWf g i)) + nWk g i := by
    have := mn_l (R (nWf g i)) (V (nWf g i)); have := bd (nWf g i)
    rw [zi_add] <;> rw [hr, zi_n (by omega)] <;> omega
  refine ⟨fun d => h1 ?_, fun d => h0 ?_⟩
  · rw [zi_eq, es, ex] at d
    exact ⟨hi, (nI_eq (by omega) (by omega)).mp c, d⟩
  · rw [zi_eq, es, ex] at d
    exact fun q => d q.2.2
theorem sp_walkBefore {post : Int32 → tS → Prop} {s : tS} {g : nT} (hg : nOk g) (hs : nV s g) {x w : Nat} (hx : x < 12) {R V : Nat → Int} (hR : iA (s.2 13) = R) (hV : iA (s.2 14) = V) (bd : ∀ y, 0 ≤ R y ∧ R y ≤ 1000000 ∧ 0 ≤ V y ∧ V y ≤ 1000000) (hw : pW g R V x w) (hl : ∀ w', w' < w → ¬ pW g R V x w') (h : post (nI w) s) : w_M_walkBefore post (nI x) s :=
  pk_loop (fun n i (_ : Unit) => w_M_walkBefore_2 post n (nI x) (nI i) s) (fun _ _ => True) w 0 () (by omega) trivial
    (fun n _ _ => sp_walkBefore1 hg hs hx hR hV bd hw.1 (fun _ => h) (fun q => absurd hw q))
    (fun n i _ hi _ ih => sp_walkBefore1 hg hs hx hR hV bd (Nat.lt_trans hi hw.1) (fun q => absurd q (hl i hi)) (fun _ => ih () trivial))
theorem sp_departureBefore1 {post : Int32 → tS → Prop} {s : tS} {g : nT} (hg : nOk g) (hs : nV s g) {x n k : Nat} (hx : x < 12) {R V : Nat → Int} (hR : iA (s.2 13) = R) (hV : iA (s.2 14) = V) (ok : okR (s.2 13)) (hk : k < 7 * nRi g) (h1 : pD g R V x k → post (nI k) s) (h0 : ¬ pD g R V x k → w_M_departureBefore_2 post n (nI x) (nI (k + 1)) s) : w_M_departureBefore_2 post (n + 1) (nI x) (nI k) s := by
  have g1 := hg.1; have g2 := hg.2.1
  have hr : k / 7 < nRi g := by omega
  have g5 := hg.2.2.2.2.1 (k / 7) hr
  have U := hs.2.2.2.2.1 (k / 7) hr
  have ek : 7 * (k / 7) + k % 7 = k := by omega
  unfold w_M_departureBefore_2
  rw [z_m7 (by omega), z_d7 (by omega), nI_clamp (by omega), U.2.1, nI_1]
  refine ⟨vp_in_nI (by omega) (by omega), fun c => ?_, fun c => h0 (fun q => c (by rw [q.2.1]))⟩
  have c := (nI_eq (by omega) (by omega)).mp c
  have := sp_mayTakeM (v := s) (R := s.2 13) (V := s.2 14) (b := s.1 5) (post := fun r24 u24 => (r24 = 0 → w_M_departureBefore_2 post n (nI x) (nI (k + 1)) u24) ∧ (¬ r24 = 0 → w_M_arrives (fun r39 u39 => vp_in (nI x) 12 ∧ ((r39 = u39.2 13 (nI x).toNatClampNeg → post (nI k) u39) ∧ (¬ r39 = u39.2 13 (nI x).toNatClampNeg → w_M_departureBefore_2 post n (nI x) (nI (k + 1)) u39))) (nI (k / 7)) (nI (k % 7)) u24)) hg hs ok hr (show k % 7 < 7 by omega) (fun m => ?_) (fun m => ?_)
  · rw [m3_eta] at this; exact this
  · rw [m3_eta]; rw [ek, hR, hV] at m
    refine q1 (sp_arrivesM hg hs hr (by omega) (by rw [ek]; exact m.1) (fun z hz => ⟨vp_in_nI hx (by omega), fun d => h1 ?_, fun d => h0 ?_⟩))
    · rw [zi_eq, hz, ek, nI_clamp (by omega)] at d
      exact ⟨hk, c, m, by unfold gA; rw [d, ← hR, iA_in hx]⟩
    · rw [zi_eq, hz, ek, nI_clamp (by omega)] at d
      intro q
      have := q.2.2.2; unfold gA at this; rw [← hR, iA_in hx] at this; exact d this
  · rw [m3_eta]; rw [ek, hR, hV] at m
    exact q0 (h0 (fun q => m q.2.2.1))
theorem sp_departureBefore {post : Int32 → tS → Prop} {s : tS} {g : nT} (hg : nOk g) (hs : nV s g) {x k : Nat} (hx : x < 12) {R V : Nat → Int} (hR : iA (s.2 13) = R) (hV : iA (s.2 14) = V) (ok : okR (s.2 13)) (hk : pD g R V x k) (hl : ∀ k', k' < k → ¬ pD g R V x k') (h : post (nI k) s) : w_M_departureBefore post (nI x) s :=
  pk_loop (fun n i (_ : Unit) => w_M_departureBefore_2 post n (nI x) (nI i) s) (fun _ _ => True) k 0 () (by omega) trivial
    (fun n _ _ => sp_departureBefore1 hg hs hx hR hV ok hk.1 (fun _ => h) (fun q => absurd hk q))
    (fun n i _ hi _ ih => sp_departureBefore1 hg hs hx hR hV ok (Nat.lt_trans hi hk.1) (fun q => absurd q (hl i hi)) (fun _ => ih () trivial))
theorem z_5 {n c : Nat} : nI (5 * n) + nI c = nI (5 * n + c) := nI_add _ _
theorem sp_putM {post : tS → Prop} {v : tS} {n : Nat} (hn : v.1 4 = nI n) (hn' : n < 24) {x1 x2 x3 x4 x5 : Int32} (h : ∀ v', eM v v' → v'.1 4 = nI (n + 1) → (∀ j, j < 5 * n → v'.2 12 j = v.2 12 j) → v'.2 12 (5 * n) = x1 → v'.2 12 (5 * n + 1) = x2 → v'.2 12 (5 * n + 2) = x3 → v'.2 12 (5 * n + 3) = x4 → v'.2 12 (5 * n + 4) = x5 → post v') : w_M_put post x1 x2 x3 x4 x5 v := by
  have e0 : 5 * nI n = nI (5 * n) := by rw [show (5 : Int32) = nI 5 from rfl, pk_mul]
  have e1 : nI (5 * n) + 1 = nI (5 * n + 1) := z_5 (c := 1)
  have e2 : nI (5 * n) + 2 = nI (5 * n + 2) := z_5 (c := 2)
  have e3 : nI (5 * n) + 3 = nI (5 * n + 3) := z_5 (c := 3)
  have e4 : nI (5 * n) + 4 = nI (5 * n + 4) := z_5 (c := 4)
  have iv : ∀ c, c < 5 → vp_in (nI (5 * n + c)) 320 := fun c hc => vp_in_nI (by omega) (by omega)
  have cl : ∀ c, c < 5 → (nI (5 * n + c)).toNatClampNeg = 5 * n + c := fun c hc => nI_clamp (by omega)
  unfold w_M_put
  simp only [tA_1, hn]
  rw [e0, e1, e2, e3, e4]
  have hA : ∀ y : tS, y = (tA (tA (tA (tA (tA v 12 (nI (5 * n)) x1) 12 (nI (5 * n + 1)) x2) 12 (nI (5 * n + 2)) x3) 12 (nI (5 * n + 3)) x4) 12 (nI (5 * n + 4)) x5) → y.2 12 = upd (upd (upd (upd (upd (v.2 12) (5 * n) x1) (5 * n + 1) x2) (5 * n + 2) x3) (5 * n + 3) x4) (5 * n + 4) x5 := fun y hy => by
    rw [hy, tA_eq, tA_eq, tA_eq, tA_eq, tA_eq, cl 1 (by omega), cl 2 (by omega), cl 3 (by omega), cl 4 (by omega), show (nI (5 * n)).toNatClampNeg = 5 * n from cl 0 (by omega)]
  have hA := hA _ rfl
  refine ⟨iv 0 (by omega), iv 1 (by omega), iv 2 (by omega), iv 3 (by omega), iv 4 (by omega), h _ ⟨fun k hk => tI_ne _ _ hk, fun j hj => ?_⟩ ?_ (fun j hj => ?_) ?_ ?_ ?_ ?_ ?_⟩
  · rw [tI_2, tA_ne _ _ _ hj, tA_ne _ _ _ hj, tA_ne _ _ _ hj, tA_ne _ _ _ hj, tA_ne _ _ _ hj]
  · rw [tI_eq, nI_1]
  · rw [tI_2, hA, pk_un (by omega), pk_un (by omega), pk_un (by omega), pk_un (by omega), pk_un (by omega)]
  · rw [tI_2, hA, pk_un (by omega), pk_un (by omega), pk_un (by omega), pk_un (by omega), pk_us]
  · rw [tI_2, hA, pk_un (by omega), pk_un (by omega), pk_un (by omega), pk_us]
  · rw [tI_2, hA, pk_un (by omega), pk_un (by omega), pk_us]
  · rw [tI_2, hA, pk_un (by omega), pk_us]
  · rw [tI_2, hA, pk_us]
/-- one act of the reference -/
theorem sp_actM {post : Int32 → tS → Prop} {K : Int32 → Int32 → Int32 → Int32 → tS → Prop} {s : tS} {g : nT} (hg : nOk g) (hs : nV s g) {R V : Nat → Int} (hR : iA (s.2 13) = R) (hV : iA (s.2 14) = V) (bd : ∀ y, 0 ≤ R y ∧ R y ≤ 1000000 ∧ 0 ≤ V y ∧ V y ≤ 1000000) {x a x' n : Nat} {b b' : Bool} {x1 x3 : Int32} (hx : x < 12) (hx' : x' < 12) (hp : wS g R V x b a x' b') (hn : s.1 4 = nI n) (hn' : n < 24)
    (h : ∀ (s' : tS) (p q r z : Int32), eM s s' → s'.1 4 = nI (n + 1) → (∀ j, j < 5 * n → s'.2 12 j = s.2 12 j) → s'.2 12 (5 * n) = (if b then 0 else 1) → s'.2 12 (5 * n + 1) = p → s'.2 12 (5 * n + 2) = q → s'.2 12 (5 * n + 3) = r → s'.2 12 (5 * n + 4) = z → aC g R V x b a x' p q r z → K x1 x3 (nI x') (bI b') s') : w_M_way_80 post K x1 x3 (nI x) (bI b) s := by
  have g1 := hg.1; have g2 := hg.2.1; have g3 := hg.2.2.1
  have ok : okR (s.2 13) := fun y hy => by have := bd y; rw [← hR, iA_in hy] at this; omega
  have clx : (nI x).toNatClampNeg = x := nI_clamp (by omega)
  have clx' : (nI x').toNatClampNeg = x' := nI_clamp (by omega)
  have ivx : vp_in (nI x) 12 := vp_in_nI hx (by omega)
  have ivx' : vp_in (nI x') 12 := vp_in_nI hx' (by omega)
  have rR : ∀ y, y < 12 → (s.2 13 y).toInt = R y := fun y hy => by rw [← hR, iA_in hy]
  have rV : ∀ y, y < 12 → (s.2 14 y).toInt = V y := fun y hy => by rw [← hV, iA_in hy]
  cases b with
  | true =>
    unfold wS at hp; rw [if_pos rfl] at hp
    obtain ⟨p1, p2, p3, p4⟩ := hp
    have U := hs.2.2.2.2.2.2 a p1.1; have g7 := hg.2.2.2.2.2.2 a p1.1
    have pa := p1.1
    have iv : vp_in (nI a) 30 := vp_in_nI (by omega) (by omega)
    have cl : (nI a).toNatClampNeg = a := nI_clamp (by omega)
    refine ⟨fun c => absurd c (by decide), fun _ => sp_walkBefore hg hs hx hR hV bd p1 p2 ⟨iv, ?_⟩⟩
    rw [cl, U.1, ← p3]
    refine sp_arrival' (R := R) (V := V) hx' hR hV (fun r hr => ⟨ivx, sp_putM hn hn' (fun s' e0 e1 e2 e3 e4 e5 e6 e7 => ⟨ivx', ivx', ?_⟩)⟩)
    rw [clx] at e7
    have k := h s' _ _ _ _ e0 e1 e2 (by rw [e3]; rfl) e4 e5 e6 e7 ⟨rfl, rfl, by rw [if_pos rfl]; exact hr, rV x hx⟩
    rw [clx', e0.2 13 (by omega), e0.2 14 (by omega), zi_lt, rR x' hx', rV x' hx']
    refine ⟨fun c => ?_, fun c => ?_⟩
    · rw [p4, decide_eq_false (by omega)] at k; exact k
    · rw [p4, decide_eq_true (by omega)] at k; exact k
  | false =>
    unfold wS at hp; rw [if_neg (by decide)] at hp
    obtain ⟨p1, p2, p3, p4⟩ := hp
    have pa := p1.1
    have hr' : a / 7 < nRi g := by omega
    have U := hs.2.2.2.2.1 (a / 7) hr'; have g5 := hg.2.2.2.2.1 (a / 7) hr'
    have iv : vp_in (nI (a / 7)) 40 := vp_in_nI (by omega) (by omega)
    have cl : (nI (a / 7)).toNatClampNeg = a / 7 := nI_clamp (by omega)
    have ea : 7 * (a / 7) + a % 7 = a := by omega
    refine ⟨fun _ => sp_departureBefore hg hs hx hR hV ok p1 p2 ?_, fun c => absurd rfl c⟩
    rw [z_m7 (by omega), z_d7 (by omega), cl]
    refine sp_leavesM hg hs hr' (by omega) (by rw [ea]; exact p1.2.2.1.1) (fun r hr => ⟨ivx, sp_putM hn hn' (fun s' e0 e1 e2 e3 e4 e5 e6 e7 => ⟨iv, ?_⟩)⟩)
    rw [ea] at hr
    rw [clx] at e7
    have k := h s' _ _ _ _ e0 e1 e2 (by rw [e3]; rfl) e4 e5 e6 e7 ⟨rfl, rfl, by rw [if_neg (by decide)]; exact hr, rR x hx⟩
    rw [e0.2 1 (by omega), U.1, ← p3]
    refine sp_leavesM hg (nV_M e0 hs) hr' (by omega) (by rw [ea]; exact p1.2.2.1.1) (fun r2 hr2 => ⟨ivx', ?_⟩)
    rw [ea] at hr2
    rw [clx', e0.2 14 (by omega), zi_lt, hr2, rV x' hx']
    refine ⟨fun c => ?_, fun c => ?_⟩
    · rw [p4, decide_eq_false (by omega)] at k; exact k
    · rw [p4, decide_eq_true (by omega)] at k; exact k
