/-! next -/
def nQ (g : nT) (s : Nat) (t : Int) (k : Nat) : Prop := k < 7 * nRi g ∧ nLa g k ≠ -1 ∧ nRf g (k / 7) = s ∧ t ≤ nLv g k
set_option maxHeartbeats 1000000 in
theorem pr_next (u v : tS) (x1 x2 : Int32) (h : Rel u v) : w_T_next (fun r1 u1 => w_M_next (fun r2 v1 => r1 = r2 ∧ Rel u1 v1) x1 x2 v) x1 x2 u := by
  obtain ⟨g, nb, dp, hg, hu, hv, hb, hd, hp, ha⟩ := id h
  have g1 := hg.1; have g2 := hg.2.1; have hn2 := hb.2.1
  have bad : ¬ (zS g x1 ∧ zIn x2 0 10079) → w_M_next (fun r2 v1 => (-2) = r2 ∧ Rel u v1) x1 x2 v := fun hn => sp_isStop hg hv (fun a => q1 (sp_isIn (fun b => absurd ⟨a, b⟩ hn) (fun _ => q0 ⟨rfl, h⟩))) (fun _ => q0 ⟨rfl, h⟩)
  refine sp_hasStop hg hu (fun a => q1 (sp_isTime (fun b => q1 ?_) (fun b => q0 (bad (fun k => b k.2))))) (fun k => q0 (bad (fun z => k z.1)))
  obtain ⟨s, hs, rfl⟩ := z_S a
  obtain ⟨t, t1, t2, rfl⟩ := z_of b (by decide)
  have ct : (nI t).toInt = t := zi_n (by omega)
  -- the reference
  have model : ∀ r : Int32, ((r = -1 ∧ ∀ k, ¬ nQ g s t k) ∨ ∃ k, r = nI k ∧ nQ g s t k ∧ ∀ j, nQ g s t j → nLv g k < nLv g j ∨ (nLv g k = nLv g j ∧ k ≤ j)) → w_M_next (fun r2 v1 => r = r2 ∧ Rel u v1) (nI s) (nI t) v := by
    intro r hr
    refine sp_isStop hg hv (fun _ => q1 (sp_isIn (fun _ => q1 ?_) (fun k => absurd b k))) (fun k => absurd a k)
    refine pk_loop (σ := Int32 × Int32) (fun n k p => w_M_next_31 (fun r2 v1 => r = r2 ∧ Rel u v1) n (nI s) (nI t) p.1 p.2 (nI k) v)
      (fun k p => (p.1 = -1 ∧ p.2.toInt = 1000000 ∧ ∀ j, j < k → ¬ nQ g s t j) ∨ ∃ m, m < k ∧ p.1 = nI m ∧ p.2.toInt = nLv g m ∧ nQ g s t m ∧ ∀ j, j < k → nQ g s t j → nLv g m < nLv g j ∨ (nLv g m = nLv g j ∧ m ≤ j)) (7 * nRi g) 0 (-1, 1000000) (by omega)
      (Or.inl ⟨rfl, rfl, fun j hj => absurd hj (by omega)⟩)
      (fun n p hI => ⟨fun _ => ⟨?_, h⟩, fun q => absurd (by rw [hv.2.1, show (7 : Int32) = nI 7 from rfl, pk_mul]; exact nI_le (Nat.le_refl _) (by omega)) q⟩)
      (fun n k p hk hI hw => ⟨fun q => absurd q (by rw [hv.2.1, show (7 : Int32) = nI 7 from rfl, pk_mul]; exact nI_ge hk (by omega)), fun _ => ?_⟩)
    · rcases hI with ⟨i1, -, i3⟩ | ⟨m, m1, m2, m3, m4, m5⟩
      · rcases hr with ⟨r1, -⟩ | ⟨k, r1, r2, r3⟩
        · rw [r1, i1]
        · exact absurd r2 (i3 k r2.1)
      · rcases hr with ⟨r1, r2⟩ | ⟨k, r1, r2, r3⟩
        · exact absurd m4 (r2 m)
        · have x1 := r3 m m4; have x2 := m5 k r2.1 r2
          have : k = m := by omega
          rw [r1, m2, this]
    · obtain ⟨best, when⟩ := p
      have hr7 : k / 7 < nRi g := by omega
      have ek : 7 * (k / 7) + k % 7 = k := by omega
      have V := hv.2.2.2.2.1 (k / 7) hr7
      have g5 := hg.2.2.2.2.1 (k / 7) hr7
      rw [z_m7 (by omega), z_d7 (by omega), nI_clamp (by omega), V.1, nI_1]
      have skip : ¬ nQ g s t k ∨ (∃ m, m < k ∧ best = nI m ∧ when.toInt = nLv g m ∧ nLv g m ≤ nLv g k) → w_M_next_31 (fun r2 v1 => r = r2 ∧ Rel u v1) n (nI s) (nI t) best when (nI (k + 1)) v := fun hs => hw (best, when) (by
        rcases hI with ⟨i1, i2, i3⟩ | ⟨m, m1, m2, m3, m4, m5⟩
        · left
          refine ⟨i1, i2, fun j hj => ?_⟩
          by_cases e : j = k
          · subst e
            rcases hs with hs | ⟨m, m1, m2, -⟩
            · exact hs
            · have i1 : best = -1 := i1
              rw [i1] at m2
              have := congrArg Int32.toInt m2
              rw [zi_n (by omega), show (-1 : Int32).toInt = -1 from rfl] at this; omega
          · exact i3 j (by omega)
        · right
          refine ⟨m, by omega, m2, m3, m4, fun j hj hq => ?_⟩
          by_cases e : j = k
          · subst e
            rcases hs with hs | ⟨m', -, m2', m3', m4'⟩
            · exact absurd hq hs
            · have m3 : when.toInt = nLv g m := m3
              omega
          · exact m5 j (by omega) hq)
      refine ⟨vp_in_nI (by omega) (by omega), fun c => ?_, fun c => skip (Or.inl (fun q => c (by rw [q.2.2.1])))⟩
      have c := (nI_eq (by omega) (by omega)).mp c
      refine sp_goesM hg hv hr7 (by omega) (fun q => q1 ?_) (fun q => q0 (skip (Or.inl (fun z => z.2.1 (by rw [← ek]; exact q)))))
      refine sp_leavesM hg hv hr7 (by omega) q (fun z1 hz1 => ⟨fun y => skip (Or.inl (fun z => ?_)), fun y => ?_⟩)
      · rw [zi_lt, hz1, ct, ek] at y; have := z.2.2.2; omega
      · rw [zi_lt, hz1, ct, ek] at y
        rw [ek] at q
        have hQ : nQ g s t k := ⟨hk, q, c, by omega⟩
        have lvb := nLv_b hg hk q
        refine sp_leavesM hg hv hr7 (by omega) (by rw [ek]; exact q) (fun z2 hz2 => ⟨fun w => skip (Or.inr ?_), fun w => ?_⟩)
        · rw [zi_le, hz2, ek] at w
          have w : when.toInt ≤ nLv g k := w
          rcases hI with ⟨i1, i2, i3⟩ | ⟨m, m1, m2, m3, m4, m5⟩
          · have i2 : when.toInt = 1000000 := i2
            omega
          · have m3 : when.toInt = nLv g m := m3
            exact ⟨m, m1, m2, m3, by omega⟩
        · rw [zi_le, hz2, ek] at w
          have w : ¬ when.toInt ≤ nLv g k := w
          refine sp_leavesM hg hv hr7 (by omega) (by rw [ek]; exact q) (fun z3 hz3 => ?_)
          rw [ek] at hz3
          refine hw (nI k, z3) (Or.inr ⟨k, by omega, rfl, hz3, hQ, fun j hj hq => ?_⟩)
          by_cases e : j = k
          · subst e; right; exact ⟨rfl, Nat.le_refl _⟩
          · rcases hI with ⟨i1, i2, i3⟩ | ⟨m, m1, m2, m3, m4, m5⟩
            · exact absurd hq (i3 j (by omega))
            · have m3 : when.toInt = nLv g m := m3
              have := m5 j (by omega) hq; left; omega
  -- the class
  refine pk_loop (fun n p (_ : Unit) => w_Bo_firstFrom_3 (fun r1 u1 => w_M_next (fun r2 v1 => r1 = r2 ∧ Rel u1 v1) (nI s) (nI t) v) n (nI s) (nI t) (nI p) u) (fun p _ => ∀ q, q < p → ¬ nQ g s t (dp q)) nb 0 () (by omega) (fun q hq => absurd hq (by omega))
    (fun n _ hI => ⟨fun _ => model (-1) (Or.inl ⟨rfl, fun k hq => ?_⟩), fun q => absurd (show u.1 2 ≤ nI nb by rw [hb.1]; exact nI_le (Nat.le_refl _) (by omega)) q⟩)
    (fun n p _ hp hI hw => ⟨fun q => absurd q (by rw [hb.1]; exact nI_ge hp (by omega)), fun _ => ?_⟩)
  · obtain ⟨p, hp, rfl⟩ := hb.2.2.2.2 k hq.1 hq.2.1
    exact hI p hp hq
  · obtain ⟨p1, p2, p3, p4, p5, p6, p7, p8, -⟩ := nB_p hg hu hb hp
    have hB := hb.2.2.1 p hp
    have skip : ¬ nQ g s t (dp p) → w_Bo_firstFrom_3 (fun r1 u1 => w_M_next (fun r2 v1 => r1 = r2 ∧ Rel u1 v1) (nI s) (nI t) v) n (nI s) (nI t) (nI (p + 1)) u := fun hs => hw () (fun q hq => by
      by_cases e : q = p
      · subst e; exact hs
      · exact hI q (by omega))
    rw [nI_clamp (by omega), nI_1]
    refine ⟨vp_in_nI p1 (by omega), fun c => skip (fun z => ?_), fun c => sp_rideAt p1 p2 p6 ⟨vp_in_nI p3 (by omega), ?_⟩⟩
    · rw [zi_lt, p7, ct] at c; have : (t : Int) ≤ nLv g (dp p) := z.2.2.2; have c : nLv g (dp p) < t := c; omega
    · rw [zi_lt, p7, ct] at c
      have c : ¬ nLv g (dp p) < t := c
      rw [nI_clamp (by omega), p8]
      refine ⟨fun e => ⟨vp_in_nI p1 (by omega), ?_⟩, fun e => skip (fun z => e (by show nI (nRf g (dp p / 7)) = nI s; rw [z.2.2.1]))⟩
      have e : nRf g (dp p / 7) = s := (nI_eq (by have : nRf g (dp p / 7) < nSt g := p4; omega) (by omega)).mp e
      rw [p6]
      refine model _ (Or.inr ⟨dp p, rfl, ⟨hB.1, hB.2.1, e, by omega⟩, fun j hq => ?_⟩)
      obtain ⟨q, hq', rfl⟩ := hb.2.2.2.2 j hq.1 hq.2.1
      rcases Nat.lt_trichotomy q p with y | y | y
      · exact absurd hq (hI q y)
      · subst y; right; exact ⟨rfl, Nat.le_refl _⟩
      · have := hb.2.2.2.1 p q y hq'; omega
/-! of -/
def kB (p : Nat → Bool) : Nat → Nat
  | 0 => 0
  | n + 1 => kB p n + if p n = true then 1 else 0
theorem kB_s (p : Nat → Bool) (n : Nat) : kB p (n + 1) = kB p n + if p n = true then 1 else 0 := rfl
theorem kB_le (p : Nat → Bool) (n : Nat) : kB p n ≤ n := by
  induction n with
  | zero => exact Nat.le_refl _
  | succ n ih => rw [kB_s]; split <;> omega
theorem kB_0 {p : Nat → Bool} {n : Nat} (h : ∀ i, i < n → p i = false) : kB p n = 0 := by
  induction n with
  | zero => rfl
  | succ n ih => rw [kB_s, ih (fun i hi => h i (by omega)), h n (by omega)]; rfl
theorem kB_1 {p : Nat → Bool} {n i : Nat} (hi : i < n) (h1 : p i = true) (h : ∀ j, j < n → p j = true → j = i) : kB p n = 1 := by
  induction n with
  | zero => omega
  | succ n ih =>
    rw [kB_s]
    by_cases e : i = n
    · subst e
      rw [if_pos h1, kB_0 (fun j hj => by
        cases q : p j
        · rfl
        · have := h j (by omega) q; omega)]
    · rw [ih (by omega) (fun j hj => h j (by omega)), if_neg (fun q => e (h n (by omega) q).symm)]
theorem kB_add {p q r : Nat → Bool} {n : Nat} (h : ∀ i, i < n → (r i = true ↔ p i = true ∨ q i = true) ∧ ¬ (p i = true ∧ q i = true)) : kB r n = kB p n + kB q n := by
  induction n with
  | zero => rfl
  | succ n ih =>
    have := ih (fun i hi => h i (by omega)); have k := h n (by omega)
    rw [kB_s, kB_s, kB_s, this]
    by_cases a : p n = true <;> by_cases b : q n = true
    · exact absurd ⟨a, b⟩ k.2
    · rw [if_pos (k.1.mpr (Or.inl a)), if_pos a, if_neg b]; omega
    · rw [if_pos (k.1.mpr (Or.inr b)), if_neg a, if_pos b]; omega
    · rw [if_neg (fun z => (k.1.mp z).elim a b), if_neg a, if_neg b]; omega
/-- counting over the board is counting over the departures -/
theorem kB_board {dp : Nat → Nat} {nb M : Nat} {G q : Nat → Bool} (h1 : ∀ p, p < nb → dp p < M ∧ G (dp p) = true) (h2 : ∀ p p', p < nb → p' < nb → dp p = dp p' → p = p') (h3 : ∀ k, k < M → G k = true → ∃ p, p < nb ∧ dp p = k) : kB (fun p => q (dp p)) nb = kB (fun k => G k && q k) M := by
  have key : ∀ m, m ≤ M → kB (fun p => decide (dp p < m) && q (dp p)) nb = kB (fun k => G k && q k) m := by
    intro m
    induction m with
    | zero => intro _; rw [kB_0 (fun i _ => by simp)]; rfl
    | succ m ih =>
      intro hm
      rw [kB_s, ← ih (by omega), kB_add (p := fun p => decide (dp p < m) && q (dp p)) (q := fun p => decide (dp p = m) && q (dp p)) (fun i _ => by
        simp only [Bool.and_eq_true, decide_eq_true_eq]
        constructor
        · constructor
          · rintro ⟨a, b⟩
            rcases Nat.lt_or_ge (dp i) m with z | z
            · exact Or.inl ⟨z, b⟩
            · exact Or.inr ⟨by omega, b⟩
          · rintro (⟨a, b⟩ | ⟨a, b⟩)
            · exact ⟨by omega, b⟩
            · exact ⟨by omega, b⟩
        · rintro ⟨⟨a, -⟩, b, -⟩; omega)]
      congr 1
      by_cases e : (G m && q m) = true
      · rw [if_pos e]
        simp only [Bool.and_eq_true] at e
        obtain ⟨p, hp, rfl⟩ := h3 m (by omega) e.1
        exact kB_1 hp (by simp [e.2]) (fun j hj hz => by simp at hz; exact h2 j p hj hp hz.1)
      · rw [if_neg e]
        refine kB_0 (fun i hi => ?_)
        cases z : (decide (dp i = m) && q (dp i))
        · rfl
        · exfalso
          simp at z
          have := (h1 i hi).2
          rw [z.1] at this
          exact e (by rw [this, ← z.1, z.2]; rfl)
  rw [← key M (Nat.le_refl _)]
  have : ∀ n, n ≤ nb → kB (fun p => q (dp p)) n = kB (fun p => decide (dp p < M) && q (dp p)) n := by
    intro n
    induction n with
    | zero => intro _; rfl
    | succ n ih => intro hn; rw [kB_s, kB_s, ih (by omega)]; simp [(h1 n (by omega)).1]
  exact this nb (Nat.le_refl _)
theorem nB_inj {u : tS} {g : nT} {nb : Nat} {dp : Nat → Nat} (hb : nB u g nb dp) (p p' : Nat) (hp : p < nb) (hp' : p' < nb) (e : dp p = dp p') : p = p' := by
  rcases Nat.lt_trichotomy p p' with y | y | y
  · have := hb.2.2.2.1 p p' y hp'; rw [e] at this; omega
  · exact y
  · have := hb.2.2.2.1 p' p y hp; rw [e] at this; omega
theorem kB_nB {u : tS} {g : nT} {nb : Nat} {dp : Nat → Nat} (hb : nB u g nb dp) (q : Nat → Bool) : kB (fun p => q (dp p)) nb = kB (fun k => decide (nLa g k ≠ -1) && q k) (7 * nRi g) :=
  kB_board (G := fun k => decide (nLa g k ≠ -1)) (fun p hp => ⟨(hb.2.2.1 p hp).1, by simpa using (hb.2.2.1 p hp).2.1⟩) (nB_inj hb) (fun k hk hG => hb.2.2.2.2 k hk (by simpa using hG))
theorem kB_all (n : Nat) : kB (fun _ => true) n = n := by
  induction n with
  | zero => rfl
  | succ n ih => rw [kB_s, ih]; rfl
set_option maxHeartbeats 1000000 in
theorem sp_ofM {post : Int32 → tS → Prop} {v : tS} {g : nT} (hg : nOk g) (hv : nV v g) {x : Int32} (q : Nat → Bool) (hq3 : x = 3 → q = fun _ => true) (hq4 : ¬ x = 3 → q = fun k => decide (0 < nLa g k)) (h : post (nI (kB (fun k => decide (nLa g k ≠ -1) && q k) (7 * nRi g))) v) : ∃ k, w_M_of_49 post k x 0 0 v := by
  have g2 := hg.2.1
  refine pk_loop (fun n r (_ : Unit) => w_M_of_49 post n x (nI (kB (fun k => decide (nLa g k ≠ -1) && q k) (7 * r))) (nI r) v) (fun _ _ => True) (nRi g) 0 () (by omega) trivial
    (fun n _ _ => ⟨fun _ => h, fun c => absurd (show v.1 1 ≤ nI (nRi g) by rw [hv.2.1]; exact nI_le (Nat.le_refl _) (by omega)) c⟩)
    (fun n r _ hr _ hw => ⟨fun c => absurd c (by rw [hv.2.1]; exact nI_ge hr (by omega)), fun _ => ?_⟩)
  refine pk_loop (fun n' d (_ : Unit) => w_M_of_60 post (w_M_of_49 post n) n' x (nI (kB (fun k => decide (nLa g k ≠ -1) && q k) (7 * r + d))) (nI r) (nI d) v) (fun _ _ => True) 7 0 () (by omega) trivial
    (fun n' _ _ => ⟨fun _ => by rw [nI_1]; exact hw () trivial, fun c => absurd (show (7 : Int32) ≤ nI 7 by decide) c⟩)
    (fun n' d _ hd _ hw' => ⟨fun c => absurd c (show ¬ nI 7 ≤ nI d from nI_ge hd (by omega)), fun _ => ?_⟩)
  have n1 := hw' () trivial
  rw [show 7 * r + (d + 1) = 7 * r + d + 1 by omega, kB_s] at n1
  rw [nI_1, nI_1, Int32.add_zero]
  refine sp_goesM hg hv hr hd (fun m => q1 ?_) (fun m => q0 ?_)
  · have hl := hv.2.2.2.2.2.1 r d hr hd (nOn_of hg hr hd m)
    refine ⟨fun e => ?_, fun e => ?_⟩
    · rw [hq3 e] at n1 ⊢; rw [if_pos (by simp [m])] at n1; exact n1
    · rw [z_7', nI_clamp (by omega)]
      refine ⟨vp_in_nI (by omega) (by omega), fun c => ?_, fun c => ?_⟩
      · rw [zi_le, hl, show (0 : Int32).toInt = 0 from rfl] at c
        rw [hq4 e] at n1 ⊢; rw [if_neg (by simp; omega)] at n1; exact n1
      · rw [zi_le, hl, show (0 : Int32).toInt = 0 from rfl] at c
        rw [hq4 e] at n1 ⊢; rw [if_pos (by simp [m]; omega)] at n1; exact n1
  · rw [if_neg (by simp [m])] at n1; exact n1
set_option maxHeartbeats 1000000 in
theorem pr_of (u v : tS) (x1 : Int32) (h : Rel u v) : w_T_of (fun r1 u1 => w_M_of (fun r2 v1 => r1 = r2 ∧ Rel u1 v1) x1 v) x1 u := by
  obtain ⟨g, nb, dp, hg, hu, hv, hb, hd, hp, ha⟩ := id h
  have g2 := hg.2.1; have hn2 := hb.2.1
  have inn : ∀ {w : Nat}, w ≤ 4 → zIn (nI w) (0 : Int32).toInt (4 : Int32).toInt := fun hw => by unfold zIn; rw [zi_n (by omega)]; have : (0 : Int32).toInt = 0 := rfl; have : (4 : Int32).toInt = 4 := rfl; omega
  refine ⟨fun c => ?_, fun c0 => ⟨fun c => ?_, fun c1 => ⟨fun c => ?_, fun c2 => ⟨fun c => ?_, fun c3 => ⟨fun c => ?_, fun c4 => ?_⟩⟩⟩⟩⟩
  · subst c; exact sp_isIn (fun _ => q1 ⟨fun e => absurd e (by decide), fun _ => ⟨fun _ => ⟨hu.1.trans hv.1.symm, h⟩, fun e => absurd rfl e⟩⟩) (fun k => absurd (inn (w := 0) (by omega)) k)
  · subst c; exact sp_isIn (fun _ => q1 ⟨fun e => absurd e (by decide), fun _ => ⟨fun e => absurd e (by decide), fun _ => ⟨fun _ => ⟨hu.2.1.trans hv.2.1.symm, h⟩, fun e => absurd rfl e⟩⟩⟩) (fun k => absurd (inn (w := 1) (by omega)) k)
  · subst c; exact sp_isIn (fun _ => q1 ⟨fun e => absurd e (by decide), fun _ => ⟨fun e => absurd e (by decide), fun _ => ⟨fun e => absurd e (by decide), fun _ => ⟨hu.2.2.1.trans hv.2.2.1.symm, h⟩⟩⟩⟩) (fun k => absurd (inn (w := 2) (by omega)) k)
  · subst c
    refine sp_isIn (fun _ => q1 ⟨fun _ => sp_ofM hg hv (fun _ => true) (fun _ => rfl) (fun e => absurd rfl e) ⟨?_, h⟩, fun e => absurd (by decide) e⟩) (fun k => absurd (inn (w := 3) (by omega)) k)
    rw [← kB_nB hb (fun _ => true), kB_all, hb.1]
  · subst c
    have model : ∀ r : Int32, r = nI (kB (fun p => decide (0 < nLa g (dp p))) nb) → w_M_of (fun r2 v1 => r = r2 ∧ Rel u v1) 4 v := fun r hr => by
      refine sp_isIn (fun _ => q1 ⟨fun _ => sp_ofM hg hv (fun k => decide (0 < nLa g k)) (fun e => absurd e (by decide)) (fun _ => rfl) ⟨?_, h⟩, fun e => absurd (by decide) e⟩) (fun k => absurd (inn (w := 4) (by omega)) k)
      rw [← kB_nB hb (fun k => decide (0 < nLa g k)), hr]
    refine pk_loop (fun n p (_ : Unit) => w_Bo_countLate_4 (fun r91 u91 => w_M_of (fun r2 v1 => r91 = r2 ∧ Rel u91 v1) 4 v) n (nI (kB (fun p => decide (0 < nLa g (dp p))) p)) (nI p) u) (fun _ _ => True) nb 0 () (by omega) trivial
      (fun n _ _ => ⟨fun _ => model _ rfl, fun q => absurd (show u.1 2 ≤ nI nb by rw [hb.1]; exact nI_le (Nat.le_refl _) (by omega)) q⟩)
      (fun n p _ hp _ hw => ⟨fun q => absurd q (by rw [hb.1]; exact nI_ge hp (by omega)), fun _ => ?_⟩)
    obtain ⟨p1, p2, p3, p4, p5, p6, -⟩ := nB_p hg hu hb hp
    have hl := nU_la hu (hb.2.2.1 p hp).1
    have n1 := hw () trivial
    rw [kB_s] at n1
    rw [nI_clamp (by omega), p6, nI_clamp (by omega), nI_1, nI_1]
    refine ⟨vp_in_nI p1 (by omega), vp_in_nI p2 (by omega), fun c => ?_, fun c => ?_⟩
    · rw [zi_le, hl, show (0 : Int32).toInt = 0 from rfl] at c
      rw [if_neg (by simp; omega)] at n1; exact n1
    · rw [zi_le, hl, show (0 : Int32).toInt = 0 from rfl] at c
      rw [if_pos (by simp; omega)] at n1; exact n1
  · have hx : ¬ zIn x1 0 4 := fun q => by
      have a := q.1; have b := q.2
      have : x1.toInt = 0 ∨ x1.toInt = 1 ∨ x1.toInt = 2 ∨ x1.toInt = 3 ∨ x1.toInt = 4 := by omega
      rcases this with e | e | e | e | e
      · exact c0 (zi_eq.mpr e)
      · exact c1 (zi_eq.mpr e)
      · exact c2 (zi_eq.mpr e)
      · exact c3 (zi_eq.mpr e)
      · exact c4 (zi_eq.mpr e)
    exact sp_isIn (fun k => absurd k hx) (fun _ => q0 ⟨rfl, h⟩)
