theorem mZ_ex (N : Int) (D : Nat → Nat → Int) (n : Nat) (yy : Nat → Nat) (ll : Nat → Int) (on : Nat → Int) (f z : Nat) (t : Int) : ∃ e, mZ N D n yy ll on f z t e := by
  obtain ⟨b, hb⟩ : ∃ b, b = if t + mA D f z < N then t + mA D f z else N := ⟨_, rfl⟩
  have b1 : b ≤ N ∧ b ≤ t + mA D f z ∧ (b = N ∨ b = t + mA D f z) := by rw [hb]; split <;> omega
  have m1 := mI_b (fun i => t + mA D f (yy i) ≤ ll i) on b n
  refine ⟨mI (fun i => t + mA D f (yy i) ≤ ll i) on b n, by omega, by omega, fun i hi hp => mI_g _ _ _ _ i hi hp, ?_⟩
  rcases mI_at (fun i => t + mA D f (yy i) ≤ ll i) on b n with e | ⟨i, i1, i2, i3⟩
  · rw [e]; rcases b1.2.2 with q | q
    · exact Or.inl q
    · exact Or.inr (Or.inl q)
  · exact Or.inr (Or.inr ⟨i, i1, i2, i3⟩)
set_option maxHeartbeats 1000000 in
theorem pr_latest (u v : tS) (x1 x2 x3 : Int32) (h : Rel u v) : w_T_latest (fun r1 u1 => w_M_latest (fun r2 v1 => r1 = r2 ∧ Rel u1 v1) x1 x2 x3 v) x1 x2 x3 u := by
  obtain ⟨g, nb, dp, hg, hu, hv, hb, hd, hp, ha⟩ := id h
  have g1 := hg.1
  have bad : ¬ (zS g x1 ∧ zS g x2 ∧ zIn x3 0 20000) → w_M_latest (fun r2 v1 => (-2) = r2 ∧ Rel u v1) x1 x2 x3 v := fun hn =>
    sp_isStop hg hv (fun a => q1 (sp_isStop hg hv (fun b => q1 (sp_isIn (fun c => absurd ⟨a, b, c⟩ hn) (fun _ => q0 ⟨rfl, h⟩))) (fun _ => q0 ⟨rfl, h⟩))) (fun _ => q0 ⟨rfl, h⟩)
  refine sp_hasStops hg hu (fun a b => q1 (sp_isBy (fun c => q1 ?_) (fun c => q0 (bad (fun k => c k.2.2))))) (fun k => q0 (bad (fun z => k ⟨z.1, z.2.1⟩)))
  obtain ⟨f, hf, rfl⟩ := z_S a
  obtain ⟨x, hx, rfl⟩ := z_S b
  obtain ⟨B, t1, t2, rfl⟩ := z_of c (by decide)
  have hB : B ≤ 20000 := by omega
  obtain ⟨on, hon⟩ := on_ex hg hu hb hd x
  refine sp_latestBeginning hg hu hb hd hx hf hB hon (fun O r L l1 l2 l3 hr => ?_)
  have cB : (nI B).toInt = B := zi_n (by omega)
  -- by is kept just up to L
  have key : ∀ (t : Nat) (R V : Nat → Int), mG 1000000 (gW g) (gD g) (gC g) f t R V → (mn (R x) (V x) ≤ (nI B).toInt ↔ (t : Int) ≤ L) := by
    intro t R V hG
    obtain ⟨e, he⟩ := mZ_ex 1000000 (gS u) nb (bY g dp) (bL g dp) on f x t
    rw [on_eq hg hu hb hd hon hG he, cB]
    obtain ⟨e1, e2, e3, e4⟩ := he
    constructor
    · intro q
      rcases e4 with k | k | ⟨i, i1, i2, k⟩
      · omega
      · omega
      · have := l2 i i1 (by omega); omega
    · intro q
      rcases l3 with k | ⟨j, j1, j2, k⟩
      · omega
      · have := e3 j j1 (by omega); omega
  obtain ⟨res, hres⟩ : ∃ res : Int, res = if L < 0 then -1 else if 10079 < L then 10079 else L := ⟨_, rfl⟩
  rw [← hres] at hr
  have rb : -1 ≤ res ∧ res ≤ 10079 := by rw [hres]; split <;> (try split) <;> omega
  refine sp_isStop hg hv (fun _ => q1 (sp_isStop hg hv (fun _ => q1 (sp_isIn (fun _ => q1 ?_) (fun k => absurd c k))) (fun k => absurd b k))) (fun k => absurd a k)
  refine loop_m (σ := tS × Int32 × Int32) (fun n p => w_M_latest_38 (fun r2 v1 => r = r2 ∧ Rel (s7 u O (u.2 18)) v1) n (nI f) (nI x) (nI B) p.2.1 p.2.2 p.1)
    (fun p => eV v p.1 ∧ -1 ≤ p.2.1.toInt ∧ p.2.1.toInt ≤ res ∧ res ≤ p.2.2.toInt ∧ p.2.2.toInt ≤ 10079) (fun p => (p.2.2.toInt - p.2.1.toInt).toNat) ?_ (v, -1, 10079) ⟨eV_rf v, show -1 ≤ (-1 : Int32).toInt by decide, rb.1, rb.2, show (10079 : Int32).toInt ≤ 10079 by decide⟩
  rintro n ⟨v', lo, hi⟩ ⟨k1, k2, k3, k4, k5⟩ ih
  have k2 : -1 ≤ lo.toInt := k2
  have k3 : lo.toInt ≤ res := k3
  have k4 : res ≤ hi.toInt := k4
  have k5 : hi.toInt ≤ 10079 := k5
  show ((hi ≤ lo → _ ∧ _) ∧ (¬ hi ≤ lo → w_M_isBy _ (nI f) (nI x) ((lo + hi + 1) / 2) (nI B) v'))
  refine ⟨fun q => ⟨?_, Rel_e (s7_e u O _) k1 h⟩, fun q => ?_⟩
  · show r = lo
    rw [zi_le] at q; rw [zi_eq, hr]; omega
  · rw [zi_le] at q
    obtain ⟨s, hs⟩ : ∃ s : Nat, (s : Int) = lo.toInt + hi.toInt + 1 := ⟨(lo.toInt + hi.toInt + 1).toNat, by omega⟩
    have e1 : lo + hi + 1 = nI s := by
      apply zi_nI
      have e2 : (lo + hi).toInt = lo.toInt + hi.toInt := by rw [zi_add] <;> omega
      rw [zi_add] <;> rw [e2, show (1 : Int32).toInt = 1 from rfl] <;> omega
    have e3 : nI s / 2 = nI (s / 2) := by rw [show (2 : Int32) = nI 2 from rfl]; exact pk_div (by omega) (by omega) (by omega)
    have em : (nI (s / 2)).toInt = ((s / 2 : Nat) : Int) := zi_n (by omega)
    have em1 : (nI (s / 2) - 1).toInt = ((s / 2 : Nat) : Int) - 1 := by
      rw [zi_sub] <;> rw [em, show (1 : Int32).toInt = 1 from rfl] <;> omega
    rw [e1, e3]
    have h3 : ((s / 2 : Nat) : Int) ≤ L ↔ ((s / 2 : Nat) : Int) ≤ res := by
      rw [hres]; split <;> (try split) <;> omega
    refine sp_isByM hg (nV_e k1 hv) hf hx (by omega) (fun v2 R V e hG hle => q1 ?_) (fun v2 R V e hG hle => q0 ?_)
    · have := h3.mp ((key _ R V hG).mp hle)
      refine ih (v2, nI (s / 2), hi) ⟨eV_tr k1 e, ?_, ?_, k4, k5⟩ ?_
      · show -1 ≤ (nI (s / 2)).toInt; omega
      · show (nI (s / 2)).toInt ≤ res; omega
      · show (hi.toInt - (nI (s / 2)).toInt).toNat < (hi.toInt - lo.toInt).toNat; omega
    · have : ¬ ((s / 2 : Nat) : Int) ≤ res := fun q => hle ((key _ R V hG).mpr (h3.mpr q))
      refine ih (v2, lo, nI (s / 2) - 1) ⟨eV_tr k1 e, k2, k3, ?_, ?_⟩ ?_
      · show res ≤ (nI (s / 2) - 1).toInt; omega
      · show (nI (s / 2) - 1).toInt ≤ 10079; omega
      · show ((nI (s / 2) - 1).toInt - lo.toInt).toNat < (hi.toInt - lo.toInt).toNat; omega
