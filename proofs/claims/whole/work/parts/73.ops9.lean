/-! reach -/
def gR (A : Nat → Int) (by_ : Int) : Nat → Int32
  | 0 => 0
  | s + 1 => if A s ≤ by_ then gR A by_ s ||| (1 <<< (nI s &&& 31)) else gR A by_ s
theorem gR_s (A : Nat → Int) (b : Int) (s : Nat) : gR A b (s + 1) = if A s ≤ b then gR A b s ||| (1 <<< (nI s &&& 31)) else gR A b s := rfl
theorem pr_reach (u v : tS) (x1 x2 x3 : Int32) (h : Rel u v) : w_T_reach (fun r1 u1 => w_M_reach (fun r2 v1 => r1 = r2 ∧ Rel u1 v1) x1 x2 x3 v) x1 x2 x3 u := by
  obtain ⟨g, nb, dp, hg, hu, hv, hb, hd, hp, ha⟩ := id h
  have g1 := hg.1
  have bad : ¬ (zS g x1 ∧ zIn x2 0 10079 ∧ zIn x3 0 20000) → w_M_reach (fun r2 v1 => (-2) = r2 ∧ Rel u v1) x1 x2 x3 v := fun hn =>
    sp_isStop hg hv (fun a => q1 (sp_isIn (fun b => q1 (sp_isIn (fun c => absurd ⟨a, b, c⟩ hn) (fun _ => q0 ⟨rfl, h⟩))) (fun _ => q0 ⟨rfl, h⟩))) (fun _ => q0 ⟨rfl, h⟩)
  refine sp_hasStop hg hu (fun a => q1 (sp_isTime (fun b => q1 (sp_isBy (fun c => q1 ?_) (fun c => q0 (bad (fun k => c k.2.2))))) (fun b => q0 (bad (fun k => b k.2.1))))) (fun k => q0 (bad (fun z => k z.1)))
  obtain ⟨f, hf, rfl⟩ := z_S a
  obtain ⟨t, t1, t2, rfl⟩ := z_of b (by decide)
  have ht : t ≤ 10079 := by omega
  refine sp_find hg hu hb hd hf ht (fun R V hG => ?_)
  refine pk_loop (fun n s (_ : Unit) => w_T_reach_47 (fun r1 u1 => w_M_reach (fun r2 v1 => r1 = r2 ∧ Rel u1 v1) (nI f) (nI t) x3 v) n x3 (gR (fun s => mn (iA R s) (iA V s)) x3.toInt s) (nI s) (s2 u R V)) (fun _ _ => True) (nSt g) 0 () (by omega) trivial
    (fun n _ _ => ⟨fun _ => ?_, fun q => absurd (show (s2 u R V).1 0 ≤ nI (nSt g) by rw [s2_1, hu.1]; exact nI_le (Nat.le_refl _) (by omega)) q⟩)
    (fun n s _ hs _ hw => ⟨fun q => absurd q (by rw [s2_1, hu.1]; exact nI_ge hs (by omega)), fun _ => sp_first (by omega) (fun r hr => ?_)⟩)
  · refine sp_isStop hg hv (fun _ => q1 (sp_isIn (fun _ => q1 (sp_isIn (fun _ => q1 (sp_findM hg hv hf ht (fun v' R2 V2 b2 e o1 o2 hG2 => ?_))) (fun k => absurd c k))) (fun k => absurd b k))) (fun k => absurd a k)
    have k := fun x => mG_one hG hG2 x
    have hv' := nV_e e hv
    refine pk_loop (fun n s (_ : Unit) => w_M_reach_45 (fun r2 v1 => gR (fun s => mn (iA R s) (iA V s)) x3.toInt (nSt g) = r2 ∧ Rel (s2 u R V) v1) n x3 (gR (fun s => mn (iA R s) (iA V s)) x3.toInt s) (nI s) (m3 v' R2 V2 b2)) (fun _ _ => True) (nSt g) 0 () (by omega) trivial
      (fun n _ _ => ⟨fun _ => ⟨rfl, Rel_e (s2_e u R V) (m3_E R2 V2 b2 e) h⟩, fun q => absurd (show (m3 v' R2 V2 b2).1 0 ≤ nI (nSt g) by rw [m3_1 _ _ _ _ (by omega), hv'.1]; exact nI_le (Nat.le_refl _) (by omega)) q⟩)
      (fun n s _ hs _ hw => ⟨fun q => absurd q (by rw [m3_1 _ _ _ _ (by omega), hv'.1]; exact nI_ge hs (by omega)), fun _ => sp_arrival (by omega) (fun r hr => ?_)⟩)
    rw [← (k s).1, ← (k s).2] at hr
    have n1 := hw () trivial
    rw [gR_s] at n1
    rw [nI_1, Int32.or_zero]
    refine ⟨fun q => ?_, fun q => ?_⟩
    · rw [zi_lt, hr] at q; rw [if_neg (by (try dsimp only); omega)] at n1; exact n1
    · rw [zi_lt, hr] at q; rw [if_pos (by (try dsimp only); omega)] at n1; exact n1
  · have n1 := hw () trivial
    rw [gR_s] at n1
    rw [nI_1]
    refine ⟨fun q => ?_, fun q => ?_⟩
    · rw [zi_lt, hr] at q; rw [if_neg (by (try dsimp only); omega)] at n1; exact n1
    · rw [zi_lt, hr] at q; rw [if_pos (by (try dsimp only); omega)] at n1; exact n1
