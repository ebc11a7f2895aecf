/-! DEPARTURES -/
theorem z_on : ∀ D, D < 128 → ∀ d, d < 7 → (((nI D >>> (nI d &&& 31)) &&& 1) = 1 ↔ D / 2 ^ d % 2 = 1) := by decide +kernel
theorem z_7 {a b : Nat} : nI a * 7 + nI b = nI (7 * a + b) := by rw [show (7 : Int32) = nI 7 from rfl, pk_mul, nI_add, Nat.mul_comm]
theorem z_7' {a b : Nat} : 7 * nI a + nI b = nI (7 * a + b) := by rw [show (7 : Int32) = nI 7 from rfl, pk_mul, nI_add]
theorem z_d7 {k : Nat} (h : k < 2147483648) : nI k / 7 = nI (k / 7) := by rw [show (7 : Int32) = nI 7 from rfl]; exact pk_div h (by omega) (by omega)
theorem z_m7 {k : Nat} (h : k < 2147483648) : nI k - nI k / 7 * 7 = nI (k % 7) := by rw [show (7 : Int32) = nI 7 from rfl]; exact pk_rem h (by omega) (by omega)
theorem sp_isOnDay {post : Int32 → tS → Prop} {u : tS} {g : nT} {r d : Nat} (hr : r < 40) (hd : d < 7) (hb : nRd g r ≤ 127) (hu : u.2 5 r = nI (nRd g r)) (h1 : nOn g r d → post 1 u) (h0 : ¬ nOn g r d → post 0 u) : w_Ri_isOnDay post (nI r) (nI d) u := by
  refine ⟨vp_in_nI hr (by omega), ?_⟩
  rw [nI_clamp (by omega), hu]
  exact ⟨fun c => h1 ((z_on _ (by omega) d hd).mp c), fun c => h0 (fun q => c ((z_on _ (by omega) d hd).mpr q))⟩
theorem sp_isOn {post : Int32 → tS → Prop} {u : tS} {g : nT} {r d : Nat} (hr : r < 40) (hd : d < 7) (hb : nRd g r ≤ 127) (hu : u.2 5 r = nI (nRd g r)) (h1 : nOn g r d → post 1 u) (h0 : ¬ nOn g r d → post 0 u) : w_M_isOn post (nI r) (nI d) u := sp_isOnDay (g := g) hr hd hb hu h1 h0
theorem nLa_b {g : nT} (hg : nOk g) {k : Nat} (hk : k < 7 * nRi g) : -1 ≤ nLa g k ∧ nLa g k ≤ 300 := by
  have := hg.2.2.2.2.2.1 (k / 7) (k % 7) (by omega) (by omega)
  rw [show 7 * (k / 7) + k % 7 = k by omega] at this
  exact ⟨this.1, this.2.1⟩
theorem nLv_b {g : nT} (hg : nOk g) {k : Nat} (hk : k < 7 * nRi g) (hl : nLa g k ≠ -1) : 0 ≤ nLv g k ∧ nLv g k ≤ 10379 := by
  have h1 := nLa_b hg hk; have h2 := hg.2.2.2.2.1 (k / 7) (by omega); unfold nLv; omega
theorem nU_la {u : tS} {g : nT} (hu : nU u g) {k : Nat} (hk : k < 7 * nRi g) : (u.2 6 k).toInt = nLa g k := by
  have := hu.2.2.2.2.2.1 (k / 7) (k % 7) (by omega) (by omega)
  rw [show 7 * (k / 7) + k % 7 = k by omega] at this; exact this
theorem sp_goes {post : Int32 → tS → Prop} {u : tS} {l : Int} {k : Nat} (hk : k < 280) (hu : (u.2 6 k).toInt = l) (h1 : l ≠ -1 → post 1 u) (h0 : l = -1 → post 0 u) : w_Ri_goes post (nI k) u := by
  refine ⟨vp_in_nI hk (by omega), ?_⟩
  rw [nI_clamp (by omega)]
  refine ⟨fun c => h0 ?_, fun c => h1 (fun q => c ?_)⟩
  · rw [← hu, c]; rfl
  · rw [zi_eq, hu, q]; rfl
theorem sp_leaves {post : Int32 → tS → Prop} {u : tS} {k m : Nat} {l : Int} (hk : k < 280) (hm : m ≤ 1439) (hu3 : u.2 3 (k / 7) = nI m) (hu : (u.2 6 k).toInt = l) (hl : -1 ≤ l ∧ l ≤ 300) (h : ∀ r : Int32, r.toInt = 1440 * ((k % 7 : Nat) : Int) + m + l → post r u) : w_Ri_leaves post (nI k) u := by
  unfold w_Ri_leaves
  rw [z_m7 (by omega), z_d7 (by omega)]
  refine ⟨vp_in_nI (by omega) (by omega), vp_in_nI (by omega) (by omega), h _ ?_⟩
  rw [nI_clamp (by omega), nI_clamp (by omega), hu3]
  have e1 : (nI (k % 7) * 1440).toInt = 1440 * ((k % 7 : Nat) : Int) := by
    rw [show (1440 : Int32) = nI 1440 from rfl, pk_mul, zi_n (by omega)]; omega
  have e2 : (nI (k % 7) * 1440 + nI m).toInt = 1440 * ((k % 7 : Nat) : Int) + m := by
    rw [zi_add] <;> rw [e1, zi_n (by omega)] <;> omega
  rw [zi_add] <;> rw [e2, hu] <;> omega
theorem sp_goesM {post : Int32 → tS → Prop} {v : tS} {g : nT} {r d : Nat} (hg : nOk g) (hv : nV v g) (hr : r < nRi g) (hd : d < 7) (h1 : nLa g (7 * r + d) ≠ -1 → post 1 v) (h0 : nLa g (7 * r + d) = -1 → post 0 v) : w_M_goes post (nI r) (nI d) v := by
  have g2 := hg.2.1; have g5 := hg.2.2.2.2.1 r hr; have g6 := hg.2.2.2.2.2.1 r d hr hd
  refine sp_isOn (g := g) (by omega) hd g5.2.2.2.2.2.2.2 (hv.2.2.2.2.1 r hr).2.2.2.2 (fun a => q1 ?_) (fun a => q0 (h0 (g6.2.2 a)))
  have hl := hv.2.2.2.2.2.1 r d hr hd a
  rw [z_7']
  refine ⟨vp_in_nI (by omega) (by omega), ?_⟩
  rw [nI_clamp (by omega)]
  refine ⟨fun c => h0 ?_, fun c => h1 (fun q => c ?_)⟩
  · rw [← hl, c]; rfl
  · rw [zi_eq, hl, q]; rfl
theorem nOn_of {g : nT} (hg : nOk g) {r d : Nat} (hr : r < nRi g) (hd : d < 7) (h : nLa g (7 * r + d) ≠ -1) : nOn g r d := Classical.byContradiction (fun q => h ((hg.2.2.2.2.2.1 r d hr hd).2.2 q))
theorem sp_leavesM {post : Int32 → tS → Prop} {v : tS} {g : nT} {r d : Nat} (hg : nOk g) (hv : nV v g) (hr : r < nRi g) (hd : d < 7) (hl : nLa g (7 * r + d) ≠ -1) (h : ∀ z : Int32, z.toInt = nLv g (7 * r + d) → post z v) : w_M_leaves post (nI r) (nI d) v := by
  have g2 := hg.2.1; have g5 := hg.2.2.2.2.1 r hr; have g6 := hg.2.2.2.2.2.1 r d hr hd
  have hl2 := hv.2.2.2.2.2.1 r d hr hd (nOn_of hg hr hd hl)
  unfold w_M_leaves
  rw [z_7']
  refine ⟨vp_in_nI (by omega) (by omega), vp_in_nI (by omega) (by omega), h _ ?_⟩
  rw [nI_clamp (by omega), nI_clamp (by omega), (hv.2.2.2.2.1 r hr).2.2.1]
  have e1 : (1440 * nI d).toInt = 1440 * (d : Int) := by
    rw [show (1440 : Int32) = nI 1440 from rfl, pk_mul, zi_n (by omega)]; omega
  have e2 : (1440 * nI d + nI (nRm g r)).toInt = 1440 * (d : Int) + nRm g r := by
    rw [zi_add] <;> rw [e1, zi_n (by omega)] <;> omega
  unfold nLv
  rw [show (7 * r + d) / 7 = r by omega, show (7 * r + d) % 7 = d by omega]
  rw [zi_add] <;> rw [e2, hl2] <;> omega
theorem sp_arrivesM {post : Int32 → tS → Prop} {v : tS} {g : nT} {r d : Nat} (hg : nOk g) (hv : nV v g) (hr : r < nRi g) (hd : d < 7) (hl : nLa g (7 * r + d) ≠ -1) (h : ∀ z : Int32, z.toInt = nLv g (7 * r + d) + nRk g r → post z v) : w_M_arrives post (nI r) (nI d) v := by
  have g2 := hg.2.1; have g5 := hg.2.2.2.2.1 r hr
  have b := nLv_b hg (show 7 * r + d < 7 * nRi g by omega) hl
  refine sp_leavesM hg hv hr hd hl (fun z hz => ⟨vp_in_nI (by omega) (by omega), h _ ?_⟩)
  rw [nI_clamp (by omega), (hv.2.2.2.2.1 r hr).2.2.2.1, zi_add] <;> rw [hz, zi_n (by omega)] <;> omega
/-! told -/
def gBits (g : nT) (r : Nat) : Nat → Int32
  | 0 => 0
  | d + 1 => if nLa g (7 * r + d) = -1 then gBits g r d else gBits g r d ||| (1 <<< (nI d &&& 31))
theorem sp_goingDays {post : Int32 → tS → Prop} {u : tS} {g : nT} (hg : nOk g) (hu : nU u g) {r : Nat} (hr : r < nRi g) (h : post (gBits g r 7) u) : w_Ri_goingDays post (nI r) u := by
  have g2 := hg.2.1
  refine pk_loop (fun n d (_ : Unit) => w_Ri_goingDays_4 post n (nI r) (gBits g r d) (nI d) u) (fun _ _ => True) 7 0 () (by omega) trivial
    (fun n _ _ => ⟨fun _ => h, fun c => absurd (show (7 : Int32) ≤ nI 7 by decide) c⟩)
    (fun n d _ hd _ hw => ⟨fun c => absurd c (show ¬ nI 7 ≤ nI d from nI_ge hd (by omega)), fun _ => ?_⟩)
  rw [z_7, nI_1]
  refine sp_goes (l := nLa g (7 * r + d)) (by omega) (hu.2.2.2.2.2.1 r d hr hd) (fun q => q1 ?_) (fun q => q0 ?_)
  · have := hw () trivial; unfold gBits at this; rw [if_neg q] at this; exact this
  · have := hw () trivial; unfold gBits at this; rw [if_pos q] at this; exact this
theorem sp_toldM {post : Int32 → tS → Prop} {v : tS} {g : nT} (hg : nOk g) (hv : nV v g) {r : Nat} (hr : r < nRi g) (h : post (gBits g r 7) v) : ∃ k, w_M_told_96 post k (nI r) 0 0 v := by
  refine pk_loop (fun n d (_ : Unit) => w_M_told_96 post n (nI r) (gBits g r d) (nI d) v) (fun _ _ => True) 7 0 () (by omega) trivial
    (fun n _ _ => ⟨fun _ => h, fun c => absurd (show (7 : Int32) ≤ nI 7 by decide) c⟩)
    (fun n d _ hd _ hw => ⟨fun c => absurd c (show ¬ nI 7 ≤ nI d from nI_ge hd (by omega)), fun _ => ?_⟩)
  rw [nI_1]
  refine sp_goesM hg hv hr hd (fun q => q1 ?_) (fun q => q0 ?_)
  · have := hw () trivial; unfold gBits at this; rw [if_neg q] at this; exact this
  · have := hw () trivial; unfold gBits at this; rw [if_pos q] at this; rw [Int32.or_zero]; exact this
theorem pr_told (u v : tS) (x1 x2 : Int32) (h : Rel u v) : w_T_told (fun r1 u1 => w_M_told (fun r2 v1 => r1 = r2 ∧ Rel u1 v1) x1 x2 v) x1 x2 u := by
  obtain ⟨g, nb, dp, hg, hu, hv, hb, hd, hp, ha⟩ := id h
  have g2 := hg.2.1
  refine sp_has hg hu (fun hi => q1 ?_) (fun hi => q0 (sp_isRide hg hv (fun k => absurd k hi) (fun _ => q0 ⟨rfl, h⟩)))
  obtain ⟨r, hr, rfl⟩ := z_R hi
  have iv : vp_in (nI r) 40 := vp_in_nI (by omega) (by omega)
  have cl : (nI r).toNatClampNeg = r := nI_clamp (by omega)
  have U := hu.2.2.2.2.1 r hr; have V := hv.2.2.2.2.1 r hr
  rw [cl]
  have key : ∀ (w : Nat) (z : Int32), w ≤ 5 → ((nI w = 0 → vp_in (nI r) 40 ∧ z = v.2 1 r ∧ Rel u v) ∧ (¬ nI w = 0 → ((nI w = 1 → vp_in (nI r) 40 ∧ z = v.2 2 r ∧ Rel u v) ∧ (¬ nI w = 1 → ((nI w = 2 → vp_in (nI r) 40 ∧ z = v.2 3 r ∧ Rel u v) ∧ (¬ nI w = 2 → ((nI w = 3 → vp_in (nI r) 40 ∧ z = v.2 4 r ∧ Rel u v) ∧ (¬ nI w = 3 → ((nI w = 4 → vp_in (nI r) 40 ∧ z = v.2 5 r ∧ Rel u v) ∧ (¬ nI w = 4 → ∃ k, w_M_told_96 (fun r2 v1 => z = r2 ∧ Rel u v1) k (nI r) 0 0 v)))))))))) → w_M_told (fun r2 v1 => z = r2 ∧ Rel u v1) (nI r) (nI w) v := by
    intro w z hw hz
    refine sp_isRide hg hv (fun _ => q1 (sp_isIn (fun _ => q1 ?_) (fun k => absurd ?_ k))) (fun k => absurd hi k)
    · rw [cl]; exact hz
    · unfold zIn; rw [zi_n (by omega)]; have : (0 : Int32).toInt = 0 := rfl; have : (5 : Int32).toInt = 5 := rfl; omega
  refine ⟨fun c => ?_, fun c0 => ⟨fun c => ?_, fun c1 => ⟨fun c => ?_, fun c2 => ⟨fun c => ?_, fun c3 => ⟨fun c => ?_, fun c4 => ⟨fun c => ?_, fun c5 => ?_⟩⟩⟩⟩⟩⟩
  · subst c; exact ⟨iv, key 0 _ (by omega) ⟨fun _ => ⟨iv, U.1.trans V.1.symm, h⟩, fun e => absurd rfl e⟩⟩
  · subst c; exact ⟨iv, key 1 _ (by omega) ⟨fun e => absurd e (by decide), fun _ => ⟨fun _ => ⟨iv, U.2.1.trans V.2.1.symm, h⟩, fun e => absurd rfl e⟩⟩⟩
  · subst c; exact ⟨iv, key 2 _ (by omega) ⟨fun e => absurd e (by decide), fun _ => ⟨fun e => absurd e (by decide), fun _ => ⟨fun _ => ⟨iv, U.2.2.1.trans V.2.2.1.symm, h⟩, fun e => absurd rfl e⟩⟩⟩⟩
  · subst c; exact ⟨iv, key 3 _ (by omega) ⟨fun e => absurd e (by decide), fun _ => ⟨fun e => absurd e (by decide), fun _ => ⟨fun e => absurd e (by decide), fun _ => ⟨fun _ => ⟨iv, U.2.2.2.1.trans V.2.2.2.1.symm, h⟩, fun e => absurd rfl e⟩⟩⟩⟩⟩
  · subst c; exact ⟨iv, key 4 _ (by omega) ⟨fun e => absurd e (by decide), fun _ => ⟨fun e => absurd e (by decide), fun _ => ⟨fun e => absurd e (by decide), fun _ => ⟨fun e => absurd e (by decide), fun _ => ⟨fun _ => ⟨iv, U.2.2.2.2.trans V.2.2.2.2.symm, h⟩, fun e => absurd rfl e⟩⟩⟩⟩⟩⟩
  · subst c
    exact sp_goingDays hg hu hr (key 5 _ (by omega) ⟨fun e => absurd e (by decide), fun _ => ⟨fun e => absurd e (by decide), fun _ => ⟨fun e => absurd e (by decide), fun _ => ⟨fun e => absurd e (by decide), fun _ => ⟨fun e => absurd e (by decide), fun _ => sp_toldM hg hv hr ⟨rfl, h⟩⟩⟩⟩⟩⟩)
  · have hx : ¬ zIn x2 0 5 := fun q => by
      have a := q.1; have b := q.2
      have : x2.toInt = 0 ∨ x2.toInt = 1 ∨ x2.toInt = 2 ∨ x2.toInt = 3 ∨ x2.toInt = 4 ∨ x2.toInt = 5 := by omega
      rcases this with e | e | e | e | e | e
      · exact c0 (zi_eq.mpr e)
      · exact c1 (zi_eq.mpr e)
      · exact c2 (zi_eq.mpr e)
      · exact c3 (zi_eq.mpr e)
      · exact c4 (zi_eq.mpr e)
      · exact c5 (zi_eq.mpr e)
    exact sp_isRide hg hv (fun _ => q1 (sp_isIn (fun k => absurd k hx) (fun _ => q0 ⟨rfl, h⟩))) (fun k => absurd hi k)
