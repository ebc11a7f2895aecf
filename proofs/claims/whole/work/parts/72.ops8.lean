theorem sp_beginM {post : tS → Prop} {v : tS} {f t : Nat} (hf : f < 12) (h : ∀ R V : Nat → Int32, (∀ x, x < 12 → R x = 1000000 ∧ V x = if x = f then nI t else 1000000) → post (m3 v R V (v.1 5))) : w_M_begin post (nI f) (nI t) v := by
  suffices hh : ∃ n, w_M_begin_2 post n (nI f) (nI t) (nI 0) (m3 v (v.2 13) (v.2 14) (v.1 5)) by
    rw [m3_eta] at hh; exact hh
  refine pk_loop (σ := (Nat → Int32) × (Nat → Int32)) (fun n x p => w_M_begin_2 post n (nI f) (nI t) (nI x) (m3 v p.1 p.2 (v.1 5))) (fun x p => ∀ y, y < x → p.1 y = 1000000 ∧ p.2 y = if y = f then nI t else 1000000) 12 0 (v.2 13, v.2 14) (by omega)
    (fun y hy => absurd hy (by omega))
    (fun n p hI => ⟨fun _ => h p.1 p.2 (fun x hx => hI x hx), fun c => absurd (show (12 : Int32) ≤ nI 12 by decide) c⟩)
    (fun n x p hx hI hw => ⟨fun c => absurd c (show ¬ nI 12 ≤ nI x from nI_ge hx (by omega)), fun _ => ⟨vp_in_nI hx (by omega), fun e => ⟨vp_in_nI hx (by omega), ?_⟩, fun e => ⟨vp_in_nI hx (by omega), ?_⟩⟩⟩)
  · have e := (nI_eq (by omega) (by omega)).mp e
    rw [m3_A13, m3_A14, nI_1, nI_clamp (by omega)]
    refine hw (_, _) (fun y hy => ?_)
    show upd p.1 x 1000000 y = 1000000 ∧ upd p.2 x (nI t) y = _
    by_cases q : y = x
    · subst q; rw [pk_us, pk_us, if_pos e]; exact ⟨rfl, rfl⟩
    · rw [pk_un q, pk_un q]; exact hI y (by omega)
  · have e : ¬ x = f := fun q => e (by rw [q])
    rw [m3_A13, m3_A14, nI_1, nI_clamp (by omega)]
    refine hw (_, _) (fun y hy => ?_)
    show upd p.1 x 1000000 y = 1000000 ∧ upd p.2 x 1000000 y = _
    by_cases q : y = x
    · subst q; rw [pk_us, pk_us, if_neg e]; exact ⟨rfl, rfl⟩
    · rw [pk_un q, pk_un q]; exact hI y (by omega)
/-- what the reference begins with: the greatest pair without departures -/
theorem sp_begin0 {post : tS → Prop} {v : tS} {g : nT} (hg : nOk g) (hv : nV v g) {f t : Nat} (hf : f < nSt g) (ht : t ≤ 10079) (T : (Nat → Int) → (Nat → Int) → Prop)
    (hT : ∀ R' V', T R' V' → V' f ≤ t ∧ (∀ x, R' x ≤ 1000000 ∧ V' x ≤ 1000000) ∧ ∀ y x d, gW g y x d → V' x ≤ R' y + d ∧ V' x ≤ V' y + d)
    (h : ∀ (R V : Nat → Int32) (b : Int32), okR R → okR V → (∀ x, iA R x = 1000000) → iA V f ≤ t → (∀ y x d, gW g y x d → iA V x ≤ iA R y + d ∧ iA V x ≤ iA V y + d) → (∀ R' V', T R' V' → ∀ x, R' x ≤ iA R x ∧ V' x ≤ iA V x) → post (m3 v R V b)) : w_M_begin (fun u3 => w_M_goWalks post u3) (nI f) (nI t) v := by
  have g1 := hg.1
  refine sp_beginM (by omega) (fun R V h0 => ?_)
  have eR : ∀ x, iA R x = 1000000 := fun x => by unfold iA; split; rename_i q; rw [(h0 x q).1]; rfl; rfl
  have eV : ∀ x, iA V x = if x = f then (t : Int) else 1000000 := fun x => by
    unfold iA; split
    · rename_i q; rw [(h0 x q).2]; split
      · exact zi_n (by omega)
      · rfl
    · rw [if_neg (by omega)]
  have okr : okR R := fun x hx => by have := eR x; rw [iA_in hx] at this; omega
  have okv : okR V := fun x hx => by have := eV x; rw [iA_in hx] at this; split at this <;> omega
  refine sp_goWalks hg hv okr okv T (fun R' V' ht => (hT R' V' ht).2.2) (fun R' V' ht x => ⟨by rw [eR]; exact ((hT R' V' ht).2.1 x).1, ?_⟩) (fun V1 b o1 l1 c1 u1 _ => h R V1 b okr o1 eR ?_ c1 u1)
  · rw [eV]; split
    · rename_i e; subst e; exact (hT R' V' ht).1
    · exact ((hT R' V' ht).2.1 x).2
  · have := l1 f; rw [eV, if_pos rfl] at this; exact this
theorem gM_mono {g : nT} {R V R' V' : Nat → Int} (h : ∀ x, R' x ≤ R x ∧ V' x ≤ V x) {k : Nat} (hm : gM g R V k) : gM g R' V' k := by
  have := h (nRf g (k / 7))
  exact ⟨hm.1, by rcases hm.2 with q | q; exact Or.inl (by omega); exact Or.inr (by omega)⟩
set_option maxHeartbeats 1000000 in
theorem sp_findM {post : tS → Prop} {v : tS} {g : nT} (hg : nOk g) (hv : nV v g) {f t : Nat} (hf : f < nSt g) (ht : t ≤ 10079)
    (h : ∀ (v' : tS) (R V : Nat → Int32) (b : Int32), eV v v' → okR R → okR V → mG 1000000 (gW g) (gD g) (gC g) f t (iA R) (iA V) → post (m3 v' R V b)) : w_M_find post (nI f) (nI t) v := by
  have nn : ∀ {W : Nat → Int32}, okR W → 0 ≤ sN (iA W) 12 := fun hW => sN_nn (fun x hx => by rw [iA_in hx]; exact (hW x hx).1)
  have cap : ∀ {W : Nat → Int32}, okR W → ∀ x, iA W x ≤ 1000000 := fun hW x => by unfold iA; split; rename_i q; exact (hW x q).2; exact Int.le_refl _
  refine sp_begin0 hg hv hf ht (fun R' V' => (∀ x, R' x ≤ 1000000 ∧ V' x ≤ 1000000) ∧ mC (gW g) (gD g) (gC g) f t R' V') (fun R' V' ht => ⟨ht.2.1, ht.1, ht.2.2.1⟩) (fun R0 V0 b0 o1 o2 _ c1 c2 c3 => ?_)
  rw [m3_I]
  refine loop_m (σ := tS × (Nat → Int32) × (Nat → Int32) × Int32) (fun n p => w_M_find_15 post n (m3 p.1 p.2.1 p.2.2.1 p.2.2.2))
    (fun p => eV v p.1 ∧ (p.2.2.2 = 0 ∨ p.2.2.2 = 1) ∧ okR p.2.1 ∧ okR p.2.2.1 ∧ iA p.2.2.1 f ≤ t ∧ (∀ y x d, gW g y x d → iA p.2.2.1 x ≤ iA p.2.1 y + d ∧ iA p.2.2.1 x ≤ iA p.2.2.1 y + d) ∧ (∀ R' V', ((∀ x, R' x ≤ 1000000 ∧ V' x ≤ 1000000) ∧ mC (gW g) (gD g) (gC g) f t R' V') → ∀ x, R' x ≤ iA p.2.1 x ∧ V' x ≤ iA p.2.2.1 x) ∧ (p.2.2.2 = 0 → ∀ k, k < 7 * nRi g → gM g (iA p.2.1) (iA p.2.2.1) k → iA p.2.1 (nRt g (k / 7)) ≤ gA g k))
    (fun p => 2 * (sN (iA p.2.1) 12 + sN (iA p.2.2.1) 12).toNat + p.2.2.2.toInt.toNat) ?_ (v, R0, V0, 1) ⟨eV_rf v, Or.inr rfl, o1, o2, c1, c2, c3, fun e => absurd e (show ¬ (1 : Int32) = 0 by decide)⟩
  rintro n ⟨v', R, V, b⟩ ⟨k1, k2, k3, k4, k5, k6, k7, k8⟩ ih
  have k3 : okR R := k3
  have k4 : okR V := k4
  show (( (m3 v' R V b).1 5 = 0 → post (m3 v' R V b)) ∧ (¬ (m3 v' R V b).1 5 = 0 → w_M_goRides (fun u23 => w_M_find_15 post n u23) (m3 v' R V b)))
  rw [m3_5]
  refine ⟨fun e => ?_, fun e => ?_⟩
  · refine h v' R V b k1 k3 k4 ⟨fun x => ⟨cap k3 x, cap k4 x⟩, ⟨k5, k6, ?_⟩, fun R' V' hb hc => k7 R' V' ⟨hb, hc⟩⟩
    rintro y x l w ⟨k, hk, hl, rfl, rfl, rfl, rfl⟩ hc
    exact k8 e k hk ⟨hl, hc⟩
  · have b1 : b = 1 := by rcases k2 with q | q; exact absurd q e; exact q
    refine sp_goRides hg (nV_e k1 hv) k3 k4 (fun R' V' => (∀ x, R' x ≤ 1000000 ∧ V' x ≤ 1000000) ∧ mC (gW g) (gD g) (gC g) f t R' V') (fun R' V' ht => ht.2.2.1) (fun R' V' ht k hk hm => ?_) k7 (fun v2 R1 V1 b1' e2 p1 p2 p3 p4 p5 p6 p7 p8 => ?_)
    · have := gM_mono (k7 R' V' ht) hm
      exact ht.2.2.2 _ _ _ _ ⟨k, hk, hm.1, rfl, rfl, rfl, rfl⟩ this.2
    · refine ih (v2, R1, V1, b1') ⟨eV_tr k1 e2, ?_, p1, p2, Int.le_trans (p4 f) k5, p5, p7, fun e => ?_⟩ ?_
      · rcases p8 with q | q
        · exact Or.inl q.1
        · exact Or.inr q.1
      · rcases p8 with ⟨-, q1, q2⟩ | ⟨q, -⟩
        · intro k hk hm
          refine p6 k hk ?_
          have a1 : iA R1 = iA R := funext q1
          have a2 : iA V1 = iA V := funext q2
          have hm : gM g (iA R1) (iA V1) k := hm
          rw [a1, a2] at hm; exact hm
        · have e : b1' = 0 := e
          rw [q] at e; exact absurd e (by decide)
      · show 2 * (sN (iA R1) 12 + sN (iA V1) 12).toNat + b1'.toInt.toNat < 2 * (sN (iA R) 12 + sN (iA V) 12).toNat + b.toInt.toNat
        have z1 : (1 : Int32).toInt.toNat = 1 := rfl
        have z0 : (0 : Int32).toInt.toNat = 0 := rfl
        have a1 := nn k3; have a2 := nn k4; have a3 := nn p1; have a4 := nn p2
        rw [b1]
        rcases p8 with ⟨q, q1, q2⟩ | ⟨q, q1⟩
        · have := sN_eq (n := 12) (fun x _ => q1 x); have := sN_eq (n := 12) (fun x _ => q2 x)
          rw [q]; omega
        · rw [q]; omega
/-- what both answer: the arrival -/
theorem sp_first {post : Int32 → tS → Prop} {u : tS} {R V : Nat → Int32} {x : Nat} (hx : x < 12) (h : ∀ r : Int32, r.toInt = mn (iA R x) (iA V x) → post r (s2 u R V)) : w_Ar_first post (nI x) (s2 u R V) := by
  have iv : vp_in (nI x) 12 := vp_in_nI hx (by omega)
  unfold w_Ar_first
  rw [nI_clamp (by omega)]
  refine ⟨iv, iv, h _ ?_⟩
  show (if V x < R x then V x else R x).toInt = _
  rw [zi_if, iA_in hx, iA_in hx]; unfold mn
  by_cases c : V x < R x
  · rw [if_pos c]; rw [zi_lt] at c; split <;> omega
  · rw [if_neg c]; rw [zi_lt] at c; split <;> omega
theorem sp_found {post : Int32 → tS → Prop} {v : tS} {g : nT} (hg : nOk g) (hv : nV v g) {f x t : Nat} (hf : f < nSt g) (hx : x < nSt g) (ht : t ≤ 10079)
    (h : ∀ (v' : tS) (R V : Nat → Int32) (b : Int32) (r : Int32), eV v v' → okR R → okR V → mG 1000000 (gW g) (gD g) (gC g) f t (iA R) (iA V) → r.toInt = (if mn (iA R x) (iA V x) < 1000000 then mn (iA R x) (iA V x) else -1) → post r (m3 v' R V b)) : w_M_found post (nI f) (nI x) (nI t) v := by
  have g1 := hg.1
  refine sp_findM hg hv hf ht (fun v' R V b e o1 o2 hG => ?_)
  refine sp_arrival (by omega) (fun r hr => ⟨fun c => ?_, fun c => sp_arrival (by omega) (fun r2 hr2 => ?_)⟩)
  · rw [zi_le, hr, z_M] at c
    exact h v' R V b _ e o1 o2 hG (by rw [if_neg (by omega)]; rfl)
  · rw [zi_le, hr, z_M] at c
    exact h v' R V b _ e o1 o2 hG (by rw [if_pos (by omega), hr2])
theorem m3_E {v v' : tS} (R V : Nat → Int32) (b : Int32) (h : eV v v') : eV v (m3 v' R V b) := eV_tr h (m3_e v' R V b)
theorem pr_earliest (u v : tS) (x1 x2 x3 : Int32) (h : Rel u v) : w_T_earliest (fun r1 u1 => w_M_earliest (fun r2 v1 => r1 = r2 ∧ Rel u1 v1) x1 x2 x3 v) x1 x2 x3 u := by
  obtain ⟨g, nb, dp, hg, hu, hv, hb, hd, hp, ha⟩ := id h
  have g1 := hg.1
  have bad : ¬ (zS g x1 ∧ zS g x2 ∧ zIn x3 0 10079) → w_M_earliest (fun r2 v1 => (-2) = r2 ∧ Rel u v1) x1 x2 x3 v := fun hn => sp_isAsked hg hv (fun a b c => absurd ⟨a, b, c⟩ hn) (fun _ => q0 ⟨rfl, h⟩)
  refine sp_hasStops hg hu (fun a b => q1 (sp_isTime (fun c => q1 ?_) (fun c => q0 (bad (fun k => c k.2.2))))) (fun k => q0 (bad (fun z => k ⟨z.1, z.2.1⟩)))
  obtain ⟨f, hf, rfl⟩ := z_S a
  obtain ⟨x, hx, rfl⟩ := z_S b
  obtain ⟨t, t1, t2, rfl⟩ := z_of c (by decide)
  have ht : t ≤ 10079 := by omega
  refine sp_find hg hu hb hd hf ht (fun R V hG => sp_first (by omega) (fun r hr => ?_))
  have model : ∀ z : Int32, z.toInt = (if mn (iA R x) (iA V x) < 1000000 then mn (iA R x) (iA V x) else -1) → w_M_earliest (fun r2 v1 => z = r2 ∧ Rel (s2 u R V) v1) (nI f) (nI x) (nI t) v := by
    intro z hz
    refine sp_isAsked hg hv (fun _ _ _ => q1 (sp_found hg hv hf hx ht (fun v' R2 V2 b2 r2 e o1 o2 hG2 hr2 => ⟨?_, Rel_e (s2_e u R V) (m3_E R2 V2 b2 e) h⟩))) (fun k => absurd ⟨a, b, c⟩ k)
    have k := mG_one hG hG2 x
    rw [zi_eq, hz, hr2, k.1, k.2]
  refine ⟨fun q => model r ?_, fun q => model (-1) ?_⟩
  · rw [zi_lt, hr, z_M] at q; rw [if_pos q, hr]
  · rw [zi_lt, hr, z_M] at q; rw [if_neg q]; rfl
