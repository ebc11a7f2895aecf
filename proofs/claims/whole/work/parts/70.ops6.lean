/-! ARRIVALS OF THE REFERENCE -/
def sN (f : Nat → Int) : Nat → Int
  | 0 => 0
  | n + 1 => sN f n + f n
theorem sN_nn {f : Nat → Int} {n : Nat} (h : ∀ x, x < n → 0 ≤ f x) : 0 ≤ sN f n := by
  induction n with
  | zero => exact Int.le_refl _
  | succ n ih => have := ih (fun x hx => h x (by omega)); have := h n (by omega); unfold sN; omega
theorem sN_le {f f' : Nat → Int} {n : Nat} (h : ∀ x, x < n → f' x ≤ f x) : sN f' n ≤ sN f n := by
  induction n with
  | zero => exact Int.le_refl _
  | succ n ih => have := ih (fun x hx => h x (by omega)); have := h n (by omega); unfold sN; omega
theorem sN_lt {f f' : Nat → Int} {n y : Nat} (h : ∀ x, x < n → f' x ≤ f x) (hy : y < n) (hlt : f' y < f y) : sN f' n < sN f n := by
  induction n with
  | zero => omega
  | succ n ih =>
    have h1 := h n (by omega)
    unfold sN
    by_cases e : y = n
    · subst e; have := sN_le (n := y) (fun x hx => h x (by omega)); omega
    · have := ih (fun x hx => h x (by omega)) (by omega); omega
theorem sN_eq {f f' : Nat → Int} {n : Nat} (h : ∀ x, x < n → f' x = f x) : sN f' n = sN f n := Int.le_antisymm (sN_le (fun x hx => by rw [h x hx]; exact Int.le_refl _)) (sN_le (fun x hx => by rw [h x hx]; exact Int.le_refl _))
/-- states of the reference while it looks: R, V, whether something got less -/
def m3 (v : tS) (R V : Nat → Int32) (b : Int32) : tS := s2 (tI v 5 b) R V
theorem m3_1 (v : tS) (R V : Nat → Int32) (b : Int32) {k : Nat} (h : k ≠ 5) : (m3 v R V b).1 k = v.1 k := tI_ne v b h
theorem m3_5 (v : tS) (R V : Nat → Int32) (b : Int32) : (m3 v R V b).1 5 = b := tI_eq v 5 b
theorem m3_ne (v : tS) (R V : Nat → Int32) (b : Int32) {j : Nat} (h1 : j ≠ 13) (h2 : j ≠ 14) : (m3 v R V b).2 j = v.2 j := s2_ne _ R V h1 h2
theorem m3_I (v : tS) (R V : Nat → Int32) (b c : Int32) : tI (m3 v R V b) 5 c = m3 v R V c := by
  unfold m3 s2 tI
  show (upd (upd v.1 5 b) 5 c, _) = (upd v.1 5 c, _)
  congr 1
  funext k; by_cases e : k = 5
  · subst e; rw [pk_us, pk_us]
  · rw [pk_un e, pk_un e, pk_un e]
theorem m3_A13 (v : tS) (R V : Nat → Int32) (b i x : Int32) : tA (m3 v R V b) 13 i x = m3 v (upd R i.toNatClampNeg x) V b := s2_A13 _ R V i x
theorem m3_A14 (v : tS) (R V : Nat → Int32) (b i x : Int32) : tA (m3 v R V b) 14 i x = m3 v R (upd V i.toNatClampNeg x) b := s2_A14 _ R V i x
theorem m3_e (v : tS) (R V : Nat → Int32) (b : Int32) : eV v (m3 v R V b) := ⟨fun k hk => m3_1 v R V b hk, fun j hj => m3_ne v R V b (by omega) (by omega)⟩
theorem m3_eta (v : tS) : m3 v (v.2 13) (v.2 14) (v.1 5) = v := by
  have : tI v 5 (v.1 5) = v := by
    obtain ⟨a, b⟩ := v
    unfold tI; congr 1
    funext k; by_cases e : k = 5
    · subst e; exact pk_us
    · exact pk_un e
  unfold m3; rw [this]; exact s2_eta v
def okR (R : Nat → Int32) : Prop := ∀ x, x < 12 → 0 ≤ (R x).toInt ∧ (R x).toInt ≤ 1000000
def mn (a b : Int) : Int := if a < b then a else b
theorem sp_arrival {post : Int32 → tS → Prop} {v : tS} {R V : Nat → Int32} {b : Int32} {y : Nat} (hy : y < 12) (h : ∀ r : Int32, r.toInt = mn (iA R y) (iA V y) → post r (m3 v R V b)) : w_M_arrival post (nI y) (m3 v R V b) := by
  have iv : vp_in (nI y) 12 := vp_in_nI hy (by omega)
  unfold w_M_arrival
  rw [nI_clamp (by omega)]
  show vp_in (nI y) 12 ∧ vp_in (nI y) 12 ∧ ((V y ≤ R y → vp_in (nI y) 12 ∧ post (V y) _) ∧ (¬ V y ≤ R y → vp_in (nI y) 12 ∧ post (R y) _))
  refine ⟨iv, iv, fun c => ⟨iv, h _ ?_⟩, fun c => ⟨iv, h _ ?_⟩⟩ <;> rw [zi_le] at c <;> unfold mn <;> rw [iA_in hy, iA_in hy] <;> split <;> omega
theorem iA_upd {V : Nat → Int32} {x : Nat} {z : Int32} (hx : x < 12) : iA (upd V x z) = fun y => if y = x then z.toInt else iA V y := by
  funext y
  by_cases e : y = x
  · subst e; rw [if_pos rfl, iA_in hx, pk_us]
  · rw [if_neg e]; unfold iA; rw [pk_un e]
set_option maxHeartbeats 1000000 in
/-- the walks are gone till nothing gets less; T: pairs that are closed under walks and no later -/
theorem sp_goWalks {post : tS → Prop} {v : tS} {g : nT} (hg : nOk g) (hv : nV v g) {R V0 : Nat → Int32} {b0 : Int32} (hR : okR R) (hV : okR V0) (T : (Nat → Int) → (Nat → Int) → Prop)
    (hT : ∀ R' V', T R' V' → ∀ y x d, gW g y x d → V' x ≤ R' y + d ∧ V' x ≤ V' y + d) (hU : ∀ R' V', T R' V' → ∀ x, R' x ≤ iA R x ∧ V' x ≤ iA V0 x)
    (h : ∀ (V : Nat → Int32) (b : Int32), okR V → (∀ x, iA V x ≤ iA V0 x) → (∀ y x d, gW g y x d → iA V x ≤ iA R y + d ∧ iA V x ≤ iA V y + d) → (∀ R' V', T R' V' → ∀ x, R' x ≤ iA R x ∧ V' x ≤ iA V x) → (b = b0 ∧ (∀ x, iA V x = iA V0 x)) ∨ (b = 1 ∧ sN (iA V) 12 < sN (iA V0) 12) → post (m3 v R V b)) : w_M_goWalks post (m3 v R V0 b0) := by
  have g1 := hg.1; have g3 := hg.2.2.1
  have nn : ∀ {W : Nat → Int32}, okR W → 0 ≤ sN (iA W) 12 := fun hW => sN_nn (fun x hx => by rw [iA_in hx]; exact (hW x hx).1)
  suffices hh : ∃ n, (fun (n : Nat) (p : Int32 × (Nat → Int32) × Int32) => w_M_goWalks_2 post n p.1 (m3 v R p.2.1 p.2.2)) n (1, V0, b0) from hh
  refine loop_m (σ := Int32 × (Nat → Int32) × Int32) (fun n p => w_M_goWalks_2 post n p.1 (m3 v R p.2.1 p.2.2))
    (fun p => (p.1 = 0 ∨ p.1 = 1) ∧ okR p.2.1 ∧ (∀ x, iA p.2.1 x ≤ iA V0 x) ∧ (p.1 = 0 → ∀ y x d, gW g y x d → iA p.2.1 x ≤ iA R y + d ∧ iA p.2.1 x ≤ iA p.2.1 y + d) ∧ (∀ R' V', T R' V' → ∀ x, R' x ≤ iA R x ∧ V' x ≤ iA p.2.1 x) ∧ ((p.2.2 = b0 ∧ (∀ x, iA p.2.1 x = iA V0 x)) ∨ (p.2.2 = 1 ∧ sN (iA p.2.1) 12 < sN (iA V0) 12)))
    (fun p => 2 * (sN (iA p.2.1) 12).toNat + p.1.toInt.toNat) ?_ (1, V0, b0) ⟨Or.inr rfl, hV, fun x => Int.le_refl _, fun e => absurd e (show ¬ (1 : Int32) = 0 by decide), hU, Or.inl ⟨rfl, fun x => rfl⟩⟩
  rintro n ⟨fl, V, b⟩ ⟨hfl, hok, hle, hcl, hub, hor⟩ ih
  refine ⟨fun e => h V b hok hle (hcl e) hub hor, fun e => ?_⟩
  have hfl1 : fl = 1 := by rcases hfl with q | q; exact absurd q e; exact q
  subst hfl1
  -- one look along the walks
  refine pk_loop (σ := Int32 × (Nat → Int32) × Int32) (fun n' w p => w_M_goWalks_10 post (w_M_goWalks_2 post n) n' p.1 (nI w) (m3 v R p.2.1 p.2.2))
    (fun w p => okR p.2.1 ∧ (∀ x, iA p.2.1 x ≤ iA V x) ∧ (∀ R' V', T R' V' → ∀ x, R' x ≤ iA R x ∧ V' x ≤ iA p.2.1 x) ∧ ((p.1 = 0 ∧ p.2.1 = V ∧ p.2.2 = b ∧ ∀ w', w' < w → iA V (nWt g w') ≤ mn (iA R (nWf g w')) (iA V (nWf g w')) + nWk g w') ∨ (p.1 = 1 ∧ p.2.2 = 1 ∧ sN (iA p.2.1) 12 < sN (iA V) 12))) (nWa g) 0 (0, V, b) (by omega)
    ⟨hok, fun x => Int.le_refl _, hub, Or.inl ⟨rfl, rfl, rfl, fun w' hw' => absurd hw' (by omega)⟩⟩
    (fun n' p hI => ⟨fun _ => ?_, fun c => absurd (show (m3 v R p.2.1 p.2.2).1 2 ≤ nI (nWa g) by rw [m3_1 _ _ _ _ (by omega), hv.2.2.1]; exact nI_le (Nat.le_refl _) (by omega)) c⟩)
    (fun n' w p hw hI hnext => ⟨fun c => absurd c (by rw [m3_1 _ _ _ _ (by omega), hv.2.2.1]; exact nI_ge hw (by omega)), fun _ => ?_⟩)
  · obtain ⟨fl2, V2, b2⟩ := p
    obtain ⟨o2, l2, u2, r2⟩ := hI
    have o2 : okR V2 := o2
    refine ih (fl2, V2, b2) ⟨?_, o2, fun x => Int.le_trans (l2 x) (hle x), fun e => ?_, u2, ?_⟩ ?_
    · rcases r2 with r2 | r2
      · exact Or.inl r2.1
      · exact Or.inr r2.1
    · rcases r2 with ⟨-, e2, -, r2⟩ | r2
      · have e2 : V2 = V := e2
        subst e2
        rintro y x d ⟨w', hw', rfl, rfl, rfl⟩
        have := r2 w' hw'; unfold mn at this
        show iA V2 _ ≤ iA R _ + _ ∧ iA V2 _ ≤ iA V2 _ + _
        split at this <;> omega
      · have e : fl2 = 0 := e
        have r3 : fl2 = 1 := r2.1
        rw [e] at r3; exact absurd r3 (by decide)
    · rcases r2 with ⟨-, e2, e3, -⟩ | ⟨-, e3, lt⟩
      · have e2 : V2 = V := e2
        have e3 : b2 = b := e3
        subst e2; subst e3; exact hor
      · right; refine ⟨e3, ?_⟩
        have := sN_le (n := 12) (fun x _ => hle x)
        show sN (iA V2) 12 < _
        have lt : sN (iA V2) 12 < sN (iA V) 12 := lt
        have this : sN (iA V) 12 ≤ sN (iA V0) 12 := this
        omega
    · show 2 * (sN (iA V2) 12).toNat + fl2.toInt.toNat < 2 * (sN (iA V) 12).toNat + (1 : Int32).toInt.toNat
      have z1 : (1 : Int32).toInt.toNat = 1 := rfl
      have z0 : (0 : Int32).toInt.toNat = 0 := rfl
      have := nn o2; have := nn hok
      rcases r2 with ⟨e1, e2, -⟩ | ⟨e1, -, lt⟩
      · have e1 : fl2 = 0 := e1
        have e2 : V2 = V := e2
        rw [e1, e2]; omega
      · have e1 : fl2 = 1 := e1
        have lt : sN (iA V2) 12 < sN (iA V) 12 := lt
        rw [e1]; omega
  · obtain ⟨fl2, V2, b2⟩ := p
    obtain ⟨o2, l2, u2, r2⟩ := hI
    have o2 : okR V2 := o2
    have g7 := hg.2.2.2.2.2.2 w hw
    have Y := hv.2.2.2.2.2.2 w hw
    have iv : vp_in (nI w) 30 := vp_in_nI (by omega) (by omega)
    have cl : (nI w).toNatClampNeg = w := nI_clamp (by omega)
    have yi : nWf g w < 12 := by omega
    have xi : nWt g w < 12 := by omega
    have by0 : 0 ≤ mn (iA R (nWf g w)) (iA V2 (nWf g w)) ∧ mn (iA R (nWf g w)) (iA V2 (nWf g w)) ≤ 1000000 := by
      have := hR _ yi; have := o2 _ yi; unfold mn; rw [iA_in yi, iA_in yi]; split <;> omega
    refine ⟨iv, ?_⟩
    rw [cl, m3_ne (j := 7) _ _ _ _ (by omega) (by omega), Y.1]
    refine sp_arrival yi (fun ra hra => ⟨iv, iv, ?_⟩)
    rw [m3_ne (j := 7) _ _ _ _ (by omega) (by omega), m3_ne (j := 9) _ _ _ _ (by omega) (by omega), Y.1, Y.2.2]
    refine sp_arrival yi (fun rb hrb => ⟨fun c => ?_, fun c => ⟨iv, ?_, ?_⟩⟩)
    · -- never come to: nothing to do
      rw [zi_le, hrb, z_M] at c
      rw [nI_1]
      refine hnext (fl2, V2, b2) ⟨o2, l2, u2, ?_⟩
      rcases r2 with ⟨e1, e2, e3, r2⟩ | r2
      · have e2 : V2 = V := e2
        subst e2
        refine Or.inl ⟨e1, rfl, e3, fun w' hw' => ?_⟩
        by_cases e : w' = w
        · subst e; have := o2 _ xi; rw [iA_in xi]; have c : (1000000 : Int) ≤ mn (iA R (nWf g w')) (iA V2 (nWf g w')) := c; omega
        · exact r2 w' (by omega)
      · exact Or.inr r2
    · rw [m3_ne (j := 8) _ _ _ _ (by omega) (by omega), Y.2.1]; exact vp_in_nI xi (by omega)
    · rw [m3_ne (j := 8) _ _ _ _ (by omega) (by omega), Y.2.1, nI_clamp (by omega)]
      show (V2 (nWt g w) ≤ ra + nI (nWk g w) → _) ∧ _
      have es : (ra + nI (nWk g w)).toInt = mn (iA R (nWf g w)) (iA V2 (nWf g w)) + nWk g w := by
        rw [zi_add] <;> rw [hra, zi_n (by omega)] <;> (try dsimp only) <;> omega
      refine ⟨fun q => ?_, fun q => ⟨iv, vp_in_nI xi (by omega), ?_⟩⟩
      · rw [zi_le, es] at q
        rw [nI_1]
        refine hnext (fl2, V2, b2) ⟨o2, l2, u2, ?_⟩
        rcases r2 with ⟨e1, e2, e3, r2⟩ | r2
        · have e2 : V2 = V := e2
          subst e2
          refine Or.inl ⟨e1, rfl, e3, fun w' hw' => ?_⟩
          by_cases e : w' = w
          · subst e; rw [iA_in xi]; exact q
          · exact r2 w' (by omega)
        · exact Or.inr r2
      · rw [zi_le, es] at q
        have q : ¬ (V2 (nWt g w)).toInt ≤ mn (iA R (nWf g w)) (iA V2 (nWf g w)) + nWk g w := q
        rw [m3_A14, m3_I, nI_1, nI_clamp (by omega)]
        have lt : mn (iA R (nWf g w)) (iA V2 (nWf g w)) + nWk g w < iA V2 (nWt g w) := by rw [iA_in xi]; omega
        have ev := iA_upd (V := V2) (z := ra + nI (nWk g w)) xi
        rw [es] at ev
        have lw : ∀ x, iA (upd V2 (nWt g w) (ra + nI (nWk g w))) x ≤ iA V2 x := fun x => by
          rw [ev]; (try dsimp only); split
          · rename_i e; subst e; omega
          · exact Int.le_refl _
        refine hnext (1, upd V2 (nWt g w) (ra + nI (nWk g w)), 1) ⟨fun x hx => ?_, fun x => Int.le_trans (lw x) (l2 x), fun R' V' ht x => ⟨(u2 R' V' ht x).1, ?_⟩, Or.inr ⟨rfl, rfl, ?_⟩⟩
        · show 0 ≤ (upd V2 (nWt g w) (ra + nI (nWk g w)) x).toInt ∧ (upd V2 (nWt g w) (ra + nI (nWk g w)) x).toInt ≤ 1000000
          by_cases e : x = nWt g w
          · subst e; rw [pk_us, es]; have := o2 _ xi; rw [iA_in xi] at lt; omega
          · rw [pk_un e]; exact o2 x hx
        · show V' x ≤ iA (upd V2 (nWt g w) (ra + nI (nWk g w))) x
          rw [ev]; (try dsimp only); split
          · rename_i e; subst e
            have a := hT R' V' ht _ _ _ ⟨w, hw, rfl, rfl, rfl⟩
            have b1 := u2 R' V' ht (nWf g w)
            have b1 : R' (nWf g w) ≤ iA R (nWf g w) ∧ V' (nWf g w) ≤ iA V2 (nWf g w) := b1
            unfold mn; split <;> omega
          · exact (u2 R' V' ht x).2
        · have k1 : sN (iA (upd V2 (nWt g w) (ra + nI (nWk g w)))) 12 < sN (iA V2) 12 := sN_lt (fun x _ => lw x) xi (by rw [ev]; (try dsimp only); rw [if_pos rfl]; exact lt)
          have k2 : sN (iA V2) 12 ≤ sN (iA V) 12 := sN_le (fun x _ => l2 x)
          show sN (iA (upd V2 (nWt g w) (ra + nI (nWk g w)))) 12 < sN (iA V) 12
          omega
