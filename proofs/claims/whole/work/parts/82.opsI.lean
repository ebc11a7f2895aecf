theorem mL_ub {N : Int} {Wk : Nat → Nat → Int → Prop} {Dp : Nat → Nat → Int → Int → Prop} {ch : Nat → Int} {f : Nat} {t : Int} : ∀ (k : Nat) {R V : Nat → Int}, mL N Wk Dp ch f t k R V → ∀ R' V', (∀ x, R' x ≤ N ∧ V' x ≤ N) → mP Wk f t (mK Dp ch R V) R' V' → ∀ x, R' x ≤ R x ∧ V' x ≤ V x
  | 0, R, V, h => fun R' V' hb hp => h.2.2 R' V' hb ⟨hp.1, hp.2.1, fun _ _ q => q.elim⟩
  | k + 1, R, V, ⟨R0, V0, h0, h⟩ => fun R' V' hb hp => h.2.2 R' V' hb ⟨hp.1, hp.2.1, fun x v q => hp.2.2 x v (mK_mono (mL_step k h0 h) x v q)⟩
theorem mL_stay {N : Int} {Wk : Nat → Nat → Int → Prop} {Dp : Nat → Nat → Int → Int → Prop} {ch : Nat → Int} {f : Nat} {t : Int} {m : Nat} {R V : Nat → Int} (h : mL N Wk Dp ch f t m R V) (h' : mL N Wk Dp ch f t (m + 1) R V) (d : Nat) : mL N Wk Dp ch f t (m + d) R V := by
  obtain ⟨R0, V0, h0, hH⟩ := h'
  obtain ⟨rfl, rfl⟩ := mL_one m h0 h
  induction d with
  | zero => exact h
  | succ d ih => exact ⟨_, _, ih, hH⟩
def w6 (u : tS) (P Q : Nat → Int32) : tS := (u.1, va_up (va_up u.2 15 P) 16 Q)
theorem w6_e (u : tS) (P Q : Nat → Int32) : eU u (w6 u P Q) := ⟨rfl, fun j hj => by
  show va_up (va_up u.2 15 P) 16 Q j = _
  rw [st_ne _ _ (by omega), st_ne _ _ (by omega)]⟩
theorem copy_eq (u : tS) (R V : Nat → Int32) : tY (tY (s2 u R V) 13 15 12) 14 16 12 = s2 (w6 u (va_cpy R (u.2 15) 0 0 12) (va_cpy V (u.2 16) 0 0 12)) R V := by
  unfold tY s2 w6
  congr 1
  funext k
  show va_up (va_up (va_up (va_up u.2 13 R) 14 V) 15 (va_cpy R (u.2 15) 0 0 12)) 16 (va_cpy V (u.2 16) 0 0 12) k = va_up (va_up (va_up (va_up u.2 15 (va_cpy R (u.2 15) 0 0 12)) 16 (va_cpy V (u.2 16) 0 0 12)) 13 R) 14 V k
  unfold va_up
  by_cases a : k = 16
  · subst a; rfl
  · by_cases b : k = 15
    · subst b; rfl
    · rw [if_neg a, if_neg b]
      by_cases c : k = 14
      · rw [if_pos c, if_pos c]
      · rw [if_neg c, if_neg c]
        by_cases d : k = 13
        · rw [if_pos d, if_pos d]
        · rw [if_neg d, if_neg d, if_neg a, if_neg b]
theorem mn_le {a b c : Int} : mn a b ≤ c ↔ a ≤ c ∨ b ≤ c := by unfold mn; split <;> omega
def lP (g : nT) (f t z : Nat) (B : Int) (j : Nat) : Prop := ∃ R V, mL 1000000 (gW g) (gD g) (gC g) f t j R V ∧ mn (R z) (V z) ≤ B
theorem lP_at {g : nT} {f t z : Nat} {B : Int} {j : Nat} {R V : Nat → Int} (h : mL 1000000 (gW g) (gD g) (gC g) f t j R V) : lP g f t z B j ↔ mn (R z) (V z) ≤ B := by
  constructor
  · rintro ⟨R', V', h', hle⟩
    obtain ⟨rfl, rfl⟩ := mL_one j h h'
    exact hle
  · exact fun q => ⟨R, V, h, q⟩
set_option maxHeartbeats 2000000 in
theorem sp_fewestT {post : Int32 → tS → Prop} {u : tS} {g : nT} {nb : Nat} {dp : Nat → Nat} (hg : nOk g) (hu : nU u g) (hb : nB u g nb dp) (hd : mD 1000000 (gW g) (gS u)) {f t z : Nat} {B : Int32} (hf : f < nSt g) (hz : z < nSt g) (ht : t ≤ 10079)
    (h : ∀ (uu : tS) (r : Int32), eU u uu → ((∃ d, d ≤ 12 ∧ r = nI d ∧ lP g f t z B.toInt d ∧ ∀ j, j < d → ¬ lP g f t z B.toInt j) ∨ (r = -1 ∧ ∀ j, j ≤ 12 → ¬ lP g f t z B.toInt j)) → post r uu) : w_Ar_begin (fun u40 => ∃ k, w_T_fewest_46 post k (nI z) B 0 u40) (nI f) (nI t) u := by
  have g1 := hg.1
  have w1 : ∀ y x d, gW g y x d → 1 ≤ d := fun _ _ _ hw => (gW_b hg hw).1
  have far : ∀ x o, ¬ o < 12 → gS u x o = 1000000 := fun x o q => by unfold gS; rw [if_neg (by omega)]
  refine sp_begin (by omega) (by omega) (fun x y => by have := gS_b hg hd x y; omega) (fun R0 V0 h0 => ?_)
  have eR : iA R0 = fun _ => 1000000 := by funext x; unfold iA; split; rename_i q; exact (h0 x q).1; rfl
  have eV : iA V0 = fun x => if (t : Int) + mA (gS u) f x < 1000000 then (t : Int) + mA (gS u) f x else 1000000 := by
    funext x; unfold iA; split
    · rename_i q; exact (h0 x q).2
    · rename_i q; rw [mA_ne (by omega), far f x q, if_neg (by omega)]
  have o1 : okR R0 := fun x hx => by have := (h0 x hx).1; omega
  have o2 : okR V0 := fun x hx => by
    have := (h0 x hx).2; have b : 0 ≤ mA (gS u) f x := mA_nn (by decide) w1 hd f x
    rw [this]; split <;> omega
  have l0 : mL 1000000 (gW g) (gD g) (gC g) f t 0 (iA R0) (iA V0) := by
    have k := mJ_0 (n := 0) (yy := fun _ => 0) (xx := fun _ => 0) (ll := fun _ => 0) (vv := fun _ => 0) (ch := gC g) (f := f) (t := (t : Int)) (by decide) w1 hd (by omega) (by omega)
    rw [← eR, ← eV] at k
    refine ⟨k.1, ⟨k.2.1, k.2.2.1, fun _ _ q => q.elim⟩, fun R' V' hb' hp => k.2.2.2.2 R' V' hb' ⟨hp.1, hp.2.1, ?_⟩⟩
    rintro y x l v ⟨q, hq, -⟩; exact absurd hq (Nat.not_lt_zero _)
  refine pk_loop (σ := tS × (Nat → Int32) × (Nat → Int32)) (fun n d p => w_T_fewest_46 post n (nI z) B (nI d) (s2 p.1 p.2.1 p.2.2))
    (fun d p => eU u p.1 ∧ okR p.2.1 ∧ okR p.2.2 ∧ mL 1000000 (gW g) (gD g) (gC g) f t d (iA p.2.1) (iA p.2.2) ∧ ∀ j, j < d → ¬ lP g f t z B.toInt j) 13 0 (u, R0, V0) (by omega)
    ⟨eU_rf u, o1, o2, l0, fun j hj => absurd hj (by omega)⟩
    (fun n p hI => ⟨fun _ => h _ _ (eU_tr hI.1 (s2_e _ _ _)) (Or.inr ⟨rfl, fun j hj => hI.2.2.2.2 j (by omega)⟩), fun c => absurd (show (12 : Int32) < nI 13 by decide) c⟩)
    (fun n d p hd13 hI hw => ⟨fun c => absurd c (show ¬ nI 12 < nI d from nI_nlt (by omega) (by omega)), fun _ => ?_⟩)
  obtain ⟨u1, R, V⟩ := p
  obtain ⟨i1, i2, i3, i4, i5⟩ := hI
  have i1 : eU u u1 := i1
  refine sp_first (by omega) (fun r hr => ⟨fun c => ?_, fun c => ?_⟩)
  · rw [zi_lt, hr] at c
    show w_Ar_copy _ (s2 u1 R V)
    unfold w_Ar_copy
    rw [copy_eq]
    have e6 := eU_tr i1 (w6_e u1 (va_cpy R (u1.2 15) 0 0 12) (va_cpy V (u1.2 16) 0 0 12))
    have b := mL_b d i4
    refine sp_addOne2 (f := f) (t := t) hg (nU_e e6 hu) (nB_e e6 hb) (by rw [gS_e e6]; exact hd) i2 i3 (fun x hx => ?_) (fun x hx => ?_) b.2.1 b.2.2 (mL_ub d i4) (fun R1 V1 o1 o2 hH => ?_)
    · show va_cpy R (u1.2 15) 0 0 12 x = R x
      rw [pk_cpy_in (by omega) (by omega)]; congr 1; omega
    · show va_cpy V (u1.2 16) 0 0 12 x = V x
      rw [pk_cpy_in (by omega) (by omega)]; congr 1; omega
    · rw [nI_1]
      refine hw (_, R1, V1) ⟨e6, o1, o2, ⟨_, _, i4, hH⟩, fun j hj => ?_⟩
      by_cases e : j = d
      · subst e; rw [lP_at i4]
        have c : B.toInt < mn (iA R z) (iA V z) := c
        intro q
        have q : mn (iA R z) (iA V z) ≤ B.toInt := q
        omega
      · exact i5 j (by omega)
  · rw [zi_lt, hr] at c
    refine h _ _ (eU_tr i1 (s2_e _ _ _)) (Or.inl ⟨d, by omega, rfl, (lP_at i4).mpr ?_, i5⟩)
    have c : ¬ B.toInt < mn (iA R z) (iA V z) := c
    show mn (iA R z) (iA V z) ≤ B.toInt
    omega
set_option maxHeartbeats 2000000 in
theorem pr_fewest (u v : tS) (x1 x2 x3 x4 : Int32) (h : Rel u v) : w_T_fewest (fun r1 u1 => w_M_fewest (fun r2 v1 => r1 = r2 ∧ Rel u1 v1) x1 x2 x3 x4 v) x1 x2 x3 x4 u := by
  obtain ⟨g, nb, dp, hg, hu, hv, hb, hd, hp, ha⟩ := id h
  have g1 := hg.1
  have bad : ¬ (zS g x1 ∧ zS g x2 ∧ zIn x3 0 10079 ∧ zIn x4 0 20000) → w_M_fewest (fun r2 v1 => (-2) = r2 ∧ Rel u v1) x1 x2 x3 x4 v := fun hn => sp_isAsked hg hv (fun a b c => q1 (sp_isIn (fun d => absurd ⟨a, b, c, d⟩ hn) (fun _ => q0 ⟨rfl, h⟩))) (fun _ => q0 ⟨rfl, h⟩)
  refine sp_hasStops hg hu (fun a b => q1 (sp_isTime (fun c => q1 (sp_isBy (fun d => q1 ?_) (fun d => q0 (bad (fun k => d k.2.2.2))))) (fun c => q0 (bad (fun k => c k.2.2.1))))) (fun k => q0 (bad (fun z => k ⟨z.1, z.2.1⟩)))
  obtain ⟨f, hf, rfl⟩ := z_S a
  obtain ⟨z, hz, rfl⟩ := z_S b
  obtain ⟨t, t1, t2, rfl⟩ := z_of c (by decide)
  have ht : t ≤ 10079 := by omega
  refine sp_fewestT hg hu hb hd hf hz ht (fun uu r eu hr => ?_)
  refine sp_isAsked hg hv (fun _ _ _ => q1 (sp_isIn (fun _ => q1 ?_) (fun k => absurd d k))) (fun k => absurd ⟨a, b, c⟩ k)
  have nn : ∀ {W : Nat → Int32}, okR W → 0 ≤ sN (iA W) 12 := fun hW => sN_nn (fun x hx => by rw [iA_in hx]; exact (hW x hx).1)
  refine sp_begin0 hg hv hf ht (fun R' V' => (∀ x, R' x ≤ 1000000 ∧ V' x ≤ 1000000) ∧ mP (gW g) f t (fun _ _ => False) R' V') (fun R' V' ht => ⟨ht.2.1, ht.1, ht.2.2.1⟩) (fun R0 V0 b0 o1 o2 eR c1 c2 c3 => ?_)
  rw [m3_I]
  have l0 : mL 1000000 (gW g) (gD g) (gC g) f t 0 (iA R0) (iA V0) := ⟨fun x => ⟨iA_cap o1 x, iA_cap o2 x⟩, ⟨c1, c2, fun _ _ q => q.elim⟩, fun R' V' hb' hp' => c3 R' V' ⟨hb', hp'⟩⟩
  suffices hh : ∃ k, (fun (n : Nat) (p : (tS × (Nat → Int32) × (Nat → Int32)) × Int32 × Nat) => w_M_fewest_43 (fun r2 v1 => r = r2 ∧ Rel uu v1) n (nI z) x4 (nI p.2.2) (m3 p.1.1 p.1.2.1 p.1.2.2 p.2.1)) k ((v, R0, V0), 1, 0) from hh
  refine loop_m (σ := (tS × (Nat → Int32) × (Nat → Int32)) × Int32 × Nat) (fun n p => w_M_fewest_43 (fun r2 v1 => r = r2 ∧ Rel uu v1) n (nI z) x4 (nI p.2.2) (m3 p.1.1 p.1.2.1 p.1.2.2 p.2.1))
    (fun p => eV v p.1.1 ∧ (p.2.1 = 0 ∨ p.2.1 = 1) ∧ okR p.1.2.1 ∧ okR p.1.2.2 ∧ mL 1000000 (gW g) (gD g) (gC g) f t p.2.2 (iA p.1.2.1) (iA p.1.2.2) ∧ (∀ j, j < p.2.2 → ¬ lP g f t z x4.toInt j) ∧ (p.2.1 = 0 → ∃ m, p.2.2 = m + 1 ∧ mL 1000000 (gW g) (gD g) (gC g) f t m (iA p.1.2.1) (iA p.1.2.2)))
    (fun p => 2 * (sN (iA p.1.2.1) 12 + sN (iA p.1.2.2) 12).toNat + p.2.1.toInt.toNat) ?_ ((v, R0, V0), 1, 0) ⟨eV_rf v, Or.inr rfl, o1, o2, l0, fun j hj => absurd hj (Nat.not_lt_zero _), fun e => absurd e (show ¬ (1 : Int32) = 0 by decide)⟩
  rintro n ⟨⟨v', R, V⟩, bb, lv⟩ ⟨k1, k2, k3, k4, k5, k6, k7⟩ ih
  have k1 : eV v v' := k1
  have k3 : okR R := k3
  have k4 : okR V := k4
  have k5 : mL 1000000 (gW g) (gD g) (gC g) f t lv (iA R) (iA V) := k5
  have k6 : ∀ j, j < lv → ¬ lP g f t z x4.toInt j := k6
  have rel := fun (w : tS) (hw : w = m3 v' R V bb) => show Rel uu w by rw [hw]; exact Rel_e eu (m3_E R V bb k1) h
  -- it ends with by kept
  have yes : mn (iA R z) (iA V z) ≤ x4.toInt → r = nI lv := fun q => by
    have pl := (lP_at k5).mpr q
    rcases hr with ⟨d, d1, d2, d3, d4⟩ | ⟨-, d4⟩
    · have : d = lv := by
        rcases Nat.lt_trichotomy d lv with y | y | y
        · exact absurd d3 (k6 d y)
        · exact y
        · exact absurd pl (d4 lv y)
      rw [d2, this]
    · exfalso
      have h13 : 12 < lv := Nat.lt_of_not_le (fun y => d4 lv y pl)
      obtain ⟨m, rfl⟩ : ∃ m, lv = m + 1 := ⟨lv - 1, by omega⟩
      obtain ⟨Ra, Va, la, hH⟩ := k5
      have np := k6 m (by omega)
      rw [lP_at la] at np
      have := mL_stop (z := z) hg la hH (by omega)
      omega
  -- it ends as nothing gets less
  have no : bb = 0 → ¬ mn (iA R z) (iA V z) ≤ x4.toInt → r = -1 := fun e q => by
    obtain ⟨m, hm, hl⟩ := k7 e
    have hm : lv = m + 1 := hm
    rcases hr with ⟨d, d1, d2, d3, d4⟩ | ⟨d2, -⟩
    · exfalso
      rcases Nat.lt_or_ge d lv with y | y
      · exact k6 d y d3
      · have st := mL_stay hl (by rw [← hm]; exact k5) (d - m)
        rw [show m + (d - m) = d by omega] at st
        rw [lP_at st] at d3; exact q d3
    · exact d2
  have endM : (bb = 0 ∨ mn (iA R z) (iA V z) ≤ x4.toInt) → w_M_fewest_70 (fun r2 v1 => r = r2 ∧ Rel uu v1) (nI z) x4 (nI lv) (m3 v' R V bb) := fun e => by
    refine sp_arrival (by omega) (fun ra hra => ⟨fun q => ⟨?_, rel _ rfl⟩, fun q => ⟨?_, rel _ rfl⟩⟩)
    · rw [zi_lt, hra] at q
      rcases e with e | e
      · exact no e (by omega)
      · omega
    · rw [zi_lt, hra] at q; exact yes (by omega)
  show (((m3 v' R V bb).1 5 = 0 → w_M_fewest_70 _ (nI z) x4 (nI lv) (m3 v' R V bb)) ∧ (¬ (m3 v' R V bb).1 5 = 0 → _))
  rw [m3_5]
  refine ⟨fun e => endM (Or.inl e), fun e => sp_arrival (by omega) (fun ra hra => ⟨fun q => endM (Or.inr ?_), fun q => ?_⟩)⟩
  · rw [zi_le, hra] at q; exact q
  · rw [zi_le, hra] at q
    have b1 : bb = 1 := by rcases k2 with y | y; exact absurd y e; exact y
    have bL0 := mL_b lv k5
    refine sp_goRides hg (nV_e k1 hv) k3 k4 (fun R' V' => (∀ x, R' x ≤ 1000000 ∧ V' x ≤ 1000000) ∧ mP (gW g) f t (mK (gD g) (gC g) (iA R) (iA V)) R' V') (fun R' V' ht => ht.2.2.1) (fun R' V' ht k hk hm => ht.2.2.2 _ _ ⟨_, _, ⟨k, hk, hm.1, rfl, rfl, rfl, rfl⟩, hm.2⟩) (fun R' V' ht => mL_ub lv k5 R' V' ht.1 ht.2) (fun v2 R1 V1 b2 e2 p1 p2 p3 p4 p5 p6 p7 p8 => ?_)
    have p8 : (b2 = 0 ∧ (∀ x, iA R1 x = iA R x) ∧ (∀ x, iA V1 x = iA V x)) ∨ (b2 = 1 ∧ sN (iA R1) 12 + sN (iA V1) 12 < sN (iA R) 12 + sN (iA V) 12) := p8
    have hH : mH 1000000 (gW g) f t (mK (gD g) (gC g) (iA R) (iA V)) (iA R1) (iA V1) := ⟨fun x => ⟨iA_cap p1 x, iA_cap p2 x⟩, ⟨Int.le_trans (p4 f) bL0.2.1, p5, by
      rintro x w ⟨y, l, ⟨k, hk, hl, rfl, rfl, rfl, rfl⟩, hc⟩
      exact p6 k hk ⟨hl, hc⟩⟩, fun R' V' hb' hp' => p7 R' V' ⟨hb', hp'⟩⟩
    rw [nI_1]
    refine ih ((v2, R1, V1), b2, lv + 1) ⟨eV_tr k1 e2, ?_, p1, p2, ⟨_, _, k5, hH⟩, fun j hj => ?_, fun e => ?_⟩ ?_
    · rcases p8 with y | y
      · exact Or.inl y.1
      · exact Or.inr y.1
    · have hj : j < lv + 1 := hj
      by_cases ej : j = lv
      · subst ej; rw [lP_at k5]; exact q
      · exact k6 j (by omega)
    · rcases p8 with ⟨-, y1, y2⟩ | ⟨y, -⟩
      · refine ⟨lv, rfl, ?_⟩
        show mL _ _ _ _ _ _ lv (iA R1) (iA V1)
        rw [show iA R1 = iA R from funext y1, show iA V1 = iA V from funext y2]; exact k5
      · have e : b2 = 0 := e
        rw [y] at e; exact absurd e (by decide)
    · show 2 * (sN (iA R1) 12 + sN (iA V1) 12).toNat + b2.toInt.toNat < 2 * (sN (iA R) 12 + sN (iA V) 12).toNat + bb.toInt.toNat
      have z1 : (1 : Int32).toInt.toNat = 1 := rfl
      have z0 : (0 : Int32).toInt.toNat = 0 := rfl
      have a1 := nn k3; have a2 := nn k4; have a3 := nn p1; have a4 := nn p2
      rw [b1]
      rcases p8 with ⟨y, y1, y2⟩ | ⟨y, y1⟩
      · have := sN_eq (n := 12) (fun x _ => y1 x); have := sN_eq (n := 12) (fun x _ => y2 x)
        rw [y]; omega
      · rw [y]; omega
