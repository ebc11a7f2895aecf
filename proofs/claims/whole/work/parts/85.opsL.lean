set_option maxHeartbeats 2000000 in
theorem sp_takeOut {post : tS → Prop} {u : tS} {lv : Nat → Int} {S : Nat → Prop} {nb : Nat} {dp : Nat → Nat} (hb : nS u lv S nb dp) {k : Nat} (hk : k < 280) (h : ∀ (u' : tS) (nb' : Nat) (dp' : Nat → Nat), eB u u' → nS u' lv (fun x => S x ∧ x ≠ k) nb' dp' → post u') : w_Bo_takeOut post (nI k) u := by
  obtain ⟨s1, s2', s3, s4, s5⟩ := hb
  have inj : ∀ p p', p < nb → p' < nb → dp p = dp p' → p = p' := fun p p' hp hp' e => by
    rcases Nat.lt_trichotomy p p' with y | y | y
    · have := s4 p p' y hp'; unfold b2 at this; rw [e] at this; omega
    · exact y
    · have := s4 p' p y hp; unfold b2 at this; rw [e] at this; omega
  suffices hh : ∃ n, w_Bo_takeOut_4 post n (nI k) (nI 0) (nI 0) (b8 u nb (u.2 7) (u.2 8)) by
    rw [b8_eta s1] at hh; exact hh
  refine pk_loop (σ := Nat × (Nat → Int32) × (Nat → Int32)) (fun n p q => w_Bo_takeOut_4 post n (nI k) (nI q.1) (nI p) (b8 u nb q.2.1 q.2.2))
    (fun p q => (q.1 = p ∧ (∀ i, i < p → dp i ≠ k) ∧ (∀ i, i < nb → q.2.1 i = u.2 7 i ∧ q.2.2 i = u.2 8 i)) ∨ ∃ j, j < p ∧ dp j = k ∧ q.1 + 1 = p ∧ (∀ i, i < j → q.2.1 i = u.2 7 i ∧ q.2.2 i = u.2 8 i) ∧ (∀ i, j ≤ i → i < q.1 → q.2.1 i = u.2 7 (i + 1) ∧ q.2.2 i = u.2 8 (i + 1)) ∧ (∀ i, p ≤ i → i < nb → q.2.1 i = u.2 7 i ∧ q.2.2 i = u.2 8 i)) nb 0 (0, u.2 7, u.2 8) (by omega)
    (Or.inl ⟨rfl, fun i hi => absurd hi (by omega), fun i _ => ⟨rfl, rfl⟩⟩)
    (fun n q hI => ⟨fun _ => ?_, fun c => absurd (show (b8 u nb q.2.1 q.2.2).1 2 ≤ nI nb by rw [b8_1]; exact nI_le (Nat.le_refl _) (by omega)) c⟩)
    (fun n p q hp hI hw => ⟨fun c => absurd c (by rw [b8_1]; exact nI_ge hp (by omega)), fun _ => ?_⟩)
  · obtain ⟨c, D, L⟩ := q
    show post (tI (b8 u nb D L) 2 (nI c))
    rw [b8_I]
    rcases hI with ⟨i1, i2, i3⟩ | ⟨j, j1, j2, j3, j4, j5, j6⟩
    · have i1 : c = nb := i1
      subst i1
      have i3 : ∀ i, i < c → D i = u.2 7 i ∧ L i = u.2 8 i := i3
      refine h _ c dp (b8_e u c D L) ⟨b8_1 _ _ _ _, s2', fun p hp => ?_, s4, fun x hx => s5 x hx.1⟩
      rw [b8_7, b8_8, (i3 p hp).1, (i3 p hp).2]
      have := s3 p hp; exact ⟨⟨this.1, i2 p hp⟩, this.2⟩
    · have j3 : c + 1 = nb := j3
      have j5 : ∀ i, j ≤ i → i < c → D i = u.2 7 (i + 1) ∧ L i = u.2 8 (i + 1) := j5
      have j4 : ∀ i, i < j → D i = u.2 7 i ∧ L i = u.2 8 i := j4
      refine h _ c (fun i => if i < j then dp i else dp (i + 1)) (b8_e u c D L) ⟨b8_1 _ _ _ _, by omega, fun p hp => ?_, fun p q hpq hq => ?_, fun x hx => ?_⟩
      · rw [b8_7, b8_8]
        (try dsimp only)
        rcases Nat.lt_or_ge p j with y | y
        · rw [if_pos y, (j4 p y).1, (j4 p y).2]
          have := s3 p (by omega)
          exact ⟨⟨this.1, fun e => by have := inj p j (by omega) (by omega) (e.trans j2.symm); omega⟩, this.2⟩
        · rw [if_neg (by omega), (j5 p y hp).1, (j5 p y hp).2]
          have := s3 (p + 1) (by omega)
          exact ⟨⟨this.1, fun e => by have := inj (p + 1) j (by omega) (by omega) (e.trans j2.symm); omega⟩, this.2⟩
      · (try dsimp only)
        rcases Nat.lt_or_ge p j with y | y
        · rw [if_pos y]
          rcases Nat.lt_or_ge q j with z | z
          · rw [if_pos z]; exact s4 p q hpq (by omega)
          · rw [if_neg (by omega)]; exact s4 p (q + 1) (by omega) (by omega)
        · rw [if_neg (by omega), if_neg (by omega)]; exact s4 (p + 1) (q + 1) (by omega) (by omega)
      · obtain ⟨p, hp, e⟩ := s5 x hx.1
        rcases Nat.lt_trichotomy p j with y | y | y
        · exact ⟨p, by omega, by (try dsimp only); rw [if_pos y]; exact e⟩
        · subst y; exact absurd (e.symm.trans j2) hx.2
        · exact ⟨p - 1, by omega, by (try dsimp only); rw [if_neg (by omega), show p - 1 + 1 = p by omega]; exact e⟩
  · obtain ⟨c, D, L⟩ := q
    obtain ⟨t1, t2, t3, t4⟩ := s3 p hp
    have ivp : vp_in (nI p) 280 := vp_in_nI (by omega) (by omega)
    have Dp : D p = nI (dp p) ∧ L p = u.2 8 p := by
      rcases hI with ⟨i1, i2, i3⟩ | ⟨j, j1, j2, j3, j4, j5, j6⟩
      · have i3 : D p = u.2 7 p ∧ L p = u.2 8 p := i3 p hp
        exact ⟨i3.1.trans t3, i3.2⟩
      · have j6 : D p = u.2 7 p ∧ L p = u.2 8 p := j6 p (Nat.le_refl _) hp
        exact ⟨j6.1.trans t3, j6.2⟩
    have hc : c ≤ p := by
      rcases hI with ⟨i1, i2, i3⟩ | ⟨j, j1, j2, j3, j4, j5, j6⟩
      · have i1 : c = p := i1
        omega
      · have j3 : c + 1 = p := j3
        omega
    have ivc : vp_in (nI c) 280 := vp_in_nI (by omega) (by omega)
    show vp_in (nI p) 280 ∧ _
    rw [b8_7, nI_clamp (by omega)]
    show vp_in (nI p) 280 ∧ ((D p = nI k → w_Bo_takeOut_4 post n (nI k) (nI c) (nI p + 1) (b8 u nb D L)) ∧ (¬ D p = nI k → vp_in (nI p) 280 ∧ vp_in (nI c) 280 ∧ vp_in (nI p) 280 ∧ vp_in (nI c) 280 ∧ w_Bo_takeOut_4 post n (nI k) (nI c + 1) (nI p + 1) (tA (tA (b8 u nb D L) 7 (nI c) (D p)) 8 (nI c) ((tA (b8 u nb D L) 7 (nI c) (D p)).2 8 p))))
    rw [b8_A7, b8_A8, b8_8, nI_1, nI_1, nI_clamp (by omega)]
    refine ⟨ivp, fun e => ?_, fun e => ⟨ivp, ivc, ivp, ivc, ?_⟩⟩
    · rw [Dp.1] at e
      have e := (nI_eq (by omega) (by omega)).mp e
      rcases hI with ⟨i1, i2, i3⟩ | ⟨j, j1, j2, j3, j4, j5, j6⟩
      · have i1 : c = p := i1
        have i3 : ∀ i, i < nb → D i = u.2 7 i ∧ L i = u.2 8 i := i3
        exact hw (c, D, L) (Or.inr ⟨p, by omega, e, by show c + 1 = p + 1; omega, fun i hi => i3 i (by omega), fun i a b => absurd b (by show ¬ i < c; omega), fun i a b => i3 i b⟩)
      · have := inj j p (by omega) hp (j2.trans e.symm); omega
    · have e : dp p ≠ k := fun q => e (by rw [Dp.1, q])
      rcases hI with ⟨i1, i2, i3⟩ | ⟨j, j1, j2, j3, j4, j5, j6⟩
      · have i1 : c = p := i1
        have i3 : ∀ i, i < nb → D i = u.2 7 i ∧ L i = u.2 8 i := i3
        refine hw (c + 1, _, _) (Or.inl ⟨by show c + 1 = p + 1; omega, fun i hi => ?_, fun i hi => ?_⟩)
        · by_cases q : i = p
          · subst q; exact e
          · exact i2 i (by omega)
        · show upd D c (D p) i = _ ∧ upd L c (L p) i = _
          rw [i1]
          by_cases q : i = p
          · subst q; rw [pk_us, pk_us]; exact i3 i hi
          · rw [pk_un q, pk_un q]; exact i3 i hi
      · have j3 : c + 1 = p := j3
        have j5 : ∀ i, j ≤ i → i < c → D i = u.2 7 (i + 1) ∧ L i = u.2 8 (i + 1) := j5
        have j4 : ∀ i, i < j → D i = u.2 7 i ∧ L i = u.2 8 i := j4
        have j6 : ∀ i, p ≤ i → i < nb → D i = u.2 7 i ∧ L i = u.2 8 i := j6
        refine hw (c + 1, _, _) (Or.inr ⟨j, by omega, j2, by show c + 1 + 1 = p + 1; omega, fun i hi => ?_, fun i a b => ?_, fun i a b => ?_⟩)
        · show upd D c (D p) i = _ ∧ upd L c (L p) i = _
          rw [pk_un (by omega), pk_un (by omega)]; exact j4 i hi
        · show upd D c (D p) i = _ ∧ upd L c (L p) i = _
          have b : i < c + 1 := b
          by_cases q : i = c
          · subst q; rw [pk_us, pk_us, j3]; exact j6 p (Nat.le_refl _) hp
          · rw [pk_un q, pk_un q]; exact j5 i a (by omega)
        · show upd D c (D p) i = _ ∧ upd L c (L p) i = _
          rw [pk_un (by omega), pk_un (by omega)]; exact j6 i (by omega) b
theorem nB_S {u : tS} {g : nT} {nb : Nat} {dp : Nat → Nat} (hg : nOk g) (h : nB u g nb dp) : nS u (nLv g) (fun k => k < 7 * nRi g ∧ nLa g k ≠ -1) nb dp := by
  have g2 := hg.2.1; have h2 := h.2.1
  refine ⟨h.1, by omega, fun p hp => ?_, fun p q a b => h.2.2.2.1 p q a b, fun k hk => h.2.2.2.2 k hk.1 hk.2⟩
  have := h.2.2.1 p hp
  exact ⟨⟨this.1, this.2.1⟩, by omega, this.2.2.1, this.2.2.2⟩
theorem nS_B {u : tS} {g : nT} {nb : Nat} {dp : Nat → Nat} {lv : Nat → Int} {S : Nat → Prop} (hg : nOk g) (h : nS u lv S nb dp) (hS : ∀ k, S k ↔ k < 7 * nRi g ∧ nLa g k ≠ -1) (hl : ∀ k, k < 7 * nRi g → nLa g k ≠ -1 → lv k = nLv g k) : nB u g nb dp := by
  obtain ⟨s1, s2', s3, s4, s5⟩ := h
  have b : ∀ p, p < nb → dp p < 7 * nRi g ∧ nLa g (dp p) ≠ -1 := fun p hp => (hS _).mp (s3 p hp).1
  refine ⟨s1, ?_, fun p hp => ⟨(b p hp).1, (b p hp).2, (s3 p hp).2.2.1, by rw [(s3 p hp).2.2.2]; exact hl _ (b p hp).1 (b p hp).2⟩, fun p q hpq hq => ?_, fun k h1 h2 => s5 k ((hS k).mpr ⟨h1, h2⟩)⟩
  · have c := kB_board (dp := dp) (nb := nb) (M := 7 * nRi g) (G := fun x => decide (∃ p, p < nb ∧ dp p = x)) (q := fun _ => true) (fun p hp => ⟨(b p hp).1, by simp; exact ⟨p, hp, rfl⟩⟩) (fun p p' hp hp' e => by
      rcases Nat.lt_trichotomy p p' with y | y | y
      · have := s4 p p' y hp'; unfold b2 at this; rw [e] at this; omega
      · exact y
      · have := s4 p' p y hp; unfold b2 at this; rw [e] at this; omega) (fun x hx hG => by simpa using hG)
    rw [kB_all] at c; rw [c]; exact kB_le _ _
  · have := s4 p q hpq hq
    unfold b2 at this
    rw [hl _ (b p (by omega)).1 (b p (by omega)).2, hl _ (b q hq).1 (b q hq).2] at this; exact this
theorem nU_B {u u' : tS} {g : nT} (e : eB u u') (h : nU u g) : nU u' g := by
  obtain ⟨e1, e2⟩ := e
  unfold nU at *
  rw [e1 0 (by omega), e1 1 (by omega), e1 3 (by omega), e2 0 (by omega) (by omega), e2 1 (by omega) (by omega), e2 2 (by omega) (by omega), e2 3 (by omega) (by omega), e2 4 (by omega) (by omega), e2 5 (by omega) (by omega), e2 6 (by omega) (by omega), e2 9 (by omega) (by omega), e2 10 (by omega) (by omega), e2 11 (by omega) (by omega)]
  exact h
/-- a departure's lateness -/
def gLate (g : nT) (k : Nat) (x : Int) : nT := (nSt g, nRi g, nWa g, nCh g, nRf g, nRt g, nRm g, nRk g, nRd g, fun j => if j = k then x else nLa g j, nWf g, nWt g, nWk g)
theorem gLate_v (g : nT) (k : Nat) (x : Int) {j : Nat} (h : j ≠ k) : nLv (gLate g k x) j = nLv g j := by
  show 1440 * ((j % 7 : Nat) : Int) + nRm g (j / 7) + (if j = k then x else nLa g j) = _
  rw [if_neg h]; rfl
theorem gLate_ok {g : nT} (hg : nOk g) {r d : Nat} {x : Int} (hr : r < nRi g) (hd : d < 7) (ho : nOn g r d) (hx : -1 ≤ x ∧ x ≤ 300) : nOk (gLate g (7 * r + d) x) := by
  obtain ⟨a1, a2, a3, a4, a5, a6, a7⟩ := hg
  refine ⟨a1, a2, a3, a4, a5, fun r' d' hr' hd' => ?_, a7⟩
  show -1 ≤ (if 7 * r' + d' = 7 * r + d then x else nLa g (7 * r' + d')) ∧ (if 7 * r' + d' = 7 * r + d then x else nLa g (7 * r' + d')) ≤ 300 ∧ (¬ nOn g r' d' → (if 7 * r' + d' = 7 * r + d then x else nLa g (7 * r' + d')) = -1)
  by_cases e : 7 * r' + d' = 7 * r + d
  · have e1 : r' = r := by omega
    have e2 : d' = d := by omega
    subst e1; subst e2
    rw [if_pos rfl]; exact ⟨hx.1, hx.2, fun q => absurd ho q⟩
  · rw [if_neg e]; exact a6 r' d' hr' hd'
theorem Rel_late {u v : tS} {g : nT} {nb : Nat} {dp : Nat → Nat} {r d : Nat} {x3 : Int32} (hg : nOk g) (hu : nU u g) (hv : nV v g) (hd : mD 1000000 (gW g) (gS u)) (hp : nP u v) (ha : nA u v) (hr : r < nRi g) (hd7 : d < 7) (ho : nOn g r d) (hx : -1 ≤ x3.toInt ∧ x3.toInt ≤ 300) {u' v' : tS}
    (e1 : ∀ k, k ≠ 2 → u'.1 k = u.1 k) (e2 : ∀ j, j ≠ 6 → j ≠ 7 → j ≠ 8 → u'.2 j = u.2 j) (e3 : u'.2 6 = upd (u.2 6) (7 * r + d) x3) (f1 : v'.1 = v.1) (f2 : ∀ j, j ≠ 6 → v'.2 j = v.2 j) (f3 : v'.2 6 = upd (v.2 6) (7 * r + d) x3) (hb : nB u' (gLate g (7 * r + d) x3.toInt) nb dp) : Rel u' v' := by
  refine ⟨gLate g (7 * r + d) x3.toInt, nb, dp, gLate_ok hg hr hd7 ho hx, ?_, ?_, hb, ?_, ?_, ?_⟩
  · obtain ⟨u1, u2, u3, u4, u5, u6, u7⟩ := hu
    refine ⟨by rw [e1 0 (by omega)]; exact u1, by rw [e1 1 (by omega)]; exact u2, by rw [e1 3 (by omega)]; exact u3, fun j hj => by rw [e2 0 (by omega) (by omega) (by omega)]; exact u4 j hj, fun r' hr' => ?_, fun r' d' hr' hd' => ?_, fun w hw => ?_⟩
    · rw [e2 1 (by omega) (by omega) (by omega), e2 2 (by omega) (by omega) (by omega), e2 3 (by omega) (by omega) (by omega), e2 4 (by omega) (by omega) (by omega), e2 5 (by omega) (by omega) (by omega)]; exact u5 r' hr'
    · rw [e3]
      show _ = if 7 * r' + d' = 7 * r + d then x3.toInt else nLa g (7 * r' + d')
      by_cases e : 7 * r' + d' = 7 * r + d
      · rw [if_pos e, e, pk_us]
      · rw [if_neg e, pk_un e]; exact u6 r' d' hr' hd'
    · rw [e2 9 (by omega) (by omega) (by omega), e2 10 (by omega) (by omega) (by omega), e2 11 (by omega) (by omega) (by omega)]; exact u7 w hw
  · obtain ⟨u1, u2, u3, u4, u5, u6, u7⟩ := hv
    refine ⟨by rw [f1]; exact u1, by rw [f1]; exact u2, by rw [f1]; exact u3, fun j hj => by rw [f2 0 (by omega)]; exact u4 j hj, fun r' hr' => ?_, fun r' d' hr' hd' hon => ?_, fun w hw => ?_⟩
    · rw [f2 1 (by omega), f2 2 (by omega), f2 3 (by omega), f2 4 (by omega), f2 5 (by omega)]; exact u5 r' hr'
    · rw [f3]
      show _ = if 7 * r' + d' = 7 * r + d then x3.toInt else nLa g (7 * r' + d')
      by_cases e : 7 * r' + d' = 7 * r + d
      · rw [if_pos e, e, pk_us]
      · rw [if_neg e, pk_un e]; exact u6 r' d' hr' hd' hon
    · rw [f2 7 (by omega), f2 8 (by omega), f2 9 (by omega)]; exact u7 w hw
  · have : gS u' = gS u := by funext p q; unfold gS; rw [e2 12 (by omega) (by omega) (by omega)]
    rw [this]; exact hd
  · unfold nP at *; rw [e1 4 (by omega), f1, e2 19 (by omega) (by omega) (by omega), e2 20 (by omega) (by omega) (by omega), f2 10 (by omega), f2 11 (by omega)]; exact hp
  · unfold nA at *; rw [e1 5 (by omega), f1, e2 21 (by omega) (by omega) (by omega), e2 22 (by omega) (by omega) (by omega), e2 23 (by omega) (by omega) (by omega), e2 24 (by omega) (by omega) (by omega), f2 12 (by omega)]; exact ha
set_option maxHeartbeats 2000000 in
theorem pr_late (u v : tS) (x1 x2 x3 : Int32) (h : Rel u v) : w_T_late (fun r1 u1 => w_M_late (fun r2 v1 => r1 = r2 ∧ Rel u1 v1) x1 x2 x3 v) x1 x2 x3 u := by
  obtain ⟨g, nb, dp, hg, hu, hv, hb, hd, hp, ha⟩ := id h
  have g1 := hg.1; have g2 := hg.2.1
  refine sp_has hg hu (fun a => q1 (sp_within (fun b => q1 ?_) (fun b => q0 (sp_isRide hg hv (fun _ => q1 (sp_isIn (fun k => absurd k b) (fun _ => q0 ⟨rfl, h⟩))) (fun k => absurd a k))))) (fun a => q0 (sp_isRide hg hv (fun k => absurd k a) (fun _ => q0 ⟨rfl, h⟩)))
  obtain ⟨r, hr, rfl⟩ := z_R a
  obtain ⟨d, d1, d2, rfl⟩ := z_of b (by decide)
  have hd7 : d < 7 := by have : (6 : Int32).toInt = 6 := rfl; omega
  have g5 := hg.2.2.2.2.1 r hr
  have U := hu.2.2.2.2.1 r hr
  refine sp_within (fun c => q1 ?_) (fun c => q0 (sp_isRide hg hv (fun _ => q1 (sp_isIn (fun _ => q1 (sp_isOn (g := g) (by omega) hd7 g5.2.2.2.2.2.2.2 (hv.2.2.2.2.1 r hr).2.2.2.2 (fun _ => q1 (sp_isIn (fun k => absurd k c) (fun _ => q0 ⟨rfl, h⟩))) (fun _ => q0 ⟨rfl, h⟩))) (fun k => absurd b k))) (fun k => absurd a k)))
  refine sp_isOnDay (g := g) (by omega) hd7 g5.2.2.2.2.2.2.2 U.2.2.2.2 (fun o => q1 ?_) (fun o => q0 (sp_isRide hg hv (fun _ => q1 (sp_isIn (fun _ => q1 (sp_isOn (g := g) (by omega) hd7 g5.2.2.2.2.2.2.2 (hv.2.2.2.2.1 r hr).2.2.2.2 (fun k => absurd k o) (fun _ => q0 ⟨rfl, h⟩))) (fun k => absurd b k))) (fun k => absurd a k)))
  have hx : -1 ≤ x3.toInt ∧ x3.toInt ≤ 300 := c
  have hk : 7 * r + d < 280 := by omega
  have hk7 : 7 * r + d < 7 * nRi g := by omega
  have eq7 : (7 * r + d) / 7 = r := by omega
  have ivk : vp_in (nI (7 * r + d)) 280 := vp_in_nI hk (by omega)
  have clk : (nI (7 * r + d)).toNatClampNeg = 7 * r + d := nI_clamp (by omega)
  rw [z_7, clk]
  refine ⟨ivk, sp_takeOut (nB_S hg hb) hk (fun u1 nb1 dp1 eb1 hs1 => ⟨ivk, ?_⟩)⟩
  obtain ⟨u2, hu2⟩ : ∃ u2, u2 = tA u1 6 (nI (7 * r + d)) x3 := ⟨_, rfl⟩
  rw [← hu2]
  have e21 : u2.1 = u1.1 := by rw [hu2]; rfl
  have e26 : u2.2 6 = upd (u.2 6) (7 * r + d) x3 := by rw [hu2, tA_eq, clk, eb1.2 6 (by omega) (by omega)]
  have e2n : ∀ j, j ≠ 6 → u2.2 j = u1.2 j := fun j hj => by rw [hu2]; exact tA_ne u1 _ _ hj
  -- the reference's part
  have model : ∀ (u3 : tS) (nb3 : Nat) (dp3 : Nat → Nat), eB u2 u3 → nB u3 (gLate g (7 * r + d) x3.toInt) nb3 dp3 → w_M_late (fun r2 v1 => u.2 6 (7 * r + d) = r2 ∧ Rel u3 v1) (nI r) (nI d) x3 v := by
    intro u3 nb3 dp3 eb hb3
    refine sp_isRide hg hv (fun _ => q1 (sp_isIn (fun _ => q1 (sp_isOn (g := g) (by omega) hd7 g5.2.2.2.2.2.2.2 (hv.2.2.2.2.1 r hr).2.2.2.2 (fun _ => q1 (sp_isIn (fun _ => q1 ?_) (fun k => absurd c k))) (fun k => absurd o k))) (fun k => absurd b k))) (fun k => absurd a k)
    rw [z_7', clk]
    refine ⟨ivk, ivk, ?_, Rel_late (nb := nb3) (dp := dp3) hg hu hv hd hp ha hr hd7 o hx (fun k hk => ?_) (fun j j1 j2 j3 => ?_) ?_ rfl (fun j hj => tA_ne v _ _ hj) (by rw [tA_eq, clk]) hb3⟩
    · rw [zi_eq, hu.2.2.2.2.2.1 r d hr hd7, hv.2.2.2.2.2.1 r d hr hd7 o]
    · rw [eb.1 k hk, e21, eb1.1 k hk]
    · rw [eb.2 j j2 j3, e2n j j1, eb1.2 j j2 j3]
    · rw [eb.2 6 (by omega) (by omega), e26]
  have s2S : nS u2 (nLv (gLate g (7 * r + d) x3.toInt)) (fun x => (x < 7 * nRi g ∧ nLa g x ≠ -1) ∧ x ≠ 7 * r + d) nb1 dp1 := by
    obtain ⟨s1, s2', s3, s4, s5⟩ := hs1
    refine ⟨by rw [e21]; exact s1, s2', fun p hp => ?_, fun p q hpq hq => ?_, s5⟩
    · have := s3 p hp
      rw [e2n 7 (by omega), e2n 8 (by omega), gLate_v g _ _ this.1.2]; exact this
    · have := s4 p q hpq hq
      unfold b2 at *
      rw [gLate_v g _ _ (s3 p (by omega)).1.2, gLate_v g _ _ (s3 q hq).1.2]; exact this
  have okg := gLate_ok hg hr hd7 o hx
  have lat : ∀ j, nLa (gLate g (7 * r + d) x3.toInt) j = if j = 7 * r + d then x3.toInt else nLa g j := fun _ => rfl
  refine sp_putIn s2S hk (fun q => q.2 rfl) (m := nRm g r) g5.2.2.2.1 (by rw [eq7, e2n 3 (by omega), eb1.2 3 (by omega) (by omega)]; exact U.2.2.1) (by rw [e26, pk_us]) hx (fun _ => ?_) (fun e => model u2 nb1 dp1 (eB_rf u2) (nS_B okg s2S (fun j => ?_) (fun _ _ _ => rfl))) (fun e u3 dp3 eb hs3 => model u3 (nb1 + 1) dp3 eb (nS_B okg hs3 (fun j => ?_) (fun _ _ _ => rfl)))
  · show 1440 * (((7 * r + d) % 7 : Nat) : Int) + nRm g ((7 * r + d) / 7) + (if 7 * r + d = 7 * r + d then x3.toInt else nLa g (7 * r + d)) = _
    rw [if_pos rfl, eq7]
  · rw [lat]
    show (j < 7 * nRi g ∧ nLa g j ≠ -1) ∧ j ≠ 7 * r + d ↔ j < 7 * nRi g ∧ (if j = 7 * r + d then x3.toInt else nLa g j) ≠ -1
    by_cases ej : j = 7 * r + d
    · rw [if_pos ej]; constructor
      · intro q; exact absurd ej q.2
      · intro q; exact absurd e q.2
    · rw [if_neg ej]; constructor
      · intro q; exact q.1
      · intro q; exact ⟨q, ej⟩
  · rw [lat]
    show ((j < 7 * nRi g ∧ nLa g j ≠ -1) ∧ j ≠ 7 * r + d) ∨ j = 7 * r + d ↔ j < 7 * nRi g ∧ (if j = 7 * r + d then x3.toInt else nLa g j) ≠ -1
    by_cases ej : j = 7 * r + d
    · rw [if_pos ej]; constructor
      · intro _; exact ⟨by omega, e⟩
      · intro _; exact Or.inr ej
    · rw [if_neg ej]; constructor
      · rintro (q | q)
        · exact q.1
        · exact absurd q ej
      · intro q; exact Or.inl ⟨q, ej⟩
