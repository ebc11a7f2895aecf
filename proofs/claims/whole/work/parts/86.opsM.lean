/-! RIDE -/
def gL (b d : Nat) : Int := if b / 2 ^ d % 2 = 1 then 0 else -1
def gRide (g : nT) (f t m k b : Nat) : nT := (nSt g, nRi g + 1, nWa g, nCh g, fun j => if j = nRi g then f else nRf g j, fun j => if j = nRi g then t else nRt g j, fun j => if j = nRi g then m else nRm g j, fun j => if j = nRi g then k else nRk g j, fun j => if j = nRi g then b else nRd g j, fun j => if j / 7 = nRi g then gL b (j % 7) else nLa g j, nWf g, nWt g, nWk g)
theorem gL_b (b d : Nat) : -1 ≤ gL b d ∧ gL b d ≤ 300 := by unfold gL; split <;> omega
theorem gRide_ok {g : nT} (hg : nOk g) {f t m k b : Nat} (hn : nRi g < 40) (hf : f < nSt g) (ht : t < nSt g) (hft : f ≠ t) (hm : m ≤ 1439) (hk : 1 ≤ k ∧ k ≤ 1440) (hb : 1 ≤ b ∧ b ≤ 127) : nOk (gRide g f t m k b) := by
  obtain ⟨a1, a2, a3, a4, a5, a6, a7⟩ := hg
  refine ⟨a1, by show nRi g + 1 ≤ 40; omega, a3, a4, fun r hr => ?_, fun r d hr hd => ?_, a7⟩
  · show (if r = nRi g then f else nRf g r) < nSt g ∧ (if r = nRi g then t else nRt g r) < nSt g ∧ (if r = nRi g then f else nRf g r) ≠ (if r = nRi g then t else nRt g r) ∧ (if r = nRi g then m else nRm g r) ≤ 1439 ∧ 1 ≤ (if r = nRi g then k else nRk g r) ∧ (if r = nRi g then k else nRk g r) ≤ 1440 ∧ 1 ≤ (if r = nRi g then b else nRd g r) ∧ (if r = nRi g then b else nRd g r) ≤ 127
    by_cases e : r = nRi g
    · simp only [if_pos e]; exact ⟨hf, ht, hft, hm, hk.1, hk.2, hb.1, hb.2⟩
    · simp only [if_neg e]; exact a5 r (by have : r < nRi g + 1 := hr; omega)
  · have hr : r < nRi g + 1 := hr
    show -1 ≤ (if (7 * r + d) / 7 = nRi g then gL b ((7 * r + d) % 7) else nLa g (7 * r + d)) ∧ (if (7 * r + d) / 7 = nRi g then gL b ((7 * r + d) % 7) else nLa g (7 * r + d)) ≤ 300 ∧ (¬ (if r = nRi g then b else nRd g r) / 2 ^ d % 2 = 1 → (if (7 * r + d) / 7 = nRi g then gL b ((7 * r + d) % 7) else nLa g (7 * r + d)) = -1)
    rw [show (7 * r + d) / 7 = r by omega, show (7 * r + d) % 7 = d by omega]
    by_cases e : r = nRi g
    · simp only [if_pos e]
      refine ⟨(gL_b b d).1, (gL_b b d).2, fun q => ?_⟩
      unfold gL; rw [if_neg q]
    · simp only [if_neg e]; exact a6 r d (by omega) hd
theorem nS_c {u : tS} {lv : Nat → Int} {S S' : Nat → Prop} {nb : Nat} {dp : Nat → Nat} (h : nS u lv S nb dp) (e : ∀ k, S k ↔ S' k) : nS u lv S' nb dp := by
  have : S = S' := funext (fun k => propext (e k))
  rw [← this]; exact h
theorem nS_l {u u' : tS} {lv lv' : Nat → Int} {S : Nat → Prop} {nb : Nat} {dp : Nat → Nat} (h : nS u lv S nb dp) (e : ∀ k, S k → lv' k = lv k) (e2 : u'.1 2 = u.1 2) (e7 : u'.2 7 = u.2 7) (e8 : u'.2 8 = u.2 8) : nS u' lv' S nb dp := by
  obtain ⟨s1, s2', s3, s4, s5⟩ := h
  refine ⟨by rw [e2]; exact s1, s2', fun p hp => ?_, fun p q hpq hq => ?_, s5⟩
  · have := s3 p hp
    rw [e7, e8, e _ this.1]; exact this
  · have := s4 p q hpq hq
    unfold b2 at *
    rw [e _ (s3 p (by omega)).1, e _ (s3 q hq).1]; exact this
theorem Rel_ride {u v : tS} {g : nT} {nb : Nat} {dp : Nat → Nat} {f t m k b : Nat} (hg : nOk g) (hu : nU u g) (hv : nV v g) (hd : mD 1000000 (gW g) (gS u)) (hp : nP u v) (ha : nA u v) (hok : nOk (gRide g f t m k b)) {u' v' : tS}
    (e1 : ∀ i, i ≠ 1 → i ≠ 2 → u'.1 i = u.1 i) (e2 : u'.1 1 = nI (nRi g + 1)) (e3 : ∀ j, ¬ (1 ≤ j ∧ j ≤ 8) → u'.2 j = u.2 j) (c1 : u'.2 1 = upd (u.2 1) (nRi g) (nI f)) (c2 : u'.2 2 = upd (u.2 2) (nRi g) (nI t)) (c3 : u'.2 3 = upd (u.2 3) (nRi g) (nI m)) (c4 : u'.2 4 = upd (u.2 4) (nRi g) (nI k)) (c5 : u'.2 5 = upd (u.2 5) (nRi g) (nI b)) (c6 : ∀ d, d < 7 → (u'.2 6 (7 * nRi g + d)).toInt = gL b d) (c7 : ∀ i, i < 7 * nRi g → u'.2 6 i = u.2 6 i)
    (f1 : ∀ i, i ≠ 1 → v'.1 i = v.1 i) (f2 : v'.1 1 = nI (nRi g + 1)) (f3 : ∀ j, ¬ (1 ≤ j ∧ j ≤ 6) → v'.2 j = v.2 j) (d1 : v'.2 1 = upd (v.2 1) (nRi g) (nI f)) (d2 : v'.2 2 = upd (v.2 2) (nRi g) (nI t)) (d3 : v'.2 3 = upd (v.2 3) (nRi g) (nI m)) (d4 : v'.2 4 = upd (v.2 4) (nRi g) (nI k)) (d5 : v'.2 5 = upd (v.2 5) (nRi g) (nI b)) (d6 : ∀ d, d < 7 → v'.2 6 (7 * nRi g + d) = 0) (d7 : ∀ i, i < 7 * nRi g → v'.2 6 i = v.2 6 i)
    (hb : nB u' (gRide g f t m k b) nb dp) : Rel u' v' := by
  refine ⟨gRide g f t m k b, nb, dp, hok, ?_, ?_, hb, ?_, ?_, ?_⟩
  · obtain ⟨u1, u2, u3, u4, u5, u6, u7⟩ := hu
    refine ⟨by rw [e1 0 (by omega) (by omega)]; exact u1, e2, by rw [e1 3 (by omega) (by omega)]; exact u3, fun j hj => by rw [e3 0 (by omega)]; exact u4 j hj, fun r hr => ?_, fun r d hr hd => ?_, fun w hw => ?_⟩
    · have hr : r < nRi g + 1 := hr
      show u'.2 1 r = nI (if r = nRi g then f else nRf g r) ∧ u'.2 2 r = nI (if r = nRi g then t else nRt g r) ∧ u'.2 3 r = nI (if r = nRi g then m else nRm g r) ∧ u'.2 4 r = nI (if r = nRi g then k else nRk g r) ∧ u'.2 5 r = nI (if r = nRi g then b else nRd g r)
      rw [c1, c2, c3, c4, c5]
      by_cases e : r = nRi g
      · subst e; simp only [if_pos]; exact ⟨pk_us, pk_us, pk_us, pk_us, pk_us⟩
      · simp only [if_neg e, pk_un e]; exact u5 r (by omega)
    · have hr : r < nRi g + 1 := hr
      show _ = if (7 * r + d) / 7 = nRi g then gL b ((7 * r + d) % 7) else nLa g (7 * r + d)
      rw [show (7 * r + d) / 7 = r by omega, show (7 * r + d) % 7 = d by omega]
      by_cases e : r = nRi g
      · rw [if_pos e, e]; exact c6 d hd
      · rw [if_neg e, c7 _ (by omega)]; exact u6 r d (by omega) hd
    · rw [e3 9 (by omega), e3 10 (by omega), e3 11 (by omega)]; exact u7 w hw
  · obtain ⟨u1, u2, u3, u4, u5, u6, u7⟩ := hv
    refine ⟨by rw [f1 0 (by omega)]; exact u1, f2, by rw [f1 2 (by omega)]; exact u3, fun j hj => by rw [f3 0 (by omega)]; exact u4 j hj, fun r hr => ?_, fun r d hr hd hon => ?_, fun w hw => ?_⟩
    · have hr : r < nRi g + 1 := hr
      show v'.2 1 r = nI (if r = nRi g then f else nRf g r) ∧ v'.2 2 r = nI (if r = nRi g then t else nRt g r) ∧ v'.2 3 r = nI (if r = nRi g then m else nRm g r) ∧ v'.2 4 r = nI (if r = nRi g then k else nRk g r) ∧ v'.2 5 r = nI (if r = nRi g then b else nRd g r)
      rw [d1, d2, d3, d4, d5]
      by_cases e : r = nRi g
      · subst e; simp only [if_pos]; exact ⟨pk_us, pk_us, pk_us, pk_us, pk_us⟩
      · simp only [if_neg e, pk_un e]; exact u5 r (by omega)
    · have hr : r < nRi g + 1 := hr
      have hon : (if r = nRi g then b else nRd g r) / 2 ^ d % 2 = 1 := hon
      show _ = if (7 * r + d) / 7 = nRi g then gL b ((7 * r + d) % 7) else nLa g (7 * r + d)
      rw [show (7 * r + d) / 7 = r by omega, show (7 * r + d) % 7 = d by omega]
      by_cases e : r = nRi g
      · rw [if_pos e] at hon
        rw [if_pos e, e, d6 d hd]; unfold gL; rw [if_pos hon]; rfl
      · rw [if_neg e] at hon
        rw [if_neg e, d7 _ (by omega)]; exact u6 r d (by omega) hd hon
    · rw [f3 7 (by omega), f3 8 (by omega), f3 9 (by omega)]; exact u7 w hw
  · have : gS u' = gS u := by funext p q; unfold gS; rw [e3 12 (by omega)]
    rw [this]; exact hd
  · unfold nP at *; rw [e1 4 (by omega) (by omega), f1 3 (by omega), e3 19 (by omega), e3 20 (by omega), f3 10 (by omega), f3 11 (by omega)]; exact hp
  · unfold nA at *; rw [e1 5 (by omega) (by omega), f1 4 (by omega), e3 21 (by omega), e3 22 (by omega), e3 23 (by omega), e3 24 (by omega), f3 12 (by omega)]; exact ha
theorem sp_addLoop {post : Int32 → tS → Prop} {w : tS} {r b : Nat} (hr : r < 40) (hb : b ≤ 127) (h5 : w.2 5 r = nI b) (h : ∀ F : Nat → Int32, (∀ d, d < 7 → (F (7 * r + d)).toInt = gL b d) → (∀ i, i < 7 * r → F i = w.2 6 i) → post (nI r) (tI (w.1, va_up w.2 6 F) 1 (w.1 1 + 1))) : ∃ n, w_Ri_add_51 post n (nI r) 0 w := by
  suffices hh : ∃ n, w_Ri_add_51 post n (nI r) (nI 0) (w.1, va_up w.2 6 (w.2 6)) by
    rw [st_eta] at hh; exact hh
  refine pk_loop (fun n d F => w_Ri_add_51 post n (nI r) (nI d) (w.1, va_up w.2 6 F)) (fun d F => (∀ i, i < d → (F (7 * r + i)).toInt = gL b i) ∧ ∀ i, i < 7 * r → F i = w.2 6 i) 7 0 (w.2 6) (by omega)
    ⟨fun i hi => absurd hi (by omega), fun i _ => rfl⟩
    (fun n F hI => ⟨fun _ => h F hI.1 hI.2, fun c => absurd (show (7 : Int32) ≤ nI 7 by decide) c⟩)
    (fun n d F hd hI hw => ⟨fun c => absurd c (show ¬ nI 7 ≤ nI d from nI_ge hd (by omega)), fun _ => ?_⟩)
  have iv : vp_in (nI (7 * r + d)) 280 := vp_in_nI (by omega) (by omega)
  have key : ∀ z : Int32, z.toInt = gL b d → w_Ri_add_51 post n (nI r) (nI d + 1) (tA (w.1, va_up w.2 6 F) 6 (nI r * 7 + nI d) z) := fun z hz => by
    rw [z_7, st_A, nI_clamp (by omega), nI_1]
    refine hw _ ⟨fun i hi => ?_, fun i hi => ?_⟩
    · by_cases e : i = d
      · subst e; rw [pk_us]; exact hz
      · rw [pk_un (by omega)]; exact hI.1 i (by omega)
    · rw [pk_un (by omega)]; exact hI.2 i hi
  refine sp_isOnDay (g := (0, 0, 0, fun _ => 0, fun _ => 0, fun _ => 0, fun _ => 0, fun _ => 0, fun _ => b, fun _ => 0, fun _ => 0, fun _ => 0, fun _ => 0)) hr hd hb ?_ (fun o => q1 ⟨by rw [z_7]; exact iv, key 0 ?_⟩) (fun o => q0 ⟨by rw [z_7]; exact iv, key (-1) ?_⟩)
  · show va_up w.2 6 F 5 r = _
    rw [st_ne _ _ (by omega)]; exact h5
  · have o : b / 2 ^ d % 2 = 1 := o
    unfold gL; rw [if_pos o]; rfl
  · have o : ¬ b / 2 ^ d % 2 = 1 := o
    unfold gL; rw [if_neg o]; rfl
theorem sp_rideLoop {post : Int32 → tS → Prop} {w : tS} {r : Nat} (hr : r < 40) (h1 : w.1 1 = nI r) (h : ∀ F : Nat → Int32, (∀ d, d < 7 → F (7 * r + d) = 0) → (∀ i, i < 7 * r → F i = w.2 6 i) → post (nI r) (tI (w.1, va_up w.2 6 F) 1 (nI (r + 1)))) : ∃ n, w_M_ride_113 post n 0 w := by
  suffices hh : ∃ n, w_M_ride_113 post n (nI 0) (w.1, va_up w.2 6 (w.2 6)) by
    rw [st_eta] at hh; exact hh
  refine pk_loop (fun n d F => w_M_ride_113 post n (nI d) (w.1, va_up w.2 6 F)) (fun d F => (∀ i, i < d → F (7 * r + i) = 0) ∧ ∀ i, i < 7 * r → F i = w.2 6 i) 7 0 (w.2 6) (by omega)
    ⟨fun i hi => absurd hi (by omega), fun i _ => rfl⟩
    (fun n F hI => ⟨fun _ => ?_, fun c => absurd (show (7 : Int32) ≤ nI 7 by decide) c⟩)
    (fun n d F hd hI hw => ⟨fun c => absurd c (show ¬ nI 7 ≤ nI d from nI_ge hd (by omega)), fun _ => ?_⟩)
  · have := h F hI.1 hI.2
    rw [tI_eq]
    show post (w.1 1 + 1 - 1) (tI (w.1, va_up w.2 6 F) 1 (w.1 1 + 1))
    rw [h1, nI_1, nI_pred]; exact this
  · show vp_in (7 * w.1 1 + nI d) 280 ∧ w_M_ride_113 post n (nI d + 1) (tA (w.1, va_up w.2 6 F) 6 (7 * w.1 1 + nI d) 0)
    rw [h1, z_7', st_A, nI_clamp (by omega), nI_1]
    refine ⟨vp_in_nI (by omega) (by omega), hw _ ⟨fun i hi => ?_, fun i hi => ?_⟩⟩
    · by_cases e : i = d
      · subst e; rw [pk_us]
      · rw [pk_un (by omega)]; exact hI.1 i (by omega)
    · rw [pk_un (by omega)]; exact hI.2 i hi
theorem sp_putRide {post : tS → Prop} {w : tS} {g : nT} {r nb : Nat} {dp : Nat → Nat} (hg : nOk g) (hr : nRi g = r + 1) (h3 : w.2 3 r = nI (nRm g r)) (h6 : ∀ d, d < 7 → (w.2 6 (7 * r + d)).toInt = nLa g (7 * r + d)) (hb : nS w (nLv g) (fun k => k < 7 * r ∧ nLa g k ≠ -1) nb dp) (h : ∀ (u' : tS) (nb' : Nat) (dp' : Nat → Nat), eB w u' → nB u' g nb' dp' → post u') : w_Bo_putRide post (nI r) w := by
  have g2 := hg.2.1
  refine pk_loop (σ := tS) (fun n d s => w_Bo_putRide_2 post n (nI r) (nI d) s) (fun d s => eB w s ∧ ∃ nb dp, nS s (nLv g) (fun k => k < 7 * r + d ∧ nLa g k ≠ -1) nb dp) 7 0 w (by omega)
    ⟨eB_rf w, nb, dp, hb⟩
    (fun n s hI => ⟨fun _ => ?_, fun c => absurd (show (7 : Int32) ≤ nI 7 by decide) c⟩)
    (fun n d s hd hI hw => ⟨fun c => absurd c (show ¬ nI 7 ≤ nI d from nI_ge hd (by omega)), fun _ => ?_⟩)
  · obtain ⟨e, nb', dp', hs⟩ := hI
    exact h s nb' dp' e (nS_B hg hs (fun k => by rw [hr, show 7 * (r + 1) = 7 * r + 7 by omega]) (fun _ _ _ => rfl))
  · obtain ⟨e, nb', dp', hs⟩ := hI
    have lb := nLa_b hg (k := 7 * r + d) (by omega)
    rw [z_7, nI_1]
    refine sp_putIn hs (k := 7 * r + d) (m := nRm g r) (l := nLa g (7 * r + d)) (by omega) (fun q => by have := q.1; omega) (hg.2.2.2.2.1 r (by omega)).2.2.2.1 (by rw [show (7 * r + d) / 7 = r by omega, e.2 3 (by omega) (by omega)]; exact h3) (by rw [e.2 6 (by omega) (by omega)]; exact h6 d hd) lb (fun _ => ?_) (fun z => hw s ⟨e, nb', dp', nS_c hs (fun x => ?_)⟩) (fun z u' dp'' e' hs' => hw u' ⟨eB_tr e e', nb' + 1, dp'', nS_c hs' (fun x => ?_)⟩)
    · unfold nLv; rw [show (7 * r + d) / 7 = r by omega]
    · constructor
      · intro q; exact ⟨by omega, q.2⟩
      · intro q
        have : x ≠ 7 * r + d := fun y => q.2 (by rw [y]; exact z)
        exact ⟨by omega, q.2⟩
    · constructor
      · rintro (q | q)
        · exact ⟨by omega, q.2⟩
        · subst q; exact ⟨by omega, z⟩
      · intro q
        by_cases y : x = 7 * r + d
        · exact Or.inr y
        · exact Or.inl ⟨by omega, q.2⟩
set_option maxHeartbeats 2000000 in
theorem pr_ride (u v : tS) (x1 x2 x3 x4 x5 : Int32) (h : Rel u v) : w_T_ride (fun r1 u1 => w_M_ride (fun r2 v1 => r1 = r2 ∧ Rel u1 v1) x1 x2 x3 x4 x5 v) x1 x2 x3 x4 x5 u := by
  obtain ⟨g, nb, dp, hg, hu, hv, hb, hd, hp, ha⟩ := id h
  have g1 := hg.1; have g2 := hg.2.1
  have hn := hu.2.1; have hm := hv.2.1
  have bad : ¬ (zS g x1 ∧ zS g x2 ∧ ¬ x1 = x2 ∧ zIn x3 0 1439 ∧ zIn x4 1 1440 ∧ zIn x5 1 127) → w_M_ride (fun r2 v1 => (-2) = r2 ∧ Rel u v1) x1 x2 x3 x4 x5 v := fun hn =>
    sp_areTwo hg hv (fun a b c => q1 (sp_isIn (fun d => q1 (sp_isIn (fun e => q1 (sp_isIn (fun f => absurd ⟨a, b, c, d, e, f⟩ hn) (fun _ => q0 ⟨rfl, h⟩))) (fun _ => q0 ⟨rfl, h⟩))) (fun _ => q0 ⟨rfl, h⟩))) (fun _ => q0 ⟨rfl, h⟩)
  refine sp_hasStops hg hu (fun a b => q1 ⟨fun c => bad (fun k => k.2.2.1 c), fun c => sp_within (fun d => q1 (sp_within (fun e => q1 (sp_within (fun f => q1 ⟨fun l => ?_, fun l => ?_⟩) (fun f => q0 (bad (fun k => f k.2.2.2.2.2))))) (fun e => q0 (bad (fun k => e k.2.2.2.2.1))))) (fun d => q0 (bad (fun k => d k.2.2.2.1)))⟩) (fun k => q0 (bad (fun z => k ⟨z.1, z.2.1⟩)))
  · rw [hn] at l
    have hlt : nRi g < 40 := (nI_ltI (by omega) (by omega)).mp (show nI (nRi g) < nI 40 from l)
    obtain ⟨sf, hf, rfl⟩ := z_S a
    obtain ⟨st, ht, rfl⟩ := z_S b
    obtain ⟨m, m1, m2, rfl⟩ := z_of d (by decide)
    obtain ⟨k, k1, k2, rfl⟩ := z_of e (by decide)
    obtain ⟨dy, y1, y2, rfl⟩ := z_of f (by decide)
    have hm' : m ≤ 1439 := by have : (1439 : Int32).toInt = 1439 := rfl; omega
    have hk' : 1 ≤ k ∧ k ≤ 1440 := by have : (1440 : Int32).toInt = 1440 := rfl; have : (1 : Int32).toInt = 1 := rfl; omega
    have hy' : 1 ≤ dy ∧ dy ≤ 127 := by have : (127 : Int32).toInt = 127 := rfl; have : (1 : Int32).toInt = 1 := rfl; omega
    have iv : vp_in (nI (nRi g)) 40 := vp_in_nI hlt (by omega)
    have cl : (nI (nRi g)).toNatClampNeg = nRi g := nI_clamp (by omega)
    have hft : sf ≠ st := fun q => c (by rw [q])
    have hok := gRide_ok hg hlt hf ht hft hm' hk' hy'
    unfold w_Ri_add
    rw [hn]
    refine ⟨iv, iv, iv, iv, iv, ?_⟩
    obtain ⟨w, hw⟩ : ∃ w, w = tA (tA (tA (tA (tA u 1 (nI (nRi g)) (nI sf)) 2 (nI (nRi g)) (nI st)) 3 (nI (nRi g)) (nI m)) 4 (nI (nRi g)) (nI k)) 5 (nI (nRi g)) (nI dy) := ⟨_, rfl⟩
    rw [← hw]
    have w0 : w.1 = u.1 := by rw [hw]; rfl
    have w1 : w.2 1 = upd (u.2 1) (nRi g) (nI sf) := by rw [hw]; show upd (u.2 1) (nI (nRi g)).toNatClampNeg (nI sf) = _; rw [cl]
    have w2 : w.2 2 = upd (u.2 2) (nRi g) (nI st) := by rw [hw]; show upd (u.2 2) (nI (nRi g)).toNatClampNeg (nI st) = _; rw [cl]
    have w3 : w.2 3 = upd (u.2 3) (nRi g) (nI m) := by rw [hw]; show upd (u.2 3) (nI (nRi g)).toNatClampNeg (nI m) = _; rw [cl]
    have w4 : w.2 4 = upd (u.2 4) (nRi g) (nI k) := by rw [hw]; show upd (u.2 4) (nI (nRi g)).toNatClampNeg (nI k) = _; rw [cl]
    have w5 : w.2 5 = upd (u.2 5) (nRi g) (nI dy) := by rw [hw]; show upd (u.2 5) (nI (nRi g)).toNatClampNeg (nI dy) = _; rw [cl]
    have wn : ∀ j, ¬ (1 ≤ j ∧ j ≤ 5) → w.2 j = u.2 j := fun j hj => by rw [hw, tA_ne _ _ _ (by omega), tA_ne _ _ _ (by omega), tA_ne _ _ _ (by omega), tA_ne _ _ _ (by omega), tA_ne _ _ _ (by omega)]
    refine sp_addLoop hlt hy'.2 (by rw [w5, pk_us]) (fun F hF1 hF2 => ?_)
    obtain ⟨z, hz⟩ : ∃ z, z = tI (w.1, va_up w.2 6 F) 1 (w.1 1 + 1) := ⟨_, rfl⟩
    rw [← hz]
    have z6 : z.2 6 = F := by rw [hz, tI_2]; exact st_rd w.2 6 F
    have zn : ∀ j, j ≠ 6 → z.2 j = w.2 j := fun j hj => by rw [hz, tI_2]; exact st_ne w.2 F hj
    have zi : ∀ i, i ≠ 1 → z.1 i = u.1 i := fun i hi => by rw [hz, tI_ne _ _ hi]; show w.1 i = _; rw [w0]
    have z1 : z.1 1 = nI (nRi g + 1) := by rw [hz, tI_eq, w0, hn, nI_1]
    have lat : ∀ d, d < 7 → nLa (gRide g sf st m k dy) (7 * nRi g + d) = gL dy d := fun d hd => by
      show (if (7 * nRi g + d) / 7 = nRi g then gL dy ((7 * nRi g + d) % 7) else nLa g (7 * nRi g + d)) = _
      rw [if_pos (by omega), show (7 * nRi g + d) % 7 = d by omega]
    have lat' : ∀ j, j < 7 * nRi g → nLa (gRide g sf st m k dy) j = nLa g j := fun j hj => by
      show (if j / 7 = nRi g then gL dy (j % 7) else nLa g j) = _
      rw [if_neg (by omega)]
    have lv' : ∀ j, j < 7 * nRi g → nLv (gRide g sf st m k dy) j = nLv g j := fun j hj => by
      unfold nLv
      rw [lat' j hj]
      show 1440 * ((j % 7 : Nat) : Int) + ((if j / 7 = nRi g then m else nRm g (j / 7) : Nat) : Int) + nLa g j = _
      rw [if_neg (by omega)]
    have hs : nS z (nLv (gRide g sf st m k dy)) (fun j => j < 7 * nRi g ∧ nLa (gRide g sf st m k dy) j ≠ -1) nb dp := by
      refine nS_c (nS_l (nB_S hg hb) (fun j hj => lv' j hj.1) (zi 2 (by omega)) (by rw [zn 7 (by omega), wn 7 (by omega)]) (by rw [zn 8 (by omega), wn 8 (by omega)])) (fun j => ?_)
      constructor
      · intro q; exact ⟨q.1, by rw [lat' j q.1]; exact q.2⟩
      · intro q; exact ⟨q.1, by have := q.2; rw [lat' j q.1] at this; exact this⟩
    refine sp_putRide (g := gRide g sf st m k dy) hok rfl (by
      rw [zn 3 (by omega), w3, pk_us]
      show nI m = nI (if nRi g = nRi g then m else nRm g (nRi g))
      rw [if_pos rfl]) (fun d hd => by rw [z6, lat d hd]; exact hF1 d hd) hs (fun u' nb' dp' eb hb' => ?_)
    refine sp_areTwo hg hv (fun _ _ _ => q1 (sp_isIn (fun _ => q1 (sp_isIn (fun _ => q1 (sp_isIn (fun _ => q1 ⟨fun q => ?_, fun q => ?_⟩) (fun q => absurd f q))) (fun q => absurd e q))) (fun q => absurd d q))) (fun q => absurd ⟨a, b, c⟩ q)
    · rw [hm] at q; exact absurd ((nI_eq (by omega) (by omega)).mp (show nI (nRi g) = nI 40 from q)) (by omega)
    · simp only [tA_1, hm]
      refine ⟨iv, iv, iv, iv, iv, ?_⟩
      obtain ⟨y, hy⟩ : ∃ y, y = tA (tA (tA (tA (tA v 1 (nI (nRi g)) (nI sf)) 2 (nI (nRi g)) (nI st)) 3 (nI (nRi g)) (nI m)) 4 (nI (nRi g)) (nI k)) 5 (nI (nRi g)) (nI dy) := ⟨_, rfl⟩
      rw [← hy]
      have yw0 : y.1 = v.1 := by rw [hy]; rfl
      have yw1 : y.2 1 = upd (v.2 1) (nRi g) (nI sf) := by rw [hy]; show upd (v.2 1) (nI (nRi g)).toNatClampNeg (nI sf) = _; rw [cl]
      have yw2 : y.2 2 = upd (v.2 2) (nRi g) (nI st) := by rw [hy]; show upd (v.2 2) (nI (nRi g)).toNatClampNeg (nI st) = _; rw [cl]
      have yw3 : y.2 3 = upd (v.2 3) (nRi g) (nI m) := by rw [hy]; show upd (v.2 3) (nI (nRi g)).toNatClampNeg (nI m) = _; rw [cl]
      have yw4 : y.2 4 = upd (v.2 4) (nRi g) (nI k) := by rw [hy]; show upd (v.2 4) (nI (nRi g)).toNatClampNeg (nI k) = _; rw [cl]
      have yw5 : y.2 5 = upd (v.2 5) (nRi g) (nI dy) := by rw [hy]; show upd (v.2 5) (nI (nRi g)).toNatClampNeg (nI dy) = _; rw [cl]
      have ywn : ∀ j, ¬ (1 ≤ j ∧ j ≤ 5) → y.2 j = v.2 j := fun j hj => by rw [hy, tA_ne _ _ _ (by omega), tA_ne _ _ _ (by omega), tA_ne _ _ _ (by omega), tA_ne _ _ _ (by omega), tA_ne _ _ _ (by omega)]
      refine sp_rideLoop hlt (by rw [yw0]; exact hm) (fun G hG1 hG2 => ⟨rfl, ?_⟩)
      refine Rel_ride (nb := nb') (dp := dp') hg hu hv hd hp ha hok (fun i i1 i2 => ?_) ?_ (fun j hj => ?_) ?_ ?_ ?_ ?_ ?_ (fun d hd => ?_) (fun i hi => ?_) (fun i hi => ?_) ?_ (fun j hj => ?_) ?_ ?_ ?_ ?_ ?_ (fun d hd => ?_) (fun i hi => ?_) hb'
      · rw [eb.1 i i2, zi i i1]
      · rw [eb.1 1 (by omega), z1]
      · rw [eb.2 j (by omega) (by omega), zn j (by omega), wn j (by omega)]
      · rw [eb.2 1 (by omega) (by omega), zn 1 (by omega), w1]
      · rw [eb.2 2 (by omega) (by omega), zn 2 (by omega), w2]
      · rw [eb.2 3 (by omega) (by omega), zn 3 (by omega), w3]
      · rw [eb.2 4 (by omega) (by omega), zn 4 (by omega), w4]
      · rw [eb.2 5 (by omega) (by omega), zn 5 (by omega), w5]
      · rw [eb.2 6 (by omega) (by omega), z6]; exact hF1 d hd
      · rw [eb.2 6 (by omega) (by omega), z6, hF2 i hi, wn 6 (by omega)]
      · rw [tI_ne _ _ hi]; show y.1 i = _; rw [yw0]
      · exact tI_eq _ _ _
      · rw [tI_2]; show va_up y.2 6 G j = _; rw [st_ne _ _ (by omega), ywn j (by omega)]
      · rw [tI_2]; show va_up y.2 6 G 1 = _; rw [st_ne _ _ (by omega), yw1]
      · rw [tI_2]; show va_up y.2 6 G 2 = _; rw [st_ne _ _ (by omega), yw2]
      · rw [tI_2]; show va_up y.2 6 G 3 = _; rw [st_ne _ _ (by omega), yw3]
      · rw [tI_2]; show va_up y.2 6 G 4 = _; rw [st_ne _ _ (by omega), yw4]
      · rw [tI_2]; show va_up y.2 6 G 5 = _; rw [st_ne _ _ (by omega), yw5]
      · rw [tI_2]; show va_up y.2 6 G 6 _ = _; rw [st_rd]; exact hG1 d hd
      · rw [tI_2]; show va_up y.2 6 G 6 _ = _; rw [st_rd, hG2 i hi, ywn 6 (by omega)]
  · rw [hn] at l
    have hge : nRi g = 40 := by
      have : ¬ nRi g < 40 := fun q => l (show nI (nRi g) < nI 40 from nI_lt q (by omega))
      omega
    exact sp_areTwo hg hv (fun _ _ _ => q1 (sp_isIn (fun _ => q1 (sp_isIn (fun _ => q1 (sp_isIn (fun _ => q1 ⟨fun _ => ⟨rfl, h⟩, fun q => absurd (by rw [hm, hge]; rfl) q⟩) (fun q => absurd f q))) (fun q => absurd e q))) (fun q => absurd d q))) (fun q => absurd ⟨a, b, c⟩ q)
