theorem Rel_z {u v : tS} (h0 : u.1 0 = 0) (h1 : u.1 1 = 0) (h2 : u.1 2 = 0) (h3 : u.1 3 = 0) (h4 : u.1 4 = 0) (h5 : u.1 5 = 0) (k0 : v.1 0 = 0) (k1 : v.1 1 = 0) (k2 : v.1 2 = 0) (k3 : v.1 3 = 0) (k4 : v.1 4 = 0) (hf : ∀ j : Nat, j < 144 → u.2 12 j = 1000000) : Rel u v := by
  refine ⟨(0, 0, 0, fun _ => 0, fun _ => 0, fun _ => 0, fun _ => 0, fun _ => 0, fun _ => 0, fun _ => 0, fun _ => 0, fun _ => 0, fun _ => 0), 0, fun _ => 0, ?_, ?_, ?_, ?_, ?_, ?_, ?_⟩
  · refine ⟨by decide, by decide, by decide, ?_, ?_, ?_, ?_⟩ <;> intro a <;> first | (intro h; exact absurd h (Nat.not_lt_zero _)) | (intro b h; exact absurd h (Nat.not_lt_zero _))
  · refine ⟨h0, h1, h3, ?_, ?_, ?_, ?_⟩ <;> intro a <;> first | (intro h; exact absurd h (Nat.not_lt_zero _)) | (intro b h; exact absurd h (Nat.not_lt_zero _))
  · refine ⟨k0, k1, k2, ?_, ?_, ?_, ?_⟩ <;> intro a <;> first | (intro h; exact absurd h (Nat.not_lt_zero _)) | (intro b h; exact absurd h (Nat.not_lt_zero _))
  · refine ⟨h2, Nat.zero_le _, fun p h => absurd h (Nat.not_lt_zero _), fun p q _ h => absurd h (Nat.not_lt_zero _), fun k h => absurd h (Nat.not_lt_zero _)⟩
  · have e : ∀ x y, gS u x y = 1000000 := fun x y => by
      unfold gS; split
      · rw [hf _ (by omega)]; rfl
      · rfl
    have no : ∀ {y x d}, ¬ gW (0, 0, 0, fun _ => 0, fun _ => 0, fun _ => 0, fun _ => 0, fun _ => 0, fun _ => 0, fun _ => 0, fun _ => 0, fun _ => 0, fun _ => 0) y x d := fun h => by
      obtain ⟨w, h, _⟩ := h; exact absurd h (Nat.not_lt_zero _)
    refine ⟨fun x y => by rw [e]; exact Int.le_refl _, fun x => ⟨fun y d h => absurd h no, fun z y d h => absurd h no⟩, fun x a ha _ y => by rw [e]; exact ha y⟩
  · exact ⟨0, by omega, h4, k3, fun i h => absurd h (Nat.not_lt_zero _)⟩
  · exact ⟨0, by omega, h5, k4, fun i h => absurd h (Nat.not_lt_zero _)⟩
theorem pr_clear (u v : tS) (h : Rel u v) : w_T_clear (fun r1 u1 => w_M_clear (fun r2 v1 => r1 = r2 ∧ Rel u1 v1) v) u := by
  obtain ⟨g, nb, dp, hg, hu, hv, -⟩ := h
  refine sp_fill (fun f hf => ⟨hu.2.1.trans hv.2.1.symm, ?_⟩)
  exact Rel_z rfl rfl rfl rfl rfl rfl rfl rfl rfl rfl rfl hf
/-- one stop more -/
def gStop (g : nT) (c : Nat) : nT := (nSt g + 1, nRi g, nWa g, fun j => if j = nSt g then c else nCh g j, nRf g, nRt g, nRm g, nRk g, nRd g, nLa g, nWf g, nWt g, nWk g)
theorem z_of {x : Int32} {a b : Int} (h : zIn x a b) (ha : 0 ≤ a) : ∃ n : Nat, (n : Int) ≤ b ∧ a ≤ n ∧ x = nI n := ⟨x.toInt.toNat, by have := h.1; have := h.2; omega, by have := h.1; omega, zi_nI (by have := h.1; omega)⟩
theorem upd_ne {α : Type} (f : Nat → Int32) {j k : Nat} (x : Int32) (h : j ≠ k) : upd f k x j = f j := pk_un h
theorem Rel_stop {u v : tS} (h : Rel u v) {c n : Nat} (hn : u.1 0 = nI n) (hn' : n < 12) (hc : c ≤ 60) : Rel (tI (tA u 0 (nI n) (nI c)) 0 (nI (n + 1))) (tI (tA v 0 (nI n) (nI c)) 0 (nI (n + 1))) := by
  obtain ⟨g, nb, dp, hg, hu, hv, hb, hd, hp, ha⟩ := h
  have en : nSt g = n := by
    have := hu.1.symm.trans hn
    exact (nI_eq (by have := hg.1; omega) (by omega)).mp this
  refine ⟨gStop g c, nb, dp, ?_, ?_, ?_, hb, hd, hp, ha⟩
  · obtain ⟨g1, g2, g3, g4, g5, g6, g7⟩ := hg
    refine ⟨by show nSt g + 1 ≤ 12; omega, g2, g3, fun j hj => ?_, fun r hr => ?_, g6, fun w hw => ?_⟩
    · show (if j = nSt g then c else nCh g j) ≤ 60
      split
      · exact hc
      · exact g4 j (by have : j < nSt g + 1 := hj; omega)
    · have := g5 r hr; exact ⟨Nat.lt_succ_of_lt this.1, Nat.lt_succ_of_lt this.2.1, this.2.2⟩
    · have := g7 w hw; exact ⟨Nat.lt_succ_of_lt this.1, Nat.lt_succ_of_lt this.2.1, this.2.2⟩
  · obtain ⟨u1, u2, u3, u4, u5, u6, u7⟩ := hu
    refine ⟨by show nI (n + 1) = nI (nSt g + 1); rw [en], u2, u3, fun j hj => ?_, u5, u6, u7⟩
    show upd (u.2 0) (nI n).toNatClampNeg (nI c) j = nI (if j = nSt g then c else nCh g j)
    rw [nI_clamp (by omega), en]
    by_cases e : j = n
    · rw [e, pk_us, if_pos rfl]
    · rw [pk_un e, if_neg e]; exact u4 j (by have : j < nSt g + 1 := hj; omega)
  · obtain ⟨u1, u2, u3, u4, u5, u6, u7⟩ := hv
    refine ⟨by show nI (n + 1) = nI (nSt g + 1); rw [en], u2, u3, fun j hj => ?_, u5, u6, u7⟩
    show upd (v.2 0) (nI n).toNatClampNeg (nI c) j = nI (if j = nSt g then c else nCh g j)
    rw [nI_clamp (by omega), en]
    by_cases e : j = n
    · rw [e, pk_us, if_pos rfl]
    · rw [pk_un e, if_neg e]; exact u4 j (by have : j < nSt g + 1 := hj; omega)
theorem pr_stop (u v : tS) (x1 : Int32) (h : Rel u v) : w_T_stop (fun r1 u1 => w_M_stop (fun r2 v1 => r1 = r2 ∧ Rel u1 v1) x1 v) x1 u := by
  obtain ⟨g, nb, dp, hg, hu, hv, -⟩ := id h
  have hn := hu.1; have hm := hv.1; have g1 := hg.1
  refine sp_within (fun hi => q1 ⟨fun c => ⟨?_, ?_⟩, fun c => ?_⟩) (fun hi => q0 ?_)
  · rw [hn] at c ⊢
    exact vp_in_nI ((nI_ltI (by omega) (by omega)).mp (show nI (nSt g) < nI 12 from c)) (by omega)
  · rw [hn] at c
    have hlt : nSt g < 12 := (nI_ltI (by omega) (by omega)).mp (show nI (nSt g) < nI 12 from c)
    refine sp_isIn (fun _ => q1 ⟨fun d => ?_, fun d => ⟨?_, ?_, ?_⟩⟩) (fun k => absurd hi k)
    · rw [hm] at d; exact absurd ((nI_eq (by omega) (by omega)).mp (show nI (nSt g) = nI 12 from d)) (by omega)
    · rw [hm]; exact vp_in_nI hlt (by omega)
    · rw [tI_eq, tI_eq, tA_1, tA_1, hn, hm]
    · obtain ⟨k, k1, k2, rfl⟩ := z_of hi (by decide)
      rw [tA_1, tA_1, hn, hm, nI_1]
      exact Rel_stop h hn hlt (by have : (60 : Int32).toInt = 60 := rfl; omega)
  · rw [hn] at c
    have hge : nSt g = 12 := by
      have : ¬ nSt g < 12 := fun q => c (show nI (nSt g) < nI 12 from nI_lt q (by omega))
      omega
    refine sp_isIn (fun _ => q1 ⟨fun d => ⟨rfl, h⟩, fun d => absurd (by rw [hm, hge]; rfl) d⟩) (fun k => absurd hi k)
  · exact sp_isIn (fun k => absurd k hi) (fun _ => q0 ⟨rfl, h⟩)
/-- a change -/
def gChange (g : nT) (s c : Nat) : nT := (nSt g, nRi g, nWa g, fun j => if j = s then c else nCh g j, nRf g, nRt g, nRm g, nRk g, nRd g, nLa g, nWf g, nWt g, nWk g)
theorem z_S {g : nT} {x : Int32} (h : zS g x) : ∃ n : Nat, n < nSt g ∧ x = nI n := ⟨x.toInt.toNat, by have := h.1; have := h.2; omega, zi_nI (by have := h.1; omega)⟩
theorem z_R {g : nT} {x : Int32} (h : zR g x) : ∃ n : Nat, n < nRi g ∧ x = nI n := ⟨x.toInt.toNat, by have := h.1; have := h.2; omega, zi_nI (by have := h.1; omega)⟩
theorem pr_change (u v : tS) (x1 x2 : Int32) (h : Rel u v) : w_T_change (fun r1 u1 => w_M_change (fun r2 v1 => r1 = r2 ∧ Rel u1 v1) x1 x2 v) x1 x2 u := by
  obtain ⟨g, nb, dp, hg, hu, hv, hb, hd, hp, ha⟩ := id h
  have g1 := hg.1
  refine sp_hasStop hg hu (fun hs => q1 (sp_within (fun hi => q1 ?_) (fun hi => q0 ?_))) (fun hs => q0 ?_)
  · obtain ⟨s, hs', rfl⟩ := z_S hs
    obtain ⟨c, c1, c2, rfl⟩ := z_of hi (by decide)
    have c60 : c ≤ 60 := by have : (60 : Int32).toInt = 60 := rfl; omega
    have iv : vp_in (nI s) 12 := vp_in_nI (by omega) (by omega)
    refine ⟨iv, iv, sp_isStop hg hv (fun _ => q1 (sp_isIn (fun _ => q1 ⟨iv, iv, ?_, ?_⟩) (fun k => absurd hi k))) (fun k => absurd hs k)⟩
    · rw [nI_clamp (by omega), hu.2.2.2.1 s hs', hv.2.2.2.1 s hs']
    · refine ⟨gChange g s c, nb, dp, ?_, ?_, ?_, hb, hd, hp, ha⟩
      · obtain ⟨a1, a2, a3, a4, a5, a6, a7⟩ := hg
        refine ⟨a1, a2, a3, fun j hj => ?_, a5, a6, a7⟩
        show (if j = s then c else nCh g j) ≤ 60
        split
        · exact c60
        · exact a4 j hj
      · obtain ⟨u1, u2, u3, u4, u5, u6, u7⟩ := hu
        refine ⟨u1, u2, u3, fun j hj => ?_, u5, u6, u7⟩
        show upd (u.2 0) (nI s).toNatClampNeg (nI c) j = nI (if j = s then c else nCh g j)
        rw [nI_clamp (by omega)]
        by_cases e : j = s
        · rw [e, pk_us, if_pos rfl]
        · rw [pk_un e, if_neg e]; exact u4 j hj
      · obtain ⟨u1, u2, u3, u4, u5, u6, u7⟩ := hv
        refine ⟨u1, u2, u3, fun j hj => ?_, u5, u6, u7⟩
        show upd (v.2 0) (nI s).toNatClampNeg (nI c) j = nI (if j = s then c else nCh g j)
        rw [nI_clamp (by omega)]
        by_cases e : j = s
        · rw [e, pk_us, if_pos rfl]
        · rw [pk_un e, if_neg e]; exact u4 j hj
  · exact sp_isStop hg hv (fun _ => q1 (sp_isIn (fun k => absurd k hi) (fun _ => q0 ⟨rfl, h⟩))) (fun k => absurd hs k)
  · exact sp_isStop hg hv (fun k => absurd k hs) (fun _ => q0 ⟨rfl, h⟩)
theorem z_lit {x : Int32} {k : Nat} (hk : k < 2147483648) (h : x.toInt = k) : x = nI k := zi_nI h
theorem pr_step (u v : tS) (x1 x2 : Int32) (h : Rel u v) : w_T_step (fun r1 u1 => w_M_step (fun r2 v1 => r1 = r2 ∧ Rel u1 v1) x1 x2 v) x1 x2 u := by
  obtain ⟨g, nb, dp, hg, hu, hv, hb, hd, hp, ha⟩ := id h
  obtain ⟨n, hn, p1, p2, p3⟩ := hp
  have two : ∀ {A : Prop}, (zIn x2 0 1 → A) → (¬ zIn x2 0 1 → A) → A := fun a b => by by_cases q : zIn x2 0 1; exact a q; exact b q
  refine sp_below p1 hn (fun hi => q1 ⟨fun c => ?_, fun c => ⟨fun d => ?_, fun d => ?_⟩⟩) (fun hi => q0 (sp_belowM p2 hn (fun k => absurd k hi) (fun _ => q0 ⟨rfl, h⟩)))
  · obtain ⟨i, hi', rfl⟩ : ∃ i : Nat, i < n ∧ x1 = nI i := ⟨x1.toInt.toNat, by omega, zi_nI (by omega)⟩
    have iv : vp_in (nI i) 601 := vp_in_nI (by omega) (by omega)
    subst c
    refine ⟨iv, sp_belowM p2 hn (fun _ => q1 (sp_isIn (fun _ => q1 ⟨fun _ => ⟨iv, ?_, h⟩, fun e => absurd rfl e⟩) (fun k => absurd (by unfold zIn; decide) k))) (fun k => absurd hi k)⟩
    rw [nI_clamp (by omega)]; exact (p3 i hi').1
  · obtain ⟨i, hi', rfl⟩ : ∃ i : Nat, i < n ∧ x1 = nI i := ⟨x1.toInt.toNat, by omega, zi_nI (by omega)⟩
    have iv : vp_in (nI i) 601 := vp_in_nI (by omega) (by omega)
    subst d
    have e := (p3 i hi').2
    rw [nI_clamp (by omega)]
    refine ⟨iv, fun q => ?_, fun q => ?_⟩
    · refine sp_belowM p2 hn (fun _ => q1 (sp_isIn (fun _ => q1 ⟨fun e => absurd e (by decide), fun _ => ⟨iv, ?_, h⟩⟩) (fun k => absurd (by unfold zIn; decide) k))) (fun k => absurd hi k)
      rw [nI_clamp (by omega), e, if_pos q]
    · refine sp_belowM p2 hn (fun _ => q1 (sp_isIn (fun _ => q1 ⟨fun e => absurd e (by decide), fun _ => ⟨iv, ?_, h⟩⟩) (fun k => absurd (by unfold zIn; decide) k))) (fun k => absurd hi k)
      rw [nI_clamp (by omega), e, if_neg q]
  · have hx : ¬ zIn x2 0 1 := fun q => by
      have a := q.1; have b := q.2
      have : x2.toInt = 0 ∨ x2.toInt = 1 := by omega
      rcases this with e | e
      · exact c (zi_eq.mpr e)
      · exact d (zi_eq.mpr e)
    exact sp_belowM p2 hn (fun _ => q1 (sp_isIn (fun k => absurd k hx) (fun _ => q0 ⟨rfl, h⟩))) (fun k => absurd hi k)
theorem z_place {n i : Nat} (hi : i < n) (hn : n ≤ 24) : nI n - 1 - nI i = nI (n - 1 - i) := by
  obtain ⟨m, rfl⟩ : ∃ m, n = m + 1 := ⟨n - 1, by omega⟩
  rw [nI_pred, pk_sub (by omega)]; rfl
theorem pr_act (u v : tS) (x1 x2 : Int32) (h : Rel u v) : w_T_act (fun r1 u1 => w_M_act (fun r2 v1 => r1 = r2 ∧ Rel u1 v1) x1 x2 v) x1 x2 u := by
  obtain ⟨g, nb, dp, hg, hu, hv, hb, hd, hp, ha⟩ := id h
  obtain ⟨n, hn, p1, p2, p3⟩ := ha
  refine sp_below p1 (by omega) (fun hi => q1 ?_) (fun hi => q0 (sp_belowM p2 (by omega) (fun k => absurd k hi) (fun _ => q0 ⟨rfl, h⟩)))
  obtain ⟨i, hi', rfl⟩ : ∃ i : Nat, i < n ∧ x1 = nI i := ⟨x1.toInt.toNat, by omega, zi_nI (by omega)⟩
  have e1 := z_place hi' hn
  rw [p1, e1]
  have iv : vp_in (nI (n - 1 - i)) 24 := vp_in_nI (by omega) (by omega)
  have cl : (nI (n - 1 - i)).toNatClampNeg = n - 1 - i := nI_clamp (by omega)
  have hpp := p3 (n - 1 - i) (by omega)
  rw [cl]
  have key : ∀ (w : Nat) (r : Int32), w ≤ 4 → r = v.2 12 (5 * (n - 1 - i) + w) → w_M_act (fun r2 v1 => r = r2 ∧ Rel u v1) (nI i) (nI w) v := by
    intro w r hw hr
    refine sp_belowM p2 (by omega) (fun _ => q1 (sp_isIn (fun _ => q1 ?_) (fun k => absurd ?_ k))) (fun k => absurd hi k)
    · have e2 : 5 * (v.1 4 - 1 - nI i) + nI w = nI (5 * (n - 1 - i) + w) := by
        rw [p2, e1, show (5 : Int32) = nI 5 from rfl, pk_mul, nI_add]
      rw [e2]
      refine ⟨vp_in_nI (by omega) (by omega), ?_, h⟩
      rw [nI_clamp (by omega)]; exact hr
    · unfold zIn; rw [zi_n (by omega)]; have : (0 : Int32).toInt = 0 := rfl; have : (4 : Int32).toInt = 4 := rfl; omega
  refine ⟨fun c => ?_, fun c0 => ⟨fun c => ?_, fun c1 => ⟨fun c => ?_, fun c2 => ⟨fun c => ?_, fun c3 => ⟨fun c => ?_, fun c4 => ?_⟩⟩⟩⟩⟩
  · subst c
    refine ⟨iv, fun q => key 0 _ (by omega) ?_, fun q => key 0 _ (by omega) ?_⟩
    · rw [Nat.add_zero, hpp.1, if_pos q]
    · rw [Nat.add_zero, hpp.1, if_neg q]
  · subst c; exact ⟨iv, key 1 _ (by omega) hpp.2.1.symm⟩
  · subst c; exact ⟨iv, key 2 _ (by omega) hpp.2.2.1.symm⟩
  · subst c; exact ⟨iv, key 3 _ (by omega) hpp.2.2.2.1.symm⟩
  · subst c; exact ⟨iv, key 4 _ (by omega) hpp.2.2.2.2.symm⟩
  · have hx : ¬ zIn x2 0 4 := fun q => by
      have a := q.1; have b := q.2
      have : x2.toInt = 0 ∨ x2.toInt = 1 ∨ x2.toInt = 2 ∨ x2.toInt = 3 ∨ x2.toInt = 4 := by omega
      rcases this with e | e | e | e | e
      · exact c0 (zi_eq.mpr e)
      · exact c1 (zi_eq.mpr e)
      · exact c2 (zi_eq.mpr e)
      · exact c3 (zi_eq.mpr e)
      · exact c4 (zi_eq.mpr e)
    exact sp_belowM p2 (by omega) (fun _ => q1 (sp_isIn (fun k => absurd k hx) (fun _ => q0 ⟨rfl, h⟩))) (fun k => absurd hi k)
