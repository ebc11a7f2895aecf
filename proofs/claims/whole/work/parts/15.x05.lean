def w_T_earliest (post : Int32 → tS → Prop) (x1 : Int32) (x2 : Int32) (x3 : Int32) (u : tS) : Prop := (w_Ne_hasStops (fun r6 u6 => ((r6 = 0 → (post (-2) u6)) ∧ (¬ r6 = 0 → (w_T_isTime (fun r13 u13 => ((r13 = 0 → (post (-2) u13)) ∧ (¬ r13 = 0 → (w_Ar_find (fun u32 => (w_Ar_first (fun r40 u40 => (w_T_orNone (fun r43 u43 => (post r43 u43)) r40 u40)) x2 u32)) x1 x3 u13)))) x3 u6)))) x1 x2 u)
set_option maxRecDepth 100000 in
set_option maxHeartbeats 4000000 in
theorem c_T_earliest (l : Launch) (dC : Nat → ClassId) (dI : Nat → Nat → Nat) (cA : ClassId) (a : Nat → Nat) (u : tS) (x1 : Int32) (x2 : Int32) (x3 : Int32) (post : Int32 → tS → Prop) (sz : Nat) : Met l y_T_earliest ws_T_earliest ({ frames := 4, cells := 0, slots := 0, locals := 94 }) (va_Pc [.ref (a 0), .int x1, .int x2, .int x3] (tP (dC, dI) twCl [(cA, .int)] (wdX a cA) u sz (w_T_earliest post x1 x2 x3 u))) (va_Qi post (tB (dC, dI) twCl [(cA, .int)] (va_A (wdX a cA u) sz) (wdX a cA)) (va_A (wdX a cA u) sz)) 0 0 (va_A (wdX a cA u) sz) := by
  refine Met.ofW (cc := b_T_earliest) (maxL := 4) (ret := (some .int)) (by decide) rfl ?_
  intro p e s m args below meth c s₁ B hml hv
  obtain ⟨rfl, hsz, hP, hK, hD0, hN, hw⟩ := hv
  have hx := B.exec
  have hb := B.bytes
  have hr := B.returns
  have hts : ∀ w ∈ wsA, w.before _ s = true := fun w h => atoms_spec (ws := ws_T_earliest) B.pre w (List.mem_cons_of_mem _ h)
  have hown : s.vm.findClass R_T = some m.cls := findClass_of_methodNamed B.named
  have hlocks := B.notSynchronized
  subst hsz
  have hD := hD0.self (sz := s.heap.size)
  generalize hAe : va_A (wdX a cA u) s.heap.size = A at hD ⊢
  have hA : ∀ q : Nat, s.heap.size ≤ q → A q := fun q h => by rw [← hAe]; exact Or.inr h
  have hS : va_S A s.heap s.heap [] := va_S.rf
  have hI : tX (dC, dI) twCl [(cA, .int)] A s s.heap [] (wdX a cA u) := ⟨hK, hP, hD, hS⟩
  have hC : tC p s m meth c ([.ref (a 0), .int x1, .int x2, .int x3] : List Value).toArray b_T_earliest 4 (some .int) wsA R_T A := ⟨hx, hb, hr, hml, hown, hts, hlocks, hA, hN⟩
  have hl := lv_entry ([.ref (a 0), .int x1, .int x2, .int x3]) (n := 4) (Nat.le_of_ble_eq_true rfl)
  rw [lg_entry_eq]
  generalize (lg_sl ([.ref (a 0), .int x1, .int x2, .int x3]) ++ List.replicate (4 - (lg_sl ([.ref (a 0), .int x1, .int x2, .int x3])).length) Slot.unset).toArray = ls at hl ⊢
  have hl : lv_has ls 4 [(0, .ref (a 0)), (1, .int x1), (2, .int x2), (3, .int x3)] := hl
  have hw : (w_Ne_hasStops (fun r6 u6 => ((r6 = 0 → (post (-2) u6)) ∧ (¬ r6 = 0 → (w_T_isTime (fun r13 u13 => ((r13 = 0 → (post (-2) u13)) ∧ (¬ r13 = 0 → (w_Ar_find (fun u32 => (w_Ar_first (fun r40 u40 => (w_T_orNone (fun r43 u43 => (post r43 u43)) r40 u40)) x2 u32)) x1 x3 u13)))) x3 u6)))) x1 x2 u) := hw
  refine lv_aload_n hx hb d_T_earliest_0 rfl (lv_at hl 0 rfl) ?_
  refine va_get (D := (dC, dI)) (C := R_T) (T := F_T) (N := 6) hx hb hts in_T hown hI.1 hI.2.1 0 (wdX_o0 a cA _) rfl 0 (by decide) (hts _ wA_264) (fun _ h9 => h9) rfl d_T_earliest_1 ?_
  refine lv_iload_n hx hb d_T_earliest_4 rfl (lv_at hl 1 rfl) ?_
  refine lv_iload_n hx hb d_T_earliest_5 rfl (lv_at hl 2 rfl) ?_
  refine tr_goi (w := wdX a cA) hI hA (va_runV (As := [.int x1, .int x2]) (rest := []) ⟨hx, hb, hml, hown, hts⟩ (c_Ne_hasStops l dC dI cA a _ _ _ _ _) (cwV 2 hts (wsA_goodV wA_315 wA_316 wA_317 wA_31 wA_318) rfl rfl rfl (by decide +kernel) ⟨Nat.le_of_ble_eq_true rfl, Nat.le_of_ble_eq_true rfl⟩) (tr_preV (ci := 1) (q0 := 1) hI rfl (wdX_o1 a cA _) rfl hN hw) rfl rfl hl.1 rfl (lv_room (Nat.le_of_ble_eq_true rfl)) d_T_earliest_6 ⟨Nat.zero_le _, Nat.zero_le _⟩) (fun r6 u6 H locs hw hI => ?_)
  refine lv_if_eq (tgt := 19) hx hb d_T_earliest_9 (by decide) (fun hc => ?_) (fun hc => ?_)
  · have hw := hw.1 hc
    refine lv_bipush (v := (-2)) hx hb d_T_earliest_19 (by decide) ?_
    exact tr_iret hx hb hr hlocks hI hw d_T_earliest_21
  · have hw := hw.2 hc
    refine lv_iload_n hx hb d_T_earliest_12 rfl (lv_at hl 3 rfl) ?_
    refine tr_goi (w := wdX a cA) hI hA (va_runS (As := [.int x3]) (rest := []) ⟨hx, hb, hml, hown, hts⟩ (c_T_isTime l dC dI cA a _ _ _ _) ⟨callB_of 1 hts (wsA_good wA_392) rfl rfl rfl (hts _ wA_30) (hts _ wA_390) (by decide +kernel) ⟨Nat.le_of_ble_eq_true rfl, Nat.le_of_ble_eq_true rfl⟩, hts _ wA_391⟩ (tr_preS hI hN hw) rfl rfl hl.1 rfl (lv_room (Nat.le_of_ble_eq_true rfl)) d_T_earliest_13 ⟨Nat.zero_le _, Nat.zero_le _⟩) (fun r13 u13 H locs hw hI => ?_)
    refine lv_if_ne (tgt := 22) hx hb d_T_earliest_16 (by decide) (fun hc => ?_) (fun hc => ?_)
    · have hw := hw.2 hc
      refine lv_aload_n hx hb d_T_earliest_22 rfl (lv_at hl 0 rfl) ?_
      refine va_get (D := (dC, dI)) (C := R_T) (T := F_T) (N := 6) hx hb hts in_T hown hI.1 hI.2.1 0 (wdX_o0 a cA _) rfl 1 (by decide) (hts _ wA_265) (fun _ h9 => h9) rfl d_T_earliest_23 ?_
      refine lv_aload_n hx hb d_T_earliest_26 rfl (lv_at hl 0 rfl) ?_
      refine va_get (D := (dC, dI)) (C := R_T) (T := F_T) (N := 6) hx hb hts in_T hown hI.1 hI.2.1 0 (wdX_o0 a cA _) rfl 0 (by decide) (hts _ wA_264) (fun _ h9 => h9) rfl d_T_earliest_27 ?_
      refine lv_iload_n hx hb d_T_earliest_30 rfl (lv_at hl 1 rfl) ?_
      refine lv_iload_n hx hb d_T_earliest_31 rfl (lv_at hl 3 rfl) ?_
      refine tr_gov (w := wdX a cA) hI hA (va_runV (As := [.ref (a 1), .int x1, .int x3]) (rest := []) ⟨hx, hb, hml, hown, hts⟩ (c_Ar_find l dC dI cA a _ _ _ _ _) (cwV 3 hts (wsA_goodV wA_393 wA_394 wA_395 wA_36 wA_396) rfl rfl rfl (by decide +kernel) ⟨Nat.le_of_ble_eq_true rfl, Nat.le_of_ble_eq_true rfl⟩) (tr_preV (ci := 5) (q0 := 5) hI rfl (wdX_o5 a cA _) rfl hN hw) rfl rfl hl.1 rfl (lv_room (Nat.le_of_ble_eq_true rfl)) d_T_earliest_32 ⟨Nat.zero_le _, Nat.zero_le _⟩) (fun u32 H locs hw hI => ?_)
      refine lv_aload_n hx hb d_T_earliest_35 rfl (lv_at hl 0 rfl) ?_
      refine va_get (D := (dC, dI)) (C := R_T) (T := F_T) (N := 6) hx hb hts in_T hown hI.1 hI.2.1 0 (wdX_o0 a cA _) rfl 1 (by decide) (hts _ wA_265) (fun _ h9 => h9) rfl d_T_earliest_36 ?_
      refine lv_iload_n hx hb d_T_earliest_39 rfl (lv_at hl 2 rfl) ?_
      refine tr_goi (w := wdX a cA) hI hA (va_runV (As := [.int x2]) (rest := []) ⟨hx, hb, hml, hown, hts⟩ (c_Ar_first l dC dI cA a _ _ _ _) (cwV 1 hts (wsA_goodV wA_421 wA_422 wA_423 wA_36 wA_424) rfl rfl rfl (by decide +kernel) ⟨Nat.le_of_ble_eq_true rfl, Nat.le_of_ble_eq_true rfl⟩) (tr_preV (ci := 5) (q0 := 5) hI rfl (wdX_o5 a cA _) rfl hN hw) rfl rfl hl.1 rfl (lv_room (Nat.le_of_ble_eq_true rfl)) d_T_earliest_40 ⟨Nat.zero_le _, Nat.zero_le _⟩) (fun r40 u40 H locs hw hI => ?_)
      refine tr_goi (w := wdX a cA) hI hA (va_runS (As := [.int r40]) (rest := []) ⟨hx, hb, hml, hown, hts⟩ (c_T_orNone l dC dI cA a _ _ _ _) ⟨callB_of 1 hts (wsA_good wA_427) rfl rfl rfl (hts _ wA_30) (hts _ wA_425) (by decide +kernel) ⟨Nat.le_of_ble_eq_true rfl, Nat.le_of_ble_eq_true rfl⟩, hts _ wA_426⟩ (tr_preS hI hN hw) rfl rfl hl.1 rfl (lv_room (Nat.le_of_ble_eq_true rfl)) d_T_earliest_43 ⟨Nat.zero_le _, Nat.zero_le _⟩) (fun r43 u43 H locs hw hI => ?_)
      exact tr_iret hx hb hr hlocks hI hw d_T_earliest_46
    · have hw := hw.1 hc
      refine lv_bipush (v := (-2)) hx hb d_T_earliest_19 (by decide) ?_
      exact tr_iret hx hb hr hlocks hI hw d_T_earliest_21
def w_T_isBy (post : Int32 → tS → Prop) (x0 : Int32) (u : tS) : Prop := (w_T_within (fun r5 u5 => (narrow .boolean (.int r5) = .int r5 ∧ post r5 u5)) x0 0 20000 u)
set_option maxRecDepth 100000 in
set_option maxHeartbeats 4000000 in
theorem c_T_isBy (l : Launch) (dC : Nat → ClassId) (dI : Nat → Nat → Nat) (cA : ClassId) (a : Nat → Nat) (u : tS) (x0 : Int32) (post : Int32 → tS → Prop) (sz : Nat) : Met l y_T_isBy ws_T_isBy ({ frames := 1, cells := 0, slots := 0, locals := 22 }) (va_Pc [.int x0] (tP (dC, dI) twCl [(cA, .int)] (wdX a cA) u sz (w_T_isBy post x0 u))) (va_Qi post (tB (dC, dI) twCl [(cA, .int)] (va_A (wdX a cA u) sz) (wdX a cA)) (va_A (wdX a cA u) sz)) 0 0 (va_A (wdX a cA u) sz) := by
  refine Met.ofW (cc := b_T_isBy) (maxL := 1) (ret := (some .boolean)) (by decide) rfl ?_
  intro p e s m args below meth c s₁ B hml hv
  obtain ⟨rfl, hsz, hP, hK, hD0, hN, hw⟩ := hv
  have hx := B.exec
  have hb := B.bytes
  have hr := B.returns
  have hts : ∀ w ∈ wsA, w.before _ s = true := fun w h => atoms_spec (ws := ws_T_isBy) B.pre w (List.mem_cons_of_mem _ h)
  have hown : s.vm.findClass R_T = some m.cls := findClass_of_methodNamed B.named
  have hlocks := B.notSynchronized
  subst hsz
  have hD := hD0.self (sz := s.heap.size)
  generalize hAe : va_A (wdX a cA u) s.heap.size = A at hD ⊢
  have hA : ∀ q : Nat, s.heap.size ≤ q → A q := fun q h => by rw [← hAe]; exact Or.inr h
  have hS : va_S A s.heap s.heap [] := va_S.rf
  have hI : tX (dC, dI) twCl [(cA, .int)] A s s.heap [] (wdX a cA u) := ⟨hK, hP, hD, hS⟩
  have hC : tC p s m meth c ([.int x0] : List Value).toArray b_T_isBy 1 (some .boolean) wsA R_T A := ⟨hx, hb, hr, hml, hown, hts, hlocks, hA, hN⟩
  have hl := lv_entry ([.int x0]) (n := 1) (Nat.le_of_ble_eq_true rfl)
  rw [lg_entry_eq]
  generalize (lg_sl ([.int x0]) ++ List.replicate (1 - (lg_sl ([.int x0])).length) Slot.unset).toArray = ls at hl ⊢
  have hl : lv_has ls 1 [(0, .int x0)] := hl
  have hw : (w_T_within (fun r5 u5 => (narrow .boolean (.int r5) = .int r5 ∧ post r5 u5)) x0 0 20000 u) := hw
  refine lv_iload_n hx hb d_T_isBy_0 rfl (lv_at hl 0 rfl) ?_
  refine lv_iconst (v := 0) hx hb d_T_isBy_1 (by decide) ?_
  refine lv_sipush (v := 20000) hx hb d_T_isBy_2 (by decide) ?_
  refine tr_goi (w := wdX a cA) hI hA (va_runS (As := [.int x0, .int 0, .int 20000]) (rest := []) ⟨hx, hb, hml, hown, hts⟩ (c_T_within l dC dI cA a _ _ _ _ _ _) ⟨callB_of 3 hts (wsA_good wA_301) rfl rfl rfl (hts _ wA_30) (hts _ wA_299) (by decide +kernel) ⟨Nat.le_of_ble_eq_true rfl, Nat.le_of_ble_eq_true rfl⟩, hts _ wA_300⟩ (tr_preS hI hN hw) rfl rfl hl.1 rfl (lv_room (Nat.le_of_ble_eq_true rfl)) d_T_isBy_5 ⟨Nat.zero_le _, Nat.zero_le _⟩) (fun r5 u5 H locs hw hI => ?_)
  obtain ⟨hn, hw⟩ := hw
  exact tr_zret hx hb hr hlocks hI hn hw d_T_isBy_8
def w_Ne_gap (post : Int32 → tS → Prop) (x1 : Int32) (x2 : Int32) (u : tS) : Prop := (w_Wa_atLeastOne (fun r6 u6 => ((x1 = x2 → (vp_in x1 12 ∧ (post (if r6 < (u6.2 0 x1.toNatClampNeg) then r6 else (u6.2 0 x1.toNatClampNeg)) u6))) ∧ (¬ x1 = x2 → (post r6 u6)))) x1 x2 u)
set_option maxRecDepth 100000 in
set_option maxHeartbeats 4000000 in
theorem c_Ne_gap (l : Launch) (dC : Nat → ClassId) (dI : Nat → Nat → Nat) (cA : ClassId) (a : Nat → Nat) (u : tS) (x1 : Int32) (x2 : Int32) (post : Int32 → tS → Prop) (sz : Nat) : Met l y_Ne_gap ws_Ne_gap ({ frames := 1, cells := 0, slots := 0, locals := 22 }) (va_Pc [.ref (a 1), .int x1, .int x2] (tP (dC, dI) twCl [(cA, .int)] (wdX a cA) u sz (w_Ne_gap post x1 x2 u))) (va_Qi post (tB (dC, dI) twCl [(cA, .int)] (va_A (wdX a cA u) sz) (wdX a cA)) (va_A (wdX a cA u) sz)) 0 0 (va_A (wdX a cA u) sz) := by
  refine Met.ofW (cc := b_Ne_gap) (maxL := 4) (ret := (some .int)) (by decide) rfl ?_
  intro p e s m args below meth c s₁ B hml hv
  obtain ⟨rfl, hsz, hP, hK, hD0, hN, hw⟩ := hv
  have hx := B.exec
  have hb := B.bytes
  have hr := B.returns
  have hts : ∀ w ∈ wsA, w.before _ s = true := fun w h => atoms_spec (ws := ws_Ne_gap) B.pre w (List.mem_cons_of_mem _ h)
  have hown : s.vm.findClass R_Ne = some m.cls := findClass_of_methodNamed B.named
  have hlocks := B.notSynchronized
  subst hsz
  have hD := hD0.self (sz := s.heap.size)
  generalize hAe : va_A (wdX a cA u) s.heap.size = A at hD ⊢
  have hA : ∀ q : Nat, s.heap.size ≤ q → A q := fun q h => by rw [← hAe]; exact Or.inr h
  have hS : va_S A s.heap s.heap [] := va_S.rf
  have hI : tX (dC, dI) twCl [(cA, .int)] A s s.heap [] (wdX a cA u) := ⟨hK, hP, hD, hS⟩
  have hC : tC p s m meth c ([.ref (a 1), .int x1, .int x2] : List Value).toArray b_Ne_gap 4 (some .int) wsA R_Ne A := ⟨hx, hb, hr, hml, hown, hts, hlocks, hA, hN⟩
  have hl := lv_entry ([.ref (a 1), .int x1, .int x2]) (n := 4) (Nat.le_of_ble_eq_true rfl)
  rw [lg_entry_eq]
  generalize (lg_sl ([.ref (a 1), .int x1, .int x2]) ++ List.replicate (4 - (lg_sl ([.ref (a 1), .int x1, .int x2])).length) Slot.unset).toArray = ls at hl ⊢
  have hl : lv_has ls 4 [(0, .ref (a 1)), (1, .int x1), (2, .int x2)] := hl
  have hw : (w_Wa_atLeastOne (fun r6 u6 => ((x1 = x2 → (vp_in x1 12 ∧ (post (if r6 < (u6.2 0 x1.toNatClampNeg) then r6 else (u6.2 0 x1.toNatClampNeg)) u6))) ∧ (¬ x1 = x2 → (post r6 u6)))) x1 x2 u) := hw
  refine lv_aload_n hx hb d_Ne_gap_0 rfl (lv_at hl 0 rfl) ?_
  refine va_get (D := (dC, dI)) (C := R_Ne) (T := F_Ne) (N := 5) hx hb hts in_Ne hown hI.1 hI.2.1 1 (wdX_o1 a cA _) rfl 4 (by decide) (hts _ wA_175) (fun _ h9 => h9) rfl d_Ne_gap_1 ?_
  refine lv_iload_n hx hb d_Ne_gap_4 rfl (lv_at hl 1 rfl) ?_
  refine lv_iload_n hx hb d_Ne_gap_5 rfl (lv_at hl 2 rfl) ?_
  refine tr_goi (w := wdX a cA) hI hA (va_runV (As := [.int x1, .int x2]) (rest := []) ⟨hx, hb, hml, hown, hts⟩ (c_Wa_atLeastOne l dC dI cA a _ _ _ _ _) (cwV 2 hts (wsA_goodV wA_455 wA_365 wA_366 wA_34 wA_367) rfl rfl rfl (by decide +kernel) ⟨Nat.le_of_ble_eq_true rfl, Nat.le_of_ble_eq_true rfl⟩) (tr_preV (ci := 4) (q0 := 4) hI rfl (wdX_o4 a cA _) rfl hN hw) rfl rfl hl.1 rfl (lv_room (Nat.le_of_ble_eq_true rfl)) d_Ne_gap_6 ⟨Nat.zero_le _, Nat.zero_le _⟩) (fun r6 u6 H locs hw hI => ?_)
  refine lv_istore_n (lv' := [(3, .int r6), (0, .ref (a 1)), (1, .int x1), (2, .int x2)]) hx hb d_Ne_gap_9 rfl hl (by decide) rfl (fun ls hl => ?_)
  refine lv_iload_n hx hb d_Ne_gap_10 rfl (lv_at hl 2 rfl) ?_
  refine lv_iload_n hx hb d_Ne_gap_11 rfl (lv_at hl 3 rfl) ?_
  refine lv_icmp_ne (tgt := 28) hx hb d_Ne_gap_12 (by decide) (fun hc => ?_) (fun hc => ?_)
  · have hw := hw.2 hc
    refine lv_iload_n hx hb d_Ne_gap_28 rfl (lv_at hl 0 rfl) ?_
    exact tr_iret hx hb hr hlocks hI hw d_Ne_gap_29
  · have hw := hw.1 hc
    refine lv_aload_n hx hb d_Ne_gap_15 rfl (lv_at hl 1 rfl) ?_
    refine va_get (D := (dC, dI)) (C := R_Ne) (T := F_Ne) (N := 5) hx hb hts in_Ne hown hI.1 hI.2.1 1 (wdX_o1 a cA _) rfl 1 (by decide) (hts _ wA_163) (fun _ h9 => h9) rfl d_Ne_gap_16 ?_
    refine lv_iload_n hx hb d_Ne_gap_19 rfl (lv_at hl 2 rfl) ?_
    obtain ⟨hi, hw⟩ := hw
    refine va_iald (D := (dC, dI)) hx hb hI.1 hI.2.1 10 0 (wdX_o10 a cA _) rfl hi d_Ne_gap_20 ?_
    refine lv_iload_n hx hb d_Ne_gap_21 rfl (lv_at hl 0 rfl) ?_
    refine va_mmin hx hb (by rw [hml]; exact hl.1.symm) hown (hts _ wA_456) (hts _ wA_369) (hts _ wA_41) (hts _ wA_370) (Nat.le_of_ble_eq_true rfl) (Nat.le_of_ble_eq_true rfl) (Nat.zero_le _) (Nat.zero_le _) d_Ne_gap_22 ?_
    refine lv_goto (tgt := 29) hx hb d_Ne_gap_25 (by decide) ?_
    exact tr_iret hx hb hr hlocks hI hw d_Ne_gap_29
def w_Sp_mayFollow (post : Int32 → tS → Prop) (x1 : Int32) (x2 : Int32) (x3 : Int32) (u : tS) : Prop := (w_Bo_rideAt (fun r12 u12 => (vp_in r12 40 ∧ (vp_in x1 280 ∧ (w_Ne_gap (fun r32 u32 => (((u12.2 8 x1.toNatClampNeg) < (x3 + r32) → (post 0 u32)) ∧ (¬ (u12.2 8 x1.toNatClampNeg) < (x3 + r32) → (post 1 u32)))) x2 (u12.2 1 r12.toNatClampNeg) u12)))) x1 u)
set_option maxRecDepth 100000 in
set_option maxHeartbeats 4000000 in
theorem c_Sp_mayFollow (l : Launch) (dC : Nat → ClassId) (dI : Nat → Nat → Nat) (cA : ClassId) (a : Nat → Nat) (u : tS) (x1 : Int32) (x2 : Int32) (x3 : Int32) (post : Int32 → tS → Prop) (sz : Nat) : Met l y_Sp_mayFollow ws_Sp_mayFollow ({ frames := 2, cells := 0, slots := 0, locals := 45 }) (va_Pc [.ref (a 1), .int x1, .int x2, .int x3] (tP (dC, dI) twCl [(cA, .int)] (wdX a cA) u sz (w_Sp_mayFollow post x1 x2 x3 u))) (va_Qi post (tB (dC, dI) twCl [(cA, .int)] (va_A (wdX a cA u) sz) (wdX a cA)) (va_A (wdX a cA u) sz)) 0 0 (va_A (wdX a cA u) sz) := by
  refine Met.ofW (cc := b_Sp_mayFollow) (maxL := 5) (ret := (some .boolean)) (by decide) rfl ?_
  intro p e s m args below meth c s₁ B hml hv
  obtain ⟨rfl, hsz, hP, hK, hD0, hN, hw⟩ := hv
  have hx := B.exec
  have hb := B.bytes
  have hr := B.returns
  have hts : ∀ w ∈ wsA, w.before _ s = true := fun w h => atoms_spec (ws := ws_Sp_mayFollow) B.pre w (List.mem_cons_of_mem _ h)
  have hown : s.vm.findClass R_Sp = some m.cls := findClass_of_methodNamed B.named
  have hlocks := B.notSynchronized
  subst hsz
  have hD := hD0.self (sz := s.heap.size)
  generalize hAe : va_A (wdX a cA u) s.heap.size = A at hD ⊢
  have hA : ∀ q : Nat, s.heap.size ≤ q → A q := fun q h => by rw [← hAe]; exact Or.inr h
  have hS : va_S A s.heap s.heap [] := va_S.rf
  have hI : tX (dC, dI) twCl [(cA, .int)] A s s.heap [] (wdX a cA u) := ⟨hK, hP, hD, hS⟩
  have hC : tC p s m meth c ([.ref (a 1), .int x1, .int x2, .int x3] : List Value).toArray b_Sp_mayFollow 5 (some .boolean) wsA R_Sp A := ⟨hx, hb, hr, hml, hown, hts, hlocks, hA, hN⟩
  have hl := lv_entry ([.ref (a 1), .int x1, .int x2, .int x3]) (n := 5) (Nat.le_of_ble_eq_true rfl)
  rw [lg_entry_eq]
  generalize (lg_sl ([.ref (a 1), .int x1, .int x2, .int x3]) ++ List.replicate (5 - (lg_sl ([.ref (a 1), .int x1, .int x2, .int x3])).length) Slot.unset).toArray = ls at hl ⊢
  have hl : lv_has ls 5 [(0, .ref (a 1)), (1, .int x1), (2, .int x2), (3, .int x3)] := hl
  have hw : (w_Bo_rideAt (fun r12 u12 => (vp_in r12 40 ∧ (vp_in x1 280 ∧ (w_Ne_gap (fun r32 u32 => (((u12.2 8 x1.toNatClampNeg) < (x3 + r32) → (post 0 u32)) ∧ (¬ (u12.2 8 x1.toNatClampNeg) < (x3 + r32) → (post 1 u32)))) x2 (u12.2 1 r12.toNatClampNeg) u12)))) x1 u) := hw
  refine lv_aload_n hx hb d_Sp_mayFollow_0 rfl (lv_at hl 0 rfl) ?_
  refine va_get (D := (dC, dI)) (C := R_Ne) (T := F_Ne) (N := 5) hx hb hts in_Ne hown hI.1 hI.2.1 1 (wdX_o1 a cA _) rfl 2 (by decide) (hts _ wA_169) (fun _ h9 => h9) rfl d_Sp_mayFollow_1 ?_
  refine va_get (D := (dC, dI)) (C := R_Ri) (T := F_Ri) (N := 7) hx hb hts in_Ri hown hI.1 hI.2.1 2 (wdX_o2 a cA _) rfl 1 (by decide) (hts _ wA_69) (fun _ h9 => h9) rfl d_Sp_mayFollow_4 ?_
  refine lv_aload_n hx hb d_Sp_mayFollow_7 rfl (lv_at hl 0 rfl) ?_
  refine va_get (D := (dC, dI)) (C := R_Ne) (T := F_Ne) (N := 5) hx hb hts in_Ne hown hI.1 hI.2.1 1 (wdX_o1 a cA _) rfl 3 (by decide) (hts _ wA_172) (fun _ h9 => h9) rfl d_Sp_mayFollow_8 ?_
  refine lv_iload_n hx hb d_Sp_mayFollow_11 rfl (lv_at hl 1 rfl) ?_
  refine tr_goi (w := wdX a cA) hI hA (va_runV (As := [.int x1]) (rest := [.ref (a 11)]) ⟨hx, hb, hml, hown, hts⟩ (c_Bo_rideAt l dC dI cA a _ _ _ _) (cwV 1 hts (wsA_goodV wA_445 wA_409 wA_410 wA_33 wA_411) rfl rfl rfl (by decide +kernel) ⟨Nat.le_of_ble_eq_true rfl, Nat.le_of_ble_eq_true rfl⟩) (tr_preV (ci := 3) (q0 := 3) hI rfl (wdX_o3 a cA _) rfl hN hw) rfl rfl hl.1 rfl (lv_room (Nat.le_of_ble_eq_true rfl)) d_Sp_mayFollow_12 ⟨Nat.zero_le _, Nat.zero_le _⟩) (fun r12 u12 H locs hw hI => ?_)
  obtain ⟨hi, hw⟩ := hw
  refine va_iald (D := (dC, dI)) hx hb hI.1 hI.2.1 11 0 (wdX_o11 a cA _) rfl hi d_Sp_mayFollow_15 ?_
  refine lv_istore (lv' := [(4, .int (u12.2 1 r12.toNatClampNeg)), (0, .ref (a 1)), (1, .int x1), (2, .int x2), (3, .int x3)]) hx hb d_Sp_mayFollow_16 hl (by decide) rfl (fun ls hl => ?_)
  refine lv_aload_n hx hb d_Sp_mayFollow_18 rfl (lv_at hl 1 rfl) ?_
  refine va_get (D := (dC, dI)) (C := R_Ne) (T := F_Ne) (N := 5) hx hb hts in_Ne hown hI.1 hI.2.1 1 (wdX_o1 a cA _) rfl 3 (by decide) (hts _ wA_172) (fun _ h9 => h9) rfl d_Sp_mayFollow_19 ?_
  refine va_get (D := (dC, dI)) (C := R_Bo) (T := F_Bo) (N := 3) hx hb hts in_Bo hown hI.1 hI.2.1 3 (wdX_o3 a cA _) rfl 2 (by decide) (hts _ wA_118) (fun _ h9 => h9) rfl d_Sp_mayFollow_22 ?_
  refine lv_iload_n hx hb d_Sp_mayFollow_25 rfl (lv_at hl 2 rfl) ?_
  obtain ⟨hi, hw⟩ := hw
  refine va_iald (D := (dC, dI)) hx hb hI.1 hI.2.1 18 0 (wdX_o18 a cA _) rfl hi d_Sp_mayFollow_26 ?_
  refine lv_iload_n hx hb d_Sp_mayFollow_27 rfl (lv_at hl 4 rfl) ?_
  refine lv_aload_n hx hb d_Sp_mayFollow_28 rfl (lv_at hl 1 rfl) ?_
  refine lv_iload_n hx hb d_Sp_mayFollow_29 rfl (lv_at hl 3 rfl) ?_
  refine lv_iload hx hb d_Sp_mayFollow_30 (lv_at hl 0 rfl) ?_
  refine tr_goi (w := wdX a cA) hI hA (va_runV (As := [.int x2, .int (u12.2 1 r12.toNatClampNeg)]) (rest := [.int x3, .int (u12.2 8 x1.toNatClampNeg)]) ⟨hx, hb, hml, hown, hts⟩ (c_Ne_gap l dC dI cA a _ _ _ _ _) (cwV 2 hts (wsA_goodV wA_451 wA_452 wA_453 wA_31 wA_454) rfl rfl rfl (by decide +kernel) ⟨Nat.le_of_ble_eq_true rfl, Nat.le_of_ble_eq_true rfl⟩) (tr_preV (ci := 1) (q0 := 1) hI rfl (wdX_o1 a cA _) rfl hN hw) rfl rfl hl.1 rfl (lv_room (Nat.le_of_ble_eq_true rfl)) d_Sp_mayFollow_32 ⟨Nat.zero_le _, Nat.zero_le _⟩) (fun r32 u32 H locs hw hI => ?_)
  refine lv_iadd hx hb d_Sp_mayFollow_35 ?_
  refine lv_icmp_lt (tgt := 43) hx hb d_Sp_mayFollow_36 (by decide) (fun hc => ?_) (fun hc => ?_)
  · have hw := hw.1 hc
    refine lv_iconst (v := 0) hx hb d_Sp_mayFollow_43 (by decide) ?_
    exact tr_zret hx hb hr hlocks hI rfl hw d_Sp_mayFollow_44
  · have hw := hw.2 hc
    refine lv_iconst (v := 1) hx hb d_Sp_mayFollow_39 (by decide) ?_
    refine lv_goto (tgt := 44) hx hb d_Sp_mayFollow_40 (by decide) ?_
    exact tr_zret hx hb hr hlocks hI rfl hw d_Sp_mayFollow_44
def w_Sp_endOf_69 (post : Int32 → tS → Prop) : Nat → Int32 → Int32 → Int32 → Int32 → tS → Prop
  | 0 => fun _ _ _ _ _ => False
  | n + 1 => fun x5 x6 x7 x8 u => (((u.1 2) ≤ x8 → (post x7 u)) ∧ (¬ (u.1 2) ≤ x8 → (vp_in x8 280 ∧ ((x7 ≤ (u.2 8 x8.toNatClampNeg) → (post x7 u)) ∧ (¬ x7 ≤ (u.2 8 x8.toNatClampNeg) → (vp_in x8 280 ∧ ((x7 ≤ (u.2 17 x8.toNatClampNeg) → (w_Sp_endOf_69 post n x5 x6 x7 (x8 + 1) u)) ∧ (¬ x7 ≤ (u.2 17 x8.toNatClampNeg) → (w_Sp_mayFollow (fun r115 u115 => ((r115 = 0 → (w_Sp_endOf_69 post n x5 x6 x7 (x8 + 1) u115)) ∧ (¬ r115 = 0 → (vp_in x8 280 ∧ (w_Sp_endOf_69 post n x5 x6 (u115.2 17 x8.toNatClampNeg) (x8 + 1) u115))))) x8 x5 x6 u)))))))))
def w_Sp_endOf (post : Int32 → tS → Prop) (x2 : Int32) (x3 : Int32) (u : tS) : Prop := (w_Bo_rideAt (fun r5 u5 => (vp_in r5 40 ∧ (vp_in x2 280 ∧ (vp_in r5 40 ∧ (w_Wa_anyNumber (fun r55 u55 => (∃ k, w_Sp_endOf_69 post k (u5.2 2 r5.toNatClampNeg) ((u5.2 8 x2.toNatClampNeg) + (u5.2 4 r5.toNatClampNeg)) (if (((u5.2 8 x2.toNatClampNeg) + (u5.2 4 r5.toNatClampNeg)) + r55) < 1000000 then (((u5.2 8 x2.toNatClampNeg) + (u5.2 4 r5.toNatClampNeg)) + r55) else 1000000) (x2 + 1) u55)) (u5.2 2 r5.toNatClampNeg) x3 u5))))) x2 u)
set_option maxRecDepth 100000 in
set_option maxHeartbeats 4000000 in
theorem k_Sp_endOf_69 {p : Program} {l : Launch} {e : Env} {s : State} {m : MethodId} {args : Array Value} {below : List Frame} {meth : Method} {c : Code} {dC : Nat → ClassId} {dI : Nat → Nat → Nat} {cA : ClassId} {a : Nat → Nat} {A : Nat → Prop} (hC : tC p s m meth c args b_Sp_endOf 9 (some .int) wsA R_Sp A) (post : Int32 → tS → Prop) : ∀ n : Nat, ∀ (x5 x6 x7 x8 : Int32) (u : tS) (H : Heap) (locs : List Loc) (ls : Array Slot), w_Sp_endOf_69 post n x5 x6 x7 x8 u → tX (dC, dI) twCl [(cA, .int)] A s H locs (wdX a cA u) → lv_has ls 9 [(0, .ref (a 7)), (1, .ref (a 1)), (5, .int x5), (6, .int x6), (7, .int x7), (8, .int x8)] → W p l e ({ frames := 3, cells := 0, slots := 0, locals := 69 }) s m args below meth c H locs 0 0 (MQ below (va_Qi post (tB (dC, dI) twCl [(cA, .int)] A (wdX a cA)) A) args s 0 0 A) (F0 m 69 ls []) := by
  obtain ⟨hx, hb, hr, hml, hown, hts, hlocks, hA, hN⟩ := id hC
  intro n
  induction n with
  | zero => intro x5 x6 x7 x8 u H locs ls hw; exact False.elim hw
  | succ n ih =>
    intro x5 x6 x7 x8 u H locs ls hw hI hl
    refine lv_iload hx hb d_Sp_endOf_69 (lv_at hl 5 rfl) ?_
    refine lv_aload_n hx hb d_Sp_endOf_71 rfl (lv_at hl 1 rfl) ?_
    refine va_get (D := (dC, dI)) (C := R_Ne) (T := F_Ne) (N := 5) hx hb hts in_Ne hown hI.1 hI.2.1 1 (wdX_o1 a cA _) rfl 3 (by decide) (hts _ wA_172) (fun _ h9 => h9) rfl d_Sp_endOf_72 ?_
    refine va_get (D := (dC, dI)) (C := R_Bo) (T := F_Bo) (N := 3) hx hb hts in_Bo hown hI.1 hI.2.1 3 (wdX_o3 a cA _) rfl 0 (by decide) (hts _ wA_112) (fun _ h9 => h9) rfl d_Sp_endOf_75 ?_
    refine lv_icmp_ge (tgt := 136) hx hb d_Sp_endOf_78 (by decide) (fun hc => ?_) (fun hc => ?_)
    · have hw := hw.1 hc
      refine lv_iload hx hb d_Sp_endOf_136 (lv_at hl 4 rfl) ?_
      exact tr_iret hx hb hr hlocks hI hw d_Sp_endOf_138
    · have hw := hw.2 hc
      refine lv_aload_n hx hb d_Sp_endOf_81 rfl (lv_at hl 1 rfl) ?_
      refine va_get (D := (dC, dI)) (C := R_Ne) (T := F_Ne) (N := 5) hx hb hts in_Ne hown hI.1 hI.2.1 1 (wdX_o1 a cA _) rfl 3 (by decide) (hts _ wA_172) (fun _ h9 => h9) rfl d_Sp_endOf_82 ?_
      refine va_get (D := (dC, dI)) (C := R_Bo) (T := F_Bo) (N := 3) hx hb hts in_Bo hown hI.1 hI.2.1 3 (wdX_o3 a cA _) rfl 2 (by decide) (hts _ wA_118) (fun _ h9 => h9) rfl d_Sp_endOf_85 ?_
      refine lv_iload hx hb d_Sp_endOf_88 (lv_at hl 5 rfl) ?_
      obtain ⟨hi, hw⟩ := hw
      refine va_iald (D := (dC, dI)) hx hb hI.1 hI.2.1 18 0 (wdX_o18 a cA _) rfl hi d_Sp_endOf_90 ?_
      refine lv_iload hx hb d_Sp_endOf_91 (lv_at hl 4 rfl) ?_
      refine lv_icmp_ge (tgt := 136) hx hb d_Sp_endOf_93 (by decide) (fun hc => ?_) (fun hc => ?_)
      · have hw := hw.1 hc
        refine lv_iload hx hb d_Sp_endOf_136 (lv_at hl 4 rfl) ?_
        exact tr_iret hx hb hr hlocks hI hw d_Sp_endOf_138
      · have hw := hw.2 hc
        refine lv_aload_n hx hb d_Sp_endOf_96 rfl (lv_at hl 0 rfl) ?_
        refine va_get (D := (dC, dI)) (C := R_Sp) (T := F_Sp) (N := 2) hx hb hts in_Sp hown hI.1 hI.2.1 7 (wdX_o7 a cA _) rfl 0 (by decide) (hts _ wA_210) (fun _ h9 => h9) rfl d_Sp_endOf_97 ?_
        refine lv_iload hx hb d_Sp_endOf_100 (lv_at hl 5 rfl) ?_
        obtain ⟨hi, hw⟩ := hw
        refine va_iald (D := (dC, dI)) hx hb hI.1 hI.2.1 27 0 (wdX_o27 a cA _) rfl hi d_Sp_endOf_102 ?_
        refine lv_iload hx hb d_Sp_endOf_103 (lv_at hl 4 rfl) ?_
        refine lv_icmp_ge (tgt := 130) hx hb d_Sp_endOf_105 (by decide) (fun hc => ?_) (fun hc => ?_)
        · have hw := hw.1 hc
          refine lv_iinc (v := (x8 + 1)) (lv' := [(8, .int (x8 + 1)), (0, .ref (a 7)), (1, .ref (a 1)), (5, .int x5), (6, .int x6), (7, .int x7)]) hx hb d_Sp_endOf_130 hl (k := 5) rfl rfl (by decide) rfl (fun ls hl => ?_)
          refine lv_goto (tgt := 69) hx hb d_Sp_endOf_133 (by decide) ?_
          exact ih _ _ _ _ _ _ _ ls hw hI (lv_sub hl [1, 2, 3, 4, 5, 0] rfl)
        · have hw := hw.2 hc
          refine lv_aload_n hx hb d_Sp_endOf_108 rfl (lv_at hl 1 rfl) ?_
          refine lv_iload hx hb d_Sp_endOf_109 (lv_at hl 5 rfl) ?_
          refine lv_iload hx hb d_Sp_endOf_111 (lv_at hl 2 rfl) ?_
          refine lv_iload hx hb d_Sp_endOf_113 (lv_at hl 3 rfl) ?_
          refine tr_goi (w := wdX a cA) hI hA (va_runS (As := [.ref (a 1), .int x8, .int x5, .int x6]) (rest := []) ⟨hx, hb, hml, hown, hts⟩ (c_Sp_mayFollow l dC dI cA a _ _ _ _ _ _) ⟨callB_of 4 hts (wsA_good wA_450) rfl rfl rfl (hts _ wA_37) (hts _ wA_448) (by decide +kernel) ⟨Nat.le_of_ble_eq_true rfl, Nat.le_of_ble_eq_true rfl⟩, hts _ wA_449⟩ (tr_preS hI hN hw) rfl rfl hl.1 rfl (lv_room (Nat.le_of_ble_eq_true rfl)) d_Sp_endOf_115 ⟨Nat.zero_le _, Nat.zero_le _⟩) (fun r115 u115 H locs hw hI => ?_)
          refine lv_if_eq (tgt := 130) hx hb d_Sp_endOf_118 (by decide) (fun hc => ?_) (fun hc => ?_)
          · have hw := hw.1 hc
            refine lv_iinc (v := (x8 + 1)) (lv' := [(8, .int (x8 + 1)), (0, .ref (a 7)), (1, .ref (a 1)), (5, .int x5), (6, .int x6), (7, .int x7)]) hx hb d_Sp_endOf_130 hl (k := 5) rfl rfl (by decide) rfl (fun ls hl => ?_)
            refine lv_goto (tgt := 69) hx hb d_Sp_endOf_133 (by decide) ?_
            exact ih _ _ _ _ _ _ _ ls hw hI (lv_sub hl [1, 2, 3, 4, 5, 0] rfl)
          · have hw := hw.2 hc
            refine lv_aload_n hx hb d_Sp_endOf_121 rfl (lv_at hl 0 rfl) ?_
            refine va_get (D := (dC, dI)) (C := R_Sp) (T := F_Sp) (N := 2) hx hb hts in_Sp hown hI.1 hI.2.1 7 (wdX_o7 a cA _) rfl 0 (by decide) (hts _ wA_210) (fun _ h9 => h9) rfl d_Sp_endOf_122 ?_
            refine lv_iload hx hb d_Sp_endOf_125 (lv_at hl 5 rfl) ?_
            obtain ⟨hi, hw⟩ := hw
            refine va_iald (D := (dC, dI)) hx hb hI.1 hI.2.1 27 0 (wdX_o27 a cA _) rfl hi d_Sp_endOf_127 ?_
            refine lv_istore (lv' := [(7, .int (u115.2 17 x8.toNatClampNeg)), (0, .ref (a 7)), (1, .ref (a 1)), (5, .int x5), (6, .int x6), (8, .int x8)]) hx hb d_Sp_endOf_128 hl (by decide) rfl (fun ls hl => ?_)
            refine lv_iinc (v := (x8 + 1)) (lv' := [(8, .int (x8 + 1)), (7, .int (u115.2 17 x8.toNatClampNeg)), (0, .ref (a 7)), (1, .ref (a 1)), (5, .int x5), (6, .int x6)]) hx hb d_Sp_endOf_130 hl (k := 5) rfl rfl (by decide) rfl (fun ls hl => ?_)
            refine lv_goto (tgt := 69) hx hb d_Sp_endOf_133 (by decide) ?_
            exact ih _ _ _ _ _ _ _ ls hw hI (lv_sub hl [2, 3, 4, 5, 1, 0] rfl)
set_option maxRecDepth 100000 in
set_option maxHeartbeats 4000000 in
theorem c_Sp_endOf (l : Launch) (dC : Nat → ClassId) (dI : Nat → Nat → Nat) (cA : ClassId) (a : Nat → Nat) (u : tS) (x2 : Int32) (x3 : Int32) (post : Int32 → tS → Prop) (sz : Nat) : Met l y_Sp_endOf ws_Sp_endOf ({ frames := 3, cells := 0, slots := 0, locals := 69 }) (va_Pc [.ref (a 7), .ref (a 1), .int x2, .int x3] (tP (dC, dI) twCl [(cA, .int)] (wdX a cA) u sz (w_Sp_endOf post x2 x3 u))) (va_Qi post (tB (dC, dI) twCl [(cA, .int)] (va_A (wdX a cA u) sz) (wdX a cA)) (va_A (wdX a cA u) sz)) 0 0 (va_A (wdX a cA u) sz) := by
  refine Met.ofW (cc := b_Sp_endOf) (maxL := 9) (ret := (some .int)) (by decide) rfl ?_
  intro p e s m args below meth c s₁ B hml hv
  obtain ⟨rfl, hsz, hP, hK, hD0, hN, hw⟩ := hv
  have hx := B.exec
  have hb := B.bytes
  have hr := B.returns
  have hts : ∀ w ∈ wsA, w.before _ s = true := fun w h => atoms_spec (ws := ws_Sp_endOf) B.pre w (List.mem_cons_of_mem _ h)
  have hown : s.vm.findClass R_Sp = some m.cls := findClass_of_methodNamed B.named
  have hlocks := B.notSynchronized
  subst hsz
  have hD := hD0.self (sz := s.heap.size)
  generalize hAe : va_A (wdX a cA u) s.heap.size = A at hD ⊢
  have hA : ∀ q : Nat, s.heap.size ≤ q → A q := fun q h => by rw [← hAe]; exact Or.inr h
  have hS : va_S A s.heap s.heap [] := va_S.rf
  have hI : tX (dC, dI) twCl [(cA, .int)] A s s.heap [] (wdX a cA u) := ⟨hK, hP, hD, hS⟩
  have hC : tC p s m meth c ([.ref (a 7), .ref (a 1), .int x2, .int x3] : List Value).toArray b_Sp_endOf 9 (some .int) wsA R_Sp A := ⟨hx, hb, hr, hml, hown, hts, hlocks, hA, hN⟩
  have hl := lv_entry ([.ref (a 7), .ref (a 1), .int x2, .int x3]) (n := 9) (Nat.le_of_ble_eq_true rfl)
  rw [lg_entry_eq]
  generalize (lg_sl ([.ref (a 7), .ref (a 1), .int x2, .int x3]) ++ List.replicate (9 - (lg_sl ([.ref (a 7), .ref (a 1), .int x2, .int x3])).length) Slot.unset).toArray = ls at hl ⊢
  have hl : lv_has ls 9 [(0, .ref (a 7)), (1, .ref (a 1)), (2, .int x2), (3, .int x3)] := hl
  have hw : (w_Bo_rideAt (fun r5 u5 => (vp_in r5 40 ∧ (vp_in x2 280 ∧ (vp_in r5 40 ∧ (w_Wa_anyNumber (fun r55 u55 => (∃ k, w_Sp_endOf_69 post k (u5.2 2 r5.toNatClampNeg) ((u5.2 8 x2.toNatClampNeg) + (u5.2 4 r5.toNatClampNeg)) (if (((u5.2 8 x2.toNatClampNeg) + (u5.2 4 r5.toNatClampNeg)) + r55) < 1000000 then (((u5.2 8 x2.toNatClampNeg) + (u5.2 4 r5.toNatClampNeg)) + r55) else 1000000) (x2 + 1) u55)) (u5.2 2 r5.toNatClampNeg) x3 u5))))) x2 u) := hw
  refine lv_aload_n hx hb d_Sp_endOf_0 rfl (lv_at hl 1 rfl) ?_
  refine va_get (D := (dC, dI)) (C := R_Ne) (T := F_Ne) (N := 5) hx hb hts in_Ne hown hI.1 hI.2.1 1 (wdX_o1 a cA _) rfl 3 (by decide) (hts _ wA_172) (fun _ h9 => h9) rfl d_Sp_endOf_1 ?_
  refine lv_iload_n hx hb d_Sp_endOf_4 rfl (lv_at hl 2 rfl) ?_
  refine tr_goi (w := wdX a cA) hI hA (va_runV (As := [.int x2]) (rest := []) ⟨hx, hb, hml, hown, hts⟩ (c_Bo_rideAt l dC dI cA a _ _ _ _) (cwV 1 hts (wsA_goodV wA_445 wA_409 wA_410 wA_33 wA_411) rfl rfl rfl (by decide +kernel) ⟨Nat.le_of_ble_eq_true rfl, Nat.le_of_ble_eq_true rfl⟩) (tr_preV (ci := 3) (q0 := 3) hI rfl (wdX_o3 a cA _) rfl hN hw) rfl rfl hl.1 rfl (lv_room (Nat.le_of_ble_eq_true rfl)) d_Sp_endOf_5 ⟨Nat.zero_le _, Nat.zero_le _⟩) (fun r5 u5 H locs hw hI => ?_)
  refine lv_istore (lv' := [(4, .int r5), (0, .ref (a 7)), (1, .ref (a 1)), (2, .int x2), (3, .int x3)]) hx hb d_Sp_endOf_8 hl (by decide) rfl (fun ls hl => ?_)
  refine lv_aload_n hx hb d_Sp_endOf_10 rfl (lv_at hl 2 rfl) ?_
  refine va_get (D := (dC, dI)) (C := R_Ne) (T := F_Ne) (N := 5) hx hb hts in_Ne hown hI.1 hI.2.1 1 (wdX_o1 a cA _) rfl 2 (by decide) (hts _ wA_169) (fun _ h9 => h9) rfl d_Sp_endOf_11 ?_
  refine va_get (D := (dC, dI)) (C := R_Ri) (T := F_Ri) (N := 7) hx hb hts in_Ri hown hI.1 hI.2.1 2 (wdX_o2 a cA _) rfl 2 (by decide) (hts _ wA_74) (fun _ h9 => h9) rfl d_Sp_endOf_14 ?_
  refine lv_iload hx hb d_Sp_endOf_17 (lv_at hl 0 rfl) ?_
  obtain ⟨hi, hw⟩ := hw
  refine va_iald (D := (dC, dI)) hx hb hI.1 hI.2.1 12 0 (wdX_o12 a cA _) rfl hi d_Sp_endOf_19 ?_
  refine lv_istore (lv' := [(5, .int (u5.2 2 r5.toNatClampNeg)), (4, .int r5), (0, .ref (a 7)), (1, .ref (a 1)), (2, .int x2), (3, .int x3)]) hx hb d_Sp_endOf_20 hl (by decide) rfl (fun ls hl => ?_)
  refine lv_aload_n hx hb d_Sp_endOf_22 rfl (lv_at hl 3 rfl) ?_
  refine va_get (D := (dC, dI)) (C := R_Ne) (T := F_Ne) (N := 5) hx hb hts in_Ne hown hI.1 hI.2.1 1 (wdX_o1 a cA _) rfl 3 (by decide) (hts _ wA_172) (fun _ h9 => h9) rfl d_Sp_endOf_23 ?_
  refine va_get (D := (dC, dI)) (C := R_Bo) (T := F_Bo) (N := 3) hx hb hts in_Bo hown hI.1 hI.2.1 3 (wdX_o3 a cA _) rfl 2 (by decide) (hts _ wA_118) (fun _ h9 => h9) rfl d_Sp_endOf_26 ?_
  refine lv_iload_n hx hb d_Sp_endOf_29 rfl (lv_at hl 4 rfl) ?_
  obtain ⟨hi, hw⟩ := hw
  refine va_iald (D := (dC, dI)) hx hb hI.1 hI.2.1 18 0 (wdX_o18 a cA _) rfl hi d_Sp_endOf_30 ?_
  refine lv_aload_n hx hb d_Sp_endOf_31 rfl (lv_at hl 3 rfl) ?_
  refine va_get (D := (dC, dI)) (C := R_Ne) (T := F_Ne) (N := 5) hx hb hts in_Ne hown hI.1 hI.2.1 1 (wdX_o1 a cA _) rfl 2 (by decide) (hts _ wA_169) (fun _ h9 => h9) rfl d_Sp_endOf_32 ?_
  refine va_get (D := (dC, dI)) (C := R_Ri) (T := F_Ri) (N := 7) hx hb hts in_Ri hown hI.1 hI.2.1 2 (wdX_o2 a cA _) rfl 4 (by decide) (hts _ wA_81) (fun _ h9 => h9) rfl d_Sp_endOf_35 ?_
  refine lv_iload hx hb d_Sp_endOf_38 (lv_at hl 1 rfl) ?_
  obtain ⟨hi, hw⟩ := hw
  refine va_iald (D := (dC, dI)) hx hb hI.1 hI.2.1 14 0 (wdX_o14 a cA _) rfl hi d_Sp_endOf_40 ?_
  refine lv_iadd hx hb d_Sp_endOf_41 ?_
  refine lv_istore (lv' := [(6, .int ((u5.2 8 x2.toNatClampNeg) + (u5.2 4 r5.toNatClampNeg))), (5, .int (u5.2 2 r5.toNatClampNeg)), (4, .int r5), (0, .ref (a 7)), (1, .ref (a 1)), (2, .int x2), (3, .int x3)]) hx hb d_Sp_endOf_42 hl (by decide) rfl (fun ls hl => ?_)
  refine lv_ldc (v := 1000000) hx hb hown (hts _ wA_446) d_Sp_endOf_44 ?_
  refine lv_iload hx hb d_Sp_endOf_46 (lv_at hl 0 rfl) ?_
  refine lv_aload_n hx hb d_Sp_endOf_48 rfl (lv_at hl 4 rfl) ?_
  refine va_get (D := (dC, dI)) (C := R_Ne) (T := F_Ne) (N := 5) hx hb hts in_Ne hown hI.1 hI.2.1 1 (wdX_o1 a cA _) rfl 4 (by decide) (hts _ wA_176) (fun _ h9 => h9) rfl d_Sp_endOf_49 ?_
  refine lv_iload hx hb d_Sp_endOf_52 (lv_at hl 1 rfl) ?_
  refine lv_iload_n hx hb d_Sp_endOf_54 rfl (lv_at hl 6 rfl) ?_
  refine tr_goi (w := wdX a cA) hI hA (va_runV (As := [.int (u5.2 2 r5.toNatClampNeg), .int x3]) (rest := [.int ((u5.2 8 x2.toNatClampNeg) + (u5.2 4 r5.toNatClampNeg)), .int 1000000]) ⟨hx, hb, hml, hown, hts⟩ (c_Wa_anyNumber l dC dI cA a _ _ _ _ _) (cwV 2 hts (wsA_goodV wA_440 wA_361 wA_362 wA_34 wA_363) rfl rfl rfl (by decide +kernel) ⟨Nat.le_of_ble_eq_true rfl, Nat.le_of_ble_eq_true rfl⟩) (tr_preV (ci := 4) (q0 := 4) hI rfl (wdX_o4 a cA _) rfl hN hw) rfl rfl hl.1 rfl (lv_room (Nat.le_of_ble_eq_true rfl)) d_Sp_endOf_55 ⟨Nat.zero_le _, Nat.zero_le _⟩) (fun r55 u55 H locs hw hI => ?_)
  refine lv_iadd hx hb d_Sp_endOf_58 ?_
  refine va_mmin hx hb (by rw [hml]; exact hl.1.symm) hown (hts _ wA_447) (hts _ wA_369) (hts _ wA_41) (hts _ wA_370) (Nat.le_of_ble_eq_true rfl) (Nat.le_of_ble_eq_true rfl) (Nat.zero_le _) (Nat.zero_le _) d_Sp_endOf_59 ?_
  refine lv_istore (lv' := [(7, .int (if (((u5.2 8 x2.toNatClampNeg) + (u5.2 4 r5.toNatClampNeg)) + r55) < 1000000 then (((u5.2 8 x2.toNatClampNeg) + (u5.2 4 r5.toNatClampNeg)) + r55) else 1000000)), (6, .int ((u5.2 8 x2.toNatClampNeg) + (u5.2 4 r5.toNatClampNeg))), (5, .int (u5.2 2 r5.toNatClampNeg)), (4, .int r5), (0, .ref (a 7)), (1, .ref (a 1)), (2, .int x2), (3, .int x3)]) hx hb d_Sp_endOf_62 hl (by decide) rfl (fun ls hl => ?_)
  refine lv_iload_n hx hb d_Sp_endOf_64 rfl (lv_at hl 6 rfl) ?_
  refine lv_iconst (v := 1) hx hb d_Sp_endOf_65 (by decide) ?_
  refine lv_iadd hx hb d_Sp_endOf_66 ?_
  refine lv_istore (lv' := [(8, .int (x2 + 1)), (7, .int (if (((u5.2 8 x2.toNatClampNeg) + (u5.2 4 r5.toNatClampNeg)) + r55) < 1000000 then (((u5.2 8 x2.toNatClampNeg) + (u5.2 4 r5.toNatClampNeg)) + r55) else 1000000)), (6, .int ((u5.2 8 x2.toNatClampNeg) + (u5.2 4 r5.toNatClampNeg))), (5, .int (u5.2 2 r5.toNatClampNeg)), (4, .int r5), (0, .ref (a 7)), (1, .ref (a 1)), (2, .int x2), (3, .int x3)]) hx hb d_Sp_endOf_67 hl (by decide) rfl (fun ls hl => ?_)
  obtain ⟨k, hw⟩ := hw
  exact k_Sp_endOf_69 hC post k _ _ _ _ _ _ _ ls hw hI (lv_sub hl [5, 6, 3, 2, 1, 0] rfl)
def w_Sp_latestFor (post : Int32 → tS → Prop) (x1 : Int32) (x2 : Int32) (u : tS) : Prop := (w_Bo_rideAt (fun r12 u12 => (vp_in r12 40 ∧ (vp_in x2 280 ∧ (w_Wa_anyNumber (fun r32 u32 => (post ((u12.2 8 x2.toNatClampNeg) - r32) u32)) x1 (u12.2 1 r12.toNatClampNeg) u12)))) x2 u)
set_option maxRecDepth 100000 in
set_option maxHeartbeats 4000000 in
theorem c_Sp_latestFor (l : Launch) (dC : Nat → ClassId) (dI : Nat → Nat → Nat) (cA : ClassId) (a : Nat → Nat) (u : tS) (x1 : Int32) (x2 : Int32) (post : Int32 → tS → Prop) (sz : Nat) : Met l y_Sp_latestFor ws_Sp_latestFor ({ frames := 2, cells := 0, slots := 0, locals := 44 }) (va_Pc [.ref (a 1), .int x1, .int x2] (tP (dC, dI) twCl [(cA, .int)] (wdX a cA) u sz (w_Sp_latestFor post x1 x2 u))) (va_Qi post (tB (dC, dI) twCl [(cA, .int)] (va_A (wdX a cA u) sz) (wdX a cA)) (va_A (wdX a cA u) sz)) 0 0 (va_A (wdX a cA u) sz) := by
  refine Met.ofW (cc := b_Sp_latestFor) (maxL := 4) (ret := (some .int)) (by decide) rfl ?_
  intro p e s m args below meth c s₁ B hml hv
  obtain ⟨rfl, hsz, hP, hK, hD0, hN, hw⟩ := hv
  have hx := B.exec
  have hb := B.bytes
  have hr := B.returns
  have hts : ∀ w ∈ wsA, w.before _ s = true := fun w h => atoms_spec (ws := ws_Sp_latestFor) B.pre w (List.mem_cons_of_mem _ h)
  have hown : s.vm.findClass R_Sp = some m.cls := findClass_of_methodNamed B.named
  have hlocks := B.notSynchronized
  subst hsz
  have hD := hD0.self (sz := s.heap.size)
  generalize hAe : va_A (wdX a cA u) s.heap.size = A at hD ⊢
  have hA : ∀ q : Nat, s.heap.size ≤ q → A q := fun q h => by rw [← hAe]; exact Or.inr h
  have hS : va_S A s.heap s.heap [] := va_S.rf
  have hI : tX (dC, dI) twCl [(cA, .int)] A s s.heap [] (wdX a cA u) := ⟨hK, hP, hD, hS⟩
  have hC : tC p s m meth c ([.ref (a 1), .int x1, .int x2] : List Value).toArray b_Sp_latestFor 4 (some .int) wsA R_Sp A := ⟨hx, hb, hr, hml, hown, hts, hlocks, hA, hN⟩
  have hl := lv_entry ([.ref (a 1), .int x1, .int x2]) (n := 4) (Nat.le_of_ble_eq_true rfl)
  rw [lg_entry_eq]
  generalize (lg_sl ([.ref (a 1), .int x1, .int x2]) ++ List.replicate (4 - (lg_sl ([.ref (a 1), .int x1, .int x2])).length) Slot.unset).toArray = ls at hl ⊢
  have hl : lv_has ls 4 [(0, .ref (a 1)), (1, .int x1), (2, .int x2)] := hl
  have hw : (w_Bo_rideAt (fun r12 u12 => (vp_in r12 40 ∧ (vp_in x2 280 ∧ (w_Wa_anyNumber (fun r32 u32 => (post ((u12.2 8 x2.toNatClampNeg) - r32) u32)) x1 (u12.2 1 r12.toNatClampNeg) u12)))) x2 u) := hw
  refine lv_aload_n hx hb d_Sp_latestFor_0 rfl (lv_at hl 0 rfl) ?_
  refine va_get (D := (dC, dI)) (C := R_Ne) (T := F_Ne) (N := 5) hx hb hts in_Ne hown hI.1 hI.2.1 1 (wdX_o1 a cA _) rfl 2 (by decide) (hts _ wA_169) (fun _ h9 => h9) rfl d_Sp_latestFor_1 ?_
  refine va_get (D := (dC, dI)) (C := R_Ri) (T := F_Ri) (N := 7) hx hb hts in_Ri hown hI.1 hI.2.1 2 (wdX_o2 a cA _) rfl 1 (by decide) (hts _ wA_69) (fun _ h9 => h9) rfl d_Sp_latestFor_4 ?_
  refine lv_aload_n hx hb d_Sp_latestFor_7 rfl (lv_at hl 0 rfl) ?_
  refine va_get (D := (dC, dI)) (C := R_Ne) (T := F_Ne) (N := 5) hx hb hts in_Ne hown hI.1 hI.2.1 1 (wdX_o1 a cA _) rfl 3 (by decide) (hts _ wA_172) (fun _ h9 => h9) rfl d_Sp_latestFor_8 ?_
  refine lv_iload_n hx hb d_Sp_latestFor_11 rfl (lv_at hl 2 rfl) ?_
  refine tr_goi (w := wdX a cA) hI hA (va_runV (As := [.int x2]) (rest := [.ref (a 11)]) ⟨hx, hb, hml, hown, hts⟩ (c_Bo_rideAt l dC dI cA a _ _ _ _) (cwV 1 hts (wsA_goodV wA_445 wA_409 wA_410 wA_33 wA_411) rfl rfl rfl (by decide +kernel) ⟨Nat.le_of_ble_eq_true rfl, Nat.le_of_ble_eq_true rfl⟩) (tr_preV (ci := 3) (q0 := 3) hI rfl (wdX_o3 a cA _) rfl hN hw) rfl rfl hl.1 rfl (lv_room (Nat.le_of_ble_eq_true rfl)) d_Sp_latestFor_12 ⟨Nat.zero_le _, Nat.zero_le _⟩) (fun r12 u12 H locs hw hI => ?_)
  obtain ⟨hi, hw⟩ := hw
  refine va_iald (D := (dC, dI)) hx hb hI.1 hI.2.1 11 0 (wdX_o11 a cA _) rfl hi d_Sp_latestFor_15 ?_
  refine lv_istore_n (lv' := [(3, .int (u12.2 1 r12.toNatClampNeg)), (0, .ref (a 1)), (1, .int x1), (2, .int x2)]) hx hb d_Sp_latestFor_16 rfl hl (by decide) rfl (fun ls hl => ?_)
  refine lv_aload_n hx hb d_Sp_latestFor_17 rfl (lv_at hl 1 rfl) ?_
  refine va_get (D := (dC, dI)) (C := R_Ne) (T := F_Ne) (N := 5) hx hb hts in_Ne hown hI.1 hI.2.1 1 (wdX_o1 a cA _) rfl 3 (by decide) (hts _ wA_172) (fun _ h9 => h9) rfl d_Sp_latestFor_18 ?_
  refine va_get (D := (dC, dI)) (C := R_Bo) (T := F_Bo) (N := 3) hx hb hts in_Bo hown hI.1 hI.2.1 3 (wdX_o3 a cA _) rfl 2 (by decide) (hts _ wA_118) (fun _ h9 => h9) rfl d_Sp_latestFor_21 ?_
  refine lv_iload_n hx hb d_Sp_latestFor_24 rfl (lv_at hl 3 rfl) ?_
  obtain ⟨hi, hw⟩ := hw
  refine va_iald (D := (dC, dI)) hx hb hI.1 hI.2.1 18 0 (wdX_o18 a cA _) rfl hi d_Sp_latestFor_25 ?_
  refine lv_aload_n hx hb d_Sp_latestFor_26 rfl (lv_at hl 1 rfl) ?_
  refine va_get (D := (dC, dI)) (C := R_Ne) (T := F_Ne) (N := 5) hx hb hts in_Ne hown hI.1 hI.2.1 1 (wdX_o1 a cA _) rfl 4 (by decide) (hts _ wA_176) (fun _ h9 => h9) rfl d_Sp_latestFor_27 ?_
  refine lv_iload_n hx hb d_Sp_latestFor_30 rfl (lv_at hl 2 rfl) ?_
  refine lv_iload_n hx hb d_Sp_latestFor_31 rfl (lv_at hl 0 rfl) ?_
  refine tr_goi (w := wdX a cA) hI hA (va_runV (As := [.int x1, .int (u12.2 1 r12.toNatClampNeg)]) (rest := [.int (u12.2 8 x2.toNatClampNeg)]) ⟨hx, hb, hml, hown, hts⟩ (c_Wa_anyNumber l dC dI cA a _ _ _ _ _) (cwV 2 hts (wsA_goodV wA_440 wA_361 wA_362 wA_34 wA_363) rfl rfl rfl (by decide +kernel) ⟨Nat.le_of_ble_eq_true rfl, Nat.le_of_ble_eq_true rfl⟩) (tr_preV (ci := 4) (q0 := 4) hI rfl (wdX_o4 a cA _) rfl hN hw) rfl rfl hl.1 rfl (lv_room (Nat.le_of_ble_eq_true rfl)) d_Sp_latestFor_32 ⟨Nat.zero_le _, Nat.zero_le _⟩) (fun r32 u32 H locs hw hI => ?_)
  refine lv_isub hx hb d_Sp_latestFor_35 ?_
  exact tr_iret hx hb hr hlocks hI hw d_Sp_latestFor_36
