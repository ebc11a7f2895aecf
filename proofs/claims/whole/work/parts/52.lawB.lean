set_option maxRecDepth 100000 in
set_option maxHeartbeats 4000000 in
theorem lw_case_9 {p : Program} {l : Launch} {e : Env} {s : State} {m : MethodId} {below : List Frame} {meth : Method} {c : Code} {dC : Nat → ClassId} {dI : Nat → Nat → Nat} {cA : ClassId} {a b2 : Nat → Nat} {b L : Nat} {xs : Nat → Int32} {Rel : tS → tS → Prop} (C0 : lw_At p s m meth c b L xs) (hN : tN s) (x3 : Int32) (hin : ∀ j : Int32, 0 ≤ j → j ≤ 5 → vp_in (x3 + j) L)
    (tail : ∀ (u v : tS) (H : Heap) (locs : List Loc) (ls : Array Slot), Rel u v → tX (dC, dI) twCl [(cA, .int)] (fun q => s.heap.size ≤ q) s H locs (wdX a cA u ++ wdM b2 cA v) → lv_has ls 4 [(0, .ref b), (1, .ref (a 0)), (2, .ref (b2 0)), (3, .int x3)] → W p l e room_1 s m #[Value.ref b] below meth c H locs 52 5715 (lw_Z below #[Value.ref b] s) (F0 m 824 ls []))
    (u v : tS) (H : Heap) (locs : List Loc) (ls : Array Slot) (hw : w_T_fastest (fun r1 u1 => w_M_fastest (fun r2 v1 => r1 = r2 ∧ Rel u1 v1) (xs (x3 + 1).toNatClampNeg) (xs (x3 + 2).toNatClampNeg) (xs (x3 + 3).toNatClampNeg) (xs (x3 + 4).toNatClampNeg) v) (xs (x3 + 1).toNatClampNeg) (xs (x3 + 2).toNatClampNeg) (xs (x3 + 3).toNatClampNeg) (xs (x3 + 4).toNatClampNeg) u) (hI : tX (dC, dI) twCl [(cA, .int)] (fun q => s.heap.size ≤ q) s H locs (wdX a cA u ++ wdM b2 cA v)) (hl : lv_has ls 4 [(0, .ref b), (1, .ref (a 0)), (2, .ref (b2 0)), (3, .int x3)]) :
    W p l e room_1 s m #[Value.ref b] below meth c H locs 52 5715 (lw_Z below #[Value.ref b] s) (F0 m 477 ls []) := by
  obtain ⟨hx, hb, hr, hml, hown0, hts0, hX, hbl, hlocks, hgv⟩ := id C0
  have hown : s.vm.findClass R_L = some m.cls := hown0
  have hts : ∀ w ∈ wsA, w.before #[Value.ref b] s = true := fun w h => hts0 w (wsA_tbl w h)
  have hA : ∀ q : Nat, s.heap.size ≤ q → (fun q : Nat => s.heap.size ≤ q) q := fun _ h => h
  have hbA : ¬ (fun q : Nat => s.heap.size ≤ q) b := Nat.not_le.mpr hbl
  refine lv_aload_n hx hb d_L_law_477 rfl (lv_at hl 1 rfl) ?_
  refine lv_aload_n hx hb d_L_law_478 rfl (lv_at hl 0 rfl) ?_
  refine lv_iload_n hx hb d_L_law_479 rfl (lv_at hl 3 rfl) ?_
  refine lv_iconst (v := 1) hx hb d_L_law_480 (by decide) ?_
  refine lv_iadd hx hb d_L_law_481 ?_
  refine va_sld hx hb hX hbl hbA hI.2.2.2 (hin 1 (by decide) (by decide)) d_L_law_482 ?_
  refine lv_aload_n hx hb d_L_law_483 rfl (lv_at hl 0 rfl) ?_
  refine lv_iload_n hx hb d_L_law_484 rfl (lv_at hl 3 rfl) ?_
  refine lv_iconst (v := 2) hx hb d_L_law_485 (by decide) ?_
  refine lv_iadd hx hb d_L_law_486 ?_
  refine va_sld hx hb hX hbl hbA hI.2.2.2 (hin 2 (by decide) (by decide)) d_L_law_487 ?_
  refine lv_aload_n hx hb d_L_law_488 rfl (lv_at hl 0 rfl) ?_
  refine lv_iload_n hx hb d_L_law_489 rfl (lv_at hl 3 rfl) ?_
  refine lv_iconst (v := 3) hx hb d_L_law_490 (by decide) ?_
  refine lv_iadd hx hb d_L_law_491 ?_
  refine va_sld hx hb hX hbl hbA hI.2.2.2 (hin 3 (by decide) (by decide)) d_L_law_492 ?_
  refine lv_aload_n hx hb d_L_law_493 rfl (lv_at hl 0 rfl) ?_
  refine lv_iload_n hx hb d_L_law_494 rfl (lv_at hl 3 rfl) ?_
  refine lv_iconst (v := 4) hx hb d_L_law_495 (by decide) ?_
  refine lv_iadd hx hb d_L_law_496 ?_
  refine va_sld hx hb hX hbl hbA hI.2.2.2 (hin 4 (by decide) (by decide)) d_L_law_497 ?_
  refine lw_goL (w1 := wdX a cA) (w2 := wdM b2 cA v) (fun _ => rfl) hI hA (va_runV (As := [.int (xs (x3 + 1).toNatClampNeg), .int (xs (x3 + 2).toNatClampNeg), .int (xs (x3 + 3).toNatClampNeg), .int (xs (x3 + 4).toNatClampNeg)]) (rest := []) ⟨hx, hb, hml, hown, hts⟩ (c_T_fastest l dC dI cA a _ _ _ _ _ _ _) (cwV 4 hts (wsA_goodV wA_476 wA_477 wA_478 wA_30 wA_479) rfl rfl rfl (by decide +kernel) ⟨Nat.le_of_ble_eq_true rfl, Nat.le_of_ble_eq_true rfl⟩) (tr_preV (w := wdX a cA) (ci := 0) (q0 := 0) (tX_left hI) rfl (wdX_o0 a cA _) rfl hN hw) rfl rfl hl.1 rfl (lv_room (Nat.le_of_ble_eq_true rfl)) d_L_law_498 ⟨Nat.le_of_ble_eq_true rfl, Nat.le_of_ble_eq_true rfl⟩) (fun r1 u1 H locs hw hI => ?_)
  refine lv_aload_n hx hb d_L_law_501 rfl (lv_at hl 2 rfl) ?_
  refine lv_aload_n hx hb d_L_law_502 rfl (lv_at hl 0 rfl) ?_
  refine lv_iload_n hx hb d_L_law_503 rfl (lv_at hl 3 rfl) ?_
  refine lv_iconst (v := 1) hx hb d_L_law_504 (by decide) ?_
  refine lv_iadd hx hb d_L_law_505 ?_
  refine va_sld hx hb hX hbl hbA hI.2.2.2 (hin 1 (by decide) (by decide)) d_L_law_506 ?_
  refine lv_aload_n hx hb d_L_law_507 rfl (lv_at hl 0 rfl) ?_
  refine lv_iload_n hx hb d_L_law_508 rfl (lv_at hl 3 rfl) ?_
  refine lv_iconst (v := 2) hx hb d_L_law_509 (by decide) ?_
  refine lv_iadd hx hb d_L_law_510 ?_
  refine va_sld hx hb hX hbl hbA hI.2.2.2 (hin 2 (by decide) (by decide)) d_L_law_511 ?_
  refine lv_aload_n hx hb d_L_law_512 rfl (lv_at hl 0 rfl) ?_
  refine lv_iload_n hx hb d_L_law_513 rfl (lv_at hl 3 rfl) ?_
  refine lv_iconst (v := 3) hx hb d_L_law_514 (by decide) ?_
  refine lv_iadd hx hb d_L_law_515 ?_
  refine va_sld hx hb hX hbl hbA hI.2.2.2 (hin 3 (by decide) (by decide)) d_L_law_516 ?_
  refine lv_aload_n hx hb d_L_law_517 rfl (lv_at hl 0 rfl) ?_
  refine lv_iload_n hx hb d_L_law_518 rfl (lv_at hl 3 rfl) ?_
  refine lv_iconst (v := 4) hx hb d_L_law_519 (by decide) ?_
  refine lv_iadd hx hb d_L_law_520 ?_
  refine va_sld hx hb hX hbl hbA hI.2.2.2 (hin 4 (by decide) (by decide)) d_L_law_521 ?_
  refine lw_goR (w1 := wdX a cA u1) (w2 := wdM b2 cA) (fun _ => rfl) hI hA (va_runV (As := [.int (xs (x3 + 1).toNatClampNeg), .int (xs (x3 + 2).toNatClampNeg), .int (xs (x3 + 3).toNatClampNeg), .int (xs (x3 + 4).toNatClampNeg)]) (rest := [.int r1]) ⟨hx, hb, hml, hown, hts⟩ (c_M_fastest l dC dI cA b2 _ _ _ _ _ _ _) (cwV 4 hts (wsA_goodV wA_760 wA_761 wA_762 wA_40 wA_763) rfl rfl rfl (by decide +kernel) ⟨Nat.le_of_ble_eq_true rfl, Nat.le_of_ble_eq_true rfl⟩) (tr_preV (w := wdM b2 cA) (ci := 9) (q0 := 0) (tX_right hI) rfl (wdM_o0 b2 cA _) rfl hN hw) rfl rfl hl.1 rfl (lv_room (Nat.le_of_ble_eq_true rfl)) d_L_law_522 ⟨Nat.le_of_ble_eq_true rfl, Nat.le_of_ble_eq_true rfl⟩) (fun r2 v1 H locs hw hI => ?_)
  refine lv_icmp_eq (tgt := 824) hx hb d_L_law_525 (by decide) (fun hc => ?_) (fun hc => absurd hw.1 hc)
  exact tail u1 v1 H locs ls hw.2 hI hl
set_option maxRecDepth 100000 in
set_option maxHeartbeats 4000000 in
theorem lw_case_10 {p : Program} {l : Launch} {e : Env} {s : State} {m : MethodId} {below : List Frame} {meth : Method} {c : Code} {dC : Nat → ClassId} {dI : Nat → Nat → Nat} {cA : ClassId} {a b2 : Nat → Nat} {b L : Nat} {xs : Nat → Int32} {Rel : tS → tS → Prop} (C0 : lw_At p s m meth c b L xs) (hN : tN s) (x3 : Int32) (hin : ∀ j : Int32, 0 ≤ j → j ≤ 5 → vp_in (x3 + j) L)
    (tail : ∀ (u v : tS) (H : Heap) (locs : List Loc) (ls : Array Slot), Rel u v → tX (dC, dI) twCl [(cA, .int)] (fun q => s.heap.size ≤ q) s H locs (wdX a cA u ++ wdM b2 cA v) → lv_has ls 4 [(0, .ref b), (1, .ref (a 0)), (2, .ref (b2 0)), (3, .int x3)] → W p l e room_1 s m #[Value.ref b] below meth c H locs 52 5715 (lw_Z below #[Value.ref b] s) (F0 m 824 ls []))
    (u v : tS) (H : Heap) (locs : List Loc) (ls : Array Slot) (hw : w_T_profile (fun r1 u1 => w_M_profile (fun r2 v1 => r1 = r2 ∧ Rel u1 v1) (xs (x3 + 1).toNatClampNeg) (xs (x3 + 2).toNatClampNeg) (xs (x3 + 3).toNatClampNeg) (xs (x3 + 4).toNatClampNeg) v) (xs (x3 + 1).toNatClampNeg) (xs (x3 + 2).toNatClampNeg) (xs (x3 + 3).toNatClampNeg) (xs (x3 + 4).toNatClampNeg) u) (hI : tX (dC, dI) twCl [(cA, .int)] (fun q => s.heap.size ≤ q) s H locs (wdX a cA u ++ wdM b2 cA v)) (hl : lv_has ls 4 [(0, .ref b), (1, .ref (a 0)), (2, .ref (b2 0)), (3, .int x3)]) :
    W p l e room_1 s m #[Value.ref b] below meth c H locs 52 5715 (lw_Z below #[Value.ref b] s) (F0 m 530 ls []) := by
  obtain ⟨hx, hb, hr, hml, hown0, hts0, hX, hbl, hlocks, hgv⟩ := id C0
  have hown : s.vm.findClass R_L = some m.cls := hown0
  have hts : ∀ w ∈ wsA, w.before #[Value.ref b] s = true := fun w h => hts0 w (wsA_tbl w h)
  have hA : ∀ q : Nat, s.heap.size ≤ q → (fun q : Nat => s.heap.size ≤ q) q := fun _ h => h
  have hbA : ¬ (fun q : Nat => s.heap.size ≤ q) b := Nat.not_le.mpr hbl
  refine lv_aload_n hx hb d_L_law_530 rfl (lv_at hl 1 rfl) ?_
  refine lv_aload_n hx hb d_L_law_531 rfl (lv_at hl 0 rfl) ?_
  refine lv_iload_n hx hb d_L_law_532 rfl (lv_at hl 3 rfl) ?_
  refine lv_iconst (v := 1) hx hb d_L_law_533 (by decide) ?_
  refine lv_iadd hx hb d_L_law_534 ?_
  refine va_sld hx hb hX hbl hbA hI.2.2.2 (hin 1 (by decide) (by decide)) d_L_law_535 ?_
  refine lv_aload_n hx hb d_L_law_536 rfl (lv_at hl 0 rfl) ?_
  refine lv_iload_n hx hb d_L_law_537 rfl (lv_at hl 3 rfl) ?_
  refine lv_iconst (v := 2) hx hb d_L_law_538 (by decide) ?_
  refine lv_iadd hx hb d_L_law_539 ?_
  refine va_sld hx hb hX hbl hbA hI.2.2.2 (hin 2 (by decide) (by decide)) d_L_law_540 ?_
  refine lv_aload_n hx hb d_L_law_541 rfl (lv_at hl 0 rfl) ?_
  refine lv_iload_n hx hb d_L_law_542 rfl (lv_at hl 3 rfl) ?_
  refine lv_iconst (v := 3) hx hb d_L_law_543 (by decide) ?_
  refine lv_iadd hx hb d_L_law_544 ?_
  refine va_sld hx hb hX hbl hbA hI.2.2.2 (hin 3 (by decide) (by decide)) d_L_law_545 ?_
  refine lv_aload_n hx hb d_L_law_546 rfl (lv_at hl 0 rfl) ?_
  refine lv_iload_n hx hb d_L_law_547 rfl (lv_at hl 3 rfl) ?_
  refine lv_iconst (v := 4) hx hb d_L_law_548 (by decide) ?_
  refine lv_iadd hx hb d_L_law_549 ?_
  refine va_sld hx hb hX hbl hbA hI.2.2.2 (hin 4 (by decide) (by decide)) d_L_law_550 ?_
  refine lw_goL (w1 := wdX a cA) (w2 := wdM b2 cA v) (fun _ => rfl) hI hA (va_runV (As := [.int (xs (x3 + 1).toNatClampNeg), .int (xs (x3 + 2).toNatClampNeg), .int (xs (x3 + 3).toNatClampNeg), .int (xs (x3 + 4).toNatClampNeg)]) (rest := []) ⟨hx, hb, hml, hown, hts⟩ (c_T_profile l dC dI cA a _ _ _ _ _ _ _) (cwV 4 hts (wsA_goodV wA_496 wA_497 wA_498 wA_30 wA_499) rfl rfl rfl (by decide +kernel) ⟨Nat.le_of_ble_eq_true rfl, Nat.le_of_ble_eq_true rfl⟩) (tr_preV (w := wdX a cA) (ci := 0) (q0 := 0) (tX_left hI) rfl (wdX_o0 a cA _) rfl hN hw) rfl rfl hl.1 rfl (lv_room (Nat.le_of_ble_eq_true rfl)) d_L_law_551 ⟨Nat.le_of_ble_eq_true rfl, Nat.le_of_ble_eq_true rfl⟩) (fun r1 u1 H locs hw hI => ?_)
  refine lv_aload_n hx hb d_L_law_554 rfl (lv_at hl 2 rfl) ?_
  refine lv_aload_n hx hb d_L_law_555 rfl (lv_at hl 0 rfl) ?_
  refine lv_iload_n hx hb d_L_law_556 rfl (lv_at hl 3 rfl) ?_
  refine lv_iconst (v := 1) hx hb d_L_law_557 (by decide) ?_
  refine lv_iadd hx hb d_L_law_558 ?_
  refine va_sld hx hb hX hbl hbA hI.2.2.2 (hin 1 (by decide) (by decide)) d_L_law_559 ?_
  refine lv_aload_n hx hb d_L_law_560 rfl (lv_at hl 0 rfl) ?_
  refine lv_iload_n hx hb d_L_law_561 rfl (lv_at hl 3 rfl) ?_
  refine lv_iconst (v := 2) hx hb d_L_law_562 (by decide) ?_
  refine lv_iadd hx hb d_L_law_563 ?_
  refine va_sld hx hb hX hbl hbA hI.2.2.2 (hin 2 (by decide) (by decide)) d_L_law_564 ?_
  refine lv_aload_n hx hb d_L_law_565 rfl (lv_at hl 0 rfl) ?_
  refine lv_iload_n hx hb d_L_law_566 rfl (lv_at hl 3 rfl) ?_
  refine lv_iconst (v := 3) hx hb d_L_law_567 (by decide) ?_
  refine lv_iadd hx hb d_L_law_568 ?_
  refine va_sld hx hb hX hbl hbA hI.2.2.2 (hin 3 (by decide) (by decide)) d_L_law_569 ?_
  refine lv_aload_n hx hb d_L_law_570 rfl (lv_at hl 0 rfl) ?_
  refine lv_iload_n hx hb d_L_law_571 rfl (lv_at hl 3 rfl) ?_
  refine lv_iconst (v := 4) hx hb d_L_law_572 (by decide) ?_
  refine lv_iadd hx hb d_L_law_573 ?_
  refine va_sld hx hb hX hbl hbA hI.2.2.2 (hin 4 (by decide) (by decide)) d_L_law_574 ?_
  refine lw_goR (w1 := wdX a cA u1) (w2 := wdM b2 cA) (fun _ => rfl) hI hA (va_runV (As := [.int (xs (x3 + 1).toNatClampNeg), .int (xs (x3 + 2).toNatClampNeg), .int (xs (x3 + 3).toNatClampNeg), .int (xs (x3 + 4).toNatClampNeg)]) (rest := [.int r1]) ⟨hx, hb, hml, hown, hts⟩ (c_M_profile l dC dI cA b2 _ _ _ _ _ _ _) (cwV 4 hts (wsA_goodV wA_768 wA_769 wA_770 wA_40 wA_771) rfl rfl rfl (by decide +kernel) ⟨Nat.le_of_ble_eq_true rfl, Nat.le_of_ble_eq_true rfl⟩) (tr_preV (w := wdM b2 cA) (ci := 9) (q0 := 0) (tX_right hI) rfl (wdM_o0 b2 cA _) rfl hN hw) rfl rfl hl.1 rfl (lv_room (Nat.le_of_ble_eq_true rfl)) d_L_law_575 ⟨Nat.le_of_ble_eq_true rfl, Nat.le_of_ble_eq_true rfl⟩) (fun r2 v1 H locs hw hI => ?_)
  refine lv_icmp_eq (tgt := 824) hx hb d_L_law_578 (by decide) (fun hc => ?_) (fun hc => absurd hw.1 hc)
  exact tail u1 v1 H locs ls hw.2 hI hl
set_option maxRecDepth 100000 in
set_option maxHeartbeats 4000000 in
theorem lw_case_11 {p : Program} {l : Launch} {e : Env} {s : State} {m : MethodId} {below : List Frame} {meth : Method} {c : Code} {dC : Nat → ClassId} {dI : Nat → Nat → Nat} {cA : ClassId} {a b2 : Nat → Nat} {b L : Nat} {xs : Nat → Int32} {Rel : tS → tS → Prop} (C0 : lw_At p s m meth c b L xs) (hN : tN s) (x3 : Int32) (hin : ∀ j : Int32, 0 ≤ j → j ≤ 5 → vp_in (x3 + j) L)
    (tail : ∀ (u v : tS) (H : Heap) (locs : List Loc) (ls : Array Slot), Rel u v → tX (dC, dI) twCl [(cA, .int)] (fun q => s.heap.size ≤ q) s H locs (wdX a cA u ++ wdM b2 cA v) → lv_has ls 4 [(0, .ref b), (1, .ref (a 0)), (2, .ref (b2 0)), (3, .int x3)] → W p l e room_1 s m #[Value.ref b] below meth c H locs 52 5715 (lw_Z below #[Value.ref b] s) (F0 m 824 ls []))
    (u v : tS) (H : Heap) (locs : List Loc) (ls : Array Slot) (hw : w_T_step (fun r1 u1 => w_M_step (fun r2 v1 => r1 = r2 ∧ Rel u1 v1) (xs (x3 + 1).toNatClampNeg) (xs (x3 + 2).toNatClampNeg) v) (xs (x3 + 1).toNatClampNeg) (xs (x3 + 2).toNatClampNeg) u) (hI : tX (dC, dI) twCl [(cA, .int)] (fun q => s.heap.size ≤ q) s H locs (wdX a cA u ++ wdM b2 cA v)) (hl : lv_has ls 4 [(0, .ref b), (1, .ref (a 0)), (2, .ref (b2 0)), (3, .int x3)]) :
    W p l e room_1 s m #[Value.ref b] below meth c H locs 52 5715 (lw_Z below #[Value.ref b] s) (F0 m 583 ls []) := by
  obtain ⟨hx, hb, hr, hml, hown0, hts0, hX, hbl, hlocks, hgv⟩ := id C0
  have hown : s.vm.findClass R_L = some m.cls := hown0
  have hts : ∀ w ∈ wsA, w.before #[Value.ref b] s = true := fun w h => hts0 w (wsA_tbl w h)
  have hA : ∀ q : Nat, s.heap.size ≤ q → (fun q : Nat => s.heap.size ≤ q) q := fun _ h => h
  have hbA : ¬ (fun q : Nat => s.heap.size ≤ q) b := Nat.not_le.mpr hbl
  refine lv_aload_n hx hb d_L_law_583 rfl (lv_at hl 1 rfl) ?_
  refine lv_aload_n hx hb d_L_law_584 rfl (lv_at hl 0 rfl) ?_
  refine lv_iload_n hx hb d_L_law_585 rfl (lv_at hl 3 rfl) ?_
  refine lv_iconst (v := 1) hx hb d_L_law_586 (by decide) ?_
  refine lv_iadd hx hb d_L_law_587 ?_
  refine va_sld hx hb hX hbl hbA hI.2.2.2 (hin 1 (by decide) (by decide)) d_L_law_588 ?_
  refine lv_aload_n hx hb d_L_law_589 rfl (lv_at hl 0 rfl) ?_
  refine lv_iload_n hx hb d_L_law_590 rfl (lv_at hl 3 rfl) ?_
  refine lv_iconst (v := 2) hx hb d_L_law_591 (by decide) ?_
  refine lv_iadd hx hb d_L_law_592 ?_
  refine va_sld hx hb hX hbl hbA hI.2.2.2 (hin 2 (by decide) (by decide)) d_L_law_593 ?_
  refine lw_goL (w1 := wdX a cA) (w2 := wdM b2 cA v) (fun _ => rfl) hI hA (va_runV (As := [.int (xs (x3 + 1).toNatClampNeg), .int (xs (x3 + 2).toNatClampNeg)]) (rest := []) ⟨hx, hb, hml, hown, hts⟩ (c_T_step l dC dI cA a _ _ _ _ _) (cwV 2 hts (wsA_goodV wA_504 wA_505 wA_506 wA_30 wA_507) rfl rfl rfl (by decide +kernel) ⟨Nat.le_of_ble_eq_true rfl, Nat.le_of_ble_eq_true rfl⟩) (tr_preV (w := wdX a cA) (ci := 0) (q0 := 0) (tX_left hI) rfl (wdX_o0 a cA _) rfl hN hw) rfl rfl hl.1 rfl (lv_room (Nat.le_of_ble_eq_true rfl)) d_L_law_594 ⟨Nat.le_of_ble_eq_true rfl, Nat.le_of_ble_eq_true rfl⟩) (fun r1 u1 H locs hw hI => ?_)
  refine lv_aload_n hx hb d_L_law_597 rfl (lv_at hl 2 rfl) ?_
  refine lv_aload_n hx hb d_L_law_598 rfl (lv_at hl 0 rfl) ?_
  refine lv_iload_n hx hb d_L_law_599 rfl (lv_at hl 3 rfl) ?_
  refine lv_iconst (v := 1) hx hb d_L_law_600 (by decide) ?_
  refine lv_iadd hx hb d_L_law_601 ?_
  refine va_sld hx hb hX hbl hbA hI.2.2.2 (hin 1 (by decide) (by decide)) d_L_law_602 ?_
  refine lv_aload_n hx hb d_L_law_603 rfl (lv_at hl 0 rfl) ?_
  refine lv_iload_n hx hb d_L_law_604 rfl (lv_at hl 3 rfl) ?_
  refine lv_iconst (v := 2) hx hb d_L_law_605 (by decide) ?_
  refine lv_iadd hx hb d_L_law_606 ?_
  refine va_sld hx hb hX hbl hbA hI.2.2.2 (hin 2 (by decide) (by decide)) d_L_law_607 ?_
  refine lw_goR (w1 := wdX a cA u1) (w2 := wdM b2 cA) (fun _ => rfl) hI hA (va_runV (As := [.int (xs (x3 + 1).toNatClampNeg), .int (xs (x3 + 2).toNatClampNeg)]) (rest := [.int r1]) ⟨hx, hb, hml, hown, hts⟩ (c_M_step l dC dI cA b2 _ _ _ _ _) (cwV 2 hts (wsA_goodV wA_772 wA_773 wA_774 wA_40 wA_775) rfl rfl rfl (by decide +kernel) ⟨Nat.le_of_ble_eq_true rfl, Nat.le_of_ble_eq_true rfl⟩) (tr_preV (w := wdM b2 cA) (ci := 9) (q0 := 0) (tX_right hI) rfl (wdM_o0 b2 cA _) rfl hN hw) rfl rfl hl.1 rfl (lv_room (Nat.le_of_ble_eq_true rfl)) d_L_law_608 ⟨Nat.le_of_ble_eq_true rfl, Nat.le_of_ble_eq_true rfl⟩) (fun r2 v1 H locs hw hI => ?_)
  refine lv_icmp_eq (tgt := 824) hx hb d_L_law_611 (by decide) (fun hc => ?_) (fun hc => absurd hw.1 hc)
  exact tail u1 v1 H locs ls hw.2 hI hl
set_option maxRecDepth 100000 in
set_option maxHeartbeats 4000000 in
theorem lw_case_12 {p : Program} {l : Launch} {e : Env} {s : State} {m : MethodId} {below : List Frame} {meth : Method} {c : Code} {dC : Nat → ClassId} {dI : Nat → Nat → Nat} {cA : ClassId} {a b2 : Nat → Nat} {b L : Nat} {xs : Nat → Int32} {Rel : tS → tS → Prop} (C0 : lw_At p s m meth c b L xs) (hN : tN s) (x3 : Int32) (hin : ∀ j : Int32, 0 ≤ j → j ≤ 5 → vp_in (x3 + j) L)
    (tail : ∀ (u v : tS) (H : Heap) (locs : List Loc) (ls : Array Slot), Rel u v → tX (dC, dI) twCl [(cA, .int)] (fun q => s.heap.size ≤ q) s H locs (wdX a cA u ++ wdM b2 cA v) → lv_has ls 4 [(0, .ref b), (1, .ref (a 0)), (2, .ref (b2 0)), (3, .int x3)] → W p l e room_1 s m #[Value.ref b] below meth c H locs 52 5715 (lw_Z below #[Value.ref b] s) (F0 m 824 ls []))
    (u v : tS) (H : Heap) (locs : List Loc) (ls : Array Slot) (hw : w_T_reach (fun r1 u1 => w_M_reach (fun r2 v1 => r1 = r2 ∧ Rel u1 v1) (xs (x3 + 1).toNatClampNeg) (xs (x3 + 2).toNatClampNeg) (xs (x3 + 3).toNatClampNeg) v) (xs (x3 + 1).toNatClampNeg) (xs (x3 + 2).toNatClampNeg) (xs (x3 + 3).toNatClampNeg) u) (hI : tX (dC, dI) twCl [(cA, .int)] (fun q => s.heap.size ≤ q) s H locs (wdX a cA u ++ wdM b2 cA v)) (hl : lv_has ls 4 [(0, .ref b), (1, .ref (a 0)), (2, .ref (b2 0)), (3, .int x3)]) :
    W p l e room_1 s m #[Value.ref b] below meth c H locs 52 5715 (lw_Z below #[Value.ref b] s) (F0 m 616 ls []) := by
  obtain ⟨hx, hb, hr, hml, hown0, hts0, hX, hbl, hlocks, hgv⟩ := id C0
  have hown : s.vm.findClass R_L = some m.cls := hown0
  have hts : ∀ w ∈ wsA, w.before #[Value.ref b] s = true := fun w h => hts0 w (wsA_tbl w h)
  have hA : ∀ q : Nat, s.heap.size ≤ q → (fun q : Nat => s.heap.size ≤ q) q := fun _ h => h
  have hbA : ¬ (fun q : Nat => s.heap.size ≤ q) b := Nat.not_le.mpr hbl
  refine lv_aload_n hx hb d_L_law_616 rfl (lv_at hl 1 rfl) ?_
  refine lv_aload_n hx hb d_L_law_617 rfl (lv_at hl 0 rfl) ?_
  refine lv_iload_n hx hb d_L_law_618 rfl (lv_at hl 3 rfl) ?_
  refine lv_iconst (v := 1) hx hb d_L_law_619 (by decide) ?_
  refine lv_iadd hx hb d_L_law_620 ?_
  refine va_sld hx hb hX hbl hbA hI.2.2.2 (hin 1 (by decide) (by decide)) d_L_law_621 ?_
  refine lv_aload_n hx hb d_L_law_622 rfl (lv_at hl 0 rfl) ?_
  refine lv_iload_n hx hb d_L_law_623 rfl (lv_at hl 3 rfl) ?_
  refine lv_iconst (v := 2) hx hb d_L_law_624 (by decide) ?_
  refine lv_iadd hx hb d_L_law_625 ?_
  refine va_sld hx hb hX hbl hbA hI.2.2.2 (hin 2 (by decide) (by decide)) d_L_law_626 ?_
  refine lv_aload_n hx hb d_L_law_627 rfl (lv_at hl 0 rfl) ?_
  refine lv_iload_n hx hb d_L_law_628 rfl (lv_at hl 3 rfl) ?_
  refine lv_iconst (v := 3) hx hb d_L_law_629 (by decide) ?_
  refine lv_iadd hx hb d_L_law_630 ?_
  refine va_sld hx hb hX hbl hbA hI.2.2.2 (hin 3 (by decide) (by decide)) d_L_law_631 ?_
  refine lw_goL (w1 := wdX a cA) (w2 := wdM b2 cA v) (fun _ => rfl) hI hA (va_runV (As := [.int (xs (x3 + 1).toNatClampNeg), .int (xs (x3 + 2).toNatClampNeg), .int (xs (x3 + 3).toNatClampNeg)]) (rest := []) ⟨hx, hb, hml, hown, hts⟩ (c_T_reach l dC dI cA a _ _ _ _ _ _) (cwV 3 hts (wsA_goodV wA_508 wA_509 wA_510 wA_30 wA_511) rfl rfl rfl (by decide +kernel) ⟨Nat.le_of_ble_eq_true rfl, Nat.le_of_ble_eq_true rfl⟩) (tr_preV (w := wdX a cA) (ci := 0) (q0 := 0) (tX_left hI) rfl (wdX_o0 a cA _) rfl hN hw) rfl rfl hl.1 rfl (lv_room (Nat.le_of_ble_eq_true rfl)) d_L_law_632 ⟨Nat.le_of_ble_eq_true rfl, Nat.le_of_ble_eq_true rfl⟩) (fun r1 u1 H locs hw hI => ?_)
  refine lv_aload_n hx hb d_L_law_635 rfl (lv_at hl 2 rfl) ?_
  refine lv_aload_n hx hb d_L_law_636 rfl (lv_at hl 0 rfl) ?_
  refine lv_iload_n hx hb d_L_law_637 rfl (lv_at hl 3 rfl) ?_
  refine lv_iconst (v := 1) hx hb d_L_law_638 (by decide) ?_
  refine lv_iadd hx hb d_L_law_639 ?_
  refine va_sld hx hb hX hbl hbA hI.2.2.2 (hin 1 (by decide) (by decide)) d_L_law_640 ?_
  refine lv_aload_n hx hb d_L_law_641 rfl (lv_at hl 0 rfl) ?_
  refine lv_iload_n hx hb d_L_law_642 rfl (lv_at hl 3 rfl) ?_
  refine lv_iconst (v := 2) hx hb d_L_law_643 (by decide) ?_
  refine lv_iadd hx hb d_L_law_644 ?_
  refine va_sld hx hb hX hbl hbA hI.2.2.2 (hin 2 (by decide) (by decide)) d_L_law_645 ?_
  refine lv_aload_n hx hb d_L_law_646 rfl (lv_at hl 0 rfl) ?_
  refine lv_iload_n hx hb d_L_law_647 rfl (lv_at hl 3 rfl) ?_
  refine lv_iconst (v := 3) hx hb d_L_law_648 (by decide) ?_
  refine lv_iadd hx hb d_L_law_649 ?_
  refine va_sld hx hb hX hbl hbA hI.2.2.2 (hin 3 (by decide) (by decide)) d_L_law_650 ?_
  refine lw_goR (w1 := wdX a cA u1) (w2 := wdM b2 cA) (fun _ => rfl) hI hA (va_runV (As := [.int (xs (x3 + 1).toNatClampNeg), .int (xs (x3 + 2).toNatClampNeg), .int (xs (x3 + 3).toNatClampNeg)]) (rest := [.int r1]) ⟨hx, hb, hml, hown, hts⟩ (c_M_reach l dC dI cA b2 _ _ _ _ _ _) (cwV 3 hts (wsA_goodV wA_776 wA_777 wA_778 wA_40 wA_779) rfl rfl rfl (by decide +kernel) ⟨Nat.le_of_ble_eq_true rfl, Nat.le_of_ble_eq_true rfl⟩) (tr_preV (w := wdM b2 cA) (ci := 9) (q0 := 0) (tX_right hI) rfl (wdM_o0 b2 cA _) rfl hN hw) rfl rfl hl.1 rfl (lv_room (Nat.le_of_ble_eq_true rfl)) d_L_law_651 ⟨Nat.le_of_ble_eq_true rfl, Nat.le_of_ble_eq_true rfl⟩) (fun r2 v1 H locs hw hI => ?_)
  refine lv_icmp_eq (tgt := 824) hx hb d_L_law_654 (by decide) (fun hc => ?_) (fun hc => absurd hw.1 hc)
  exact tail u1 v1 H locs ls hw.2 hI hl
set_option maxRecDepth 100000 in
set_option maxHeartbeats 4000000 in
theorem lw_case_13 {p : Program} {l : Launch} {e : Env} {s : State} {m : MethodId} {below : List Frame} {meth : Method} {c : Code} {dC : Nat → ClassId} {dI : Nat → Nat → Nat} {cA : ClassId} {a b2 : Nat → Nat} {b L : Nat} {xs : Nat → Int32} {Rel : tS → tS → Prop} (C0 : lw_At p s m meth c b L xs) (hN : tN s) (x3 : Int32) (hin : ∀ j : Int32, 0 ≤ j → j ≤ 5 → vp_in (x3 + j) L)
    (tail : ∀ (u v : tS) (H : Heap) (locs : List Loc) (ls : Array Slot), Rel u v → tX (dC, dI) twCl [(cA, .int)] (fun q => s.heap.size ≤ q) s H locs (wdX a cA u ++ wdM b2 cA v) → lv_has ls 4 [(0, .ref b), (1, .ref (a 0)), (2, .ref (b2 0)), (3, .int x3)] → W p l e room_1 s m #[Value.ref b] below meth c H locs 52 5715 (lw_Z below #[Value.ref b] s) (F0 m 824 ls []))
    (u v : tS) (H : Heap) (locs : List Loc) (ls : Array Slot) (hw : w_T_way (fun r1 u1 => w_M_way (fun r2 v1 => r1 = r2 ∧ Rel u1 v1) (xs (x3 + 1).toNatClampNeg) (xs (x3 + 2).toNatClampNeg) (xs (x3 + 3).toNatClampNeg) v) (xs (x3 + 1).toNatClampNeg) (xs (x3 + 2).toNatClampNeg) (xs (x3 + 3).toNatClampNeg) u) (hI : tX (dC, dI) twCl [(cA, .int)] (fun q => s.heap.size ≤ q) s H locs (wdX a cA u ++ wdM b2 cA v)) (hl : lv_has ls 4 [(0, .ref b), (1, .ref (a 0)), (2, .ref (b2 0)), (3, .int x3)]) :
    W p l e room_1 s m #[Value.ref b] below meth c H locs 52 5715 (lw_Z below #[Value.ref b] s) (F0 m 659 ls []) := by
  obtain ⟨hx, hb, hr, hml, hown0, hts0, hX, hbl, hlocks, hgv⟩ := id C0
  have hown : s.vm.findClass R_L = some m.cls := hown0
  have hts : ∀ w ∈ wsA, w.before #[Value.ref b] s = true := fun w h => hts0 w (wsA_tbl w h)
  have hA : ∀ q : Nat, s.heap.size ≤ q → (fun q : Nat => s.heap.size ≤ q) q := fun _ h => h
  have hbA : ¬ (fun q : Nat => s.heap.size ≤ q) b := Nat.not_le.mpr hbl
  refine lv_aload_n hx hb d_L_law_659 rfl (lv_at hl 1 rfl) ?_
  refine lv_aload_n hx hb d_L_law_660 rfl (lv_at hl 0 rfl) ?_
  refine lv_iload_n hx hb d_L_law_661 rfl (lv_at hl 3 rfl) ?_
  refine lv_iconst (v := 1) hx hb d_L_law_662 (by decide) ?_
  refine lv_iadd hx hb d_L_law_663 ?_
  refine va_sld hx hb hX hbl hbA hI.2.2.2 (hin 1 (by decide) (by decide)) d_L_law_664 ?_
  refine lv_aload_n hx hb d_L_law_665 rfl (lv_at hl 0 rfl) ?_
  refine lv_iload_n hx hb d_L_law_666 rfl (lv_at hl 3 rfl) ?_
  refine lv_iconst (v := 2) hx hb d_L_law_667 (by decide) ?_
  refine lv_iadd hx hb d_L_law_668 ?_
  refine va_sld hx hb hX hbl hbA hI.2.2.2 (hin 2 (by decide) (by decide)) d_L_law_669 ?_
  refine lv_aload_n hx hb d_L_law_670 rfl (lv_at hl 0 rfl) ?_
  refine lv_iload_n hx hb d_L_law_671 rfl (lv_at hl 3 rfl) ?_
  refine lv_iconst (v := 3) hx hb d_L_law_672 (by decide) ?_
  refine lv_iadd hx hb d_L_law_673 ?_
  refine va_sld hx hb hX hbl hbA hI.2.2.2 (hin 3 (by decide) (by decide)) d_L_law_674 ?_
  refine lw_goL (w1 := wdX a cA) (w2 := wdM b2 cA v) (fun _ => rfl) hI hA (va_runV (As := [.int (xs (x3 + 1).toNatClampNeg), .int (xs (x3 + 2).toNatClampNeg), .int (xs (x3 + 3).toNatClampNeg)]) (rest := []) ⟨hx, hb, hml, hown, hts⟩ (c_T_way l dC dI cA a _ _ _ _ _ _) (cwV 3 hts (wsA_goodV wA_512 wA_513 wA_514 wA_30 wA_515) rfl rfl rfl (by decide +kernel) ⟨Nat.le_of_ble_eq_true rfl, Nat.le_of_ble_eq_true rfl⟩) (tr_preV (w := wdX a cA) (ci := 0) (q0 := 0) (tX_left hI) rfl (wdX_o0 a cA _) rfl hN hw) rfl rfl hl.1 rfl (lv_room (Nat.le_of_ble_eq_true rfl)) d_L_law_675 ⟨Nat.le_of_ble_eq_true rfl, Nat.le_of_ble_eq_true rfl⟩) (fun r1 u1 H locs hw hI => ?_)
  refine lv_aload_n hx hb d_L_law_678 rfl (lv_at hl 2 rfl) ?_
  refine lv_aload_n hx hb d_L_law_679 rfl (lv_at hl 0 rfl) ?_
  refine lv_iload_n hx hb d_L_law_680 rfl (lv_at hl 3 rfl) ?_
  refine lv_iconst (v := 1) hx hb d_L_law_681 (by decide) ?_
  refine lv_iadd hx hb d_L_law_682 ?_
  refine va_sld hx hb hX hbl hbA hI.2.2.2 (hin 1 (by decide) (by decide)) d_L_law_683 ?_
  refine lv_aload_n hx hb d_L_law_684 rfl (lv_at hl 0 rfl) ?_
  refine lv_iload_n hx hb d_L_law_685 rfl (lv_at hl 3 rfl) ?_
  refine lv_iconst (v := 2) hx hb d_L_law_686 (by decide) ?_
  refine lv_iadd hx hb d_L_law_687 ?_
  refine va_sld hx hb hX hbl hbA hI.2.2.2 (hin 2 (by decide) (by decide)) d_L_law_688 ?_
  refine lv_aload_n hx hb d_L_law_689 rfl (lv_at hl 0 rfl) ?_
  refine lv_iload_n hx hb d_L_law_690 rfl (lv_at hl 3 rfl) ?_
  refine lv_iconst (v := 3) hx hb d_L_law_691 (by decide) ?_
  refine lv_iadd hx hb d_L_law_692 ?_
  refine va_sld hx hb hX hbl hbA hI.2.2.2 (hin 3 (by decide) (by decide)) d_L_law_693 ?_
  refine lw_goR (w1 := wdX a cA u1) (w2 := wdM b2 cA) (fun _ => rfl) hI hA (va_runV (As := [.int (xs (x3 + 1).toNatClampNeg), .int (xs (x3 + 2).toNatClampNeg), .int (xs (x3 + 3).toNatClampNeg)]) (rest := [.int r1]) ⟨hx, hb, hml, hown, hts⟩ (c_M_way l dC dI cA b2 _ _ _ _ _ _) (cwV 3 hts (wsA_goodV wA_780 wA_781 wA_782 wA_40 wA_783) rfl rfl rfl (by decide +kernel) ⟨Nat.le_of_ble_eq_true rfl, Nat.le_of_ble_eq_true rfl⟩) (tr_preV (w := wdM b2 cA) (ci := 9) (q0 := 0) (tX_right hI) rfl (wdM_o0 b2 cA _) rfl hN hw) rfl rfl hl.1 rfl (lv_room (Nat.le_of_ble_eq_true rfl)) d_L_law_694 ⟨Nat.le_of_ble_eq_true rfl, Nat.le_of_ble_eq_true rfl⟩) (fun r2 v1 H locs hw hI => ?_)
  refine lv_icmp_eq (tgt := 824) hx hb d_L_law_697 (by decide) (fun hc => ?_) (fun hc => absurd hw.1 hc)
  exact tail u1 v1 H locs ls hw.2 hI hl
set_option maxRecDepth 100000 in
set_option maxHeartbeats 4000000 in
theorem lw_case_14 {p : Program} {l : Launch} {e : Env} {s : State} {m : MethodId} {below : List Frame} {meth : Method} {c : Code} {dC : Nat → ClassId} {dI : Nat → Nat → Nat} {cA : ClassId} {a b2 : Nat → Nat} {b L : Nat} {xs : Nat → Int32} {Rel : tS → tS → Prop} (C0 : lw_At p s m meth c b L xs) (hN : tN s) (x3 : Int32) (hin : ∀ j : Int32, 0 ≤ j → j ≤ 5 → vp_in (x3 + j) L)
    (tail : ∀ (u v : tS) (H : Heap) (locs : List Loc) (ls : Array Slot), Rel u v → tX (dC, dI) twCl [(cA, .int)] (fun q => s.heap.size ≤ q) s H locs (wdX a cA u ++ wdM b2 cA v) → lv_has ls 4 [(0, .ref b), (1, .ref (a 0)), (2, .ref (b2 0)), (3, .int x3)] → W p l e room_1 s m #[Value.ref b] below meth c H locs 52 5715 (lw_Z below #[Value.ref b] s) (F0 m 824 ls []))
    (u v : tS) (H : Heap) (locs : List Loc) (ls : Array Slot) (hw : w_T_act (fun r1 u1 => w_M_act (fun r2 v1 => r1 = r2 ∧ Rel u1 v1) (xs (x3 + 1).toNatClampNeg) (xs (x3 + 2).toNatClampNeg) v) (xs (x3 + 1).toNatClampNeg) (xs (x3 + 2).toNatClampNeg) u) (hI : tX (dC, dI) twCl [(cA, .int)] (fun q => s.heap.size ≤ q) s H locs (wdX a cA u ++ wdM b2 cA v)) (hl : lv_has ls 4 [(0, .ref b), (1, .ref (a 0)), (2, .ref (b2 0)), (3, .int x3)]) :
    W p l e room_1 s m #[Value.ref b] below meth c H locs 52 5715 (lw_Z below #[Value.ref b] s) (F0 m 702 ls []) := by
  obtain ⟨hx, hb, hr, hml, hown0, hts0, hX, hbl, hlocks, hgv⟩ := id C0
  have hown : s.vm.findClass R_L = some m.cls := hown0
  have hts : ∀ w ∈ wsA, w.before #[Value.ref b] s = true := fun w h => hts0 w (wsA_tbl w h)
  have hA : ∀ q : Nat, s.heap.size ≤ q → (fun q : Nat => s.heap.size ≤ q) q := fun _ h => h
  have hbA : ¬ (fun q : Nat => s.heap.size ≤ q) b := Nat.not_le.mpr hbl
  refine lv_aload_n hx hb d_L_law_702 rfl (lv_at hl 1 rfl) ?_
  refine lv_aload_n hx hb d_L_law_703 rfl (lv_at hl 0 rfl) ?_
  refine lv_iload_n hx hb d_L_law_704 rfl (lv_at hl 3 rfl) ?_
  refine lv_iconst (v := 1) hx hb d_L_law_705 (by decide) ?_
  refine lv_iadd hx hb d_L_law_706 ?_
  refine va_sld hx hb hX hbl hbA hI.2.2.2 (hin 1 (by decide) (by decide)) d_L_law_707 ?_
  refine lv_aload_n hx hb d_L_law_708 rfl (lv_at hl 0 rfl) ?_
  refine lv_iload_n hx hb d_L_law_709 rfl (lv_at hl 3 rfl) ?_
  refine lv_iconst (v := 2) hx hb d_L_law_710 (by decide) ?_
  refine lv_iadd hx hb d_L_law_711 ?_
  refine va_sld hx hb hX hbl hbA hI.2.2.2 (hin 2 (by decide) (by decide)) d_L_law_712 ?_
  refine lw_goL (w1 := wdX a cA) (w2 := wdM b2 cA v) (fun _ => rfl) hI hA (va_runV (As := [.int (xs (x3 + 1).toNatClampNeg), .int (xs (x3 + 2).toNatClampNeg)]) (rest := []) ⟨hx, hb, hml, hown, hts⟩ (c_T_act l dC dI cA a _ _ _ _ _) (cwV 2 hts (wsA_goodV wA_553 wA_554 wA_555 wA_30 wA_556) rfl rfl rfl (by decide +kernel) ⟨Nat.le_of_ble_eq_true rfl, Nat.le_of_ble_eq_true rfl⟩) (tr_preV (w := wdX a cA) (ci := 0) (q0 := 0) (tX_left hI) rfl (wdX_o0 a cA _) rfl hN hw) rfl rfl hl.1 rfl (lv_room (Nat.le_of_ble_eq_true rfl)) d_L_law_713 ⟨Nat.le_of_ble_eq_true rfl, Nat.le_of_ble_eq_true rfl⟩) (fun r1 u1 H locs hw hI => ?_)
  refine lv_aload_n hx hb d_L_law_716 rfl (lv_at hl 2 rfl) ?_
  refine lv_aload_n hx hb d_L_law_717 rfl (lv_at hl 0 rfl) ?_
  refine lv_iload_n hx hb d_L_law_718 rfl (lv_at hl 3 rfl) ?_
  refine lv_iconst (v := 1) hx hb d_L_law_719 (by decide) ?_
  refine lv_iadd hx hb d_L_law_720 ?_
  refine va_sld hx hb hX hbl hbA hI.2.2.2 (hin 1 (by decide) (by decide)) d_L_law_721 ?_
  refine lv_aload_n hx hb d_L_law_722 rfl (lv_at hl 0 rfl) ?_
  refine lv_iload_n hx hb d_L_law_723 rfl (lv_at hl 3 rfl) ?_
  refine lv_iconst (v := 2) hx hb d_L_law_724 (by decide) ?_
  refine lv_iadd hx hb d_L_law_725 ?_
  refine va_sld hx hb hX hbl hbA hI.2.2.2 (hin 2 (by decide) (by decide)) d_L_law_726 ?_
  refine lw_goR (w1 := wdX a cA u1) (w2 := wdM b2 cA) (fun _ => rfl) hI hA (va_runV (As := [.int (xs (x3 + 1).toNatClampNeg), .int (xs (x3 + 2).toNatClampNeg)]) (rest := [.int r1]) ⟨hx, hb, hml, hown, hts⟩ (c_M_act l dC dI cA b2 _ _ _ _ _) (cwV 2 hts (wsA_goodV wA_796 wA_797 wA_798 wA_40 wA_799) rfl rfl rfl (by decide +kernel) ⟨Nat.le_of_ble_eq_true rfl, Nat.le_of_ble_eq_true rfl⟩) (tr_preV (w := wdM b2 cA) (ci := 9) (q0 := 0) (tX_right hI) rfl (wdM_o0 b2 cA _) rfl hN hw) rfl rfl hl.1 rfl (lv_room (Nat.le_of_ble_eq_true rfl)) d_L_law_727 ⟨Nat.le_of_ble_eq_true rfl, Nat.le_of_ble_eq_true rfl⟩) (fun r2 v1 H locs hw hI => ?_)
  refine lv_icmp_eq (tgt := 824) hx hb d_L_law_730 (by decide) (fun hc => ?_) (fun hc => absurd hw.1 hc)
  exact tail u1 v1 H locs ls hw.2 hI hl
set_option maxRecDepth 100000 in
set_option maxHeartbeats 4000000 in
theorem lw_case_15 {p : Program} {l : Launch} {e : Env} {s : State} {m : MethodId} {below : List Frame} {meth : Method} {c : Code} {dC : Nat → ClassId} {dI : Nat → Nat → Nat} {cA : ClassId} {a b2 : Nat → Nat} {b L : Nat} {xs : Nat → Int32} {Rel : tS → tS → Prop} (C0 : lw_At p s m meth c b L xs) (hN : tN s) (x3 : Int32) (hin : ∀ j : Int32, 0 ≤ j → j ≤ 5 → vp_in (x3 + j) L)
    (tail : ∀ (u v : tS) (H : Heap) (locs : List Loc) (ls : Array Slot), Rel u v → tX (dC, dI) twCl [(cA, .int)] (fun q => s.heap.size ≤ q) s H locs (wdX a cA u ++ wdM b2 cA v) → lv_has ls 4 [(0, .ref b), (1, .ref (a 0)), (2, .ref (b2 0)), (3, .int x3)] → W p l e room_1 s m #[Value.ref b] below meth c H locs 52 5715 (lw_Z below #[Value.ref b] s) (F0 m 824 ls []))
    (u v : tS) (H : Heap) (locs : List Loc) (ls : Array Slot) (hw : w_T_next (fun r1 u1 => w_M_next (fun r2 v1 => r1 = r2 ∧ Rel u1 v1) (xs (x3 + 1).toNatClampNeg) (xs (x3 + 2).toNatClampNeg) v) (xs (x3 + 1).toNatClampNeg) (xs (x3 + 2).toNatClampNeg) u) (hI : tX (dC, dI) twCl [(cA, .int)] (fun q => s.heap.size ≤ q) s H locs (wdX a cA u ++ wdM b2 cA v)) (hl : lv_has ls 4 [(0, .ref b), (1, .ref (a 0)), (2, .ref (b2 0)), (3, .int x3)]) :
    W p l e room_1 s m #[Value.ref b] below meth c H locs 52 5715 (lw_Z below #[Value.ref b] s) (F0 m 735 ls []) := by
  obtain ⟨hx, hb, hr, hml, hown0, hts0, hX, hbl, hlocks, hgv⟩ := id C0
  have hown : s.vm.findClass R_L = some m.cls := hown0
  have hts : ∀ w ∈ wsA, w.before #[Value.ref b] s = true := fun w h => hts0 w (wsA_tbl w h)
  have hA : ∀ q : Nat, s.heap.size ≤ q → (fun q : Nat => s.heap.size ≤ q) q := fun _ h => h
  have hbA : ¬ (fun q : Nat => s.heap.size ≤ q) b := Nat.not_le.mpr hbl
  refine lv_aload_n hx hb d_L_law_735 rfl (lv_at hl 1 rfl) ?_
  refine lv_aload_n hx hb d_L_law_736 rfl (lv_at hl 0 rfl) ?_
  refine lv_iload_n hx hb d_L_law_737 rfl (lv_at hl 3 rfl) ?_
  refine lv_iconst (v := 1) hx hb d_L_law_738 (by decide) ?_
  refine lv_iadd hx hb d_L_law_739 ?_
  refine va_sld hx hb hX hbl hbA hI.2.2.2 (hin 1 (by decide) (by decide)) d_L_law_740 ?_
  refine lv_aload_n hx hb d_L_law_741 rfl (lv_at hl 0 rfl) ?_
  refine lv_iload_n hx hb d_L_law_742 rfl (lv_at hl 3 rfl) ?_
  refine lv_iconst (v := 2) hx hb d_L_law_743 (by decide) ?_
  refine lv_iadd hx hb d_L_law_744 ?_
  refine va_sld hx hb hX hbl hbA hI.2.2.2 (hin 2 (by decide) (by decide)) d_L_law_745 ?_
  refine lw_goL (w1 := wdX a cA) (w2 := wdM b2 cA v) (fun _ => rfl) hI hA (va_runV (As := [.int (xs (x3 + 1).toNatClampNeg), .int (xs (x3 + 2).toNatClampNeg)]) (rest := []) ⟨hx, hb, hml, hown, hts⟩ (c_T_next l dC dI cA a _ _ _ _ _) (cwV 2 hts (wsA_goodV wA_557 wA_558 wA_559 wA_30 wA_560) rfl rfl rfl (by decide +kernel) ⟨Nat.le_of_ble_eq_true rfl, Nat.le_of_ble_eq_true rfl⟩) (tr_preV (w := wdX a cA) (ci := 0) (q0 := 0) (tX_left hI) rfl (wdX_o0 a cA _) rfl hN hw) rfl rfl hl.1 rfl (lv_room (Nat.le_of_ble_eq_true rfl)) d_L_law_746 ⟨Nat.le_of_ble_eq_true rfl, Nat.le_of_ble_eq_true rfl⟩) (fun r1 u1 H locs hw hI => ?_)
  refine lv_aload_n hx hb d_L_law_749 rfl (lv_at hl 2 rfl) ?_
  refine lv_aload_n hx hb d_L_law_750 rfl (lv_at hl 0 rfl) ?_
  refine lv_iload_n hx hb d_L_law_751 rfl (lv_at hl 3 rfl) ?_
  refine lv_iconst (v := 1) hx hb d_L_law_752 (by decide) ?_
  refine lv_iadd hx hb d_L_law_753 ?_
  refine va_sld hx hb hX hbl hbA hI.2.2.2 (hin 1 (by decide) (by decide)) d_L_law_754 ?_
  refine lv_aload_n hx hb d_L_law_755 rfl (lv_at hl 0 rfl) ?_
  refine lv_iload_n hx hb d_L_law_756 rfl (lv_at hl 3 rfl) ?_
  refine lv_iconst (v := 2) hx hb d_L_law_757 (by decide) ?_
  refine lv_iadd hx hb d_L_law_758 ?_
  refine va_sld hx hb hX hbl hbA hI.2.2.2 (hin 2 (by decide) (by decide)) d_L_law_759 ?_
  refine lw_goR (w1 := wdX a cA u1) (w2 := wdM b2 cA) (fun _ => rfl) hI hA (va_runV (As := [.int (xs (x3 + 1).toNatClampNeg), .int (xs (x3 + 2).toNatClampNeg)]) (rest := [.int r1]) ⟨hx, hb, hml, hown, hts⟩ (c_M_next l dC dI cA b2 _ _ _ _ _) (cwV 2 hts (wsA_goodV wA_800 wA_801 wA_802 wA_40 wA_803) rfl rfl rfl (by decide +kernel) ⟨Nat.le_of_ble_eq_true rfl, Nat.le_of_ble_eq_true rfl⟩) (tr_preV (w := wdM b2 cA) (ci := 9) (q0 := 0) (tX_right hI) rfl (wdM_o0 b2 cA _) rfl hN hw) rfl rfl hl.1 rfl (lv_room (Nat.le_of_ble_eq_true rfl)) d_L_law_760 ⟨Nat.le_of_ble_eq_true rfl, Nat.le_of_ble_eq_true rfl⟩) (fun r2 v1 H locs hw hI => ?_)
  refine lv_icmp_eq (tgt := 824) hx hb d_L_law_763 (by decide) (fun hc => ?_) (fun hc => absurd hw.1 hc)
  exact tail u1 v1 H locs ls hw.2 hI hl
set_option maxRecDepth 100000 in
set_option maxHeartbeats 4000000 in
theorem lw_case_16 {p : Program} {l : Launch} {e : Env} {s : State} {m : MethodId} {below : List Frame} {meth : Method} {c : Code} {dC : Nat → ClassId} {dI : Nat → Nat → Nat} {cA : ClassId} {a b2 : Nat → Nat} {b L : Nat} {xs : Nat → Int32} {Rel : tS → tS → Prop} (C0 : lw_At p s m meth c b L xs) (hN : tN s) (x3 : Int32) (hin : ∀ j : Int32, 0 ≤ j → j ≤ 5 → vp_in (x3 + j) L)
    (tail : ∀ (u v : tS) (H : Heap) (locs : List Loc) (ls : Array Slot), Rel u v → tX (dC, dI) twCl [(cA, .int)] (fun q => s.heap.size ≤ q) s H locs (wdX a cA u ++ wdM b2 cA v) → lv_has ls 4 [(0, .ref b), (1, .ref (a 0)), (2, .ref (b2 0)), (3, .int x3)] → W p l e room_1 s m #[Value.ref b] below meth c H locs 52 5715 (lw_Z below #[Value.ref b] s) (F0 m 824 ls []))
    (u v : tS) (H : Heap) (locs : List Loc) (ls : Array Slot) (hw : w_T_told (fun r1 u1 => w_M_told (fun r2 v1 => r1 = r2 ∧ Rel u1 v1) (xs (x3 + 1).toNatClampNeg) (xs (x3 + 2).toNatClampNeg) v) (xs (x3 + 1).toNatClampNeg) (xs (x3 + 2).toNatClampNeg) u) (hI : tX (dC, dI) twCl [(cA, .int)] (fun q => s.heap.size ≤ q) s H locs (wdX a cA u ++ wdM b2 cA v)) (hl : lv_has ls 4 [(0, .ref b), (1, .ref (a 0)), (2, .ref (b2 0)), (3, .int x3)]) :
    W p l e room_1 s m #[Value.ref b] below meth c H locs 52 5715 (lw_Z below #[Value.ref b] s) (F0 m 768 ls []) := by
  obtain ⟨hx, hb, hr, hml, hown0, hts0, hX, hbl, hlocks, hgv⟩ := id C0
  have hown : s.vm.findClass R_L = some m.cls := hown0
  have hts : ∀ w ∈ wsA, w.before #[Value.ref b] s = true := fun w h => hts0 w (wsA_tbl w h)
  have hA : ∀ q : Nat, s.heap.size ≤ q → (fun q : Nat => s.heap.size ≤ q) q := fun _ h => h
  have hbA : ¬ (fun q : Nat => s.heap.size ≤ q) b := Nat.not_le.mpr hbl
  refine lv_aload_n hx hb d_L_law_768 rfl (lv_at hl 1 rfl) ?_
  refine lv_aload_n hx hb d_L_law_769 rfl (lv_at hl 0 rfl) ?_
  refine lv_iload_n hx hb d_L_law_770 rfl (lv_at hl 3 rfl) ?_
  refine lv_iconst (v := 1) hx hb d_L_law_771 (by decide) ?_
  refine lv_iadd hx hb d_L_law_772 ?_
  refine va_sld hx hb hX hbl hbA hI.2.2.2 (hin 1 (by decide) (by decide)) d_L_law_773 ?_
  refine lv_aload_n hx hb d_L_law_774 rfl (lv_at hl 0 rfl) ?_
  refine lv_iload_n hx hb d_L_law_775 rfl (lv_at hl 3 rfl) ?_
  refine lv_iconst (v := 2) hx hb d_L_law_776 (by decide) ?_
  refine lv_iadd hx hb d_L_law_777 ?_
  refine va_sld hx hb hX hbl hbA hI.2.2.2 (hin 2 (by decide) (by decide)) d_L_law_778 ?_
  refine lw_goL (w1 := wdX a cA) (w2 := wdM b2 cA v) (fun _ => rfl) hI hA (va_runV (As := [.int (xs (x3 + 1).toNatClampNeg), .int (xs (x3 + 2).toNatClampNeg)]) (rest := []) ⟨hx, hb, hml, hown, hts⟩ (c_T_told l dC dI cA a _ _ _ _ _) (cwV 2 hts (wsA_goodV wA_566 wA_567 wA_568 wA_30 wA_569) rfl rfl rfl (by decide +kernel) ⟨Nat.le_of_ble_eq_true rfl, Nat.le_of_ble_eq_true rfl⟩) (tr_preV (w := wdX a cA) (ci := 0) (q0 := 0) (tX_left hI) rfl (wdX_o0 a cA _) rfl hN hw) rfl rfl hl.1 rfl (lv_room (Nat.le_of_ble_eq_true rfl)) d_L_law_779 ⟨Nat.le_of_ble_eq_true rfl, Nat.le_of_ble_eq_true rfl⟩) (fun r1 u1 H locs hw hI => ?_)
  refine lv_aload_n hx hb d_L_law_782 rfl (lv_at hl 2 rfl) ?_
  refine lv_aload_n hx hb d_L_law_783 rfl (lv_at hl 0 rfl) ?_
  refine lv_iload_n hx hb d_L_law_784 rfl (lv_at hl 3 rfl) ?_
  refine lv_iconst (v := 1) hx hb d_L_law_785 (by decide) ?_
  refine lv_iadd hx hb d_L_law_786 ?_
  refine va_sld hx hb hX hbl hbA hI.2.2.2 (hin 1 (by decide) (by decide)) d_L_law_787 ?_
  refine lv_aload_n hx hb d_L_law_788 rfl (lv_at hl 0 rfl) ?_
  refine lv_iload_n hx hb d_L_law_789 rfl (lv_at hl 3 rfl) ?_
  refine lv_iconst (v := 2) hx hb d_L_law_790 (by decide) ?_
  refine lv_iadd hx hb d_L_law_791 ?_
  refine va_sld hx hb hX hbl hbA hI.2.2.2 (hin 2 (by decide) (by decide)) d_L_law_792 ?_
  refine lw_goR (w1 := wdX a cA u1) (w2 := wdM b2 cA) (fun _ => rfl) hI hA (va_runV (As := [.int (xs (x3 + 1).toNatClampNeg), .int (xs (x3 + 2).toNatClampNeg)]) (rest := [.int r1]) ⟨hx, hb, hml, hown, hts⟩ (c_M_told l dC dI cA b2 _ _ _ _ _) (cwV 2 hts (wsA_goodV wA_804 wA_805 wA_806 wA_40 wA_807) rfl rfl rfl (by decide +kernel) ⟨Nat.le_of_ble_eq_true rfl, Nat.le_of_ble_eq_true rfl⟩) (tr_preV (w := wdM b2 cA) (ci := 9) (q0 := 0) (tX_right hI) rfl (wdM_o0 b2 cA _) rfl hN hw) rfl rfl hl.1 rfl (lv_room (Nat.le_of_ble_eq_true rfl)) d_L_law_793 ⟨Nat.le_of_ble_eq_true rfl, Nat.le_of_ble_eq_true rfl⟩) (fun r2 v1 H locs hw hI => ?_)
  refine lv_icmp_eq (tgt := 824) hx hb d_L_law_796 (by decide) (fun hc => ?_) (fun hc => absurd hw.1 hc)
  exact tail u1 v1 H locs ls hw.2 hI hl
set_option maxRecDepth 100000 in
set_option maxHeartbeats 4000000 in
theorem lw_case_17 {p : Program} {l : Launch} {e : Env} {s : State} {m : MethodId} {below : List Frame} {meth : Method} {c : Code} {dC : Nat → ClassId} {dI : Nat → Nat → Nat} {cA : ClassId} {a b2 : Nat → Nat} {b L : Nat} {xs : Nat → Int32} {Rel : tS → tS → Prop} (C0 : lw_At p s m meth c b L xs) (hN : tN s) (x3 : Int32) (hin : ∀ j : Int32, 0 ≤ j → j ≤ 5 → vp_in (x3 + j) L)
    (tail : ∀ (u v : tS) (H : Heap) (locs : List Loc) (ls : Array Slot), Rel u v → tX (dC, dI) twCl [(cA, .int)] (fun q => s.heap.size ≤ q) s H locs (wdX a cA u ++ wdM b2 cA v) → lv_has ls 4 [(0, .ref b), (1, .ref (a 0)), (2, .ref (b2 0)), (3, .int x3)] → W p l e room_1 s m #[Value.ref b] below meth c H locs 52 5715 (lw_Z below #[Value.ref b] s) (F0 m 824 ls []))
    (u v : tS) (H : Heap) (locs : List Loc) (ls : Array Slot) (hw : w_T_of (fun r1 u1 => w_M_of (fun r2 v1 => r1 = r2 ∧ Rel u1 v1) (xs (x3 + 1).toNatClampNeg) v) (xs (x3 + 1).toNatClampNeg) u) (hI : tX (dC, dI) twCl [(cA, .int)] (fun q => s.heap.size ≤ q) s H locs (wdX a cA u ++ wdM b2 cA v)) (hl : lv_has ls 4 [(0, .ref b), (1, .ref (a 0)), (2, .ref (b2 0)), (3, .int x3)]) :
    W p l e room_1 s m #[Value.ref b] below meth c H locs 52 5715 (lw_Z below #[Value.ref b] s) (F0 m 801 ls []) := by
  obtain ⟨hx, hb, hr, hml, hown0, hts0, hX, hbl, hlocks, hgv⟩ := id C0
  have hown : s.vm.findClass R_L = some m.cls := hown0
  have hts : ∀ w ∈ wsA, w.before #[Value.ref b] s = true := fun w h => hts0 w (wsA_tbl w h)
  have hA : ∀ q : Nat, s.heap.size ≤ q → (fun q : Nat => s.heap.size ≤ q) q := fun _ h => h
  have hbA : ¬ (fun q : Nat => s.heap.size ≤ q) b := Nat.not_le.mpr hbl
  refine lv_aload_n hx hb d_L_law_801 rfl (lv_at hl 1 rfl) ?_
  refine lv_aload_n hx hb d_L_law_802 rfl (lv_at hl 0 rfl) ?_
  refine lv_iload_n hx hb d_L_law_803 rfl (lv_at hl 3 rfl) ?_
  refine lv_iconst (v := 1) hx hb d_L_law_804 (by decide) ?_
  refine lv_iadd hx hb d_L_law_805 ?_
  refine va_sld hx hb hX hbl hbA hI.2.2.2 (hin 1 (by decide) (by decide)) d_L_law_806 ?_
  refine lw_goL (w1 := wdX a cA) (w2 := wdM b2 cA v) (fun _ => rfl) hI hA (va_runV (As := [.int (xs (x3 + 1).toNatClampNeg)]) (rest := []) ⟨hx, hb, hml, hown, hts⟩ (c_T_of l dC dI cA a _ _ _ _) (cwV 1 hts (wsA_goodV wA_575 wA_576 wA_577 wA_30 wA_578) rfl rfl rfl (by decide +kernel) ⟨Nat.le_of_ble_eq_true rfl, Nat.le_of_ble_eq_true rfl⟩) (tr_preV (w := wdX a cA) (ci := 0) (q0 := 0) (tX_left hI) rfl (wdX_o0 a cA _) rfl hN hw) rfl rfl hl.1 rfl (lv_room (Nat.le_of_ble_eq_true rfl)) d_L_law_807 ⟨Nat.le_of_ble_eq_true rfl, Nat.le_of_ble_eq_true rfl⟩) (fun r1 u1 H locs hw hI => ?_)
  refine lv_aload_n hx hb d_L_law_810 rfl (lv_at hl 2 rfl) ?_
  refine lv_aload_n hx hb d_L_law_811 rfl (lv_at hl 0 rfl) ?_
  refine lv_iload_n hx hb d_L_law_812 rfl (lv_at hl 3 rfl) ?_
  refine lv_iconst (v := 1) hx hb d_L_law_813 (by decide) ?_
  refine lv_iadd hx hb d_L_law_814 ?_
  refine va_sld hx hb hX hbl hbA hI.2.2.2 (hin 1 (by decide) (by decide)) d_L_law_815 ?_
  refine lw_goR (w1 := wdX a cA u1) (w2 := wdM b2 cA) (fun _ => rfl) hI hA (va_runV (As := [.int (xs (x3 + 1).toNatClampNeg)]) (rest := [.int r1]) ⟨hx, hb, hml, hown, hts⟩ (c_M_of l dC dI cA b2 _ _ _ _) (cwV 1 hts (wsA_goodV wA_808 wA_809 wA_810 wA_40 wA_811) rfl rfl rfl (by decide +kernel) ⟨Nat.le_of_ble_eq_true rfl, Nat.le_of_ble_eq_true rfl⟩) (tr_preV (w := wdM b2 cA) (ci := 9) (q0 := 0) (tX_right hI) rfl (wdM_o0 b2 cA _) rfl hN hw) rfl rfl hl.1 rfl (lv_room (Nat.le_of_ble_eq_true rfl)) d_L_law_816 ⟨Nat.le_of_ble_eq_true rfl, Nat.le_of_ble_eq_true rfl⟩) (fun r2 v1 H locs hw hI => ?_)
  refine lv_icmp_eq (tgt := 824) hx hb d_L_law_819 (by decide) (fun hc => ?_) (fun hc => absurd hw.1 hc)
  exact tail u1 v1 H locs ls hw.2 hI hl
