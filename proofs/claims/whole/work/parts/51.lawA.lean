def lw_ok (Rel : tS → tS → Prop) : Prop :=
  (∀ (u v : tS), Rel u v → w_T_clear (fun r1 u1 => w_M_clear (fun r2 v1 => r1 = r2 ∧ Rel u1 v1) v) u) ∧
  (∀ (u v : tS) (x1 : Int32), Rel u v → w_T_stop (fun r1 u1 => w_M_stop (fun r2 v1 => r1 = r2 ∧ Rel u1 v1) x1 v) x1 u) ∧
  (∀ (u v : tS) (x1 x2 : Int32), Rel u v → w_T_change (fun r1 u1 => w_M_change (fun r2 v1 => r1 = r2 ∧ Rel u1 v1) x1 x2 v) x1 x2 u) ∧
  (∀ (u v : tS) (x1 x2 x3 x4 x5 : Int32), Rel u v → w_T_ride (fun r1 u1 => w_M_ride (fun r2 v1 => r1 = r2 ∧ Rel u1 v1) x1 x2 x3 x4 x5 v) x1 x2 x3 x4 x5 u) ∧
  (∀ (u v : tS) (x1 x2 x3 : Int32), Rel u v → w_T_walk (fun r1 u1 => w_M_walk (fun r2 v1 => r1 = r2 ∧ Rel u1 v1) x1 x2 x3 v) x1 x2 x3 u) ∧
  (∀ (u v : tS) (x1 x2 x3 : Int32), Rel u v → w_T_late (fun r1 u1 => w_M_late (fun r2 v1 => r1 = r2 ∧ Rel u1 v1) x1 x2 x3 v) x1 x2 x3 u) ∧
  (∀ (u v : tS) (x1 x2 x3 : Int32), Rel u v → w_T_earliest (fun r1 u1 => w_M_earliest (fun r2 v1 => r1 = r2 ∧ Rel u1 v1) x1 x2 x3 v) x1 x2 x3 u) ∧
  (∀ (u v : tS) (x1 x2 x3 : Int32), Rel u v → w_T_latest (fun r1 u1 => w_M_latest (fun r2 v1 => r1 = r2 ∧ Rel u1 v1) x1 x2 x3 v) x1 x2 x3 u) ∧
  (∀ (u v : tS) (x1 x2 x3 x4 : Int32), Rel u v → w_T_fewest (fun r1 u1 => w_M_fewest (fun r2 v1 => r1 = r2 ∧ Rel u1 v1) x1 x2 x3 x4 v) x1 x2 x3 x4 u) ∧
  (∀ (u v : tS) (x1 x2 x3 x4 : Int32), Rel u v → w_T_fastest (fun r1 u1 => w_M_fastest (fun r2 v1 => r1 = r2 ∧ Rel u1 v1) x1 x2 x3 x4 v) x1 x2 x3 x4 u) ∧
  (∀ (u v : tS) (x1 x2 x3 x4 : Int32), Rel u v → w_T_profile (fun r1 u1 => w_M_profile (fun r2 v1 => r1 = r2 ∧ Rel u1 v1) x1 x2 x3 x4 v) x1 x2 x3 x4 u) ∧
  (∀ (u v : tS) (x1 x2 : Int32), Rel u v → w_T_step (fun r1 u1 => w_M_step (fun r2 v1 => r1 = r2 ∧ Rel u1 v1) x1 x2 v) x1 x2 u) ∧
  (∀ (u v : tS) (x1 x2 x3 : Int32), Rel u v → w_T_reach (fun r1 u1 => w_M_reach (fun r2 v1 => r1 = r2 ∧ Rel u1 v1) x1 x2 x3 v) x1 x2 x3 u) ∧
  (∀ (u v : tS) (x1 x2 x3 : Int32), Rel u v → w_T_way (fun r1 u1 => w_M_way (fun r2 v1 => r1 = r2 ∧ Rel u1 v1) x1 x2 x3 v) x1 x2 x3 u) ∧
  (∀ (u v : tS) (x1 x2 : Int32), Rel u v → w_T_act (fun r1 u1 => w_M_act (fun r2 v1 => r1 = r2 ∧ Rel u1 v1) x1 x2 v) x1 x2 u) ∧
  (∀ (u v : tS) (x1 x2 : Int32), Rel u v → w_T_next (fun r1 u1 => w_M_next (fun r2 v1 => r1 = r2 ∧ Rel u1 v1) x1 x2 v) x1 x2 u) ∧
  (∀ (u v : tS) (x1 x2 : Int32), Rel u v → w_T_told (fun r1 u1 => w_M_told (fun r2 v1 => r1 = r2 ∧ Rel u1 v1) x1 x2 v) x1 x2 u) ∧
  (∀ (u v : tS) (x1 : Int32), Rel u v → w_T_of (fun r1 u1 => w_M_of (fun r2 v1 => r1 = r2 ∧ Rel u1 v1) x1 v) x1 u)
set_option maxRecDepth 100000 in
set_option maxHeartbeats 4000000 in
theorem lw_case_0 {p : Program} {l : Launch} {e : Env} {s : State} {m : MethodId} {below : List Frame} {meth : Method} {c : Code} {dC : Nat → ClassId} {dI : Nat → Nat → Nat} {cA : ClassId} {a b2 : Nat → Nat} {b L : Nat} {xs : Nat → Int32} {Rel : tS → tS → Prop} (C0 : lw_At p s m meth c b L xs) (hN : tN s) (x3 : Int32) (hin : ∀ j : Int32, 0 ≤ j → j ≤ 5 → vp_in (x3 + j) L)
    (tail : ∀ (u v : tS) (H : Heap) (locs : List Loc) (ls : Array Slot), Rel u v → tX (dC, dI) twCl [(cA, .int)] (fun q => s.heap.size ≤ q) s H locs (wdX a cA u ++ wdM b2 cA v) → lv_has ls 4 [(0, .ref b), (1, .ref (a 0)), (2, .ref (b2 0)), (3, .int x3)] → W p l e room_1 s m #[Value.ref b] below meth c H locs 52 5715 (lw_Z below #[Value.ref b] s) (F0 m 824 ls []))
    (u v : tS) (H : Heap) (locs : List Loc) (ls : Array Slot) (hw : w_T_clear (fun r1 u1 => w_M_clear (fun r2 v1 => r1 = r2 ∧ Rel u1 v1) v) u) (hI : tX (dC, dI) twCl [(cA, .int)] (fun q => s.heap.size ≤ q) s H locs (wdX a cA u ++ wdM b2 cA v)) (hl : lv_has ls 4 [(0, .ref b), (1, .ref (a 0)), (2, .ref (b2 0)), (3, .int x3)]) :
    W p l e room_1 s m #[Value.ref b] below meth c H locs 52 5715 (lw_Z below #[Value.ref b] s) (F0 m 120 ls []) := by
  obtain ⟨hx, hb, hr, hml, hown0, hts0, hX, hbl, hlocks, hgv⟩ := id C0
  have hown : s.vm.findClass R_L = some m.cls := hown0
  have hts : ∀ w ∈ wsA, w.before #[Value.ref b] s = true := fun w h => hts0 w (wsA_tbl w h)
  have hA : ∀ q : Nat, s.heap.size ≤ q → (fun q : Nat => s.heap.size ≤ q) q := fun _ h => h
  have hbA : ¬ (fun q : Nat => s.heap.size ≤ q) b := Nat.not_le.mpr hbl
  refine lv_aload_n hx hb d_L_law_120 rfl (lv_at hl 1 rfl) ?_
  refine lw_goL (w1 := wdX a cA) (w2 := wdM b2 cA v) (fun _ => rfl) hI hA (va_runV (As := []) (rest := []) ⟨hx, hb, hml, hown, hts⟩ (c_T_clear l dC dI cA a _ _ _) (cwV 0 hts (wsA_goodV wA_283 wA_284 wA_285 wA_30 wA_286) rfl rfl rfl (by decide +kernel) ⟨Nat.le_of_ble_eq_true rfl, Nat.le_of_ble_eq_true rfl⟩) (tr_preV (w := wdX a cA) (ci := 0) (q0 := 0) (tX_left hI) rfl (wdX_o0 a cA _) rfl hN hw) rfl rfl hl.1 rfl (lv_room (Nat.le_of_ble_eq_true rfl)) d_L_law_121 ⟨Nat.le_of_ble_eq_true rfl, Nat.le_of_ble_eq_true rfl⟩) (fun r1 u1 H locs hw hI => ?_)
  refine lv_aload_n hx hb d_L_law_124 rfl (lv_at hl 2 rfl) ?_
  refine lw_goR (w1 := wdX a cA u1) (w2 := wdM b2 cA) (fun _ => rfl) hI hA (va_runV (As := []) (rest := [.int r1]) ⟨hx, hb, hml, hown, hts⟩ (c_M_clear l dC dI cA b2 _ _ _) (cwV 0 hts (wsA_goodV wA_656 wA_657 wA_658 wA_40 wA_659) rfl rfl rfl (by decide +kernel) ⟨Nat.le_of_ble_eq_true rfl, Nat.le_of_ble_eq_true rfl⟩) (tr_preV (w := wdM b2 cA) (ci := 9) (q0 := 0) (tX_right hI) rfl (wdM_o0 b2 cA _) rfl hN hw) rfl rfl hl.1 rfl (lv_room (Nat.le_of_ble_eq_true rfl)) d_L_law_125 ⟨Nat.le_of_ble_eq_true rfl, Nat.le_of_ble_eq_true rfl⟩) (fun r2 v1 H locs hw hI => ?_)
  refine lv_icmp_eq (tgt := 824) hx hb d_L_law_128 (by decide) (fun hc => ?_) (fun hc => absurd hw.1 hc)
  exact tail u1 v1 H locs ls hw.2 hI hl
set_option maxRecDepth 100000 in
set_option maxHeartbeats 4000000 in
theorem lw_case_1 {p : Program} {l : Launch} {e : Env} {s : State} {m : MethodId} {below : List Frame} {meth : Method} {c : Code} {dC : Nat → ClassId} {dI : Nat → Nat → Nat} {cA : ClassId} {a b2 : Nat → Nat} {b L : Nat} {xs : Nat → Int32} {Rel : tS → tS → Prop} (C0 : lw_At p s m meth c b L xs) (hN : tN s) (x3 : Int32) (hin : ∀ j : Int32, 0 ≤ j → j ≤ 5 → vp_in (x3 + j) L)
    (tail : ∀ (u v : tS) (H : Heap) (locs : List Loc) (ls : Array Slot), Rel u v → tX (dC, dI) twCl [(cA, .int)] (fun q => s.heap.size ≤ q) s H locs (wdX a cA u ++ wdM b2 cA v) → lv_has ls 4 [(0, .ref b), (1, .ref (a 0)), (2, .ref (b2 0)), (3, .int x3)] → W p l e room_1 s m #[Value.ref b] below meth c H locs 52 5715 (lw_Z below #[Value.ref b] s) (F0 m 824 ls []))
    (u v : tS) (H : Heap) (locs : List Loc) (ls : Array Slot) (hw : w_T_stop (fun r1 u1 => w_M_stop (fun r2 v1 => r1 = r2 ∧ Rel u1 v1) (xs (x3 + 1).toNatClampNeg) v) (xs (x3 + 1).toNatClampNeg) u) (hI : tX (dC, dI) twCl [(cA, .int)] (fun q => s.heap.size ≤ q) s H locs (wdX a cA u ++ wdM b2 cA v)) (hl : lv_has ls 4 [(0, .ref b), (1, .ref (a 0)), (2, .ref (b2 0)), (3, .int x3)]) :
    W p l e room_1 s m #[Value.ref b] below meth c H locs 52 5715 (lw_Z below #[Value.ref b] s) (F0 m 133 ls []) := by
  obtain ⟨hx, hb, hr, hml, hown0, hts0, hX, hbl, hlocks, hgv⟩ := id C0
  have hown : s.vm.findClass R_L = some m.cls := hown0
  have hts : ∀ w ∈ wsA, w.before #[Value.ref b] s = true := fun w h => hts0 w (wsA_tbl w h)
  have hA : ∀ q : Nat, s.heap.size ≤ q → (fun q : Nat => s.heap.size ≤ q) q := fun _ h => h
  have hbA : ¬ (fun q : Nat => s.heap.size ≤ q) b := Nat.not_le.mpr hbl
  refine lv_aload_n hx hb d_L_law_133 rfl (lv_at hl 1 rfl) ?_
  refine lv_aload_n hx hb d_L_law_134 rfl (lv_at hl 0 rfl) ?_
  refine lv_iload_n hx hb d_L_law_135 rfl (lv_at hl 3 rfl) ?_
  refine lv_iconst (v := 1) hx hb d_L_law_136 (by decide) ?_
  refine lv_iadd hx hb d_L_law_137 ?_
  refine va_sld hx hb hX hbl hbA hI.2.2.2 (hin 1 (by decide) (by decide)) d_L_law_138 ?_
  refine lw_goL (w1 := wdX a cA) (w2 := wdM b2 cA v) (fun _ => rfl) hI hA (va_runV (As := [.int (xs (x3 + 1).toNatClampNeg)]) (rest := []) ⟨hx, hb, hml, hown, hts⟩ (c_T_stop l dC dI cA a _ _ _ _) (cwV 1 hts (wsA_goodV wA_295 wA_296 wA_297 wA_30 wA_298) rfl rfl rfl (by decide +kernel) ⟨Nat.le_of_ble_eq_true rfl, Nat.le_of_ble_eq_true rfl⟩) (tr_preV (w := wdX a cA) (ci := 0) (q0 := 0) (tX_left hI) rfl (wdX_o0 a cA _) rfl hN hw) rfl rfl hl.1 rfl (lv_room (Nat.le_of_ble_eq_true rfl)) d_L_law_139 ⟨Nat.le_of_ble_eq_true rfl, Nat.le_of_ble_eq_true rfl⟩) (fun r1 u1 H locs hw hI => ?_)
  refine lv_aload_n hx hb d_L_law_142 rfl (lv_at hl 2 rfl) ?_
  refine lv_aload_n hx hb d_L_law_143 rfl (lv_at hl 0 rfl) ?_
  refine lv_iload_n hx hb d_L_law_144 rfl (lv_at hl 3 rfl) ?_
  refine lv_iconst (v := 1) hx hb d_L_law_145 (by decide) ?_
  refine lv_iadd hx hb d_L_law_146 ?_
  refine va_sld hx hb hX hbl hbA hI.2.2.2 (hin 1 (by decide) (by decide)) d_L_law_147 ?_
  refine lw_goR (w1 := wdX a cA u1) (w2 := wdM b2 cA) (fun _ => rfl) hI hA (va_runV (As := [.int (xs (x3 + 1).toNatClampNeg)]) (rest := [.int r1]) ⟨hx, hb, hml, hown, hts⟩ (c_M_stop l dC dI cA b2 _ _ _ _) (cwV 1 hts (wsA_goodV wA_660 wA_661 wA_662 wA_40 wA_663) rfl rfl rfl (by decide +kernel) ⟨Nat.le_of_ble_eq_true rfl, Nat.le_of_ble_eq_true rfl⟩) (tr_preV (w := wdM b2 cA) (ci := 9) (q0 := 0) (tX_right hI) rfl (wdM_o0 b2 cA _) rfl hN hw) rfl rfl hl.1 rfl (lv_room (Nat.le_of_ble_eq_true rfl)) d_L_law_148 ⟨Nat.le_of_ble_eq_true rfl, Nat.le_of_ble_eq_true rfl⟩) (fun r2 v1 H locs hw hI => ?_)
  refine lv_icmp_eq (tgt := 824) hx hb d_L_law_151 (by decide) (fun hc => ?_) (fun hc => absurd hw.1 hc)
  exact tail u1 v1 H locs ls hw.2 hI hl
set_option maxRecDepth 100000 in
set_option maxHeartbeats 4000000 in
theorem lw_case_2 {p : Program} {l : Launch} {e : Env} {s : State} {m : MethodId} {below : List Frame} {meth : Method} {c : Code} {dC : Nat → ClassId} {dI : Nat → Nat → Nat} {cA : ClassId} {a b2 : Nat → Nat} {b L : Nat} {xs : Nat → Int32} {Rel : tS → tS → Prop} (C0 : lw_At p s m meth c b L xs) (hN : tN s) (x3 : Int32) (hin : ∀ j : Int32, 0 ≤ j → j ≤ 5 → vp_in (x3 + j) L)
    (tail : ∀ (u v : tS) (H : Heap) (locs : List Loc) (ls : Array Slot), Rel u v → tX (dC, dI) twCl [(cA, .int)] (fun q => s.heap.size ≤ q) s H locs (wdX a cA u ++ wdM b2 cA v) → lv_has ls 4 [(0, .ref b), (1, .ref (a 0)), (2, .ref (b2 0)), (3, .int x3)] → W p l e room_1 s m #[Value.ref b] below meth c H locs 52 5715 (lw_Z below #[Value.ref b] s) (F0 m 824 ls []))
    (u v : tS) (H : Heap) (locs : List Loc) (ls : Array Slot) (hw : w_T_change (fun r1 u1 => w_M_change (fun r2 v1 => r1 = r2 ∧ Rel u1 v1) (xs (x3 + 1).toNatClampNeg) (xs (x3 + 2).toNatClampNeg) v) (xs (x3 + 1).toNatClampNeg) (xs (x3 + 2).toNatClampNeg) u) (hI : tX (dC, dI) twCl [(cA, .int)] (fun q => s.heap.size ≤ q) s H locs (wdX a cA u ++ wdM b2 cA v)) (hl : lv_has ls 4 [(0, .ref b), (1, .ref (a 0)), (2, .ref (b2 0)), (3, .int x3)]) :
    W p l e room_1 s m #[Value.ref b] below meth c H locs 52 5715 (lw_Z below #[Value.ref b] s) (F0 m 156 ls []) := by
  obtain ⟨hx, hb, hr, hml, hown0, hts0, hX, hbl, hlocks, hgv⟩ := id C0
  have hown : s.vm.findClass R_L = some m.cls := hown0
  have hts : ∀ w ∈ wsA, w.before #[Value.ref b] s = true := fun w h => hts0 w (wsA_tbl w h)
  have hA : ∀ q : Nat, s.heap.size ≤ q → (fun q : Nat => s.heap.size ≤ q) q := fun _ h => h
  have hbA : ¬ (fun q : Nat => s.heap.size ≤ q) b := Nat.not_le.mpr hbl
  refine lv_aload_n hx hb d_L_law_156 rfl (lv_at hl 1 rfl) ?_
  refine lv_aload_n hx hb d_L_law_157 rfl (lv_at hl 0 rfl) ?_
  refine lv_iload_n hx hb d_L_law_158 rfl (lv_at hl 3 rfl) ?_
  refine lv_iconst (v := 1) hx hb d_L_law_159 (by decide) ?_
  refine lv_iadd hx hb d_L_law_160 ?_
  refine va_sld hx hb hX hbl hbA hI.2.2.2 (hin 1 (by decide) (by decide)) d_L_law_161 ?_
  refine lv_aload_n hx hb d_L_law_162 rfl (lv_at hl 0 rfl) ?_
  refine lv_iload_n hx hb d_L_law_163 rfl (lv_at hl 3 rfl) ?_
  refine lv_iconst (v := 2) hx hb d_L_law_164 (by decide) ?_
  refine lv_iadd hx hb d_L_law_165 ?_
  refine va_sld hx hb hX hbl hbA hI.2.2.2 (hin 2 (by decide) (by decide)) d_L_law_166 ?_
  refine lw_goL (w1 := wdX a cA) (w2 := wdM b2 cA v) (fun _ => rfl) hI hA (va_runV (As := [.int (xs (x3 + 1).toNatClampNeg), .int (xs (x3 + 2).toNatClampNeg)]) (rest := []) ⟨hx, hb, hml, hown, hts⟩ (c_T_change l dC dI cA a _ _ _ _ _) (cwV 2 hts (wsA_goodV wA_302 wA_303 wA_304 wA_30 wA_305) rfl rfl rfl (by decide +kernel) ⟨Nat.le_of_ble_eq_true rfl, Nat.le_of_ble_eq_true rfl⟩) (tr_preV (w := wdX a cA) (ci := 0) (q0 := 0) (tX_left hI) rfl (wdX_o0 a cA _) rfl hN hw) rfl rfl hl.1 rfl (lv_room (Nat.le_of_ble_eq_true rfl)) d_L_law_167 ⟨Nat.le_of_ble_eq_true rfl, Nat.le_of_ble_eq_true rfl⟩) (fun r1 u1 H locs hw hI => ?_)
  refine lv_aload_n hx hb d_L_law_170 rfl (lv_at hl 2 rfl) ?_
  refine lv_aload_n hx hb d_L_law_171 rfl (lv_at hl 0 rfl) ?_
  refine lv_iload_n hx hb d_L_law_172 rfl (lv_at hl 3 rfl) ?_
  refine lv_iconst (v := 1) hx hb d_L_law_173 (by decide) ?_
  refine lv_iadd hx hb d_L_law_174 ?_
  refine va_sld hx hb hX hbl hbA hI.2.2.2 (hin 1 (by decide) (by decide)) d_L_law_175 ?_
  refine lv_aload_n hx hb d_L_law_176 rfl (lv_at hl 0 rfl) ?_
  refine lv_iload_n hx hb d_L_law_177 rfl (lv_at hl 3 rfl) ?_
  refine lv_iconst (v := 2) hx hb d_L_law_178 (by decide) ?_
  refine lv_iadd hx hb d_L_law_179 ?_
  refine va_sld hx hb hX hbl hbA hI.2.2.2 (hin 2 (by decide) (by decide)) d_L_law_180 ?_
  refine lw_goR (w1 := wdX a cA u1) (w2 := wdM b2 cA) (fun _ => rfl) hI hA (va_runV (As := [.int (xs (x3 + 1).toNatClampNeg), .int (xs (x3 + 2).toNatClampNeg)]) (rest := [.int r1]) ⟨hx, hb, hml, hown, hts⟩ (c_M_change l dC dI cA b2 _ _ _ _ _) (cwV 2 hts (wsA_goodV wA_667 wA_668 wA_669 wA_40 wA_670) rfl rfl rfl (by decide +kernel) ⟨Nat.le_of_ble_eq_true rfl, Nat.le_of_ble_eq_true rfl⟩) (tr_preV (w := wdM b2 cA) (ci := 9) (q0 := 0) (tX_right hI) rfl (wdM_o0 b2 cA _) rfl hN hw) rfl rfl hl.1 rfl (lv_room (Nat.le_of_ble_eq_true rfl)) d_L_law_181 ⟨Nat.le_of_ble_eq_true rfl, Nat.le_of_ble_eq_true rfl⟩) (fun r2 v1 H locs hw hI => ?_)
  refine lv_icmp_eq (tgt := 824) hx hb d_L_law_184 (by decide) (fun hc => ?_) (fun hc => absurd hw.1 hc)
  exact tail u1 v1 H locs ls hw.2 hI hl
set_option maxRecDepth 100000 in
set_option maxHeartbeats 4000000 in
theorem lw_case_3 {p : Program} {l : Launch} {e : Env} {s : State} {m : MethodId} {below : List Frame} {meth : Method} {c : Code} {dC : Nat → ClassId} {dI : Nat → Nat → Nat} {cA : ClassId} {a b2 : Nat → Nat} {b L : Nat} {xs : Nat → Int32} {Rel : tS → tS → Prop} (C0 : lw_At p s m meth c b L xs) (hN : tN s) (x3 : Int32) (hin : ∀ j : Int32, 0 ≤ j → j ≤ 5 → vp_in (x3 + j) L)
    (tail : ∀ (u v : tS) (H : Heap) (locs : List Loc) (ls : Array Slot), Rel u v → tX (dC, dI) twCl [(cA, .int)] (fun q => s.heap.size ≤ q) s H locs (wdX a cA u ++ wdM b2 cA v) → lv_has ls 4 [(0, .ref b), (1, .ref (a 0)), (2, .ref (b2 0)), (3, .int x3)] → W p l e room_1 s m #[Value.ref b] below meth c H locs 52 5715 (lw_Z below #[Value.ref b] s) (F0 m 824 ls []))
    (u v : tS) (H : Heap) (locs : List Loc) (ls : Array Slot) (hw : w_T_ride (fun r1 u1 => w_M_ride (fun r2 v1 => r1 = r2 ∧ Rel u1 v1) (xs (x3 + 1).toNatClampNeg) (xs (x3 + 2).toNatClampNeg) (xs (x3 + 3).toNatClampNeg) (xs (x3 + 4).toNatClampNeg) (xs (x3 + 5).toNatClampNeg) v) (xs (x3 + 1).toNatClampNeg) (xs (x3 + 2).toNatClampNeg) (xs (x3 + 3).toNatClampNeg) (xs (x3 + 4).toNatClampNeg) (xs (x3 + 5).toNatClampNeg) u) (hI : tX (dC, dI) twCl [(cA, .int)] (fun q => s.heap.size ≤ q) s H locs (wdX a cA u ++ wdM b2 cA v)) (hl : lv_has ls 4 [(0, .ref b), (1, .ref (a 0)), (2, .ref (b2 0)), (3, .int x3)]) :
    W p l e room_1 s m #[Value.ref b] below meth c H locs 52 5715 (lw_Z below #[Value.ref b] s) (F0 m 189 ls []) := by
  obtain ⟨hx, hb, hr, hml, hown0, hts0, hX, hbl, hlocks, hgv⟩ := id C0
  have hown : s.vm.findClass R_L = some m.cls := hown0
  have hts : ∀ w ∈ wsA, w.before #[Value.ref b] s = true := fun w h => hts0 w (wsA_tbl w h)
  have hA : ∀ q : Nat, s.heap.size ≤ q → (fun q : Nat => s.heap.size ≤ q) q := fun _ h => h
  have hbA : ¬ (fun q : Nat => s.heap.size ≤ q) b := Nat.not_le.mpr hbl
  refine lv_aload_n hx hb d_L_law_189 rfl (lv_at hl 1 rfl) ?_
  refine lv_aload_n hx hb d_L_law_190 rfl (lv_at hl 0 rfl) ?_
  refine lv_iload_n hx hb d_L_law_191 rfl (lv_at hl 3 rfl) ?_
  refine lv_iconst (v := 1) hx hb d_L_law_192 (by decide) ?_
  refine lv_iadd hx hb d_L_law_193 ?_
  refine va_sld hx hb hX hbl hbA hI.2.2.2 (hin 1 (by decide) (by decide)) d_L_law_194 ?_
  refine lv_aload_n hx hb d_L_law_195 rfl (lv_at hl 0 rfl) ?_
  refine lv_iload_n hx hb d_L_law_196 rfl (lv_at hl 3 rfl) ?_
  refine lv_iconst (v := 2) hx hb d_L_law_197 (by decide) ?_
  refine lv_iadd hx hb d_L_law_198 ?_
  refine va_sld hx hb hX hbl hbA hI.2.2.2 (hin 2 (by decide) (by decide)) d_L_law_199 ?_
  refine lv_aload_n hx hb d_L_law_200 rfl (lv_at hl 0 rfl) ?_
  refine lv_iload_n hx hb d_L_law_201 rfl (lv_at hl 3 rfl) ?_
  refine lv_iconst (v := 3) hx hb d_L_law_202 (by decide) ?_
  refine lv_iadd hx hb d_L_law_203 ?_
  refine va_sld hx hb hX hbl hbA hI.2.2.2 (hin 3 (by decide) (by decide)) d_L_law_204 ?_
  refine lv_aload_n hx hb d_L_law_205 rfl (lv_at hl 0 rfl) ?_
  refine lv_iload_n hx hb d_L_law_206 rfl (lv_at hl 3 rfl) ?_
  refine lv_iconst (v := 4) hx hb d_L_law_207 (by decide) ?_
  refine lv_iadd hx hb d_L_law_208 ?_
  refine va_sld hx hb hX hbl hbA hI.2.2.2 (hin 4 (by decide) (by decide)) d_L_law_209 ?_
  refine lv_aload_n hx hb d_L_law_210 rfl (lv_at hl 0 rfl) ?_
  refine lv_iload_n hx hb d_L_law_211 rfl (lv_at hl 3 rfl) ?_
  refine lv_iconst (v := 5) hx hb d_L_law_212 (by decide) ?_
  refine lv_iadd hx hb d_L_law_213 ?_
  refine va_sld hx hb hX hbl hbA hI.2.2.2 (hin 5 (by decide) (by decide)) d_L_law_214 ?_
  refine lw_goL (w1 := wdX a cA) (w2 := wdM b2 cA v) (fun _ => rfl) hI hA (va_runV (As := [.int (xs (x3 + 1).toNatClampNeg), .int (xs (x3 + 2).toNatClampNeg), .int (xs (x3 + 3).toNatClampNeg), .int (xs (x3 + 4).toNatClampNeg), .int (xs (x3 + 5).toNatClampNeg)]) (rest := []) ⟨hx, hb, hml, hown, hts⟩ (c_T_ride l dC dI cA a _ _ _ _ _ _ _ _) (cwV 5 hts (wsA_goodV wA_311 wA_312 wA_313 wA_30 wA_314) rfl rfl rfl (by decide +kernel) ⟨Nat.le_of_ble_eq_true rfl, Nat.le_of_ble_eq_true rfl⟩) (tr_preV (w := wdX a cA) (ci := 0) (q0 := 0) (tX_left hI) rfl (wdX_o0 a cA _) rfl hN hw) rfl rfl hl.1 rfl (lv_room (Nat.le_of_ble_eq_true rfl)) d_L_law_215 ⟨Nat.le_of_ble_eq_true rfl, Nat.le_of_ble_eq_true rfl⟩) (fun r1 u1 H locs hw hI => ?_)
  refine lv_aload_n hx hb d_L_law_218 rfl (lv_at hl 2 rfl) ?_
  refine lv_aload_n hx hb d_L_law_219 rfl (lv_at hl 0 rfl) ?_
  refine lv_iload_n hx hb d_L_law_220 rfl (lv_at hl 3 rfl) ?_
  refine lv_iconst (v := 1) hx hb d_L_law_221 (by decide) ?_
  refine lv_iadd hx hb d_L_law_222 ?_
  refine va_sld hx hb hX hbl hbA hI.2.2.2 (hin 1 (by decide) (by decide)) d_L_law_223 ?_
  refine lv_aload_n hx hb d_L_law_224 rfl (lv_at hl 0 rfl) ?_
  refine lv_iload_n hx hb d_L_law_225 rfl (lv_at hl 3 rfl) ?_
  refine lv_iconst (v := 2) hx hb d_L_law_226 (by decide) ?_
  refine lv_iadd hx hb d_L_law_227 ?_
  refine va_sld hx hb hX hbl hbA hI.2.2.2 (hin 2 (by decide) (by decide)) d_L_law_228 ?_
  refine lv_aload_n hx hb d_L_law_229 rfl (lv_at hl 0 rfl) ?_
  refine lv_iload_n hx hb d_L_law_230 rfl (lv_at hl 3 rfl) ?_
  refine lv_iconst (v := 3) hx hb d_L_law_231 (by decide) ?_
  refine lv_iadd hx hb d_L_law_232 ?_
  refine va_sld hx hb hX hbl hbA hI.2.2.2 (hin 3 (by decide) (by decide)) d_L_law_233 ?_
  refine lv_aload_n hx hb d_L_law_234 rfl (lv_at hl 0 rfl) ?_
  refine lv_iload_n hx hb d_L_law_235 rfl (lv_at hl 3 rfl) ?_
  refine lv_iconst (v := 4) hx hb d_L_law_236 (by decide) ?_
  refine lv_iadd hx hb d_L_law_237 ?_
  refine va_sld hx hb hX hbl hbA hI.2.2.2 (hin 4 (by decide) (by decide)) d_L_law_238 ?_
  refine lv_aload_n hx hb d_L_law_239 rfl (lv_at hl 0 rfl) ?_
  refine lv_iload_n hx hb d_L_law_240 rfl (lv_at hl 3 rfl) ?_
  refine lv_iconst (v := 5) hx hb d_L_law_241 (by decide) ?_
  refine lv_iadd hx hb d_L_law_242 ?_
  refine va_sld hx hb hX hbl hbA hI.2.2.2 (hin 5 (by decide) (by decide)) d_L_law_243 ?_
  refine lw_goR (w1 := wdX a cA u1) (w2 := wdM b2 cA) (fun _ => rfl) hI hA (va_runV (As := [.int (xs (x3 + 1).toNatClampNeg), .int (xs (x3 + 2).toNatClampNeg), .int (xs (x3 + 3).toNatClampNeg), .int (xs (x3 + 4).toNatClampNeg), .int (xs (x3 + 5).toNatClampNeg)]) (rest := [.int r1]) ⟨hx, hb, hml, hown, hts⟩ (c_M_ride l dC dI cA b2 _ _ _ _ _ _ _ _) (cwV 5 hts (wsA_goodV wA_675 wA_676 wA_677 wA_40 wA_678) rfl rfl rfl (by decide +kernel) ⟨Nat.le_of_ble_eq_true rfl, Nat.le_of_ble_eq_true rfl⟩) (tr_preV (w := wdM b2 cA) (ci := 9) (q0 := 0) (tX_right hI) rfl (wdM_o0 b2 cA _) rfl hN hw) rfl rfl hl.1 rfl (lv_room (Nat.le_of_ble_eq_true rfl)) d_L_law_244 ⟨Nat.le_of_ble_eq_true rfl, Nat.le_of_ble_eq_true rfl⟩) (fun r2 v1 H locs hw hI => ?_)
  refine lv_icmp_eq (tgt := 824) hx hb d_L_law_247 (by decide) (fun hc => ?_) (fun hc => absurd hw.1 hc)
  exact tail u1 v1 H locs ls hw.2 hI hl
set_option maxRecDepth 100000 in
set_option maxHeartbeats 4000000 in
theorem lw_case_4 {p : Program} {l : Launch} {e : Env} {s : State} {m : MethodId} {below : List Frame} {meth : Method} {c : Code} {dC : Nat → ClassId} {dI : Nat → Nat → Nat} {cA : ClassId} {a b2 : Nat → Nat} {b L : Nat} {xs : Nat → Int32} {Rel : tS → tS → Prop} (C0 : lw_At p s m meth c b L xs) (hN : tN s) (x3 : Int32) (hin : ∀ j : Int32, 0 ≤ j → j ≤ 5 → vp_in (x3 + j) L)
    (tail : ∀ (u v : tS) (H : Heap) (locs : List Loc) (ls : Array Slot), Rel u v → tX (dC, dI) twCl [(cA, .int)] (fun q => s.heap.size ≤ q) s H locs (wdX a cA u ++ wdM b2 cA v) → lv_has ls 4 [(0, .ref b), (1, .ref (a 0)), (2, .ref (b2 0)), (3, .int x3)] → W p l e room_1 s m #[Value.ref b] below meth c H locs 52 5715 (lw_Z below #[Value.ref b] s) (F0 m 824 ls []))
    (u v : tS) (H : Heap) (locs : List Loc) (ls : Array Slot) (hw : w_T_walk (fun r1 u1 => w_M_walk (fun r2 v1 => r1 = r2 ∧ Rel u1 v1) (xs (x3 + 1).toNatClampNeg) (xs (x3 + 2).toNatClampNeg) (xs (x3 + 3).toNatClampNeg) v) (xs (x3 + 1).toNatClampNeg) (xs (x3 + 2).toNatClampNeg) (xs (x3 + 3).toNatClampNeg) u) (hI : tX (dC, dI) twCl [(cA, .int)] (fun q => s.heap.size ≤ q) s H locs (wdX a cA u ++ wdM b2 cA v)) (hl : lv_has ls 4 [(0, .ref b), (1, .ref (a 0)), (2, .ref (b2 0)), (3, .int x3)]) :
    W p l e room_1 s m #[Value.ref b] below meth c H locs 52 5715 (lw_Z below #[Value.ref b] s) (F0 m 252 ls []) := by
  obtain ⟨hx, hb, hr, hml, hown0, hts0, hX, hbl, hlocks, hgv⟩ := id C0
  have hown : s.vm.findClass R_L = some m.cls := hown0
  have hts : ∀ w ∈ wsA, w.before #[Value.ref b] s = true := fun w h => hts0 w (wsA_tbl w h)
  have hA : ∀ q : Nat, s.heap.size ≤ q → (fun q : Nat => s.heap.size ≤ q) q := fun _ h => h
  have hbA : ¬ (fun q : Nat => s.heap.size ≤ q) b := Nat.not_le.mpr hbl
  refine lv_aload_n hx hb d_L_law_252 rfl (lv_at hl 1 rfl) ?_
  refine lv_aload_n hx hb d_L_law_253 rfl (lv_at hl 0 rfl) ?_
  refine lv_iload_n hx hb d_L_law_254 rfl (lv_at hl 3 rfl) ?_
  refine lv_iconst (v := 1) hx hb d_L_law_255 (by decide) ?_
  refine lv_iadd hx hb d_L_law_256 ?_
  refine va_sld hx hb hX hbl hbA hI.2.2.2 (hin 1 (by decide) (by decide)) d_L_law_257 ?_
  refine lv_aload_n hx hb d_L_law_258 rfl (lv_at hl 0 rfl) ?_
  refine lv_iload_n hx hb d_L_law_259 rfl (lv_at hl 3 rfl) ?_
  refine lv_iconst (v := 2) hx hb d_L_law_260 (by decide) ?_
  refine lv_iadd hx hb d_L_law_261 ?_
  refine va_sld hx hb hX hbl hbA hI.2.2.2 (hin 2 (by decide) (by decide)) d_L_law_262 ?_
  refine lv_aload_n hx hb d_L_law_263 rfl (lv_at hl 0 rfl) ?_
  refine lv_iload_n hx hb d_L_law_264 rfl (lv_at hl 3 rfl) ?_
  refine lv_iconst (v := 3) hx hb d_L_law_265 (by decide) ?_
  refine lv_iadd hx hb d_L_law_266 ?_
  refine va_sld hx hb hX hbl hbA hI.2.2.2 (hin 3 (by decide) (by decide)) d_L_law_267 ?_
  refine lw_goL (w1 := wdX a cA) (w2 := wdM b2 cA v) (fun _ => rfl) hI hA (va_runV (As := [.int (xs (x3 + 1).toNatClampNeg), .int (xs (x3 + 2).toNatClampNeg), .int (xs (x3 + 3).toNatClampNeg)]) (rest := []) ⟨hx, hb, hml, hown, hts⟩ (c_T_walk l dC dI cA a _ _ _ _ _ _) (cwV 3 hts (wsA_goodV wA_348 wA_349 wA_350 wA_30 wA_351) rfl rfl rfl (by decide +kernel) ⟨Nat.le_of_ble_eq_true rfl, Nat.le_of_ble_eq_true rfl⟩) (tr_preV (w := wdX a cA) (ci := 0) (q0 := 0) (tX_left hI) rfl (wdX_o0 a cA _) rfl hN hw) rfl rfl hl.1 rfl (lv_room (Nat.le_of_ble_eq_true rfl)) d_L_law_268 ⟨Nat.le_of_ble_eq_true rfl, Nat.le_of_ble_eq_true rfl⟩) (fun r1 u1 H locs hw hI => ?_)
  refine lv_aload_n hx hb d_L_law_271 rfl (lv_at hl 2 rfl) ?_
  refine lv_aload_n hx hb d_L_law_272 rfl (lv_at hl 0 rfl) ?_
  refine lv_iload_n hx hb d_L_law_273 rfl (lv_at hl 3 rfl) ?_
  refine lv_iconst (v := 1) hx hb d_L_law_274 (by decide) ?_
  refine lv_iadd hx hb d_L_law_275 ?_
  refine va_sld hx hb hX hbl hbA hI.2.2.2 (hin 1 (by decide) (by decide)) d_L_law_276 ?_
  refine lv_aload_n hx hb d_L_law_277 rfl (lv_at hl 0 rfl) ?_
  refine lv_iload_n hx hb d_L_law_278 rfl (lv_at hl 3 rfl) ?_
  refine lv_iconst (v := 2) hx hb d_L_law_279 (by decide) ?_
  refine lv_iadd hx hb d_L_law_280 ?_
  refine va_sld hx hb hX hbl hbA hI.2.2.2 (hin 2 (by decide) (by decide)) d_L_law_281 ?_
  refine lv_aload_n hx hb d_L_law_282 rfl (lv_at hl 0 rfl) ?_
  refine lv_iload_n hx hb d_L_law_283 rfl (lv_at hl 3 rfl) ?_
  refine lv_iconst (v := 3) hx hb d_L_law_284 (by decide) ?_
  refine lv_iadd hx hb d_L_law_285 ?_
  refine va_sld hx hb hX hbl hbA hI.2.2.2 (hin 3 (by decide) (by decide)) d_L_law_286 ?_
  refine lw_goR (w1 := wdX a cA u1) (w2 := wdM b2 cA) (fun _ => rfl) hI hA (va_runV (As := [.int (xs (x3 + 1).toNatClampNeg), .int (xs (x3 + 2).toNatClampNeg), .int (xs (x3 + 3).toNatClampNeg)]) (rest := [.int r1]) ⟨hx, hb, hml, hown, hts⟩ (c_M_walk l dC dI cA b2 _ _ _ _ _ _) (cwV 3 hts (wsA_goodV wA_683 wA_684 wA_685 wA_40 wA_686) rfl rfl rfl (by decide +kernel) ⟨Nat.le_of_ble_eq_true rfl, Nat.le_of_ble_eq_true rfl⟩) (tr_preV (w := wdM b2 cA) (ci := 9) (q0 := 0) (tX_right hI) rfl (wdM_o0 b2 cA _) rfl hN hw) rfl rfl hl.1 rfl (lv_room (Nat.le_of_ble_eq_true rfl)) d_L_law_287 ⟨Nat.le_of_ble_eq_true rfl, Nat.le_of_ble_eq_true rfl⟩) (fun r2 v1 H locs hw hI => ?_)
  refine lv_icmp_eq (tgt := 824) hx hb d_L_law_290 (by decide) (fun hc => ?_) (fun hc => absurd hw.1 hc)
  exact tail u1 v1 H locs ls hw.2 hI hl
set_option maxRecDepth 100000 in
set_option maxHeartbeats 4000000 in
theorem lw_case_5 {p : Program} {l : Launch} {e : Env} {s : State} {m : MethodId} {below : List Frame} {meth : Method} {c : Code} {dC : Nat → ClassId} {dI : Nat → Nat → Nat} {cA : ClassId} {a b2 : Nat → Nat} {b L : Nat} {xs : Nat → Int32} {Rel : tS → tS → Prop} (C0 : lw_At p s m meth c b L xs) (hN : tN s) (x3 : Int32) (hin : ∀ j : Int32, 0 ≤ j → j ≤ 5 → vp_in (x3 + j) L)
    (tail : ∀ (u v : tS) (H : Heap) (locs : List Loc) (ls : Array Slot), Rel u v → tX (dC, dI) twCl [(cA, .int)] (fun q => s.heap.size ≤ q) s H locs (wdX a cA u ++ wdM b2 cA v) → lv_has ls 4 [(0, .ref b), (1, .ref (a 0)), (2, .ref (b2 0)), (3, .int x3)] → W p l e room_1 s m #[Value.ref b] below meth c H locs 52 5715 (lw_Z below #[Value.ref b] s) (F0 m 824 ls []))
    (u v : tS) (H : Heap) (locs : List Loc) (ls : Array Slot) (hw : w_T_late (fun r1 u1 => w_M_late (fun r2 v1 => r1 = r2 ∧ Rel u1 v1) (xs (x3 + 1).toNatClampNeg) (xs (x3 + 2).toNatClampNeg) (xs (x3 + 3).toNatClampNeg) v) (xs (x3 + 1).toNatClampNeg) (xs (x3 + 2).toNatClampNeg) (xs (x3 + 3).toNatClampNeg) u) (hI : tX (dC, dI) twCl [(cA, .int)] (fun q => s.heap.size ≤ q) s H locs (wdX a cA u ++ wdM b2 cA v)) (hl : lv_has ls 4 [(0, .ref b), (1, .ref (a 0)), (2, .ref (b2 0)), (3, .int x3)]) :
    W p l e room_1 s m #[Value.ref b] below meth c H locs 52 5715 (lw_Z below #[Value.ref b] s) (F0 m 295 ls []) := by
  obtain ⟨hx, hb, hr, hml, hown0, hts0, hX, hbl, hlocks, hgv⟩ := id C0
  have hown : s.vm.findClass R_L = some m.cls := hown0
  have hts : ∀ w ∈ wsA, w.before #[Value.ref b] s = true := fun w h => hts0 w (wsA_tbl w h)
  have hA : ∀ q : Nat, s.heap.size ≤ q → (fun q : Nat => s.heap.size ≤ q) q := fun _ h => h
  have hbA : ¬ (fun q : Nat => s.heap.size ≤ q) b := Nat.not_le.mpr hbl
  refine lv_aload_n hx hb d_L_law_295 rfl (lv_at hl 1 rfl) ?_
  refine lv_aload_n hx hb d_L_law_296 rfl (lv_at hl 0 rfl) ?_
  refine lv_iload_n hx hb d_L_law_297 rfl (lv_at hl 3 rfl) ?_
  refine lv_iconst (v := 1) hx hb d_L_law_298 (by decide) ?_
  refine lv_iadd hx hb d_L_law_299 ?_
  refine va_sld hx hb hX hbl hbA hI.2.2.2 (hin 1 (by decide) (by decide)) d_L_law_300 ?_
  refine lv_aload_n hx hb d_L_law_301 rfl (lv_at hl 0 rfl) ?_
  refine lv_iload_n hx hb d_L_law_302 rfl (lv_at hl 3 rfl) ?_
  refine lv_iconst (v := 2) hx hb d_L_law_303 (by decide) ?_
  refine lv_iadd hx hb d_L_law_304 ?_
  refine va_sld hx hb hX hbl hbA hI.2.2.2 (hin 2 (by decide) (by decide)) d_L_law_305 ?_
  refine lv_aload_n hx hb d_L_law_306 rfl (lv_at hl 0 rfl) ?_
  refine lv_iload_n hx hb d_L_law_307 rfl (lv_at hl 3 rfl) ?_
  refine lv_iconst (v := 3) hx hb d_L_law_308 (by decide) ?_
  refine lv_iadd hx hb d_L_law_309 ?_
  refine va_sld hx hb hX hbl hbA hI.2.2.2 (hin 3 (by decide) (by decide)) d_L_law_310 ?_
  refine lw_goL (w1 := wdX a cA) (w2 := wdM b2 cA v) (fun _ => rfl) hI hA (va_runV (As := [.int (xs (x3 + 1).toNatClampNeg), .int (xs (x3 + 2).toNatClampNeg), .int (xs (x3 + 3).toNatClampNeg)]) (rest := []) ⟨hx, hb, hml, hown, hts⟩ (c_T_late l dC dI cA a _ _ _ _ _ _) (cwV 3 hts (wsA_goodV wA_371 wA_372 wA_373 wA_30 wA_374) rfl rfl rfl (by decide +kernel) ⟨Nat.le_of_ble_eq_true rfl, Nat.le_of_ble_eq_true rfl⟩) (tr_preV (w := wdX a cA) (ci := 0) (q0 := 0) (tX_left hI) rfl (wdX_o0 a cA _) rfl hN hw) rfl rfl hl.1 rfl (lv_room (Nat.le_of_ble_eq_true rfl)) d_L_law_311 ⟨Nat.le_of_ble_eq_true rfl, Nat.le_of_ble_eq_true rfl⟩) (fun r1 u1 H locs hw hI => ?_)
  refine lv_aload_n hx hb d_L_law_314 rfl (lv_at hl 2 rfl) ?_
  refine lv_aload_n hx hb d_L_law_315 rfl (lv_at hl 0 rfl) ?_
  refine lv_iload_n hx hb d_L_law_316 rfl (lv_at hl 3 rfl) ?_
  refine lv_iconst (v := 1) hx hb d_L_law_317 (by decide) ?_
  refine lv_iadd hx hb d_L_law_318 ?_
  refine va_sld hx hb hX hbl hbA hI.2.2.2 (hin 1 (by decide) (by decide)) d_L_law_319 ?_
  refine lv_aload_n hx hb d_L_law_320 rfl (lv_at hl 0 rfl) ?_
  refine lv_iload_n hx hb d_L_law_321 rfl (lv_at hl 3 rfl) ?_
  refine lv_iconst (v := 2) hx hb d_L_law_322 (by decide) ?_
  refine lv_iadd hx hb d_L_law_323 ?_
  refine va_sld hx hb hX hbl hbA hI.2.2.2 (hin 2 (by decide) (by decide)) d_L_law_324 ?_
  refine lv_aload_n hx hb d_L_law_325 rfl (lv_at hl 0 rfl) ?_
  refine lv_iload_n hx hb d_L_law_326 rfl (lv_at hl 3 rfl) ?_
  refine lv_iconst (v := 3) hx hb d_L_law_327 (by decide) ?_
  refine lv_iadd hx hb d_L_law_328 ?_
  refine va_sld hx hb hX hbl hbA hI.2.2.2 (hin 3 (by decide) (by decide)) d_L_law_329 ?_
  refine lw_goR (w1 := wdX a cA u1) (w2 := wdM b2 cA) (fun _ => rfl) hI hA (va_runV (As := [.int (xs (x3 + 1).toNatClampNeg), .int (xs (x3 + 2).toNatClampNeg), .int (xs (x3 + 3).toNatClampNeg)]) (rest := [.int r1]) ⟨hx, hb, hml, hown, hts⟩ (c_M_late l dC dI cA b2 _ _ _ _ _ _) (cwV 3 hts (wsA_goodV wA_687 wA_688 wA_689 wA_40 wA_690) rfl rfl rfl (by decide +kernel) ⟨Nat.le_of_ble_eq_true rfl, Nat.le_of_ble_eq_true rfl⟩) (tr_preV (w := wdM b2 cA) (ci := 9) (q0 := 0) (tX_right hI) rfl (wdM_o0 b2 cA _) rfl hN hw) rfl rfl hl.1 rfl (lv_room (Nat.le_of_ble_eq_true rfl)) d_L_law_330 ⟨Nat.le_of_ble_eq_true rfl, Nat.le_of_ble_eq_true rfl⟩) (fun r2 v1 H locs hw hI => ?_)
  refine lv_icmp_eq (tgt := 824) hx hb d_L_law_333 (by decide) (fun hc => ?_) (fun hc => absurd hw.1 hc)
  exact tail u1 v1 H locs ls hw.2 hI hl
set_option maxRecDepth 100000 in
set_option maxHeartbeats 4000000 in
theorem lw_case_6 {p : Program} {l : Launch} {e : Env} {s : State} {m : MethodId} {below : List Frame} {meth : Method} {c : Code} {dC : Nat → ClassId} {dI : Nat → Nat → Nat} {cA : ClassId} {a b2 : Nat → Nat} {b L : Nat} {xs : Nat → Int32} {Rel : tS → tS → Prop} (C0 : lw_At p s m meth c b L xs) (hN : tN s) (x3 : Int32) (hin : ∀ j : Int32, 0 ≤ j → j ≤ 5 → vp_in (x3 + j) L)
    (tail : ∀ (u v : tS) (H : Heap) (locs : List Loc) (ls : Array Slot), Rel u v → tX (dC, dI) twCl [(cA, .int)] (fun q => s.heap.size ≤ q) s H locs (wdX a cA u ++ wdM b2 cA v) → lv_has ls 4 [(0, .ref b), (1, .ref (a 0)), (2, .ref (b2 0)), (3, .int x3)] → W p l e room_1 s m #[Value.ref b] below meth c H locs 52 5715 (lw_Z below #[Value.ref b] s) (F0 m 824 ls []))
    (u v : tS) (H : Heap) (locs : List Loc) (ls : Array Slot) (hw : w_T_earliest (fun r1 u1 => w_M_earliest (fun r2 v1 => r1 = r2 ∧ Rel u1 v1) (xs (x3 + 1).toNatClampNeg) (xs (x3 + 2).toNatClampNeg) (xs (x3 + 3).toNatClampNeg) v) (xs (x3 + 1).toNatClampNeg) (xs (x3 + 2).toNatClampNeg) (xs (x3 + 3).toNatClampNeg) u) (hI : tX (dC, dI) twCl [(cA, .int)] (fun q => s.heap.size ≤ q) s H locs (wdX a cA u ++ wdM b2 cA v)) (hl : lv_has ls 4 [(0, .ref b), (1, .ref (a 0)), (2, .ref (b2 0)), (3, .int x3)]) :
    W p l e room_1 s m #[Value.ref b] below meth c H locs 52 5715 (lw_Z below #[Value.ref b] s) (F0 m 338 ls []) := by
  obtain ⟨hx, hb, hr, hml, hown0, hts0, hX, hbl, hlocks, hgv⟩ := id C0
  have hown : s.vm.findClass R_L = some m.cls := hown0
  have hts : ∀ w ∈ wsA, w.before #[Value.ref b] s = true := fun w h => hts0 w (wsA_tbl w h)
  have hA : ∀ q : Nat, s.heap.size ≤ q → (fun q : Nat => s.heap.size ≤ q) q := fun _ h => h
  have hbA : ¬ (fun q : Nat => s.heap.size ≤ q) b := Nat.not_le.mpr hbl
  refine lv_aload_n hx hb d_L_law_338 rfl (lv_at hl 1 rfl) ?_
  refine lv_aload_n hx hb d_L_law_339 rfl (lv_at hl 0 rfl) ?_
  refine lv_iload_n hx hb d_L_law_340 rfl (lv_at hl 3 rfl) ?_
  refine lv_iconst (v := 1) hx hb d_L_law_341 (by decide) ?_
  refine lv_iadd hx hb d_L_law_342 ?_
  refine va_sld hx hb hX hbl hbA hI.2.2.2 (hin 1 (by decide) (by decide)) d_L_law_343 ?_
  refine lv_aload_n hx hb d_L_law_344 rfl (lv_at hl 0 rfl) ?_
  refine lv_iload_n hx hb d_L_law_345 rfl (lv_at hl 3 rfl) ?_
  refine lv_iconst (v := 2) hx hb d_L_law_346 (by decide) ?_
  refine lv_iadd hx hb d_L_law_347 ?_
  refine va_sld hx hb hX hbl hbA hI.2.2.2 (hin 2 (by decide) (by decide)) d_L_law_348 ?_
  refine lv_aload_n hx hb d_L_law_349 rfl (lv_at hl 0 rfl) ?_
  refine lv_iload_n hx hb d_L_law_350 rfl (lv_at hl 3 rfl) ?_
  refine lv_iconst (v := 3) hx hb d_L_law_351 (by decide) ?_
  refine lv_iadd hx hb d_L_law_352 ?_
  refine va_sld hx hb hX hbl hbA hI.2.2.2 (hin 3 (by decide) (by decide)) d_L_law_353 ?_
  refine lw_goL (w1 := wdX a cA) (w2 := wdM b2 cA v) (fun _ => rfl) hI hA (va_runV (As := [.int (xs (x3 + 1).toNatClampNeg), .int (xs (x3 + 2).toNatClampNeg), .int (xs (x3 + 3).toNatClampNeg)]) (rest := []) ⟨hx, hb, hml, hown, hts⟩ (c_T_earliest l dC dI cA a _ _ _ _ _ _) (cwV 3 hts (wsA_goodV wA_386 wA_387 wA_388 wA_30 wA_389) rfl rfl rfl (by decide +kernel) ⟨Nat.le_of_ble_eq_true rfl, Nat.le_of_ble_eq_true rfl⟩) (tr_preV (w := wdX a cA) (ci := 0) (q0 := 0) (tX_left hI) rfl (wdX_o0 a cA _) rfl hN hw) rfl rfl hl.1 rfl (lv_room (Nat.le_of_ble_eq_true rfl)) d_L_law_354 ⟨Nat.le_of_ble_eq_true rfl, Nat.le_of_ble_eq_true rfl⟩) (fun r1 u1 H locs hw hI => ?_)
  refine lv_aload_n hx hb d_L_law_357 rfl (lv_at hl 2 rfl) ?_
  refine lv_aload_n hx hb d_L_law_358 rfl (lv_at hl 0 rfl) ?_
  refine lv_iload_n hx hb d_L_law_359 rfl (lv_at hl 3 rfl) ?_
  refine lv_iconst (v := 1) hx hb d_L_law_360 (by decide) ?_
  refine lv_iadd hx hb d_L_law_361 ?_
  refine va_sld hx hb hX hbl hbA hI.2.2.2 (hin 1 (by decide) (by decide)) d_L_law_362 ?_
  refine lv_aload_n hx hb d_L_law_363 rfl (lv_at hl 0 rfl) ?_
  refine lv_iload_n hx hb d_L_law_364 rfl (lv_at hl 3 rfl) ?_
  refine lv_iconst (v := 2) hx hb d_L_law_365 (by decide) ?_
  refine lv_iadd hx hb d_L_law_366 ?_
  refine va_sld hx hb hX hbl hbA hI.2.2.2 (hin 2 (by decide) (by decide)) d_L_law_367 ?_
  refine lv_aload_n hx hb d_L_law_368 rfl (lv_at hl 0 rfl) ?_
  refine lv_iload_n hx hb d_L_law_369 rfl (lv_at hl 3 rfl) ?_
  refine lv_iconst (v := 3) hx hb d_L_law_370 (by decide) ?_
  refine lv_iadd hx hb d_L_law_371 ?_
  refine va_sld hx hb hX hbl hbA hI.2.2.2 (hin 3 (by decide) (by decide)) d_L_law_372 ?_
  refine lw_goR (w1 := wdX a cA u1) (w2 := wdM b2 cA) (fun _ => rfl) hI hA (va_runV (As := [.int (xs (x3 + 1).toNatClampNeg), .int (xs (x3 + 2).toNatClampNeg), .int (xs (x3 + 3).toNatClampNeg)]) (rest := [.int r1]) ⟨hx, hb, hml, hown, hts⟩ (c_M_earliest l dC dI cA b2 _ _ _ _ _ _) (cwV 3 hts (wsA_goodV wA_699 wA_700 wA_701 wA_40 wA_702) rfl rfl rfl (by decide +kernel) ⟨Nat.le_of_ble_eq_true rfl, Nat.le_of_ble_eq_true rfl⟩) (tr_preV (w := wdM b2 cA) (ci := 9) (q0 := 0) (tX_right hI) rfl (wdM_o0 b2 cA _) rfl hN hw) rfl rfl hl.1 rfl (lv_room (Nat.le_of_ble_eq_true rfl)) d_L_law_373 ⟨Nat.le_of_ble_eq_true rfl, Nat.le_of_ble_eq_true rfl⟩) (fun r2 v1 H locs hw hI => ?_)
  refine lv_icmp_eq (tgt := 824) hx hb d_L_law_376 (by decide) (fun hc => ?_) (fun hc => absurd hw.1 hc)
  exact tail u1 v1 H locs ls hw.2 hI hl
set_option maxRecDepth 100000 in
set_option maxHeartbeats 4000000 in
theorem lw_case_7 {p : Program} {l : Launch} {e : Env} {s : State} {m : MethodId} {below : List Frame} {meth : Method} {c : Code} {dC : Nat → ClassId} {dI : Nat → Nat → Nat} {cA : ClassId} {a b2 : Nat → Nat} {b L : Nat} {xs : Nat → Int32} {Rel : tS → tS → Prop} (C0 : lw_At p s m meth c b L xs) (hN : tN s) (x3 : Int32) (hin : ∀ j : Int32, 0 ≤ j → j ≤ 5 → vp_in (x3 + j) L)
    (tail : ∀ (u v : tS) (H : Heap) (locs : List Loc) (ls : Array Slot), Rel u v → tX (dC, dI) twCl [(cA, .int)] (fun q => s.heap.size ≤ q) s H locs (wdX a cA u ++ wdM b2 cA v) → lv_has ls 4 [(0, .ref b), (1, .ref (a 0)), (2, .ref (b2 0)), (3, .int x3)] → W p l e room_1 s m #[Value.ref b] below meth c H locs 52 5715 (lw_Z below #[Value.ref b] s) (F0 m 824 ls []))
    (u v : tS) (H : Heap) (locs : List Loc) (ls : Array Slot) (hw : w_T_latest (fun r1 u1 => w_M_latest (fun r2 v1 => r1 = r2 ∧ Rel u1 v1) (xs (x3 + 1).toNatClampNeg) (xs (x3 + 2).toNatClampNeg) (xs (x3 + 3).toNatClampNeg) v) (xs (x3 + 1).toNatClampNeg) (xs (x3 + 2).toNatClampNeg) (xs (x3 + 3).toNatClampNeg) u) (hI : tX (dC, dI) twCl [(cA, .int)] (fun q => s.heap.size ≤ q) s H locs (wdX a cA u ++ wdM b2 cA v)) (hl : lv_has ls 4 [(0, .ref b), (1, .ref (a 0)), (2, .ref (b2 0)), (3, .int x3)]) :
    W p l e room_1 s m #[Value.ref b] below meth c H locs 52 5715 (lw_Z below #[Value.ref b] s) (F0 m 381 ls []) := by
  obtain ⟨hx, hb, hr, hml, hown0, hts0, hX, hbl, hlocks, hgv⟩ := id C0
  have hown : s.vm.findClass R_L = some m.cls := hown0
  have hts : ∀ w ∈ wsA, w.before #[Value.ref b] s = true := fun w h => hts0 w (wsA_tbl w h)
  have hA : ∀ q : Nat, s.heap.size ≤ q → (fun q : Nat => s.heap.size ≤ q) q := fun _ h => h
  have hbA : ¬ (fun q : Nat => s.heap.size ≤ q) b := Nat.not_le.mpr hbl
  refine lv_aload_n hx hb d_L_law_381 rfl (lv_at hl 1 rfl) ?_
  refine lv_aload_n hx hb d_L_law_382 rfl (lv_at hl 0 rfl) ?_
  refine lv_iload_n hx hb d_L_law_383 rfl (lv_at hl 3 rfl) ?_
  refine lv_iconst (v := 1) hx hb d_L_law_384 (by decide) ?_
  refine lv_iadd hx hb d_L_law_385 ?_
  refine va_sld hx hb hX hbl hbA hI.2.2.2 (hin 1 (by decide) (by decide)) d_L_law_386 ?_
  refine lv_aload_n hx hb d_L_law_387 rfl (lv_at hl 0 rfl) ?_
  refine lv_iload_n hx hb d_L_law_388 rfl (lv_at hl 3 rfl) ?_
  refine lv_iconst (v := 2) hx hb d_L_law_389 (by decide) ?_
  refine lv_iadd hx hb d_L_law_390 ?_
  refine va_sld hx hb hX hbl hbA hI.2.2.2 (hin 2 (by decide) (by decide)) d_L_law_391 ?_
  refine lv_aload_n hx hb d_L_law_392 rfl (lv_at hl 0 rfl) ?_
  refine lv_iload_n hx hb d_L_law_393 rfl (lv_at hl 3 rfl) ?_
  refine lv_iconst (v := 3) hx hb d_L_law_394 (by decide) ?_
  refine lv_iadd hx hb d_L_law_395 ?_
  refine va_sld hx hb hX hbl hbA hI.2.2.2 (hin 3 (by decide) (by decide)) d_L_law_396 ?_
  refine lw_goL (w1 := wdX a cA) (w2 := wdM b2 cA v) (fun _ => rfl) hI hA (va_runV (As := [.int (xs (x3 + 1).toNatClampNeg), .int (xs (x3 + 2).toNatClampNeg), .int (xs (x3 + 3).toNatClampNeg)]) (rest := []) ⟨hx, hb, hml, hown, hts⟩ (c_T_latest l dC dI cA a _ _ _ _ _ _) (cwV 3 hts (wsA_goodV wA_429 wA_430 wA_431 wA_30 wA_432) rfl rfl rfl (by decide +kernel) ⟨Nat.le_of_ble_eq_true rfl, Nat.le_of_ble_eq_true rfl⟩) (tr_preV (w := wdX a cA) (ci := 0) (q0 := 0) (tX_left hI) rfl (wdX_o0 a cA _) rfl hN hw) rfl rfl hl.1 rfl (lv_room (Nat.le_of_ble_eq_true rfl)) d_L_law_397 ⟨Nat.le_of_ble_eq_true rfl, Nat.le_of_ble_eq_true rfl⟩) (fun r1 u1 H locs hw hI => ?_)
  refine lv_aload_n hx hb d_L_law_400 rfl (lv_at hl 2 rfl) ?_
  refine lv_aload_n hx hb d_L_law_401 rfl (lv_at hl 0 rfl) ?_
  refine lv_iload_n hx hb d_L_law_402 rfl (lv_at hl 3 rfl) ?_
  refine lv_iconst (v := 1) hx hb d_L_law_403 (by decide) ?_
  refine lv_iadd hx hb d_L_law_404 ?_
  refine va_sld hx hb hX hbl hbA hI.2.2.2 (hin 1 (by decide) (by decide)) d_L_law_405 ?_
  refine lv_aload_n hx hb d_L_law_406 rfl (lv_at hl 0 rfl) ?_
  refine lv_iload_n hx hb d_L_law_407 rfl (lv_at hl 3 rfl) ?_
  refine lv_iconst (v := 2) hx hb d_L_law_408 (by decide) ?_
  refine lv_iadd hx hb d_L_law_409 ?_
  refine va_sld hx hb hX hbl hbA hI.2.2.2 (hin 2 (by decide) (by decide)) d_L_law_410 ?_
  refine lv_aload_n hx hb d_L_law_411 rfl (lv_at hl 0 rfl) ?_
  refine lv_iload_n hx hb d_L_law_412 rfl (lv_at hl 3 rfl) ?_
  refine lv_iconst (v := 3) hx hb d_L_law_413 (by decide) ?_
  refine lv_iadd hx hb d_L_law_414 ?_
  refine va_sld hx hb hX hbl hbA hI.2.2.2 (hin 3 (by decide) (by decide)) d_L_law_415 ?_
  refine lw_goR (w1 := wdX a cA u1) (w2 := wdM b2 cA) (fun _ => rfl) hI hA (va_runV (As := [.int (xs (x3 + 1).toNatClampNeg), .int (xs (x3 + 2).toNatClampNeg), .int (xs (x3 + 3).toNatClampNeg)]) (rest := [.int r1]) ⟨hx, hb, hml, hown, hts⟩ (c_M_latest l dC dI cA b2 _ _ _ _ _ _) (cwV 3 hts (wsA_goodV wA_748 wA_749 wA_750 wA_40 wA_751) rfl rfl rfl (by decide +kernel) ⟨Nat.le_of_ble_eq_true rfl, Nat.le_of_ble_eq_true rfl⟩) (tr_preV (w := wdM b2 cA) (ci := 9) (q0 := 0) (tX_right hI) rfl (wdM_o0 b2 cA _) rfl hN hw) rfl rfl hl.1 rfl (lv_room (Nat.le_of_ble_eq_true rfl)) d_L_law_416 ⟨Nat.le_of_ble_eq_true rfl, Nat.le_of_ble_eq_true rfl⟩) (fun r2 v1 H locs hw hI => ?_)
  refine lv_icmp_eq (tgt := 824) hx hb d_L_law_419 (by decide) (fun hc => ?_) (fun hc => absurd hw.1 hc)
  exact tail u1 v1 H locs ls hw.2 hI hl
set_option maxRecDepth 100000 in
set_option maxHeartbeats 4000000 in
theorem lw_case_8 {p : Program} {l : Launch} {e : Env} {s : State} {m : MethodId} {below : List Frame} {meth : Method} {c : Code} {dC : Nat → ClassId} {dI : Nat → Nat → Nat} {cA : ClassId} {a b2 : Nat → Nat} {b L : Nat} {xs : Nat → Int32} {Rel : tS → tS → Prop} (C0 : lw_At p s m meth c b L xs) (hN : tN s) (x3 : Int32) (hin : ∀ j : Int32, 0 ≤ j → j ≤ 5 → vp_in (x3 + j) L)
    (tail : ∀ (u v : tS) (H : Heap) (locs : List Loc) (ls : Array Slot), Rel u v → tX (dC, dI) twCl [(cA, .int)] (fun q => s.heap.size ≤ q) s H locs (wdX a cA u ++ wdM b2 cA v) → lv_has ls 4 [(0, .ref b), (1, .ref (a 0)), (2, .ref (b2 0)), (3, .int x3)] → W p l e room_1 s m #[Value.ref b] below meth c H locs 52 5715 (lw_Z below #[Value.ref b] s) (F0 m 824 ls []))
    (u v : tS) (H : Heap) (locs : List Loc) (ls : Array Slot) (hw : w_T_fewest (fun r1 u1 => w_M_fewest (fun r2 v1 => r1 = r2 ∧ Rel u1 v1) (xs (x3 + 1).toNatClampNeg) (xs (x3 + 2).toNatClampNeg) (xs (x3 + 3).toNatClampNeg) (xs (x3 + 4).toNatClampNeg) v) (xs (x3 + 1).toNatClampNeg) (xs (x3 + 2).toNatClampNeg) (xs (x3 + 3).toNatClampNeg) (xs (x3 + 4).toNatClampNeg) u) (hI : tX (dC, dI) twCl [(cA, .int)] (fun q => s.heap.size ≤ q) s H locs (wdX a cA u ++ wdM b2 cA v)) (hl : lv_has ls 4 [(0, .ref b), (1, .ref (a 0)), (2, .ref (b2 0)), (3, .int x3)]) :
    W p l e room_1 s m #[Value.ref b] below meth c H locs 52 5715 (lw_Z below #[Value.ref b] s) (F0 m 424 ls []) := by
  obtain ⟨hx, hb, hr, hml, hown0, hts0, hX, hbl, hlocks, hgv⟩ := id C0
  have hown : s.vm.findClass R_L = some m.cls := hown0
  have hts : ∀ w ∈ wsA, w.before #[Value.ref b] s = true := fun w h => hts0 w (wsA_tbl w h)
  have hA : ∀ q : Nat, s.heap.size ≤ q → (fun q : Nat => s.heap.size ≤ q) q := fun _ h => h
  have hbA : ¬ (fun q : Nat => s.heap.size ≤ q) b := Nat.not_le.mpr hbl
  refine lv_aload_n hx hb d_L_law_424 rfl (lv_at hl 1 rfl) ?_
  refine lv_aload_n hx hb d_L_law_425 rfl (lv_at hl 0 rfl) ?_
  refine lv_iload_n hx hb d_L_law_426 rfl (lv_at hl 3 rfl) ?_
  refine lv_iconst (v := 1) hx hb d_L_law_427 (by decide) ?_
  refine lv_iadd hx hb d_L_law_428 ?_
  refine va_sld hx hb hX hbl hbA hI.2.2.2 (hin 1 (by decide) (by decide)) d_L_law_429 ?_
  refine lv_aload_n hx hb d_L_law_430 rfl (lv_at hl 0 rfl) ?_
  refine lv_iload_n hx hb d_L_law_431 rfl (lv_at hl 3 rfl) ?_
  refine lv_iconst (v := 2) hx hb d_L_law_432 (by decide) ?_
  refine lv_iadd hx hb d_L_law_433 ?_
  refine va_sld hx hb hX hbl hbA hI.2.2.2 (hin 2 (by decide) (by decide)) d_L_law_434 ?_
  refine lv_aload_n hx hb d_L_law_435 rfl (lv_at hl 0 rfl) ?_
  refine lv_iload_n hx hb d_L_law_436 rfl (lv_at hl 3 rfl) ?_
  refine lv_iconst (v := 3) hx hb d_L_law_437 (by decide) ?_
  refine lv_iadd hx hb d_L_law_438 ?_
  refine va_sld hx hb hX hbl hbA hI.2.2.2 (hin 3 (by decide) (by decide)) d_L_law_439 ?_
  refine lv_aload_n hx hb d_L_law_440 rfl (lv_at hl 0 rfl) ?_
  refine lv_iload_n hx hb d_L_law_441 rfl (lv_at hl 3 rfl) ?_
  refine lv_iconst (v := 4) hx hb d_L_law_442 (by decide) ?_
  refine lv_iadd hx hb d_L_law_443 ?_
  refine va_sld hx hb hX hbl hbA hI.2.2.2 (hin 4 (by decide) (by decide)) d_L_law_444 ?_
  refine lw_goL (w1 := wdX a cA) (w2 := wdM b2 cA v) (fun _ => rfl) hI hA (va_runV (As := [.int (xs (x3 + 1).toNatClampNeg), .int (xs (x3 + 2).toNatClampNeg), .int (xs (x3 + 3).toNatClampNeg), .int (xs (x3 + 4).toNatClampNeg)]) (rest := []) ⟨hx, hb, hml, hown, hts⟩ (c_T_fewest l dC dI cA a _ _ _ _ _ _ _) (cwV 4 hts (wsA_goodV wA_463 wA_464 wA_465 wA_30 wA_466) rfl rfl rfl (by decide +kernel) ⟨Nat.le_of_ble_eq_true rfl, Nat.le_of_ble_eq_true rfl⟩) (tr_preV (w := wdX a cA) (ci := 0) (q0 := 0) (tX_left hI) rfl (wdX_o0 a cA _) rfl hN hw) rfl rfl hl.1 rfl (lv_room (Nat.le_of_ble_eq_true rfl)) d_L_law_445 ⟨Nat.le_of_ble_eq_true rfl, Nat.le_of_ble_eq_true rfl⟩) (fun r1 u1 H locs hw hI => ?_)
  refine lv_aload_n hx hb d_L_law_448 rfl (lv_at hl 2 rfl) ?_
  refine lv_aload_n hx hb d_L_law_449 rfl (lv_at hl 0 rfl) ?_
  refine lv_iload_n hx hb d_L_law_450 rfl (lv_at hl 3 rfl) ?_
  refine lv_iconst (v := 1) hx hb d_L_law_451 (by decide) ?_
  refine lv_iadd hx hb d_L_law_452 ?_
  refine va_sld hx hb hX hbl hbA hI.2.2.2 (hin 1 (by decide) (by decide)) d_L_law_453 ?_
  refine lv_aload_n hx hb d_L_law_454 rfl (lv_at hl 0 rfl) ?_
  refine lv_iload_n hx hb d_L_law_455 rfl (lv_at hl 3 rfl) ?_
  refine lv_iconst (v := 2) hx hb d_L_law_456 (by decide) ?_
  refine lv_iadd hx hb d_L_law_457 ?_
  refine va_sld hx hb hX hbl hbA hI.2.2.2 (hin 2 (by decide) (by decide)) d_L_law_458 ?_
  refine lv_aload_n hx hb d_L_law_459 rfl (lv_at hl 0 rfl) ?_
  refine lv_iload_n hx hb d_L_law_460 rfl (lv_at hl 3 rfl) ?_
  refine lv_iconst (v := 3) hx hb d_L_law_461 (by decide) ?_
  refine lv_iadd hx hb d_L_law_462 ?_
  refine va_sld hx hb hX hbl hbA hI.2.2.2 (hin 3 (by decide) (by decide)) d_L_law_463 ?_
  refine lv_aload_n hx hb d_L_law_464 rfl (lv_at hl 0 rfl) ?_
  refine lv_iload_n hx hb d_L_law_465 rfl (lv_at hl 3 rfl) ?_
  refine lv_iconst (v := 4) hx hb d_L_law_466 (by decide) ?_
  refine lv_iadd hx hb d_L_law_467 ?_
  refine va_sld hx hb hX hbl hbA hI.2.2.2 (hin 4 (by decide) (by decide)) d_L_law_468 ?_
  refine lw_goR (w1 := wdX a cA u1) (w2 := wdM b2 cA) (fun _ => rfl) hI hA (va_runV (As := [.int (xs (x3 + 1).toNatClampNeg), .int (xs (x3 + 2).toNatClampNeg), .int (xs (x3 + 3).toNatClampNeg), .int (xs (x3 + 4).toNatClampNeg)]) (rest := [.int r1]) ⟨hx, hb, hml, hown, hts⟩ (c_M_fewest l dC dI cA b2 _ _ _ _ _ _ _) (cwV 4 hts (wsA_goodV wA_756 wA_757 wA_758 wA_40 wA_759) rfl rfl rfl (by decide +kernel) ⟨Nat.le_of_ble_eq_true rfl, Nat.le_of_ble_eq_true rfl⟩) (tr_preV (w := wdM b2 cA) (ci := 9) (q0 := 0) (tX_right hI) rfl (wdM_o0 b2 cA _) rfl hN hw) rfl rfl hl.1 rfl (lv_room (Nat.le_of_ble_eq_true rfl)) d_L_law_469 ⟨Nat.le_of_ble_eq_true rfl, Nat.le_of_ble_eq_true rfl⟩) (fun r2 v1 H locs hw hI => ?_)
  refine lv_icmp_eq (tgt := 824) hx hb d_L_law_472 (by decide) (fun hc => ?_) (fun hc => absurd hw.1 hc)
  exact tail u1 v1 H locs ls hw.2 hI hl
