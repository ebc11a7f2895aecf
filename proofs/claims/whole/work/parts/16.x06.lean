def w_Sp_latestBeginning_25 (post : Int32 → tS → Prop) : Nat → Int32 → Int32 → Int32 → Int32 → Int32 → tS → Prop
  | 0 => fun _ _ _ _ _ _ => False
  | n + 1 => fun x2 x3 x4 x5 x6 u => ((x6 < 0 → ((0 ≤ x5 → (post (if 10079 < x5 then 10079 else x5) u)) ∧ (¬ 0 ≤ x5 → (post (-1) u)))) ∧ (¬ x6 < 0 → (w_Sp_endOf (fun r41 u41 => (vp_in x6 280 ∧ (vp_in x6 280 ∧ ((x4 < ((tA u41 17 x6 r41).2 17 x6.toNatClampNeg) → (w_Sp_latestBeginning_25 post n x2 x3 x4 x5 (x6 + (-1)) (tA u41 17 x6 r41))) ∧ (¬ x4 < ((tA u41 17 x6 r41).2 17 x6.toNatClampNeg) → (w_Sp_latestFor (fun r63 u63 => (w_Sp_latestBeginning_25 post n x2 x3 x4 (if x5 < r63 then r63 else x5) (x6 + (-1)) u63)) x2 x6 (tA u41 17 x6 r41))))))) x6 x3 u)))
def w_Sp_latestBeginning (post : Int32 → tS → Prop) (x2 : Int32) (x3 : Int32) (x4 : Int32) (u : tS) : Prop := (w_Wa_anyNumber (fun r8 u8 => (∃ k, w_Sp_latestBeginning_25 post k x2 x3 x4 (x4 - r8) ((u8.1 2) - 1) u8)) x2 x3 u)
set_option maxRecDepth 100000 in
set_option maxHeartbeats 4000000 in
theorem k_Sp_latestBeginning_25 {p : Program} {l : Launch} {e : Env} {s : State} {m : MethodId} {args : Array Value} {below : List Frame} {meth : Method} {c : Code} {dC : Nat → ClassId} {dI : Nat → Nat → Nat} {cA : ClassId} {a : Nat → Nat} {A : Nat → Prop} (hC : tC p s m meth c args b_Sp_latestBeginning 7 (some .int) wsA R_Sp A) (post : Int32 → tS → Prop) : ∀ n : Nat, ∀ (x2 x3 x4 x5 x6 : Int32) (u : tS) (H : Heap) (locs : List Loc) (ls : Array Slot), w_Sp_latestBeginning_25 post n x2 x3 x4 x5 x6 u → tX (dC, dI) twCl [(cA, .int)] A s H locs (wdX a cA u) → lv_has ls 7 [(0, .ref (a 7)), (1, .ref (a 1)), (2, .int x2), (3, .int x3), (4, .int x4), (5, .int x5), (6, .int x6)] → W p l e ({ frames := 4, cells := 0, slots := 0, locals := 97 }) s m args below meth c H locs 0 0 (MQ below (va_Qi post (tB (dC, dI) twCl [(cA, .int)] A (wdX a cA)) A) args s 0 0 A) (F0 m 25 ls []) := by
  obtain ⟨hx, hb, hr, hml, hown, hts, hlocks, hA, hN⟩ := id hC
  intro n
  induction n with
  | zero => intro x2 x3 x4 x5 x6 u H locs ls hw; exact False.elim hw
  | succ n ih =>
    intro x2 x3 x4 x5 x6 u H locs ls hw hI hl
    refine lv_iload hx hb d_Sp_latestBeginning_25 (lv_at hl 6 rfl) ?_
    refine lv_if_lt (tgt := 77) hx hb d_Sp_latestBeginning_27 (by decide) (fun hc => ?_) (fun hc => ?_)
    · have hw := hw.1 hc
      refine lv_iload hx hb d_Sp_latestBeginning_77 (lv_at hl 5 rfl) ?_
      refine lv_if_ge (tgt := 86) hx hb d_Sp_latestBeginning_79 (by decide) (fun hc => ?_) (fun hc => ?_)
      · have hw := hw.1 hc
        refine lv_iload hx hb d_Sp_latestBeginning_86 (lv_at hl 5 rfl) ?_
        refine lv_sipush (v := 10079) hx hb d_Sp_latestBeginning_88 (by decide) ?_
        refine va_mmin hx hb (by rw [hml]; exact hl.1.symm) hown (hts _ wA_447) (hts _ wA_369) (hts _ wA_41) (hts _ wA_370) (Nat.le_of_ble_eq_true rfl) (Nat.le_of_ble_eq_true rfl) (Nat.zero_le _) (Nat.zero_le _) d_Sp_latestBeginning_91 ?_
        exact tr_iret hx hb hr hlocks hI hw d_Sp_latestBeginning_94
      · have hw := hw.2 hc
        refine lv_iconst (v := (-1)) hx hb d_Sp_latestBeginning_82 (by decide) ?_
        refine lv_goto (tgt := 94) hx hb d_Sp_latestBeginning_83 (by decide) ?_
        exact tr_iret hx hb hr hlocks hI hw d_Sp_latestBeginning_94
    · have hw := hw.2 hc
      refine lv_aload_n hx hb d_Sp_latestBeginning_30 rfl (lv_at hl 0 rfl) ?_
      refine va_get (D := (dC, dI)) (C := R_Sp) (T := F_Sp) (N := 2) hx hb hts in_Sp hown hI.1 hI.2.1 7 (wdX_o7 a cA _) rfl 0 (by decide) (hts _ wA_210) (fun _ h9 => h9) rfl d_Sp_latestBeginning_31 ?_
      refine lv_iload hx hb d_Sp_latestBeginning_34 (lv_at hl 6 rfl) ?_
      refine lv_aload_n hx hb d_Sp_latestBeginning_36 rfl (lv_at hl 0 rfl) ?_
      refine lv_aload_n hx hb d_Sp_latestBeginning_37 rfl (lv_at hl 1 rfl) ?_
      refine lv_iload hx hb d_Sp_latestBeginning_38 (lv_at hl 6 rfl) ?_
      refine lv_iload_n hx hb d_Sp_latestBeginning_40 rfl (lv_at hl 3 rfl) ?_
      refine tr_goi (w := wdX a cA) hI hA (va_runV (As := [.ref (a 1), .int x6, .int x3]) (rest := [.int x6, .ref (a 27)]) ⟨hx, hb, hml, hown, hts⟩ (c_Sp_endOf l dC dI cA a _ _ _ _ _) (cwV 3 hts (wsA_goodV wA_441 wA_443 wA_3 wA_37 wA_444) rfl rfl rfl (by decide +kernel) ⟨Nat.le_of_ble_eq_true rfl, Nat.le_of_ble_eq_true rfl⟩) (tr_preV (ci := 6) (q0 := 7) hI rfl (wdX_o7 a cA _) rfl hN hw) rfl rfl hl.1 rfl (lv_room (Nat.le_of_ble_eq_true rfl)) d_Sp_latestBeginning_41 ⟨Nat.zero_le _, Nat.zero_le _⟩) (fun r41 u41 H locs hw hI => ?_)
      obtain ⟨hi, hw⟩ := hw
      refine tr_iast (w := wdX a cA) hx hb hI 27 0 17 (wdX_o27 a cA _) rfl (wdX_a17 a cA _ _ _) hi d_Sp_latestBeginning_44 (fun H locs hI => ?_)
      refine lv_aload_n hx hb d_Sp_latestBeginning_45 rfl (lv_at hl 0 rfl) ?_
      refine va_get (D := (dC, dI)) (C := R_Sp) (T := F_Sp) (N := 2) hx hb hts in_Sp hown hI.1 hI.2.1 7 (wdX_o7 a cA _) rfl 0 (by decide) (hts _ wA_210) (fun _ h9 => h9) rfl d_Sp_latestBeginning_46 ?_
      refine lv_iload hx hb d_Sp_latestBeginning_49 (lv_at hl 6 rfl) ?_
      obtain ⟨hi, hw⟩ := hw
      refine va_iald (D := (dC, dI)) hx hb hI.1 hI.2.1 27 0 (wdX_o27 a cA _) rfl hi d_Sp_latestBeginning_51 ?_
      refine lv_iload hx hb d_Sp_latestBeginning_52 (lv_at hl 4 rfl) ?_
      refine lv_icmp_gt (tgt := 71) hx hb d_Sp_latestBeginning_54 (by decide) (fun hc => ?_) (fun hc => ?_)
      · have hw := hw.1 hc
        refine lv_iinc (v := (x6 + (-1))) (lv' := [(6, .int (x6 + (-1))), (0, .ref (a 7)), (1, .ref (a 1)), (2, .int x2), (3, .int x3), (4, .int x4), (5, .int x5)]) hx hb d_Sp_latestBeginning_71 hl (k := 6) rfl rfl (by decide) rfl (fun ls hl => ?_)
        refine lv_goto (tgt := 25) hx hb d_Sp_latestBeginning_74 (by decide) ?_
        exact ih _ _ _ _ _ _ _ _ ls hw hI (lv_sub hl [1, 2, 3, 4, 5, 6, 0] rfl)
      · have hw := hw.2 hc
        refine lv_iload hx hb d_Sp_latestBeginning_57 (lv_at hl 5 rfl) ?_
        refine lv_aload_n hx hb d_Sp_latestBeginning_59 rfl (lv_at hl 1 rfl) ?_
        refine lv_iload_n hx hb d_Sp_latestBeginning_60 rfl (lv_at hl 2 rfl) ?_
        refine lv_iload hx hb d_Sp_latestBeginning_61 (lv_at hl 6 rfl) ?_
        refine tr_goi (w := wdX a cA) hI hA (va_runS (As := [.ref (a 1), .int x2, .int x6]) (rest := [.int x5]) ⟨hx, hb, hml, hown, hts⟩ (c_Sp_latestFor l dC dI cA a _ _ _ _ _) ⟨callB_of 3 hts (wsA_good wA_459) rfl rfl rfl (hts _ wA_37) (hts _ wA_457) (by decide +kernel) ⟨Nat.le_of_ble_eq_true rfl, Nat.le_of_ble_eq_true rfl⟩, hts _ wA_458⟩ (tr_preS hI hN hw) rfl rfl hl.1 rfl (lv_room (Nat.le_of_ble_eq_true rfl)) d_Sp_latestBeginning_63 ⟨Nat.zero_le _, Nat.zero_le _⟩) (fun r63 u63 H locs hw hI => ?_)
        refine va_mmax hx hb (by rw [hml]; exact hl.1.symm) hown (hts _ wA_460) (hts _ wA_461) (hts _ wA_41) (hts _ wA_462) (Nat.le_of_ble_eq_true rfl) (Nat.le_of_ble_eq_true rfl) (Nat.zero_le _) (Nat.zero_le _) d_Sp_latestBeginning_66 ?_
        refine lv_istore (lv' := [(5, .int (if x5 < r63 then r63 else x5)), (0, .ref (a 7)), (1, .ref (a 1)), (2, .int x2), (3, .int x3), (4, .int x4), (6, .int x6)]) hx hb d_Sp_latestBeginning_69 hl (by decide) rfl (fun ls hl => ?_)
        refine lv_iinc (v := (x6 + (-1))) (lv' := [(6, .int (x6 + (-1))), (5, .int (if x5 < r63 then r63 else x5)), (0, .ref (a 7)), (1, .ref (a 1)), (2, .int x2), (3, .int x3), (4, .int x4)]) hx hb d_Sp_latestBeginning_71 hl (k := 6) rfl rfl (by decide) rfl (fun ls hl => ?_)
        refine lv_goto (tgt := 25) hx hb d_Sp_latestBeginning_74 (by decide) ?_
        exact ih _ _ _ _ _ _ _ _ ls hw hI (lv_sub hl [2, 3, 4, 5, 6, 1, 0] rfl)
set_option maxRecDepth 100000 in
set_option maxHeartbeats 4000000 in
theorem c_Sp_latestBeginning (l : Launch) (dC : Nat → ClassId) (dI : Nat → Nat → Nat) (cA : ClassId) (a : Nat → Nat) (u : tS) (x2 : Int32) (x3 : Int32) (x4 : Int32) (post : Int32 → tS → Prop) (sz : Nat) : Met l y_Sp_latestBeginning ws_Sp_latestBeginning ({ frames := 4, cells := 0, slots := 0, locals := 97 }) (va_Pc [.ref (a 7), .ref (a 1), .int x2, .int x3, .int x4] (tP (dC, dI) twCl [(cA, .int)] (wdX a cA) u sz (w_Sp_latestBeginning post x2 x3 x4 u))) (va_Qi post (tB (dC, dI) twCl [(cA, .int)] (va_A (wdX a cA u) sz) (wdX a cA)) (va_A (wdX a cA u) sz)) 0 0 (va_A (wdX a cA u) sz) := by
  refine Met.ofW (cc := b_Sp_latestBeginning) (maxL := 7) (ret := (some .int)) (by decide) rfl ?_
  intro p e s m args below meth c s₁ B hml hv
  obtain ⟨rfl, hsz, hP, hK, hD0, hN, hw⟩ := hv
  have hx := B.exec
  have hb := B.bytes
  have hr := B.returns
  have hts : ∀ w ∈ wsA, w.before _ s = true := fun w h => atoms_spec (ws := ws_Sp_latestBeginning) B.pre w (List.mem_cons_of_mem _ h)
  have hown : s.vm.findClass R_Sp = some m.cls := findClass_of_methodNamed B.named
  have hlocks := B.notSynchronized
  subst hsz
  have hD := hD0.self (sz := s.heap.size)
  generalize hAe : va_A (wdX a cA u) s.heap.size = A at hD ⊢
  have hA : ∀ q : Nat, s.heap.size ≤ q → A q := fun q h => by rw [← hAe]; exact Or.inr h
  have hS : va_S A s.heap s.heap [] := va_S.rf
  have hI : tX (dC, dI) twCl [(cA, .int)] A s s.heap [] (wdX a cA u) := ⟨hK, hP, hD, hS⟩
  have hC : tC p s m meth c ([.ref (a 7), .ref (a 1), .int x2, .int x3, .int x4] : List Value).toArray b_Sp_latestBeginning 7 (some .int) wsA R_Sp A := ⟨hx, hb, hr, hml, hown, hts, hlocks, hA, hN⟩
  have hl := lv_entry ([.ref (a 7), .ref (a 1), .int x2, .int x3, .int x4]) (n := 7) (Nat.le_of_ble_eq_true rfl)
  rw [lg_entry_eq]
  generalize (lg_sl ([.ref (a 7), .ref (a 1), .int x2, .int x3, .int x4]) ++ List.replicate (7 - (lg_sl ([.ref (a 7), .ref (a 1), .int x2, .int x3, .int x4])).length) Slot.unset).toArray = ls at hl ⊢
  have hl : lv_has ls 7 [(0, .ref (a 7)), (1, .ref (a 1)), (2, .int x2), (3, .int x3), (4, .int x4)] := hl
  have hw : (w_Wa_anyNumber (fun r8 u8 => (∃ k, w_Sp_latestBeginning_25 post k x2 x3 x4 (x4 - r8) ((u8.1 2) - 1) u8)) x2 x3 u) := hw
  refine lv_iload hx hb d_Sp_latestBeginning_0 (lv_at hl 4 rfl) ?_
  refine lv_aload_n hx hb d_Sp_latestBeginning_2 rfl (lv_at hl 1 rfl) ?_
  refine va_get (D := (dC, dI)) (C := R_Ne) (T := F_Ne) (N := 5) hx hb hts in_Ne hown hI.1 hI.2.1 1 (wdX_o1 a cA _) rfl 4 (by decide) (hts _ wA_176) (fun _ h9 => h9) rfl d_Sp_latestBeginning_3 ?_
  refine lv_iload_n hx hb d_Sp_latestBeginning_6 rfl (lv_at hl 2 rfl) ?_
  refine lv_iload_n hx hb d_Sp_latestBeginning_7 rfl (lv_at hl 3 rfl) ?_
  refine tr_goi (w := wdX a cA) hI hA (va_runV (As := [.int x2, .int x3]) (rest := [.int x4]) ⟨hx, hb, hml, hown, hts⟩ (c_Wa_anyNumber l dC dI cA a _ _ _ _ _) (cwV 2 hts (wsA_goodV wA_440 wA_361 wA_362 wA_34 wA_363) rfl rfl rfl (by decide +kernel) ⟨Nat.le_of_ble_eq_true rfl, Nat.le_of_ble_eq_true rfl⟩) (tr_preV (ci := 4) (q0 := 4) hI rfl (wdX_o4 a cA _) rfl hN hw) rfl rfl hl.1 rfl (lv_room (Nat.le_of_ble_eq_true rfl)) d_Sp_latestBeginning_8 ⟨Nat.zero_le _, Nat.zero_le _⟩) (fun r8 u8 H locs hw hI => ?_)
  refine lv_isub hx hb d_Sp_latestBeginning_11 ?_
  refine lv_istore (lv' := [(5, .int (x4 - r8)), (0, .ref (a 7)), (1, .ref (a 1)), (2, .int x2), (3, .int x3), (4, .int x4)]) hx hb d_Sp_latestBeginning_12 hl (by decide) rfl (fun ls hl => ?_)
  refine lv_aload_n hx hb d_Sp_latestBeginning_14 rfl (lv_at hl 2 rfl) ?_
  refine va_get (D := (dC, dI)) (C := R_Ne) (T := F_Ne) (N := 5) hx hb hts in_Ne hown hI.1 hI.2.1 1 (wdX_o1 a cA _) rfl 3 (by decide) (hts _ wA_172) (fun _ h9 => h9) rfl d_Sp_latestBeginning_15 ?_
  refine va_get (D := (dC, dI)) (C := R_Bo) (T := F_Bo) (N := 3) hx hb hts in_Bo hown hI.1 hI.2.1 3 (wdX_o3 a cA _) rfl 0 (by decide) (hts _ wA_112) (fun _ h9 => h9) rfl d_Sp_latestBeginning_18 ?_
  refine lv_iconst (v := 1) hx hb d_Sp_latestBeginning_21 (by decide) ?_
  refine lv_isub hx hb d_Sp_latestBeginning_22 ?_
  refine lv_istore (lv' := [(6, .int ((u8.1 2) - 1)), (5, .int (x4 - r8)), (0, .ref (a 7)), (1, .ref (a 1)), (2, .int x2), (3, .int x3), (4, .int x4)]) hx hb d_Sp_latestBeginning_23 hl (by decide) rfl (fun ls hl => ?_)
  obtain ⟨k, hw⟩ := hw
  exact k_Sp_latestBeginning_25 hC post k _ _ _ _ _ _ _ _ ls hw hI (lv_sub hl [2, 3, 4, 5, 6, 1, 0] rfl)
def w_T_latest (post : Int32 → tS → Prop) (x1 : Int32) (x2 : Int32) (x3 : Int32) (u : tS) : Prop := (w_Ne_hasStops (fun r6 u6 => ((r6 = 0 → (post (-2) u6)) ∧ (¬ r6 = 0 → (w_T_isBy (fun r13 u13 => ((r13 = 0 → (post (-2) u13)) ∧ (¬ r13 = 0 → (w_Sp_latestBeginning (fun r33 u33 => (post r33 u33)) x1 x2 x3 u13)))) x3 u6)))) x1 x2 u)
set_option maxRecDepth 100000 in
set_option maxHeartbeats 4000000 in
theorem c_T_latest (l : Launch) (dC : Nat → ClassId) (dI : Nat → Nat → Nat) (cA : ClassId) (a : Nat → Nat) (u : tS) (x1 : Int32) (x2 : Int32) (x3 : Int32) (post : Int32 → tS → Prop) (sz : Nat) : Met l y_T_latest ws_T_latest ({ frames := 5, cells := 0, slots := 0, locals := 123 }) (va_Pc [.ref (a 0), .int x1, .int x2, .int x3] (tP (dC, dI) twCl [(cA, .int)] (wdX a cA) u sz (w_T_latest post x1 x2 x3 u))) (va_Qi post (tB (dC, dI) twCl [(cA, .int)] (va_A (wdX a cA u) sz) (wdX a cA)) (va_A (wdX a cA u) sz)) 0 0 (va_A (wdX a cA u) sz) := by
  refine Met.ofW (cc := b_T_latest) (maxL := 4) (ret := (some .int)) (by decide) rfl ?_
  intro p e s m args below meth c s₁ B hml hv
  obtain ⟨rfl, hsz, hP, hK, hD0, hN, hw⟩ := hv
  have hx := B.exec
  have hb := B.bytes
  have hr := B.returns
  have hts : ∀ w ∈ wsA, w.before _ s = true := fun w h => atoms_spec (ws := ws_T_latest) B.pre w (List.mem_cons_of_mem _ h)
  have hown : s.vm.findClass R_T = some m.cls := findClass_of_methodNamed B.named
  have hlocks := B.notSynchronized
  subst hsz
  have hD := hD0.self (sz := s.heap.size)
  generalize hAe : va_A (wdX a cA u) s.heap.size = A at hD ⊢
  have hA : ∀ q : Nat, s.heap.size ≤ q → A q := fun q h => by rw [← hAe]; exact Or.inr h
  have hS : va_S A s.heap s.heap [] := va_S.rf
  have hI : tX (dC, dI) twCl [(cA, .int)] A s s.heap [] (wdX a cA u) := ⟨hK, hP, hD, hS⟩
  have hC : tC p s m meth c ([.ref (a 0), .int x1, .int x2, .int x3] : List Value).toArray b_T_latest 4 (some .int) wsA R_T A := ⟨hx, hb, hr, hml, hown, hts, hlocks, hA, hN⟩
  have hl := lv_entry ([.ref (a 0), .int x1, .int x2, .int x3]) (n := 4) (Nat.le_of_ble_eq_true rfl)
  rw [lg_entry_eq]
  generalize (lg_sl ([.ref (a 0), .int x1, .int x2, .int x3]) ++ List.replicate (4 - (lg_sl ([.ref (a 0), .int x1, .int x2, .int x3])).length) Slot.unset).toArray = ls at hl ⊢
  have hl : lv_has ls 4 [(0, .ref (a 0)), (1, .int x1), (2, .int x2), (3, .int x3)] := hl
  have hw : (w_Ne_hasStops (fun r6 u6 => ((r6 = 0 → (post (-2) u6)) ∧ (¬ r6 = 0 → (w_T_isBy (fun r13 u13 => ((r13 = 0 → (post (-2) u13)) ∧ (¬ r13 = 0 → (w_Sp_latestBeginning (fun r33 u33 => (post r33 u33)) x1 x2 x3 u13)))) x3 u6)))) x1 x2 u) := hw
  refine lv_aload_n hx hb d_T_latest_0 rfl (lv_at hl 0 rfl) ?_
  refine va_get (D := (dC, dI)) (C := R_T) (T := F_T) (N := 6) hx hb hts in_T hown hI.1 hI.2.1 0 (wdX_o0 a cA _) rfl 0 (by decide) (hts _ wA_264) (fun _ h9 => h9) rfl d_T_latest_1 ?_
  refine lv_iload_n hx hb d_T_latest_4 rfl (lv_at hl 1 rfl) ?_
  refine lv_iload_n hx hb d_T_latest_5 rfl (lv_at hl 2 rfl) ?_
  refine tr_goi (w := wdX a cA) hI hA (va_runV (As := [.int x1, .int x2]) (rest := []) ⟨hx, hb, hml, hown, hts⟩ (c_Ne_hasStops l dC dI cA a _ _ _ _ _) (cwV 2 hts (wsA_goodV wA_315 wA_316 wA_317 wA_31 wA_318) rfl rfl rfl (by decide +kernel) ⟨Nat.le_of_ble_eq_true rfl, Nat.le_of_ble_eq_true rfl⟩) (tr_preV (ci := 1) (q0 := 1) hI rfl (wdX_o1 a cA _) rfl hN hw) rfl rfl hl.1 rfl (lv_room (Nat.le_of_ble_eq_true rfl)) d_T_latest_6 ⟨Nat.zero_le _, Nat.zero_le _⟩) (fun r6 u6 H locs hw hI => ?_)
  refine lv_if_eq (tgt := 19) hx hb d_T_latest_9 (by decide) (fun hc => ?_) (fun hc => ?_)
  · have hw := hw.1 hc
    refine lv_bipush (v := (-2)) hx hb d_T_latest_19 (by decide) ?_
    exact tr_iret hx hb hr hlocks hI hw d_T_latest_21
  · have hw := hw.2 hc
    refine lv_iload_n hx hb d_T_latest_12 rfl (lv_at hl 3 rfl) ?_
    refine tr_goi (w := wdX a cA) hI hA (va_runS (As := [.int x3]) (rest := []) ⟨hx, hb, hml, hown, hts⟩ (c_T_isBy l dC dI cA a _ _ _ _) ⟨callB_of 1 hts (wsA_good wA_435) rfl rfl rfl (hts _ wA_30) (hts _ wA_433) (by decide +kernel) ⟨Nat.le_of_ble_eq_true rfl, Nat.le_of_ble_eq_true rfl⟩, hts _ wA_434⟩ (tr_preS hI hN hw) rfl rfl hl.1 rfl (lv_room (Nat.le_of_ble_eq_true rfl)) d_T_latest_13 ⟨Nat.zero_le _, Nat.zero_le _⟩) (fun r13 u13 H locs hw hI => ?_)
    refine lv_if_ne (tgt := 22) hx hb d_T_latest_16 (by decide) (fun hc => ?_) (fun hc => ?_)
    · have hw := hw.2 hc
      refine lv_aload_n hx hb d_T_latest_22 rfl (lv_at hl 0 rfl) ?_
      refine va_get (D := (dC, dI)) (C := R_T) (T := F_T) (N := 6) hx hb hts in_T hown hI.1 hI.2.1 0 (wdX_o0 a cA _) rfl 3 (by decide) (hts _ wA_267) (fun _ h9 => h9) rfl d_T_latest_23 ?_
      refine lv_aload_n hx hb d_T_latest_26 rfl (lv_at hl 0 rfl) ?_
      refine va_get (D := (dC, dI)) (C := R_T) (T := F_T) (N := 6) hx hb hts in_T hown hI.1 hI.2.1 0 (wdX_o0 a cA _) rfl 0 (by decide) (hts _ wA_264) (fun _ h9 => h9) rfl d_T_latest_27 ?_
      refine lv_iload_n hx hb d_T_latest_30 rfl (lv_at hl 1 rfl) ?_
      refine lv_iload_n hx hb d_T_latest_31 rfl (lv_at hl 2 rfl) ?_
      refine lv_iload_n hx hb d_T_latest_32 rfl (lv_at hl 3 rfl) ?_
      refine tr_goi (w := wdX a cA) hI hA (va_runV (As := [.ref (a 1), .int x1, .int x2, .int x3]) (rest := []) ⟨hx, hb, hml, hown, hts⟩ (c_Sp_latestBeginning l dC dI cA a _ _ _ _ _ _) (cwV 4 hts (wsA_goodV wA_436 wA_437 wA_438 wA_37 wA_439) rfl rfl rfl (by decide +kernel) ⟨Nat.le_of_ble_eq_true rfl, Nat.le_of_ble_eq_true rfl⟩) (tr_preV (ci := 6) (q0 := 7) hI rfl (wdX_o7 a cA _) rfl hN hw) rfl rfl hl.1 rfl (lv_room (Nat.le_of_ble_eq_true rfl)) d_T_latest_33 ⟨Nat.zero_le _, Nat.zero_le _⟩) (fun r33 u33 H locs hw hI => ?_)
      exact tr_iret hx hb hr hlocks hI hw d_T_latest_36
    · have hw := hw.1 hc
      refine lv_bipush (v := (-2)) hx hb d_T_latest_19 (by decide) ?_
      exact tr_iret hx hb hr hlocks hI hw d_T_latest_21
def w_Ar_copy (post : tS → Prop) (u : tS) : Prop := (post (tY (tY u 13 15 12) 14 16 12))
set_option maxRecDepth 100000 in
set_option maxHeartbeats 4000000 in
theorem c_Ar_copy (l : Launch) (dC : Nat → ClassId) (dI : Nat → Nat → Nat) (cA : ClassId) (a : Nat → Nat) (u : tS) (post : tS → Prop) (sz : Nat) : Met l y_Ar_copy ws_Ar_copy ({ frames := 1, cells := 0, slots := 0, locals := 18 }) (va_Pc [.ref (a 6), .ref (a 5)] (tP (dC, dI) twCl [(cA, .int)] (wdX a cA) u sz (w_Ar_copy post u))) (va_Qv post (tB (dC, dI) twCl [(cA, .int)] (va_A (wdX a cA u) sz) (wdX a cA)) (va_A (wdX a cA u) sz)) 0 0 (va_A (wdX a cA u) sz) := by
  refine Met.ofW (cc := b_Ar_copy) (maxL := 2) (ret := none) (by decide) rfl ?_
  intro p e s m args below meth c s₁ B hml hv
  obtain ⟨rfl, hsz, hP, hK, hD0, hN, hw⟩ := hv
  have hx := B.exec
  have hb := B.bytes
  have hr := B.returns
  have hts : ∀ w ∈ wsA, w.before _ s = true := fun w h => atoms_spec (ws := ws_Ar_copy) B.pre w (List.mem_cons_of_mem _ h)
  have hown : s.vm.findClass R_Ar = some m.cls := findClass_of_methodNamed B.named
  have hlocks := B.notSynchronized
  subst hsz
  have hD := hD0.self (sz := s.heap.size)
  generalize hAe : va_A (wdX a cA u) s.heap.size = A at hD ⊢
  have hA : ∀ q : Nat, s.heap.size ≤ q → A q := fun q h => by rw [← hAe]; exact Or.inr h
  have hS : va_S A s.heap s.heap [] := va_S.rf
  have hI : tX (dC, dI) twCl [(cA, .int)] A s s.heap [] (wdX a cA u) := ⟨hK, hP, hD, hS⟩
  have hC : tC p s m meth c ([.ref (a 6), .ref (a 5)] : List Value).toArray b_Ar_copy 2 none wsA R_Ar A := ⟨hx, hb, hr, hml, hown, hts, hlocks, hA, hN⟩
  have hl := lv_entry ([.ref (a 6), .ref (a 5)]) (n := 2) (Nat.le_of_ble_eq_true rfl)
  rw [lg_entry_eq]
  generalize (lg_sl ([.ref (a 6), .ref (a 5)]) ++ List.replicate (2 - (lg_sl ([.ref (a 6), .ref (a 5)])).length) Slot.unset).toArray = ls at hl ⊢
  have hl : lv_has ls 2 [(0, .ref (a 6)), (1, .ref (a 5))] := hl
  have hw : (post (tY (tY u 13 15 12) 14 16 12)) := hw
  refine lv_aload_n hx hb d_Ar_copy_0 rfl (lv_at hl 1 rfl) ?_
  refine va_get (D := (dC, dI)) (C := R_Ar) (T := F_Ar) (N := 2) hx hb hts in_Ar hown hI.1 hI.2.1 5 (wdX_o5 a cA _) rfl 0 (by decide) (hts _ wA_197) (fun _ h9 => h9) rfl d_Ar_copy_1 ?_
  refine lv_iconst (v := 0) hx hb d_Ar_copy_4 (by decide) ?_
  refine lv_aload_n hx hb d_Ar_copy_5 rfl (lv_at hl 0 rfl) ?_
  refine va_get (D := (dC, dI)) (C := R_Ar) (T := F_Ar) (N := 2) hx hb hts in_Ar hown hI.1 hI.2.1 6 (wdX_o6 a cA _) rfl 0 (by decide) (hts _ wA_197) (fun _ h9 => h9) rfl d_Ar_copy_6 ?_
  refine lv_iconst (v := 0) hx hb d_Ar_copy_9 (by decide) ?_
  refine lv_bipush (v := 12) hx hb d_Ar_copy_10 (by decide) ?_
  refine tr_copy (w := wdX a cA) (n := 12) hx hb (by rw [hml]; exact hl.1.symm) hown (hts _ wA_472) (hts _ wA_474) (hts _ wA_473) (hts _ wA_42) hI 23 25 13 15 0 (wdX_o23 a cA _) (wdX_o25 a cA _) rfl (wdX_y13_15 a cA _) (by decide) (by decide) (by decide) (by decide) (Nat.le_of_ble_eq_true rfl) (Nat.le_of_ble_eq_true rfl) d_Ar_copy_12 (fun H locs hI => ?_)
  refine lv_aload_n hx hb d_Ar_copy_15 rfl (lv_at hl 1 rfl) ?_
  refine va_get (D := (dC, dI)) (C := R_Ar) (T := F_Ar) (N := 2) hx hb hts in_Ar hown hI.1 hI.2.1 5 (wdX_o5 a cA _) rfl 1 (by decide) (hts _ wA_198) (fun _ h9 => h9) rfl d_Ar_copy_16 ?_
  refine lv_iconst (v := 0) hx hb d_Ar_copy_19 (by decide) ?_
  refine lv_aload_n hx hb d_Ar_copy_20 rfl (lv_at hl 0 rfl) ?_
  refine va_get (D := (dC, dI)) (C := R_Ar) (T := F_Ar) (N := 2) hx hb hts in_Ar hown hI.1 hI.2.1 6 (wdX_o6 a cA _) rfl 1 (by decide) (hts _ wA_198) (fun _ h9 => h9) rfl d_Ar_copy_21 ?_
  refine lv_iconst (v := 0) hx hb d_Ar_copy_24 (by decide) ?_
  refine lv_bipush (v := 12) hx hb d_Ar_copy_25 (by decide) ?_
  refine tr_copy (w := wdX a cA) (n := 12) hx hb (by rw [hml]; exact hl.1.symm) hown (hts _ wA_472) (hts _ wA_474) (hts _ wA_473) (hts _ wA_42) hI 24 26 14 16 0 (wdX_o24 a cA _) (wdX_o26 a cA _) rfl (wdX_y14_16 a cA _) (by decide) (by decide) (by decide) (by decide) (Nat.le_of_ble_eq_true rfl) (Nat.le_of_ble_eq_true rfl) d_Ar_copy_27 (fun H locs hI => ?_)
  exact tr_vret hx hb hr hlocks hI hw d_Ar_copy_30
def w_Ar_mayTake2 (post : Int32 → tS → Prop) (x2 : Int32) (x3 : Int32) (u : tS) : Prop := (vp_in x2 12 ∧ (((u.2 16 x2.toNatClampNeg) ≤ x3 → (post 1 u)) ∧ (¬ (u.2 16 x2.toNatClampNeg) ≤ x3 → (vp_in x2 12 ∧ (vp_in x2 12 ∧ ((x3 < ((u.2 15 x2.toNatClampNeg) + (u.2 0 x2.toNatClampNeg)) → (post 0 u)) ∧ (¬ x3 < ((u.2 15 x2.toNatClampNeg) + (u.2 0 x2.toNatClampNeg)) → (post 1 u))))))))
set_option maxRecDepth 100000 in
set_option maxHeartbeats 4000000 in
theorem c_Ar_mayTake2 (l : Launch) (dC : Nat → ClassId) (dI : Nat → Nat → Nat) (cA : ClassId) (a : Nat → Nat) (u : tS) (x2 : Int32) (x3 : Int32) (post : Int32 → tS → Prop) (sz : Nat) : Met l y_Ar_mayTake ws_Ar_mayTake ({ frames := 0, cells := 0, slots := 0, locals := 0 }) (va_Pc [.ref (a 6), .ref (a 1), .int x2, .int x3] (tP (dC, dI) twCl [(cA, .int)] (wdX a cA) u sz (w_Ar_mayTake2 post x2 x3 u))) (va_Qi post (tB (dC, dI) twCl [(cA, .int)] (va_A (wdX a cA u) sz) (wdX a cA)) (va_A (wdX a cA u) sz)) 0 0 (va_A (wdX a cA u) sz) := by
  refine Met.ofW (cc := b_Ar_mayTake) (maxL := 4) (ret := (some .boolean)) (by decide) rfl ?_
  intro p e s m args below meth c s₁ B hml hv
  obtain ⟨rfl, hsz, hP, hK, hD0, hN, hw⟩ := hv
  have hx := B.exec
  have hb := B.bytes
  have hr := B.returns
  have hts : ∀ w ∈ wsA, w.before _ s = true := fun w h => atoms_spec (ws := ws_Ar_mayTake) B.pre w (List.mem_cons_of_mem _ h)
  have hown : s.vm.findClass R_Ar = some m.cls := findClass_of_methodNamed B.named
  have hlocks := B.notSynchronized
  subst hsz
  have hD := hD0.self (sz := s.heap.size)
  generalize hAe : va_A (wdX a cA u) s.heap.size = A at hD ⊢
  have hA : ∀ q : Nat, s.heap.size ≤ q → A q := fun q h => by rw [← hAe]; exact Or.inr h
  have hS : va_S A s.heap s.heap [] := va_S.rf
  have hI : tX (dC, dI) twCl [(cA, .int)] A s s.heap [] (wdX a cA u) := ⟨hK, hP, hD, hS⟩
  have hC : tC p s m meth c ([.ref (a 6), .ref (a 1), .int x2, .int x3] : List Value).toArray b_Ar_mayTake 4 (some .boolean) wsA R_Ar A := ⟨hx, hb, hr, hml, hown, hts, hlocks, hA, hN⟩
  have hl := lv_entry ([.ref (a 6), .ref (a 1), .int x2, .int x3]) (n := 4) (Nat.le_of_ble_eq_true rfl)
  rw [lg_entry_eq]
  generalize (lg_sl ([.ref (a 6), .ref (a 1), .int x2, .int x3]) ++ List.replicate (4 - (lg_sl ([.ref (a 6), .ref (a 1), .int x2, .int x3])).length) Slot.unset).toArray = ls at hl ⊢
  have hl : lv_has ls 4 [(0, .ref (a 6)), (1, .ref (a 1)), (2, .int x2), (3, .int x3)] := hl
  have hw : (vp_in x2 12 ∧ (((u.2 16 x2.toNatClampNeg) ≤ x3 → (post 1 u)) ∧ (¬ (u.2 16 x2.toNatClampNeg) ≤ x3 → (vp_in x2 12 ∧ (vp_in x2 12 ∧ ((x3 < ((u.2 15 x2.toNatClampNeg) + (u.2 0 x2.toNatClampNeg)) → (post 0 u)) ∧ (¬ x3 < ((u.2 15 x2.toNatClampNeg) + (u.2 0 x2.toNatClampNeg)) → (post 1 u)))))))) := hw
  refine lv_iload_n hx hb d_Ar_mayTake_0 rfl (lv_at hl 3 rfl) ?_
  refine lv_aload_n hx hb d_Ar_mayTake_1 rfl (lv_at hl 0 rfl) ?_
  refine va_get (D := (dC, dI)) (C := R_Ar) (T := F_Ar) (N := 2) hx hb hts in_Ar hown hI.1 hI.2.1 6 (wdX_o6 a cA _) rfl 1 (by decide) (hts _ wA_198) (fun _ h9 => h9) rfl d_Ar_mayTake_2 ?_
  refine lv_iload_n hx hb d_Ar_mayTake_5 rfl (lv_at hl 2 rfl) ?_
  obtain ⟨hi, hw⟩ := hw
  refine va_iald (D := (dC, dI)) hx hb hI.1 hI.2.1 26 0 (wdX_o26 a cA _) rfl hi d_Ar_mayTake_6 ?_
  refine lv_icmp_ge (tgt := 27) hx hb d_Ar_mayTake_7 (by decide) (fun hc => ?_) (fun hc => ?_)
  · have hw := hw.1 hc
    refine lv_iconst (v := 1) hx hb d_Ar_mayTake_27 (by decide) ?_
    refine lv_goto (tgt := 32) hx hb d_Ar_mayTake_28 (by decide) ?_
    exact tr_zret hx hb hr hlocks hI rfl hw d_Ar_mayTake_32
  · have hw := hw.2 hc
    refine lv_iload_n hx hb d_Ar_mayTake_10 rfl (lv_at hl 3 rfl) ?_
    refine lv_aload_n hx hb d_Ar_mayTake_11 rfl (lv_at hl 0 rfl) ?_
    refine va_get (D := (dC, dI)) (C := R_Ar) (T := F_Ar) (N := 2) hx hb hts in_Ar hown hI.1 hI.2.1 6 (wdX_o6 a cA _) rfl 0 (by decide) (hts _ wA_197) (fun _ h9 => h9) rfl d_Ar_mayTake_12 ?_
    refine lv_iload_n hx hb d_Ar_mayTake_15 rfl (lv_at hl 2 rfl) ?_
    obtain ⟨hi, hw⟩ := hw
    refine va_iald (D := (dC, dI)) hx hb hI.1 hI.2.1 25 0 (wdX_o25 a cA _) rfl hi d_Ar_mayTake_16 ?_
    refine lv_aload_n hx hb d_Ar_mayTake_17 rfl (lv_at hl 1 rfl) ?_
    refine va_get (D := (dC, dI)) (C := R_Ne) (T := F_Ne) (N := 5) hx hb hts in_Ne hown hI.1 hI.2.1 1 (wdX_o1 a cA _) rfl 1 (by decide) (hts _ wA_165) (fun _ h9 => h9) rfl d_Ar_mayTake_18 ?_
    refine lv_iload_n hx hb d_Ar_mayTake_21 rfl (lv_at hl 2 rfl) ?_
    obtain ⟨hi, hw⟩ := hw
    refine va_iald (D := (dC, dI)) hx hb hI.1 hI.2.1 10 0 (wdX_o10 a cA _) rfl hi d_Ar_mayTake_22 ?_
    refine lv_iadd hx hb d_Ar_mayTake_23 ?_
    refine lv_icmp_lt (tgt := 31) hx hb d_Ar_mayTake_24 (by decide) (fun hc => ?_) (fun hc => ?_)
    · have hw := hw.1 hc
      refine lv_iconst (v := 0) hx hb d_Ar_mayTake_31 (by decide) ?_
      exact tr_zret hx hb hr hlocks hI rfl hw d_Ar_mayTake_32
    · have hw := hw.2 hc
      refine lv_iconst (v := 1) hx hb d_Ar_mayTake_27 (by decide) ?_
      refine lv_goto (tgt := 32) hx hb d_Ar_mayTake_28 (by decide) ?_
      exact tr_zret hx hb hr hlocks hI rfl hw d_Ar_mayTake_32
def w_Ar_addOneDeparture2_2 (post : tS → Prop) : Nat → Int32 → tS → Prop
  | 0 => fun _ _ => False
  | n + 1 => fun x3 u => (((u.1 2) ≤ x3 → (post u)) ∧ (¬ (u.1 2) ≤ x3 → (w_Bo_rideAt (fun r18 u18 => (vp_in x3 280 ∧ (vp_in r18 40 ∧ (w_Ar_mayTake2 (fun r48 u48 => ((r48 = 0 → (w_Ar_addOneDeparture2_2 post n (x3 + 1) u48)) ∧ (¬ r48 = 0 → (vp_in r18 40 ∧ (vp_in r18 40 ∧ (w_Ar_arrive (fun u79 => (w_Ar_addOneDeparture2_2 post n (x3 + 1) u79)) (u48.2 2 r18.toNatClampNeg) ((u18.2 8 x3.toNatClampNeg) + (u48.2 4 r18.toNatClampNeg)) u48)))))) (u18.2 1 r18.toNatClampNeg) (u18.2 8 x3.toNatClampNeg) u18)))) x3 u)))
def w_Ar_addOneDeparture2 (post : tS → Prop) (u : tS) : Prop := (∃ k, w_Ar_addOneDeparture2_2 post k 0 u)
set_option maxRecDepth 100000 in
set_option maxHeartbeats 4000000 in
theorem k_Ar_addOneDeparture2_2 {p : Program} {l : Launch} {e : Env} {s : State} {m : MethodId} {args : Array Value} {below : List Frame} {meth : Method} {c : Code} {dC : Nat → ClassId} {dI : Nat → Nat → Nat} {cA : ClassId} {a : Nat → Nat} {A : Nat → Prop} (hC : tC p s m meth c args b_Ar_addOneDeparture 6 none wsA R_Ar A) (post : tS → Prop) : ∀ n : Nat, ∀ (x3 : Int32) (u : tS) (H : Heap) (locs : List Loc) (ls : Array Slot), w_Ar_addOneDeparture2_2 post n x3 u → tX (dC, dI) twCl [(cA, .int)] A s H locs (wdX a cA u) → lv_has ls 6 [(0, .ref (a 5)), (1, .ref (a 1)), (2, .ref (a 6)), (3, .int x3)] → W p l e ({ frames := 2, cells := 0, slots := 0, locals := 46 }) s m args below meth c H locs 0 0 (MQ below (va_Qv post (tB (dC, dI) twCl [(cA, .int)] A (wdX a cA)) A) args s 0 0 A) (F0 m 2 ls []) := by
  obtain ⟨hx, hb, hr, hml, hown, hts, hlocks, hA, hN⟩ := id hC
  intro n
  induction n with
  | zero => intro x3 u H locs ls hw; exact False.elim hw
  | succ n ih =>
    intro x3 u H locs ls hw hI hl
    refine lv_iload_n hx hb d_Ar_addOneDeparture_2 rfl (lv_at hl 3 rfl) ?_
    refine lv_aload_n hx hb d_Ar_addOneDeparture_3 rfl (lv_at hl 1 rfl) ?_
    refine va_get (D := (dC, dI)) (C := R_Ne) (T := F_Ne) (N := 5) hx hb hts in_Ne hown hI.1 hI.2.1 1 (wdX_o1 a cA _) rfl 3 (by decide) (hts _ wA_174) (fun _ h9 => h9) rfl d_Ar_addOneDeparture_4 ?_
    refine va_get (D := (dC, dI)) (C := R_Bo) (T := F_Bo) (N := 3) hx hb hts in_Bo hown hI.1 hI.2.1 3 (wdX_o3 a cA _) rfl 0 (by decide) (hts _ wA_114) (fun _ h9 => h9) rfl d_Ar_addOneDeparture_7 ?_
    refine lv_icmp_ge (tgt := 88) hx hb d_Ar_addOneDeparture_10 (by decide) (fun hc => ?_) (fun hc => ?_)
    · have hw := hw.1 hc
      exact tr_vret hx hb hr hlocks hI hw d_Ar_addOneDeparture_88
    · have hw := hw.2 hc
      refine lv_aload_n hx hb d_Ar_addOneDeparture_13 rfl (lv_at hl 1 rfl) ?_
      refine va_get (D := (dC, dI)) (C := R_Ne) (T := F_Ne) (N := 5) hx hb hts in_Ne hown hI.1 hI.2.1 1 (wdX_o1 a cA _) rfl 3 (by decide) (hts _ wA_174) (fun _ h9 => h9) rfl d_Ar_addOneDeparture_14 ?_
      refine lv_iload_n hx hb d_Ar_addOneDeparture_17 rfl (lv_at hl 3 rfl) ?_
      refine tr_goi (w := wdX a cA) hI hA (va_runV (As := [.int x3]) (rest := []) ⟨hx, hb, hml, hown, hts⟩ (c_Bo_rideAt l dC dI cA a _ _ _ _) (cwV 1 hts (wsA_goodV wA_408 wA_409 wA_410 wA_33 wA_411) rfl rfl rfl (by decide +kernel) ⟨Nat.le_of_ble_eq_true rfl, Nat.le_of_ble_eq_true rfl⟩) (tr_preV (ci := 3) (q0 := 3) hI rfl (wdX_o3 a cA _) rfl hN hw) rfl rfl hl.1 rfl (lv_room (Nat.le_of_ble_eq_true rfl)) d_Ar_addOneDeparture_18 ⟨Nat.zero_le _, Nat.zero_le _⟩) (fun r18 u18 H locs hw hI => ?_)
      refine lv_istore (lv' := [(4, .int r18), (0, .ref (a 5)), (1, .ref (a 1)), (2, .ref (a 6)), (3, .int x3)]) hx hb d_Ar_addOneDeparture_21 hl (by decide) rfl (fun ls hl => ?_)
      refine lv_aload_n hx hb d_Ar_addOneDeparture_23 rfl (lv_at hl 2 rfl) ?_
      refine va_get (D := (dC, dI)) (C := R_Ne) (T := F_Ne) (N := 5) hx hb hts in_Ne hown hI.1 hI.2.1 1 (wdX_o1 a cA _) rfl 3 (by decide) (hts _ wA_174) (fun _ h9 => h9) rfl d_Ar_addOneDeparture_24 ?_
      refine va_get (D := (dC, dI)) (C := R_Bo) (T := F_Bo) (N := 3) hx hb hts in_Bo hown hI.1 hI.2.1 3 (wdX_o3 a cA _) rfl 2 (by decide) (hts _ wA_119) (fun _ h9 => h9) rfl d_Ar_addOneDeparture_27 ?_
      refine lv_iload_n hx hb d_Ar_addOneDeparture_30 rfl (lv_at hl 4 rfl) ?_
      obtain ⟨hi, hw⟩ := hw
      refine va_iald (D := (dC, dI)) hx hb hI.1 hI.2.1 18 0 (wdX_o18 a cA _) rfl hi d_Ar_addOneDeparture_31 ?_
      refine lv_istore (lv' := [(5, .int (u18.2 8 x3.toNatClampNeg)), (4, .int r18), (0, .ref (a 5)), (1, .ref (a 1)), (2, .ref (a 6)), (3, .int x3)]) hx hb d_Ar_addOneDeparture_32 hl (by decide) rfl (fun ls hl => ?_)
      refine lv_aload_n hx hb d_Ar_addOneDeparture_34 rfl (lv_at hl 4 rfl) ?_
      refine lv_aload_n hx hb d_Ar_addOneDeparture_35 rfl (lv_at hl 3 rfl) ?_
      refine lv_aload_n hx hb d_Ar_addOneDeparture_36 rfl (lv_at hl 3 rfl) ?_
      refine va_get (D := (dC, dI)) (C := R_Ne) (T := F_Ne) (N := 5) hx hb hts in_Ne hown hI.1 hI.2.1 1 (wdX_o1 a cA _) rfl 2 (by decide) (hts _ wA_170) (fun _ h9 => h9) rfl d_Ar_addOneDeparture_37 ?_
      refine va_get (D := (dC, dI)) (C := R_Ri) (T := F_Ri) (N := 7) hx hb hts in_Ri hown hI.1 hI.2.1 2 (wdX_o2 a cA _) rfl 1 (by decide) (hts _ wA_71) (fun _ h9 => h9) rfl d_Ar_addOneDeparture_40 ?_
      refine lv_iload hx hb d_Ar_addOneDeparture_43 (lv_at hl 1 rfl) ?_
      obtain ⟨hi, hw⟩ := hw
      refine va_iald (D := (dC, dI)) hx hb hI.1 hI.2.1 11 0 (wdX_o11 a cA _) rfl hi d_Ar_addOneDeparture_45 ?_
      refine lv_iload hx hb d_Ar_addOneDeparture_46 (lv_at hl 0 rfl) ?_
      refine tr_goi (w := wdX a cA) hI hA (va_runV (As := [.ref (a 1), .int (u18.2 1 r18.toNatClampNeg), .int (u18.2 8 x3.toNatClampNeg)]) (rest := []) ⟨hx, hb, hml, hown, hts⟩ (c_Ar_mayTake2 l dC dI cA a _ _ _ _ _) (cwV 3 hts (wsA_goodV wA_412 wA_413 wA_414 wA_36 wA_415) rfl rfl rfl (by decide +kernel) ⟨Nat.le_of_ble_eq_true rfl, Nat.le_of_ble_eq_true rfl⟩) (tr_preV (ci := 5) (q0 := 6) hI rfl (wdX_o6 a cA _) rfl hN hw) rfl rfl hl.1 rfl (lv_room (Nat.le_of_ble_eq_true rfl)) d_Ar_addOneDeparture_48 ⟨Nat.zero_le _, Nat.zero_le _⟩) (fun r48 u48 H locs hw hI => ?_)
      refine lv_if_eq (tgt := 82) hx hb d_Ar_addOneDeparture_51 (by decide) (fun hc => ?_) (fun hc => ?_)
      · have hw := hw.1 hc
        refine lv_iinc (v := (x3 + 1)) (lv' := [(3, .int (x3 + 1)), (5, .int (u18.2 8 x3.toNatClampNeg)), (4, .int r18), (0, .ref (a 5)), (1, .ref (a 1)), (2, .ref (a 6))]) hx hb d_Ar_addOneDeparture_82 hl (k := 5) rfl rfl (by decide) rfl (fun ls hl => ?_)
        refine lv_goto (tgt := 2) hx hb d_Ar_addOneDeparture_85 (by decide) ?_
        exact ih _ _ _ _ ls hw hI (lv_sub hl [3, 4, 5, 0] rfl)
      · have hw := hw.2 hc
        refine lv_aload_n hx hb d_Ar_addOneDeparture_54 rfl (lv_at hl 2 rfl) ?_
        refine lv_aload_n hx hb d_Ar_addOneDeparture_55 rfl (lv_at hl 3 rfl) ?_
        refine lv_aload_n hx hb d_Ar_addOneDeparture_56 rfl (lv_at hl 3 rfl) ?_
        refine va_get (D := (dC, dI)) (C := R_Ne) (T := F_Ne) (N := 5) hx hb hts in_Ne hown hI.1 hI.2.1 1 (wdX_o1 a cA _) rfl 2 (by decide) (hts _ wA_170) (fun _ h9 => h9) rfl d_Ar_addOneDeparture_57 ?_
        refine va_get (D := (dC, dI)) (C := R_Ri) (T := F_Ri) (N := 7) hx hb hts in_Ri hown hI.1 hI.2.1 2 (wdX_o2 a cA _) rfl 2 (by decide) (hts _ wA_75) (fun _ h9 => h9) rfl d_Ar_addOneDeparture_60 ?_
        refine lv_iload hx hb d_Ar_addOneDeparture_63 (lv_at hl 1 rfl) ?_
        obtain ⟨hi, hw⟩ := hw
        refine va_iald (D := (dC, dI)) hx hb hI.1 hI.2.1 12 0 (wdX_o12 a cA _) rfl hi d_Ar_addOneDeparture_65 ?_
        refine lv_iload hx hb d_Ar_addOneDeparture_66 (lv_at hl 0 rfl) ?_
        refine lv_aload_n hx hb d_Ar_addOneDeparture_68 rfl (lv_at hl 3 rfl) ?_
        refine va_get (D := (dC, dI)) (C := R_Ne) (T := F_Ne) (N := 5) hx hb hts in_Ne hown hI.1 hI.2.1 1 (wdX_o1 a cA _) rfl 2 (by decide) (hts _ wA_170) (fun _ h9 => h9) rfl d_Ar_addOneDeparture_69 ?_
        refine va_get (D := (dC, dI)) (C := R_Ri) (T := F_Ri) (N := 7) hx hb hts in_Ri hown hI.1 hI.2.1 2 (wdX_o2 a cA _) rfl 4 (by decide) (hts _ wA_82) (fun _ h9 => h9) rfl d_Ar_addOneDeparture_72 ?_
        refine lv_iload hx hb d_Ar_addOneDeparture_75 (lv_at hl 1 rfl) ?_
        obtain ⟨hi, hw⟩ := hw
        refine va_iald (D := (dC, dI)) hx hb hI.1 hI.2.1 14 0 (wdX_o14 a cA _) rfl hi d_Ar_addOneDeparture_77 ?_
        refine lv_iadd hx hb d_Ar_addOneDeparture_78 ?_
        refine tr_gov (w := wdX a cA) hI hA (va_runV (As := [.ref (a 1), .int (u48.2 2 r18.toNatClampNeg), .int ((u18.2 8 x3.toNatClampNeg) + (u48.2 4 r18.toNatClampNeg))]) (rest := []) ⟨hx, hb, hml, hown, hts⟩ (c_Ar_arrive l dC dI cA a _ _ _ _ _) (cwV 3 hts (wsA_goodV wA_416 wA_418 wA_2 wA_36 wA_419) rfl rfl rfl (by decide +kernel) ⟨Nat.le_of_ble_eq_true rfl, Nat.le_of_ble_eq_true rfl⟩) (tr_preV (ci := 5) (q0 := 5) hI rfl (wdX_o5 a cA _) rfl hN hw) rfl rfl hl.1 rfl (lv_room (Nat.le_of_ble_eq_true rfl)) d_Ar_addOneDeparture_79 ⟨Nat.zero_le _, Nat.zero_le _⟩) (fun u79 H locs hw hI => ?_)
        refine lv_iinc (v := (x3 + 1)) (lv' := [(3, .int (x3 + 1)), (5, .int (u18.2 8 x3.toNatClampNeg)), (4, .int r18), (0, .ref (a 5)), (1, .ref (a 1)), (2, .ref (a 6))]) hx hb d_Ar_addOneDeparture_82 hl (k := 5) rfl rfl (by decide) rfl (fun ls hl => ?_)
        refine lv_goto (tgt := 2) hx hb d_Ar_addOneDeparture_85 (by decide) ?_
        exact ih _ _ _ _ ls hw hI (lv_sub hl [3, 4, 5, 0] rfl)
set_option maxRecDepth 100000 in
set_option maxHeartbeats 4000000 in
theorem c_Ar_addOneDeparture2 (l : Launch) (dC : Nat → ClassId) (dI : Nat → Nat → Nat) (cA : ClassId) (a : Nat → Nat) (u : tS) (post : tS → Prop) (sz : Nat) : Met l y_Ar_addOneDeparture ws_Ar_addOneDeparture ({ frames := 2, cells := 0, slots := 0, locals := 46 }) (va_Pc [.ref (a 5), .ref (a 1), .ref (a 6)] (tP (dC, dI) twCl [(cA, .int)] (wdX a cA) u sz (w_Ar_addOneDeparture2 post u))) (va_Qv post (tB (dC, dI) twCl [(cA, .int)] (va_A (wdX a cA u) sz) (wdX a cA)) (va_A (wdX a cA u) sz)) 0 0 (va_A (wdX a cA u) sz) := by
  refine Met.ofW (cc := b_Ar_addOneDeparture) (maxL := 6) (ret := none) (by decide) rfl ?_
  intro p e s m args below meth c s₁ B hml hv
  obtain ⟨rfl, hsz, hP, hK, hD0, hN, hw⟩ := hv
  have hx := B.exec
  have hb := B.bytes
  have hr := B.returns
  have hts : ∀ w ∈ wsA, w.before _ s = true := fun w h => atoms_spec (ws := ws_Ar_addOneDeparture) B.pre w (List.mem_cons_of_mem _ h)
  have hown : s.vm.findClass R_Ar = some m.cls := findClass_of_methodNamed B.named
  have hlocks := B.notSynchronized
  subst hsz
  have hD := hD0.self (sz := s.heap.size)
  generalize hAe : va_A (wdX a cA u) s.heap.size = A at hD ⊢
  have hA : ∀ q : Nat, s.heap.size ≤ q → A q := fun q h => by rw [← hAe]; exact Or.inr h
  have hS : va_S A s.heap s.heap [] := va_S.rf
  have hI : tX (dC, dI) twCl [(cA, .int)] A s s.heap [] (wdX a cA u) := ⟨hK, hP, hD, hS⟩
  have hC : tC p s m meth c ([.ref (a 5), .ref (a 1), .ref (a 6)] : List Value).toArray b_Ar_addOneDeparture 6 none wsA R_Ar A := ⟨hx, hb, hr, hml, hown, hts, hlocks, hA, hN⟩
  have hl := lv_entry ([.ref (a 5), .ref (a 1), .ref (a 6)]) (n := 6) (Nat.le_of_ble_eq_true rfl)
  rw [lg_entry_eq]
  generalize (lg_sl ([.ref (a 5), .ref (a 1), .ref (a 6)]) ++ List.replicate (6 - (lg_sl ([.ref (a 5), .ref (a 1), .ref (a 6)])).length) Slot.unset).toArray = ls at hl ⊢
  have hl : lv_has ls 6 [(0, .ref (a 5)), (1, .ref (a 1)), (2, .ref (a 6))] := hl
  have hw : (∃ k, w_Ar_addOneDeparture2_2 post k 0 u) := hw
  refine lv_iconst (v := 0) hx hb d_Ar_addOneDeparture_0 (by decide) ?_
  refine lv_istore_n (lv' := [(3, .int 0), (0, .ref (a 5)), (1, .ref (a 1)), (2, .ref (a 6))]) hx hb d_Ar_addOneDeparture_1 rfl hl (by decide) rfl (fun ls hl => ?_)
  obtain ⟨k, hw⟩ := hw
  exact k_Ar_addOneDeparture2_2 hC post k _ _ _ _ ls hw hI (lv_sub hl [1, 2, 3, 0] rfl)
def w_T_fewest_46 (post : Int32 → tS → Prop) : Nat → Int32 → Int32 → Int32 → tS → Prop
  | 0 => fun _ _ _ _ => False
  | n + 1 => fun x2 x4 x5 u => ((12 < x5 → (post (-1) u)) ∧ (¬ 12 < x5 → (w_Ar_first (fun r58 u58 => ((x4 < r58 → (w_Ar_copy (fun u77 => (w_Ar_addOneDeparture2 (fun u92 => (w_T_fewest_46 post n x2 x4 (x5 + 1) u92)) u77)) u58)) ∧ (¬ x4 < r58 → (post x5 u58)))) x2 u)))
def w_T_fewest (post : Int32 → tS → Prop) (x1 : Int32) (x2 : Int32) (x3 : Int32) (x4 : Int32) (u : tS) : Prop := (w_Ne_hasStops (fun r6 u6 => ((r6 = 0 → (post (-2) u6)) ∧ (¬ r6 = 0 → (w_T_isTime (fun r13 u13 => ((r13 = 0 → (post (-2) u13)) ∧ (¬ r13 = 0 → (w_T_isBy (fun r21 u21 => ((r21 = 0 → (post (-2) u21)) ∧ (¬ r21 = 0 → (w_Ar_begin (fun u40 => (∃ k, w_T_fewest_46 post k x2 x4 0 u40)) x1 x3 u21)))) x4 u13)))) x3 u6)))) x1 x2 u)
set_option maxRecDepth 100000 in
set_option maxHeartbeats 4000000 in
theorem k_T_fewest_46 {p : Program} {l : Launch} {e : Env} {s : State} {m : MethodId} {args : Array Value} {below : List Frame} {meth : Method} {c : Code} {dC : Nat → ClassId} {dI : Nat → Nat → Nat} {cA : ClassId} {a : Nat → Nat} {A : Nat → Prop} (hC : tC p s m meth c args b_T_fewest 6 (some .int) wsA R_T A) (post : Int32 → tS → Prop) : ∀ n : Nat, ∀ (x2 x4 x5 : Int32) (u : tS) (H : Heap) (locs : List Loc) (ls : Array Slot), w_T_fewest_46 post n x2 x4 x5 u → tX (dC, dI) twCl [(cA, .int)] A s H locs (wdX a cA u) → lv_has ls 6 [(0, .ref (a 0)), (2, .int x2), (4, .int x4), (5, .int x5)] → W p l e ({ frames := 3, cells := 0, slots := 0, locals := 71 }) s m args below meth c H locs 0 0 (MQ below (va_Qi post (tB (dC, dI) twCl [(cA, .int)] A (wdX a cA)) A) args s 0 0 A) (F0 m 46 ls []) := by
  obtain ⟨hx, hb, hr, hml, hown, hts, hlocks, hA, hN⟩ := id hC
  intro n
  induction n with
  | zero => intro x2 x4 x5 u H locs ls hw; exact False.elim hw
  | succ n ih =>
    intro x2 x4 x5 u H locs ls hw hI hl
    refine lv_iload hx hb d_T_fewest_46 (lv_at hl 3 rfl) ?_
    refine lv_bipush (v := 12) hx hb d_T_fewest_48 (by decide) ?_
    refine lv_icmp_gt (tgt := 101) hx hb d_T_fewest_50 (by decide) (fun hc => ?_) (fun hc => ?_)
    · have hw := hw.1 hc
      refine lv_iconst (v := (-1)) hx hb d_T_fewest_101 (by decide) ?_
      exact tr_iret hx hb hr hlocks hI hw d_T_fewest_102
    · have hw := hw.2 hc
      refine lv_aload_n hx hb d_T_fewest_53 rfl (lv_at hl 0 rfl) ?_
      refine va_get (D := (dC, dI)) (C := R_T) (T := F_T) (N := 6) hx hb hts in_T hown hI.1 hI.2.1 0 (wdX_o0 a cA _) rfl 1 (by decide) (hts _ wA_265) (fun _ h9 => h9) rfl d_T_fewest_54 ?_
      refine lv_iload_n hx hb d_T_fewest_57 rfl (lv_at hl 1 rfl) ?_
      refine tr_goi (w := wdX a cA) hI hA (va_runV (As := [.int x2]) (rest := []) ⟨hx, hb, hml, hown, hts⟩ (c_Ar_first l dC dI cA a _ _ _ _) (cwV 1 hts (wsA_goodV wA_421 wA_422 wA_423 wA_36 wA_424) rfl rfl rfl (by decide +kernel) ⟨Nat.le_of_ble_eq_true rfl, Nat.le_of_ble_eq_true rfl⟩) (tr_preV (ci := 5) (q0 := 5) hI rfl (wdX_o5 a cA _) rfl hN hw) rfl rfl hl.1 rfl (lv_room (Nat.le_of_ble_eq_true rfl)) d_T_fewest_58 ⟨Nat.zero_le _, Nat.zero_le _⟩) (fun r58 u58 H locs hw hI => ?_)
      refine lv_iload hx hb d_T_fewest_61 (lv_at hl 2 rfl) ?_
      refine lv_icmp_gt (tgt := 69) hx hb d_T_fewest_63 (by decide) (fun hc => ?_) (fun hc => ?_)
      · have hw := hw.1 hc
        refine lv_aload_n hx hb d_T_fewest_69 rfl (lv_at hl 0 rfl) ?_
        refine va_get (D := (dC, dI)) (C := R_T) (T := F_T) (N := 6) hx hb hts in_T hown hI.1 hI.2.1 0 (wdX_o0 a cA _) rfl 2 (by decide) (hts _ wA_266) (fun _ h9 => h9) rfl d_T_fewest_70 ?_
        refine lv_aload_n hx hb d_T_fewest_73 rfl (lv_at hl 0 rfl) ?_
        refine va_get (D := (dC, dI)) (C := R_T) (T := F_T) (N := 6) hx hb hts in_T hown hI.1 hI.2.1 0 (wdX_o0 a cA _) rfl 1 (by decide) (hts _ wA_265) (fun _ h9 => h9) rfl d_T_fewest_74 ?_
        refine tr_gov (w := wdX a cA) hI hA (va_runV (As := [.ref (a 5)]) (rest := []) ⟨hx, hb, hml, hown, hts⟩ (c_Ar_copy l dC dI cA a _ _ _) (cwV 1 hts (wsA_goodV wA_468 wA_469 wA_470 wA_36 wA_471) rfl rfl rfl (by decide +kernel) ⟨Nat.le_of_ble_eq_true rfl, Nat.le_of_ble_eq_true rfl⟩) (tr_preV (ci := 5) (q0 := 6) hI rfl (wdX_o6 a cA _) rfl hN hw) rfl rfl hl.1 rfl (lv_room (Nat.le_of_ble_eq_true rfl)) d_T_fewest_77 ⟨Nat.zero_le _, Nat.zero_le _⟩) (fun u77 H locs hw hI => ?_)
        refine lv_aload_n hx hb d_T_fewest_80 rfl (lv_at hl 0 rfl) ?_
        refine va_get (D := (dC, dI)) (C := R_T) (T := F_T) (N := 6) hx hb hts in_T hown hI.1 hI.2.1 0 (wdX_o0 a cA _) rfl 1 (by decide) (hts _ wA_265) (fun _ h9 => h9) rfl d_T_fewest_81 ?_
        refine lv_aload_n hx hb d_T_fewest_84 rfl (lv_at hl 0 rfl) ?_
        refine va_get (D := (dC, dI)) (C := R_T) (T := F_T) (N := 6) hx hb hts in_T hown hI.1 hI.2.1 0 (wdX_o0 a cA _) rfl 0 (by decide) (hts _ wA_264) (fun _ h9 => h9) rfl d_T_fewest_85 ?_
        refine lv_aload_n hx hb d_T_fewest_88 rfl (lv_at hl 0 rfl) ?_
        refine va_get (D := (dC, dI)) (C := R_T) (T := F_T) (N := 6) hx hb hts in_T hown hI.1 hI.2.1 0 (wdX_o0 a cA _) rfl 2 (by decide) (hts _ wA_266) (fun _ h9 => h9) rfl d_T_fewest_89 ?_
        refine tr_gov (w := wdX a cA) hI hA (va_runV (As := [.ref (a 1), .ref (a 6)]) (rest := []) ⟨hx, hb, hml, hown, hts⟩ (c_Ar_addOneDeparture2 l dC dI cA a _ _ _) (cwV 2 hts (wsA_goodV wA_475 wA_405 wA_406 wA_36 wA_407) rfl rfl rfl (by decide +kernel) ⟨Nat.le_of_ble_eq_true rfl, Nat.le_of_ble_eq_true rfl⟩) (tr_preV (ci := 5) (q0 := 5) hI rfl (wdX_o5 a cA _) rfl hN hw) rfl rfl hl.1 rfl (lv_room (Nat.le_of_ble_eq_true rfl)) d_T_fewest_92 ⟨Nat.zero_le _, Nat.zero_le _⟩) (fun u92 H locs hw hI => ?_)
        refine lv_iinc (v := (x5 + 1)) (lv' := [(5, .int (x5 + 1)), (0, .ref (a 0)), (2, .int x2), (4, .int x4)]) hx hb d_T_fewest_95 hl (k := 3) rfl rfl (by decide) rfl (fun ls hl => ?_)
        refine lv_goto (tgt := 46) hx hb d_T_fewest_98 (by decide) ?_
        exact ih _ _ _ _ _ _ ls hw hI (lv_sub hl [1, 2, 3, 0] rfl)
      · have hw := hw.2 hc
        refine lv_iload hx hb d_T_fewest_66 (lv_at hl 3 rfl) ?_
        exact tr_iret hx hb hr hlocks hI hw d_T_fewest_68
set_option maxRecDepth 100000 in
set_option maxHeartbeats 4000000 in
theorem c_T_fewest (l : Launch) (dC : Nat → ClassId) (dI : Nat → Nat → Nat) (cA : ClassId) (a : Nat → Nat) (u : tS) (x1 : Int32) (x2 : Int32) (x3 : Int32) (x4 : Int32) (post : Int32 → tS → Prop) (sz : Nat) : Met l y_T_fewest ws_T_fewest ({ frames := 3, cells := 0, slots := 0, locals := 71 }) (va_Pc [.ref (a 0), .int x1, .int x2, .int x3, .int x4] (tP (dC, dI) twCl [(cA, .int)] (wdX a cA) u sz (w_T_fewest post x1 x2 x3 x4 u))) (va_Qi post (tB (dC, dI) twCl [(cA, .int)] (va_A (wdX a cA u) sz) (wdX a cA)) (va_A (wdX a cA u) sz)) 0 0 (va_A (wdX a cA u) sz) := by
  refine Met.ofW (cc := b_T_fewest) (maxL := 6) (ret := (some .int)) (by decide) rfl ?_
  intro p e s m args below meth c s₁ B hml hv
  obtain ⟨rfl, hsz, hP, hK, hD0, hN, hw⟩ := hv
  have hx := B.exec
  have hb := B.bytes
  have hr := B.returns
  have hts : ∀ w ∈ wsA, w.before _ s = true := fun w h => atoms_spec (ws := ws_T_fewest) B.pre w (List.mem_cons_of_mem _ h)
  have hown : s.vm.findClass R_T = some m.cls := findClass_of_methodNamed B.named
  have hlocks := B.notSynchronized
  subst hsz
  have hD := hD0.self (sz := s.heap.size)
  generalize hAe : va_A (wdX a cA u) s.heap.size = A at hD ⊢
  have hA : ∀ q : Nat, s.heap.size ≤ q → A q := fun q h => by rw [← hAe]; exact Or.inr h
  have hS : va_S A s.heap s.heap [] := va_S.rf
  have hI : tX (dC, dI) twCl [(cA, .int)] A s s.heap [] (wdX a cA u) := ⟨hK, hP, hD, hS⟩
  have hC : tC p s m meth c ([.ref (a 0), .int x1, .int x2, .int x3, .int x4] : List Value).toArray b_T_fewest 6 (some .int) wsA R_T A := ⟨hx, hb, hr, hml, hown, hts, hlocks, hA, hN⟩
  have hl := lv_entry ([.ref (a 0), .int x1, .int x2, .int x3, .int x4]) (n := 6) (Nat.le_of_ble_eq_true rfl)
  rw [lg_entry_eq]
  generalize (lg_sl ([.ref (a 0), .int x1, .int x2, .int x3, .int x4]) ++ List.replicate (6 - (lg_sl ([.ref (a 0), .int x1, .int x2, .int x3, .int x4])).length) Slot.unset).toArray = ls at hl ⊢
  have hl : lv_has ls 6 [(0, .ref (a 0)), (1, .int x1), (2, .int x2), (3, .int x3), (4, .int x4)] := hl
  have hw : (w_Ne_hasStops (fun r6 u6 => ((r6 = 0 → (post (-2) u6)) ∧ (¬ r6 = 0 → (w_T_isTime (fun r13 u13 => ((r13 = 0 → (post (-2) u13)) ∧ (¬ r13 = 0 → (w_T_isBy (fun r21 u21 => ((r21 = 0 → (post (-2) u21)) ∧ (¬ r21 = 0 → (w_Ar_begin (fun u40 => (∃ k, w_T_fewest_46 post k x2 x4 0 u40)) x1 x3 u21)))) x4 u13)))) x3 u6)))) x1 x2 u) := hw
  refine lv_aload_n hx hb d_T_fewest_0 rfl (lv_at hl 0 rfl) ?_
  refine va_get (D := (dC, dI)) (C := R_T) (T := F_T) (N := 6) hx hb hts in_T hown hI.1 hI.2.1 0 (wdX_o0 a cA _) rfl 0 (by decide) (hts _ wA_264) (fun _ h9 => h9) rfl d_T_fewest_1 ?_
  refine lv_iload_n hx hb d_T_fewest_4 rfl (lv_at hl 1 rfl) ?_
  refine lv_iload_n hx hb d_T_fewest_5 rfl (lv_at hl 2 rfl) ?_
  refine tr_goi (w := wdX a cA) hI hA (va_runV (As := [.int x1, .int x2]) (rest := []) ⟨hx, hb, hml, hown, hts⟩ (c_Ne_hasStops l dC dI cA a _ _ _ _ _) (cwV 2 hts (wsA_goodV wA_315 wA_316 wA_317 wA_31 wA_318) rfl rfl rfl (by decide +kernel) ⟨Nat.le_of_ble_eq_true rfl, Nat.le_of_ble_eq_true rfl⟩) (tr_preV (ci := 1) (q0 := 1) hI rfl (wdX_o1 a cA _) rfl hN hw) rfl rfl hl.1 rfl (lv_room (Nat.le_of_ble_eq_true rfl)) d_T_fewest_6 ⟨Nat.zero_le _, Nat.zero_le _⟩) (fun r6 u6 H locs hw hI => ?_)
  refine lv_if_eq (tgt := 27) hx hb d_T_fewest_9 (by decide) (fun hc => ?_) (fun hc => ?_)
  · have hw := hw.1 hc
    refine lv_bipush (v := (-2)) hx hb d_T_fewest_27 (by decide) ?_
    exact tr_iret hx hb hr hlocks hI hw d_T_fewest_29
  · have hw := hw.2 hc
    refine lv_iload_n hx hb d_T_fewest_12 rfl (lv_at hl 3 rfl) ?_
    refine tr_goi (w := wdX a cA) hI hA (va_runS (As := [.int x3]) (rest := []) ⟨hx, hb, hml, hown, hts⟩ (c_T_isTime l dC dI cA a _ _ _ _) ⟨callB_of 1 hts (wsA_good wA_392) rfl rfl rfl (hts _ wA_30) (hts _ wA_390) (by decide +kernel) ⟨Nat.le_of_ble_eq_true rfl, Nat.le_of_ble_eq_true rfl⟩, hts _ wA_391⟩ (tr_preS hI hN hw) rfl rfl hl.1 rfl (lv_room (Nat.le_of_ble_eq_true rfl)) d_T_fewest_13 ⟨Nat.zero_le _, Nat.zero_le _⟩) (fun r13 u13 H locs hw hI => ?_)
    refine lv_if_eq (tgt := 27) hx hb d_T_fewest_16 (by decide) (fun hc => ?_) (fun hc => ?_)
    · have hw := hw.1 hc
      refine lv_bipush (v := (-2)) hx hb d_T_fewest_27 (by decide) ?_
      exact tr_iret hx hb hr hlocks hI hw d_T_fewest_29
    · have hw := hw.2 hc
      refine lv_iload hx hb d_T_fewest_19 (lv_at hl 4 rfl) ?_
      refine tr_goi (w := wdX a cA) hI hA (va_runS (As := [.int x4]) (rest := []) ⟨hx, hb, hml, hown, hts⟩ (c_T_isBy l dC dI cA a _ _ _ _) ⟨callB_of 1 hts (wsA_good wA_435) rfl rfl rfl (hts _ wA_30) (hts _ wA_433) (by decide +kernel) ⟨Nat.le_of_ble_eq_true rfl, Nat.le_of_ble_eq_true rfl⟩, hts _ wA_434⟩ (tr_preS hI hN hw) rfl rfl hl.1 rfl (lv_room (Nat.le_of_ble_eq_true rfl)) d_T_fewest_21 ⟨Nat.zero_le _, Nat.zero_le _⟩) (fun r21 u21 H locs hw hI => ?_)
      refine lv_if_ne (tgt := 30) hx hb d_T_fewest_24 (by decide) (fun hc => ?_) (fun hc => ?_)
      · have hw := hw.2 hc
        refine lv_aload_n hx hb d_T_fewest_30 rfl (lv_at hl 0 rfl) ?_
        refine va_get (D := (dC, dI)) (C := R_T) (T := F_T) (N := 6) hx hb hts in_T hown hI.1 hI.2.1 0 (wdX_o0 a cA _) rfl 1 (by decide) (hts _ wA_265) (fun _ h9 => h9) rfl d_T_fewest_31 ?_
        refine lv_aload_n hx hb d_T_fewest_34 rfl (lv_at hl 0 rfl) ?_
        refine va_get (D := (dC, dI)) (C := R_T) (T := F_T) (N := 6) hx hb hts in_T hown hI.1 hI.2.1 0 (wdX_o0 a cA _) rfl 0 (by decide) (hts _ wA_264) (fun _ h9 => h9) rfl d_T_fewest_35 ?_
        refine lv_iload_n hx hb d_T_fewest_38 rfl (lv_at hl 1 rfl) ?_
        refine lv_iload_n hx hb d_T_fewest_39 rfl (lv_at hl 3 rfl) ?_
        refine tr_gov (w := wdX a cA) hI hA (va_runV (As := [.ref (a 1), .int x1, .int x3]) (rest := []) ⟨hx, hb, hml, hown, hts⟩ (c_Ar_begin l dC dI cA a _ _ _ _ _) (cwV 3 hts (wsA_goodV wA_467 wA_398 wA_399 wA_36 wA_400) rfl rfl rfl (by decide +kernel) ⟨Nat.le_of_ble_eq_true rfl, Nat.le_of_ble_eq_true rfl⟩) (tr_preV (ci := 5) (q0 := 5) hI rfl (wdX_o5 a cA _) rfl hN hw) rfl rfl hl.1 rfl (lv_room (Nat.le_of_ble_eq_true rfl)) d_T_fewest_40 ⟨Nat.zero_le _, Nat.zero_le _⟩) (fun u40 H locs hw hI => ?_)
        refine lv_iconst (v := 0) hx hb d_T_fewest_43 (by decide) ?_
        refine lv_istore (lv' := [(5, .int 0), (0, .ref (a 0)), (1, .int x1), (2, .int x2), (3, .int x3), (4, .int x4)]) hx hb d_T_fewest_44 hl (by decide) rfl (fun ls hl => ?_)
        obtain ⟨k, hw⟩ := hw
        exact k_T_fewest_46 hC post k _ _ _ _ _ _ ls hw hI (lv_sub hl [1, 3, 5, 0] rfl)
      · have hw := hw.1 hc
        refine lv_bipush (v := (-2)) hx hb d_T_fewest_27 (by decide) ?_
        exact tr_iret hx hb hr hlocks hI hw d_T_fewest_29
