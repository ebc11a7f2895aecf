def w_Bo_putRide_2 (post : tS → Prop) : Nat → Int32 → Int32 → tS → Prop
  | 0 => fun _ _ _ => False
  | n + 1 => fun x2 x3 u => ((7 ≤ x3 → (post u)) ∧ (¬ 7 ≤ x3 → (w_Bo_putIn (fun u16 => (w_Bo_putRide_2 post n x2 (x3 + 1) u16)) ((x2 * 7) + x3) u)))
def w_Bo_putRide (post : tS → Prop) (x2 : Int32) (u : tS) : Prop := (∃ k, w_Bo_putRide_2 post k x2 0 u)
set_option maxRecDepth 100000 in
set_option maxHeartbeats 4000000 in
theorem k_Bo_putRide_2 {p : Program} {l : Launch} {e : Env} {s : State} {m : MethodId} {args : Array Value} {below : List Frame} {meth : Method} {c : Code} {dC : Nat → ClassId} {dI : Nat → Nat → Nat} {cA : ClassId} {a : Nat → Nat} {A : Nat → Prop} (hC : tC p s m meth c args b_Bo_putRide 4 none wsA R_Bo A) (post : tS → Prop) : ∀ n : Nat, ∀ (x2 x3 : Int32) (u : tS) (H : Heap) (locs : List Loc) (ls : Array Slot), w_Bo_putRide_2 post n x2 x3 u → tX (dC, dI) twCl [(cA, .int)] A s H locs (wdX a cA u) → lv_has ls 4 [(0, .ref (a 3)), (1, .ref (a 2)), (2, .int x2), (3, .int x3)] → W p l e ({ frames := 2, cells := 0, slots := 0, locals := 47 }) s m args below meth c H locs 0 0 (MQ below (va_Qv post (tB (dC, dI) twCl [(cA, .int)] A (wdX a cA)) A) args s 0 0 A) (F0 m 2 ls []) := by
  obtain ⟨hx, hb, hr, hml, hown, hts, hlocks, hA, hN⟩ := id hC
  intro n
  induction n with
  | zero => intro x2 x3 u H locs ls hw; exact False.elim hw
  | succ n ih =>
    intro x2 x3 u H locs ls hw hI hl
    refine lv_iload_n hx hb d_Bo_putRide_2 rfl (lv_at hl 3 rfl) ?_
    refine lv_bipush (v := 7) hx hb d_Bo_putRide_3 (by decide) ?_
    refine lv_icmp_ge (tgt := 25) hx hb d_Bo_putRide_5 (by decide) (fun hc => ?_) (fun hc => ?_)
    · have hw := hw.1 hc
      exact tr_vret hx hb hr hlocks hI hw d_Bo_putRide_25
    · have hw := hw.2 hc
      refine lv_aload_n hx hb d_Bo_putRide_8 rfl (lv_at hl 0 rfl) ?_
      refine lv_aload_n hx hb d_Bo_putRide_9 rfl (lv_at hl 1 rfl) ?_
      refine lv_iload_n hx hb d_Bo_putRide_10 rfl (lv_at hl 2 rfl) ?_
      refine lv_bipush (v := 7) hx hb d_Bo_putRide_11 (by decide) ?_
      refine lv_imul hx hb d_Bo_putRide_13 ?_
      refine lv_iload_n hx hb d_Bo_putRide_14 rfl (lv_at hl 3 rfl) ?_
      refine lv_iadd hx hb d_Bo_putRide_15 ?_
      refine tr_gov (w := wdX a cA) hI hA (va_runV (As := [.ref (a 2), .int ((x2 * 7) + x3)]) (rest := []) ⟨hx, hb, hml, hown, hts⟩ (c_Bo_putIn l dC dI cA a _ _ _ _) (cwV 2 hts (wsA_goodV wA_332 wA_333 wA_334 wA_33 wA_335) rfl rfl rfl (by decide +kernel) ⟨Nat.le_of_ble_eq_true rfl, Nat.le_of_ble_eq_true rfl⟩) (tr_preV (ci := 3) (q0 := 3) hI rfl (wdX_o3 a cA _) rfl hN hw) rfl rfl hl.1 rfl (lv_room (Nat.le_of_ble_eq_true rfl)) d_Bo_putRide_16 ⟨Nat.zero_le _, Nat.zero_le _⟩) (fun u16 H locs hw hI => ?_)
      refine lv_iinc (v := (x3 + 1)) (lv' := [(3, .int (x3 + 1)), (0, .ref (a 3)), (1, .ref (a 2)), (2, .int x2)]) hx hb d_Bo_putRide_19 hl (k := 3) rfl rfl (by decide) rfl (fun ls hl => ?_)
      refine lv_goto (tgt := 2) hx hb d_Bo_putRide_22 (by decide) ?_
      exact ih _ _ _ _ _ ls hw hI (lv_sub hl [1, 2, 3, 0] rfl)
set_option maxRecDepth 100000 in
set_option maxHeartbeats 4000000 in
theorem c_Bo_putRide (l : Launch) (dC : Nat → ClassId) (dI : Nat → Nat → Nat) (cA : ClassId) (a : Nat → Nat) (u : tS) (x2 : Int32) (post : tS → Prop) (sz : Nat) : Met l y_Bo_putRide ws_Bo_putRide ({ frames := 2, cells := 0, slots := 0, locals := 47 }) (va_Pc [.ref (a 3), .ref (a 2), .int x2] (tP (dC, dI) twCl [(cA, .int)] (wdX a cA) u sz (w_Bo_putRide post x2 u))) (va_Qv post (tB (dC, dI) twCl [(cA, .int)] (va_A (wdX a cA u) sz) (wdX a cA)) (va_A (wdX a cA u) sz)) 0 0 (va_A (wdX a cA u) sz) := by
  refine Met.ofW (cc := b_Bo_putRide) (maxL := 4) (ret := none) (by decide) rfl ?_
  intro p e s m args below meth c s₁ B hml hv
  obtain ⟨rfl, hsz, hP, hK, hD0, hN, hw⟩ := hv
  have hx := B.exec
  have hb := B.bytes
  have hr := B.returns
  have hts : ∀ w ∈ wsA, w.before _ s = true := fun w h => atoms_spec (ws := ws_Bo_putRide) B.pre w (List.mem_cons_of_mem _ h)
  have hown : s.vm.findClass R_Bo = some m.cls := findClass_of_methodNamed B.named
  have hlocks := B.notSynchronized
  subst hsz
  have hD := hD0.self (sz := s.heap.size)
  generalize hAe : va_A (wdX a cA u) s.heap.size = A at hD ⊢
  have hA : ∀ q : Nat, s.heap.size ≤ q → A q := fun q h => by rw [← hAe]; exact Or.inr h
  have hS : va_S A s.heap s.heap [] := va_S.rf
  have hI : tX (dC, dI) twCl [(cA, .int)] A s s.heap [] (wdX a cA u) := ⟨hK, hP, hD, hS⟩
  have hC : tC p s m meth c ([.ref (a 3), .ref (a 2), .int x2] : List Value).toArray b_Bo_putRide 4 none wsA R_Bo A := ⟨hx, hb, hr, hml, hown, hts, hlocks, hA, hN⟩
  have hl := lv_entry ([.ref (a 3), .ref (a 2), .int x2]) (n := 4) (Nat.le_of_ble_eq_true rfl)
  rw [lg_entry_eq]
  generalize (lg_sl ([.ref (a 3), .ref (a 2), .int x2]) ++ List.replicate (4 - (lg_sl ([.ref (a 3), .ref (a 2), .int x2])).length) Slot.unset).toArray = ls at hl ⊢
  have hl : lv_has ls 4 [(0, .ref (a 3)), (1, .ref (a 2)), (2, .int x2)] := hl
  have hw : (∃ k, w_Bo_putRide_2 post k x2 0 u) := hw
  refine lv_iconst (v := 0) hx hb d_Bo_putRide_0 (by decide) ?_
  refine lv_istore_n (lv' := [(3, .int 0), (0, .ref (a 3)), (1, .ref (a 2)), (2, .int x2)]) hx hb d_Bo_putRide_1 rfl hl (by decide) rfl (fun ls hl => ?_)
  obtain ⟨k, hw⟩ := hw
  exact k_Bo_putRide_2 hC post k _ _ _ _ _ ls hw hI (lv_sub hl [1, 2, 3, 0] rfl)
def w_T_ride (post : Int32 → tS → Prop) (x1 : Int32) (x2 : Int32) (x3 : Int32) (x4 : Int32) (x5 : Int32) (u : tS) : Prop := (w_Ne_hasStops (fun r6 u6 => ((r6 = 0 → (post (-2) u6)) ∧ (¬ r6 = 0 → ((x1 = x2 → (post (-2) u6)) ∧ (¬ x1 = x2 → (w_T_within (fun r25 u25 => ((r25 = 0 → (post (-2) u25)) ∧ (¬ r25 = 0 → (w_T_within (fun r37 u37 => ((r37 = 0 → (post (-2) u37)) ∧ (¬ r37 = 0 → (w_T_within (fun r48 u48 => ((r48 = 0 → (post (-2) u48)) ∧ (¬ r48 = 0 → (((u48.1 1) < 40 → (w_Ri_add (fun r89 u89 => (w_Bo_putRide (fun u110 => (post r89 u110)) r89 u89)) x1 x2 x3 x4 x5 u48)) ∧ (¬ (u48.1 1) < 40 → (post (-3) u48)))))) x5 1 127 u37)))) x4 1 1440 u25)))) x3 0 1439 u6)))))) x1 x2 u)
set_option maxRecDepth 100000 in
set_option maxHeartbeats 4000000 in
theorem c_T_ride (l : Launch) (dC : Nat → ClassId) (dI : Nat → Nat → Nat) (cA : ClassId) (a : Nat → Nat) (u : tS) (x1 : Int32) (x2 : Int32) (x3 : Int32) (x4 : Int32) (x5 : Int32) (post : Int32 → tS → Prop) (sz : Nat) : Met l y_T_ride ws_T_ride ({ frames := 3, cells := 0, slots := 0, locals := 70 }) (va_Pc [.ref (a 0), .int x1, .int x2, .int x3, .int x4, .int x5] (tP (dC, dI) twCl [(cA, .int)] (wdX a cA) u sz (w_T_ride post x1 x2 x3 x4 x5 u))) (va_Qi post (tB (dC, dI) twCl [(cA, .int)] (va_A (wdX a cA u) sz) (wdX a cA)) (va_A (wdX a cA u) sz)) 0 0 (va_A (wdX a cA u) sz) := by
  refine Met.ofW (cc := b_T_ride) (maxL := 7) (ret := (some .int)) (by decide) rfl ?_
  intro p e s m args below meth c s₁ B hml hv
  obtain ⟨rfl, hsz, hP, hK, hD0, hN, hw⟩ := hv
  have hx := B.exec
  have hb := B.bytes
  have hr := B.returns
  have hts : ∀ w ∈ wsA, w.before _ s = true := fun w h => atoms_spec (ws := ws_T_ride) B.pre w (List.mem_cons_of_mem _ h)
  have hown : s.vm.findClass R_T = some m.cls := findClass_of_methodNamed B.named
  have hlocks := B.notSynchronized
  subst hsz
  have hD := hD0.self (sz := s.heap.size)
  generalize hAe : va_A (wdX a cA u) s.heap.size = A at hD ⊢
  have hA : ∀ q : Nat, s.heap.size ≤ q → A q := fun q h => by rw [← hAe]; exact Or.inr h
  have hS : va_S A s.heap s.heap [] := va_S.rf
  have hI : tX (dC, dI) twCl [(cA, .int)] A s s.heap [] (wdX a cA u) := ⟨hK, hP, hD, hS⟩
  have hC : tC p s m meth c ([.ref (a 0), .int x1, .int x2, .int x3, .int x4, .int x5] : List Value).toArray b_T_ride 7 (some .int) wsA R_T A := ⟨hx, hb, hr, hml, hown, hts, hlocks, hA, hN⟩
  have hl := lv_entry ([.ref (a 0), .int x1, .int x2, .int x3, .int x4, .int x5]) (n := 7) (Nat.le_of_ble_eq_true rfl)
  rw [lg_entry_eq]
  generalize (lg_sl ([.ref (a 0), .int x1, .int x2, .int x3, .int x4, .int x5]) ++ List.replicate (7 - (lg_sl ([.ref (a 0), .int x1, .int x2, .int x3, .int x4, .int x5])).length) Slot.unset).toArray = ls at hl ⊢
  have hl : lv_has ls 7 [(0, .ref (a 0)), (1, .int x1), (2, .int x2), (3, .int x3), (4, .int x4), (5, .int x5)] := hl
  have hw : (w_Ne_hasStops (fun r6 u6 => ((r6 = 0 → (post (-2) u6)) ∧ (¬ r6 = 0 → ((x1 = x2 → (post (-2) u6)) ∧ (¬ x1 = x2 → (w_T_within (fun r25 u25 => ((r25 = 0 → (post (-2) u25)) ∧ (¬ r25 = 0 → (w_T_within (fun r37 u37 => ((r37 = 0 → (post (-2) u37)) ∧ (¬ r37 = 0 → (w_T_within (fun r48 u48 => ((r48 = 0 → (post (-2) u48)) ∧ (¬ r48 = 0 → (((u48.1 1) < 40 → (w_Ri_add (fun r89 u89 => (w_Bo_putRide (fun u110 => (post r89 u110)) r89 u89)) x1 x2 x3 x4 x5 u48)) ∧ (¬ (u48.1 1) < 40 → (post (-3) u48)))))) x5 1 127 u37)))) x4 1 1440 u25)))) x3 0 1439 u6)))))) x1 x2 u) := hw
  refine lv_aload_n hx hb d_T_ride_0 rfl (lv_at hl 0 rfl) ?_
  refine va_get (D := (dC, dI)) (C := R_T) (T := F_T) (N := 6) hx hb hts in_T hown hI.1 hI.2.1 0 (wdX_o0 a cA _) rfl 0 (by decide) (hts _ wA_264) (fun _ h9 => h9) rfl d_T_ride_1 ?_
  refine lv_iload_n hx hb d_T_ride_4 rfl (lv_at hl 1 rfl) ?_
  refine lv_iload_n hx hb d_T_ride_5 rfl (lv_at hl 2 rfl) ?_
  refine tr_goi (w := wdX a cA) hI hA (va_runV (As := [.int x1, .int x2]) (rest := []) ⟨hx, hb, hml, hown, hts⟩ (c_Ne_hasStops l dC dI cA a _ _ _ _ _) (cwV 2 hts (wsA_goodV wA_315 wA_316 wA_317 wA_31 wA_318) rfl rfl rfl (by decide +kernel) ⟨Nat.le_of_ble_eq_true rfl, Nat.le_of_ble_eq_true rfl⟩) (tr_preV (ci := 1) (q0 := 1) hI rfl (wdX_o1 a cA _) rfl hN hw) rfl rfl hl.1 rfl (lv_room (Nat.le_of_ble_eq_true rfl)) d_T_ride_6 ⟨Nat.zero_le _, Nat.zero_le _⟩) (fun r6 u6 H locs hw hI => ?_)
  refine lv_if_eq (tgt := 17) hx hb d_T_ride_9 (by decide) (fun hc => ?_) (fun hc => ?_)
  · have hw := hw.1 hc
    refine lv_bipush (v := (-2)) hx hb d_T_ride_17 (by decide) ?_
    exact tr_iret hx hb hr hlocks hI hw d_T_ride_19
  · have hw := hw.2 hc
    refine lv_iload_n hx hb d_T_ride_12 rfl (lv_at hl 1 rfl) ?_
    refine lv_iload_n hx hb d_T_ride_13 rfl (lv_at hl 2 rfl) ?_
    refine lv_icmp_ne (tgt := 20) hx hb d_T_ride_14 (by decide) (fun hc => ?_) (fun hc => ?_)
    · have hw := hw.2 hc
      refine lv_iload_n hx hb d_T_ride_20 rfl (lv_at hl 3 rfl) ?_
      refine lv_iconst (v := 0) hx hb d_T_ride_21 (by decide) ?_
      refine lv_sipush (v := 1439) hx hb d_T_ride_22 (by decide) ?_
      refine tr_goi (w := wdX a cA) hI hA (va_runS (As := [.int x3, .int 0, .int 1439]) (rest := []) ⟨hx, hb, hml, hown, hts⟩ (c_T_within l dC dI cA a _ _ _ _ _ _) ⟨callB_of 3 hts (wsA_good wA_301) rfl rfl rfl (hts _ wA_30) (hts _ wA_299) (by decide +kernel) ⟨Nat.le_of_ble_eq_true rfl, Nat.le_of_ble_eq_true rfl⟩, hts _ wA_300⟩ (tr_preS hI hN hw) rfl rfl hl.1 rfl (lv_room (Nat.le_of_ble_eq_true rfl)) d_T_ride_25 ⟨Nat.zero_le _, Nat.zero_le _⟩) (fun r25 u25 H locs hw hI => ?_)
      refine lv_if_eq (tgt := 54) hx hb d_T_ride_28 (by decide) (fun hc => ?_) (fun hc => ?_)
      · have hw := hw.1 hc
        refine lv_bipush (v := (-2)) hx hb d_T_ride_54 (by decide) ?_
        exact tr_iret hx hb hr hlocks hI hw d_T_ride_56
      · have hw := hw.2 hc
        refine lv_iload hx hb d_T_ride_31 (lv_at hl 4 rfl) ?_
        refine lv_iconst (v := 1) hx hb d_T_ride_33 (by decide) ?_
        refine lv_sipush (v := 1440) hx hb d_T_ride_34 (by decide) ?_
        refine tr_goi (w := wdX a cA) hI hA (va_runS (As := [.int x4, .int 1, .int 1440]) (rest := []) ⟨hx, hb, hml, hown, hts⟩ (c_T_within l dC dI cA a _ _ _ _ _ _) ⟨callB_of 3 hts (wsA_good wA_301) rfl rfl rfl (hts _ wA_30) (hts _ wA_299) (by decide +kernel) ⟨Nat.le_of_ble_eq_true rfl, Nat.le_of_ble_eq_true rfl⟩, hts _ wA_300⟩ (tr_preS hI hN hw) rfl rfl hl.1 rfl (lv_room (Nat.le_of_ble_eq_true rfl)) d_T_ride_37 ⟨Nat.zero_le _, Nat.zero_le _⟩) (fun r37 u37 H locs hw hI => ?_)
        refine lv_if_eq (tgt := 54) hx hb d_T_ride_40 (by decide) (fun hc => ?_) (fun hc => ?_)
        · have hw := hw.1 hc
          refine lv_bipush (v := (-2)) hx hb d_T_ride_54 (by decide) ?_
          exact tr_iret hx hb hr hlocks hI hw d_T_ride_56
        · have hw := hw.2 hc
          refine lv_iload hx hb d_T_ride_43 (lv_at hl 5 rfl) ?_
          refine lv_iconst (v := 1) hx hb d_T_ride_45 (by decide) ?_
          refine lv_bipush (v := 127) hx hb d_T_ride_46 (by decide) ?_
          refine tr_goi (w := wdX a cA) hI hA (va_runS (As := [.int x5, .int 1, .int 127]) (rest := []) ⟨hx, hb, hml, hown, hts⟩ (c_T_within l dC dI cA a _ _ _ _ _ _) ⟨callB_of 3 hts (wsA_good wA_301) rfl rfl rfl (hts _ wA_30) (hts _ wA_299) (by decide +kernel) ⟨Nat.le_of_ble_eq_true rfl, Nat.le_of_ble_eq_true rfl⟩, hts _ wA_300⟩ (tr_preS hI hN hw) rfl rfl hl.1 rfl (lv_room (Nat.le_of_ble_eq_true rfl)) d_T_ride_48 ⟨Nat.zero_le _, Nat.zero_le _⟩) (fun r48 u48 H locs hw hI => ?_)
          refine lv_if_ne (tgt := 57) hx hb d_T_ride_51 (by decide) (fun hc => ?_) (fun hc => ?_)
          · have hw := hw.2 hc
            refine lv_aload_n hx hb d_T_ride_57 rfl (lv_at hl 0 rfl) ?_
            refine va_get (D := (dC, dI)) (C := R_T) (T := F_T) (N := 6) hx hb hts in_T hown hI.1 hI.2.1 0 (wdX_o0 a cA _) rfl 0 (by decide) (hts _ wA_264) (fun _ h9 => h9) rfl d_T_ride_58 ?_
            refine va_get (D := (dC, dI)) (C := R_Ne) (T := F_Ne) (N := 5) hx hb hts in_Ne hown hI.1 hI.2.1 1 (wdX_o1 a cA _) rfl 2 (by decide) (hts _ wA_167) (fun _ h9 => h9) rfl d_T_ride_61 ?_
            refine va_get (D := (dC, dI)) (C := R_Ri) (T := F_Ri) (N := 7) hx hb hts in_Ri hown hI.1 hI.2.1 2 (wdX_o2 a cA _) rfl 0 (by decide) (hts _ wA_64) (fun _ h9 => h9) rfl d_T_ride_64 ?_
            refine lv_bipush (v := 40) hx hb d_T_ride_67 (by decide) ?_
            refine lv_icmp_lt (tgt := 75) hx hb d_T_ride_69 (by decide) (fun hc => ?_) (fun hc => ?_)
            · have hw := hw.1 hc
              refine lv_aload_n hx hb d_T_ride_75 rfl (lv_at hl 0 rfl) ?_
              refine va_get (D := (dC, dI)) (C := R_T) (T := F_T) (N := 6) hx hb hts in_T hown hI.1 hI.2.1 0 (wdX_o0 a cA _) rfl 0 (by decide) (hts _ wA_264) (fun _ h9 => h9) rfl d_T_ride_76 ?_
              refine va_get (D := (dC, dI)) (C := R_Ne) (T := F_Ne) (N := 5) hx hb hts in_Ne hown hI.1 hI.2.1 1 (wdX_o1 a cA _) rfl 2 (by decide) (hts _ wA_167) (fun _ h9 => h9) rfl d_T_ride_79 ?_
              refine lv_iload_n hx hb d_T_ride_82 rfl (lv_at hl 1 rfl) ?_
              refine lv_iload_n hx hb d_T_ride_83 rfl (lv_at hl 2 rfl) ?_
              refine lv_iload_n hx hb d_T_ride_84 rfl (lv_at hl 3 rfl) ?_
              refine lv_iload hx hb d_T_ride_85 (lv_at hl 4 rfl) ?_
              refine lv_iload hx hb d_T_ride_87 (lv_at hl 5 rfl) ?_
              refine tr_goi (w := wdX a cA) hI hA (va_runV (As := [.int x1, .int x2, .int x3, .int x4, .int x5]) (rest := []) ⟨hx, hb, hml, hown, hts⟩ (c_Ri_add l dC dI cA a _ _ _ _ _ _ _ _) (cwV 5 hts (wsA_goodV wA_320 wA_321 wA_322 wA_32 wA_323) rfl rfl rfl (by decide +kernel) ⟨Nat.le_of_ble_eq_true rfl, Nat.le_of_ble_eq_true rfl⟩) (tr_preV (ci := 2) (q0 := 2) hI rfl (wdX_o2 a cA _) rfl hN hw) rfl rfl hl.1 rfl (lv_room (Nat.le_of_ble_eq_true rfl)) d_T_ride_89 ⟨Nat.zero_le _, Nat.zero_le _⟩) (fun r89 u89 H locs hw hI => ?_)
              refine lv_istore (lv' := [(6, .int r89), (0, .ref (a 0)), (1, .int x1), (2, .int x2), (3, .int x3), (4, .int x4), (5, .int x5)]) hx hb d_T_ride_92 hl (by decide) rfl (fun ls hl => ?_)
              refine lv_aload_n hx hb d_T_ride_94 rfl (lv_at hl 1 rfl) ?_
              refine va_get (D := (dC, dI)) (C := R_T) (T := F_T) (N := 6) hx hb hts in_T hown hI.1 hI.2.1 0 (wdX_o0 a cA _) rfl 0 (by decide) (hts _ wA_264) (fun _ h9 => h9) rfl d_T_ride_95 ?_
              refine va_get (D := (dC, dI)) (C := R_Ne) (T := F_Ne) (N := 5) hx hb hts in_Ne hown hI.1 hI.2.1 1 (wdX_o1 a cA _) rfl 3 (by decide) (hts _ wA_173) (fun _ h9 => h9) rfl d_T_ride_98 ?_
              refine lv_aload_n hx hb d_T_ride_101 rfl (lv_at hl 1 rfl) ?_
              refine va_get (D := (dC, dI)) (C := R_T) (T := F_T) (N := 6) hx hb hts in_T hown hI.1 hI.2.1 0 (wdX_o0 a cA _) rfl 0 (by decide) (hts _ wA_264) (fun _ h9 => h9) rfl d_T_ride_102 ?_
              refine va_get (D := (dC, dI)) (C := R_Ne) (T := F_Ne) (N := 5) hx hb hts in_Ne hown hI.1 hI.2.1 1 (wdX_o1 a cA _) rfl 2 (by decide) (hts _ wA_167) (fun _ h9 => h9) rfl d_T_ride_105 ?_
              refine lv_iload hx hb d_T_ride_108 (lv_at hl 0 rfl) ?_
              refine tr_gov (w := wdX a cA) hI hA (va_runV (As := [.ref (a 2), .int r89]) (rest := []) ⟨hx, hb, hml, hown, hts⟩ (c_Bo_putRide l dC dI cA a _ _ _ _) (cwV 2 hts (wsA_goodV wA_328 wA_329 wA_330 wA_33 wA_331) rfl rfl rfl (by decide +kernel) ⟨Nat.le_of_ble_eq_true rfl, Nat.le_of_ble_eq_true rfl⟩) (tr_preV (ci := 3) (q0 := 3) hI rfl (wdX_o3 a cA _) rfl hN hw) rfl rfl hl.1 rfl (lv_room (Nat.le_of_ble_eq_true rfl)) d_T_ride_110 ⟨Nat.zero_le _, Nat.zero_le _⟩) (fun u110 H locs hw hI => ?_)
              refine lv_iload hx hb d_T_ride_113 (lv_at hl 0 rfl) ?_
              exact tr_iret hx hb hr hlocks hI hw d_T_ride_115
            · have hw := hw.2 hc
              refine lv_bipush (v := (-3)) hx hb d_T_ride_72 (by decide) ?_
              exact tr_iret hx hb hr hlocks hI hw d_T_ride_74
          · have hw := hw.1 hc
            refine lv_bipush (v := (-2)) hx hb d_T_ride_54 (by decide) ?_
            exact tr_iret hx hb hr hlocks hI hw d_T_ride_56
    · have hw := hw.1 hc
      refine lv_bipush (v := (-2)) hx hb d_T_ride_17 (by decide) ?_
      exact tr_iret hx hb hr hlocks hI hw d_T_ride_19
def w_Wa_atLeastOne (post : Int32 → tS → Prop) (x1 : Int32) (x2 : Int32) (u : tS) : Prop := (vp_in ((x1 * 12) + x2) 144 ∧ (post (u.2 12 ((x1 * 12) + x2).toNatClampNeg) u))
set_option maxRecDepth 100000 in
set_option maxHeartbeats 4000000 in
theorem c_Wa_atLeastOne (l : Launch) (dC : Nat → ClassId) (dI : Nat → Nat → Nat) (cA : ClassId) (a : Nat → Nat) (u : tS) (x1 : Int32) (x2 : Int32) (post : Int32 → tS → Prop) (sz : Nat) : Met l y_Wa_atLeastOne ws_Wa_atLeastOne ({ frames := 0, cells := 0, slots := 0, locals := 0 }) (va_Pc [.ref (a 4), .int x1, .int x2] (tP (dC, dI) twCl [(cA, .int)] (wdX a cA) u sz (w_Wa_atLeastOne post x1 x2 u))) (va_Qi post (tB (dC, dI) twCl [(cA, .int)] (va_A (wdX a cA u) sz) (wdX a cA)) (va_A (wdX a cA u) sz)) 0 0 (va_A (wdX a cA u) sz) := by
  refine Met.ofW (cc := b_Wa_atLeastOne) (maxL := 3) (ret := (some .int)) (by decide) rfl ?_
  intro p e s m args below meth c s₁ B hml hv
  obtain ⟨rfl, hsz, hP, hK, hD0, hN, hw⟩ := hv
  have hx := B.exec
  have hb := B.bytes
  have hr := B.returns
  have hts : ∀ w ∈ wsA, w.before _ s = true := fun w h => atoms_spec (ws := ws_Wa_atLeastOne) B.pre w (List.mem_cons_of_mem _ h)
  have hown : s.vm.findClass R_Wa = some m.cls := findClass_of_methodNamed B.named
  have hlocks := B.notSynchronized
  subst hsz
  have hD := hD0.self (sz := s.heap.size)
  generalize hAe : va_A (wdX a cA u) s.heap.size = A at hD ⊢
  have hA : ∀ q : Nat, s.heap.size ≤ q → A q := fun q h => by rw [← hAe]; exact Or.inr h
  have hS : va_S A s.heap s.heap [] := va_S.rf
  have hI : tX (dC, dI) twCl [(cA, .int)] A s s.heap [] (wdX a cA u) := ⟨hK, hP, hD, hS⟩
  have hC : tC p s m meth c ([.ref (a 4), .int x1, .int x2] : List Value).toArray b_Wa_atLeastOne 3 (some .int) wsA R_Wa A := ⟨hx, hb, hr, hml, hown, hts, hlocks, hA, hN⟩
  have hl := lv_entry ([.ref (a 4), .int x1, .int x2]) (n := 3) (Nat.le_of_ble_eq_true rfl)
  rw [lg_entry_eq]
  generalize (lg_sl ([.ref (a 4), .int x1, .int x2]) ++ List.replicate (3 - (lg_sl ([.ref (a 4), .int x1, .int x2])).length) Slot.unset).toArray = ls at hl ⊢
  have hl : lv_has ls 3 [(0, .ref (a 4)), (1, .int x1), (2, .int x2)] := hl
  have hw : (vp_in ((x1 * 12) + x2) 144 ∧ (post (u.2 12 ((x1 * 12) + x2).toNatClampNeg) u)) := hw
  refine lv_aload_n hx hb d_Wa_atLeastOne_0 rfl (lv_at hl 0 rfl) ?_
  refine va_get (D := (dC, dI)) (C := R_Wa) (T := F_Wa) (N := 5) hx hb hts in_Wa hown hI.1 hI.2.1 4 (wdX_o4 a cA _) rfl 4 (by decide) (hts _ wA_148) (fun _ h9 => h9) rfl d_Wa_atLeastOne_1 ?_
  refine lv_iload_n hx hb d_Wa_atLeastOne_4 rfl (lv_at hl 1 rfl) ?_
  refine lv_bipush (v := 12) hx hb d_Wa_atLeastOne_5 (by decide) ?_
  refine lv_imul hx hb d_Wa_atLeastOne_7 ?_
  refine lv_iload_n hx hb d_Wa_atLeastOne_8 rfl (lv_at hl 2 rfl) ?_
  refine lv_iadd hx hb d_Wa_atLeastOne_9 ?_
  obtain ⟨hi, hw⟩ := hw
  refine va_iald (D := (dC, dI)) hx hb hI.1 hI.2.1 22 0 (wdX_o22 a cA _) rfl hi d_Wa_atLeastOne_10 ?_
  exact tr_iret hx hb hr hlocks hI hw d_Wa_atLeastOne_11
def w_Wa_anyNumber (post : Int32 → tS → Prop) (x1 : Int32) (x2 : Int32) (u : tS) : Prop := ((x1 = x2 → (post 0 u)) ∧ (¬ x1 = x2 → (w_Wa_atLeastOne (fun r12 u12 => (post r12 u12)) x1 x2 u)))
set_option maxRecDepth 100000 in
set_option maxHeartbeats 4000000 in
theorem c_Wa_anyNumber (l : Launch) (dC : Nat → ClassId) (dI : Nat → Nat → Nat) (cA : ClassId) (a : Nat → Nat) (u : tS) (x1 : Int32) (x2 : Int32) (post : Int32 → tS → Prop) (sz : Nat) : Met l y_Wa_anyNumber ws_Wa_anyNumber ({ frames := 1, cells := 0, slots := 0, locals := 22 }) (va_Pc [.ref (a 4), .int x1, .int x2] (tP (dC, dI) twCl [(cA, .int)] (wdX a cA) u sz (w_Wa_anyNumber post x1 x2 u))) (va_Qi post (tB (dC, dI) twCl [(cA, .int)] (va_A (wdX a cA u) sz) (wdX a cA)) (va_A (wdX a cA u) sz)) 0 0 (va_A (wdX a cA u) sz) := by
  refine Met.ofW (cc := b_Wa_anyNumber) (maxL := 3) (ret := (some .int)) (by decide) rfl ?_
  intro p e s m args below meth c s₁ B hml hv
  obtain ⟨rfl, hsz, hP, hK, hD0, hN, hw⟩ := hv
  have hx := B.exec
  have hb := B.bytes
  have hr := B.returns
  have hts : ∀ w ∈ wsA, w.before _ s = true := fun w h => atoms_spec (ws := ws_Wa_anyNumber) B.pre w (List.mem_cons_of_mem _ h)
  have hown : s.vm.findClass R_Wa = some m.cls := findClass_of_methodNamed B.named
  have hlocks := B.notSynchronized
  subst hsz
  have hD := hD0.self (sz := s.heap.size)
  generalize hAe : va_A (wdX a cA u) s.heap.size = A at hD ⊢
  have hA : ∀ q : Nat, s.heap.size ≤ q → A q := fun q h => by rw [← hAe]; exact Or.inr h
  have hS : va_S A s.heap s.heap [] := va_S.rf
  have hI : tX (dC, dI) twCl [(cA, .int)] A s s.heap [] (wdX a cA u) := ⟨hK, hP, hD, hS⟩
  have hC : tC p s m meth c ([.ref (a 4), .int x1, .int x2] : List Value).toArray b_Wa_anyNumber 3 (some .int) wsA R_Wa A := ⟨hx, hb, hr, hml, hown, hts, hlocks, hA, hN⟩
  have hl := lv_entry ([.ref (a 4), .int x1, .int x2]) (n := 3) (Nat.le_of_ble_eq_true rfl)
  rw [lg_entry_eq]
  generalize (lg_sl ([.ref (a 4), .int x1, .int x2]) ++ List.replicate (3 - (lg_sl ([.ref (a 4), .int x1, .int x2])).length) Slot.unset).toArray = ls at hl ⊢
  have hl : lv_has ls 3 [(0, .ref (a 4)), (1, .int x1), (2, .int x2)] := hl
  have hw : ((x1 = x2 → (post 0 u)) ∧ (¬ x1 = x2 → (w_Wa_atLeastOne (fun r12 u12 => (post r12 u12)) x1 x2 u))) := hw
  refine lv_iload_n hx hb d_Wa_anyNumber_0 rfl (lv_at hl 1 rfl) ?_
  refine lv_iload_n hx hb d_Wa_anyNumber_1 rfl (lv_at hl 2 rfl) ?_
  refine lv_icmp_ne (tgt := 9) hx hb d_Wa_anyNumber_2 (by decide) (fun hc => ?_) (fun hc => ?_)
  · have hw := hw.2 hc
    refine lv_aload_n hx hb d_Wa_anyNumber_9 rfl (lv_at hl 0 rfl) ?_
    refine lv_iload_n hx hb d_Wa_anyNumber_10 rfl (lv_at hl 1 rfl) ?_
    refine lv_iload_n hx hb d_Wa_anyNumber_11 rfl (lv_at hl 2 rfl) ?_
    refine tr_goi (w := wdX a cA) hI hA (va_runV (As := [.int x1, .int x2]) (rest := []) ⟨hx, hb, hml, hown, hts⟩ (c_Wa_atLeastOne l dC dI cA a _ _ _ _ _) (cwV 2 hts (wsA_goodV wA_364 wA_365 wA_366 wA_34 wA_367) rfl rfl rfl (by decide +kernel) ⟨Nat.le_of_ble_eq_true rfl, Nat.le_of_ble_eq_true rfl⟩) (tr_preV (ci := 4) (q0 := 4) hI rfl (wdX_o4 a cA _) rfl hN hw) rfl rfl hl.1 rfl (lv_room (Nat.le_of_ble_eq_true rfl)) d_Wa_anyNumber_12 ⟨Nat.zero_le _, Nat.zero_le _⟩) (fun r12 u12 H locs hw hI => ?_)
    exact tr_iret hx hb hr hlocks hI hw d_Wa_anyNumber_15
  · have hw := hw.1 hc
    refine lv_iconst (v := 0) hx hb d_Wa_anyNumber_5 (by decide) ?_
    refine lv_goto (tgt := 15) hx hb d_Wa_anyNumber_6 (by decide) ?_
    exact tr_iret hx hb hr hlocks hI hw d_Wa_anyNumber_15
def w_Wa_shorten_24 (post : tS → Prop) (K3 : Int32 → Int32 → Int32 → Int32 → tS → Prop) : Nat → Int32 → Int32 → Int32 → Int32 → Int32 → Int32 → tS → Prop
  | 0 => fun _ _ _ _ _ _ _ => False
  | n + 1 => fun x1 x2 x3 x4 x5 x6 u => ((12 ≤ x6 → (K3 x1 x2 x3 (x4 + 1) u)) ∧ (¬ 12 ≤ x6 → (w_Wa_anyNumber (fun r37 u37 => (vp_in ((x4 * 12) + x6) 144 ∧ (vp_in ((x4 * 12) + x6) 144 ∧ (w_Wa_shorten_24 post K3 n x1 x2 x3 x4 x5 (x6 + 1) (tA u37 12 ((x4 * 12) + x6) (if (x5 + r37) < (u37.2 12 ((x4 * 12) + x6).toNatClampNeg) then (x5 + r37) else (u37.2 12 ((x4 * 12) + x6).toNatClampNeg))))))) x2 x6 u)))
def w_Wa_shorten_3 (post : tS → Prop) : Nat → Int32 → Int32 → Int32 → Int32 → tS → Prop
  | 0 => fun _ _ _ _ _ => False
  | n + 1 => fun x1 x2 x3 x4 u => ((12 ≤ x4 → (post u)) ∧ (¬ 12 ≤ x4 → (w_Wa_anyNumber (fun r14 u14 => (∃ k, w_Wa_shorten_24 post (w_Wa_shorten_3 post n) k x1 x2 x3 x4 (r14 + x3) 0 u14)) x4 x1 u)))
def w_Wa_shorten (post : tS → Prop) (x1 : Int32) (x2 : Int32) (x3 : Int32) (u : tS) : Prop := (∃ k, w_Wa_shorten_3 post k x1 x2 x3 0 u)
set_option maxRecDepth 100000 in
set_option maxHeartbeats 4000000 in
theorem k_Wa_shorten_24 {p : Program} {l : Launch} {e : Env} {s : State} {m : MethodId} {args : Array Value} {below : List Frame} {meth : Method} {c : Code} {dC : Nat → ClassId} {dI : Nat → Nat → Nat} {cA : ClassId} {a : Nat → Nat} {A : Nat → Prop} (hC : tC p s m meth c args b_Wa_shorten 8 none wsA R_Wa A) (post : tS → Prop) (K3 : Int32 → Int32 → Int32 → Int32 → tS → Prop) (hK3 : ∀ (x1 x2 x3 x4 : Int32) (u : tS) (H : Heap) (locs : List Loc) (ls : Array Slot), K3 x1 x2 x3 x4 u → tX (dC, dI) twCl [(cA, .int)] A s H locs (wdX a cA u) → lv_has ls 8 [(0, .ref (a 4)), (1, .int x1), (2, .int x2), (3, .int x3), (4, .int x4)] → W p l e ({ frames := 2, cells := 0, slots := 0, locals := 44 }) s m args below meth c H locs 0 0 (MQ below (va_Qv post (tB (dC, dI) twCl [(cA, .int)] A (wdX a cA)) A) args s 0 0 A) (F0 m 3 ls [])) : ∀ n : Nat, ∀ (x1 x2 x3 x4 x5 x6 : Int32) (u : tS) (H : Heap) (locs : List Loc) (ls : Array Slot), w_Wa_shorten_24 post K3 n x1 x2 x3 x4 x5 x6 u → tX (dC, dI) twCl [(cA, .int)] A s H locs (wdX a cA u) → lv_has ls 8 [(0, .ref (a 4)), (1, .int x1), (2, .int x2), (3, .int x3), (4, .int x4), (5, .int x5), (6, .int x6)] → W p l e ({ frames := 2, cells := 0, slots := 0, locals := 44 }) s m args below meth c H locs 0 0 (MQ below (va_Qv post (tB (dC, dI) twCl [(cA, .int)] A (wdX a cA)) A) args s 0 0 A) (F0 m 24 ls []) := by
  obtain ⟨hx, hb, hr, hml, hown, hts, hlocks, hA, hN⟩ := id hC
  intro n
  induction n with
  | zero => intro x1 x2 x3 x4 x5 x6 u H locs ls hw; exact False.elim hw
  | succ n ih =>
    intro x1 x2 x3 x4 x5 x6 u H locs ls hw hI hl
    refine lv_iload hx hb d_Wa_shorten_24 (lv_at hl 6 rfl) ?_
    refine lv_bipush (v := 12) hx hb d_Wa_shorten_26 (by decide) ?_
    refine lv_icmp_ge (tgt := 80) hx hb d_Wa_shorten_28 (by decide) (fun hc => ?_) (fun hc => ?_)
    · have hw := hw.1 hc
      refine lv_iinc (v := (x4 + 1)) (lv' := [(4, .int (x4 + 1)), (0, .ref (a 4)), (1, .int x1), (2, .int x2), (3, .int x3), (5, .int x5), (6, .int x6)]) hx hb d_Wa_shorten_80 hl (k := 4) rfl rfl (by decide) rfl (fun ls hl => ?_)
      refine lv_goto (tgt := 3) hx hb d_Wa_shorten_83 (by decide) ?_
      exact hK3 _ _ _ _ _ _ _ ls hw hI (lv_sub hl [1, 2, 3, 4, 0] rfl)
    · have hw := hw.2 hc
      refine lv_iload hx hb d_Wa_shorten_31 (lv_at hl 5 rfl) ?_
      refine lv_aload_n hx hb d_Wa_shorten_33 rfl (lv_at hl 0 rfl) ?_
      refine lv_iload_n hx hb d_Wa_shorten_34 rfl (lv_at hl 2 rfl) ?_
      refine lv_iload hx hb d_Wa_shorten_35 (lv_at hl 6 rfl) ?_
      refine tr_goi (w := wdX a cA) hI hA (va_runV (As := [.int x2, .int x6]) (rest := [.int x5]) ⟨hx, hb, hml, hown, hts⟩ (c_Wa_anyNumber l dC dI cA a _ _ _ _ _) (cwV 2 hts (wsA_goodV wA_360 wA_361 wA_362 wA_34 wA_363) rfl rfl rfl (by decide +kernel) ⟨Nat.le_of_ble_eq_true rfl, Nat.le_of_ble_eq_true rfl⟩) (tr_preV (ci := 4) (q0 := 4) hI rfl (wdX_o4 a cA _) rfl hN hw) rfl rfl hl.1 rfl (lv_room (Nat.le_of_ble_eq_true rfl)) d_Wa_shorten_37 ⟨Nat.zero_le _, Nat.zero_le _⟩) (fun r37 u37 H locs hw hI => ?_)
      refine lv_iadd hx hb d_Wa_shorten_40 ?_
      refine lv_istore (lv' := [(7, .int (x5 + r37)), (0, .ref (a 4)), (1, .int x1), (2, .int x2), (3, .int x3), (4, .int x4), (5, .int x5), (6, .int x6)]) hx hb d_Wa_shorten_41 hl (by decide) rfl (fun ls hl => ?_)
      refine lv_aload_n hx hb d_Wa_shorten_43 rfl (lv_at hl 1 rfl) ?_
      refine va_get (D := (dC, dI)) (C := R_Wa) (T := F_Wa) (N := 5) hx hb hts in_Wa hown hI.1 hI.2.1 4 (wdX_o4 a cA _) rfl 4 (by decide) (hts _ wA_148) (fun _ h9 => h9) rfl d_Wa_shorten_44 ?_
      refine lv_iload hx hb d_Wa_shorten_47 (lv_at hl 5 rfl) ?_
      refine lv_bipush (v := 12) hx hb d_Wa_shorten_49 (by decide) ?_
      refine lv_imul hx hb d_Wa_shorten_51 ?_
      refine lv_iload hx hb d_Wa_shorten_52 (lv_at hl 7 rfl) ?_
      refine lv_iadd hx hb d_Wa_shorten_54 ?_
      refine lv_aload_n hx hb d_Wa_shorten_55 rfl (lv_at hl 1 rfl) ?_
      refine va_get (D := (dC, dI)) (C := R_Wa) (T := F_Wa) (N := 5) hx hb hts in_Wa hown hI.1 hI.2.1 4 (wdX_o4 a cA _) rfl 4 (by decide) (hts _ wA_148) (fun _ h9 => h9) rfl d_Wa_shorten_56 ?_
      refine lv_iload hx hb d_Wa_shorten_59 (lv_at hl 5 rfl) ?_
      refine lv_bipush (v := 12) hx hb d_Wa_shorten_61 (by decide) ?_
      refine lv_imul hx hb d_Wa_shorten_63 ?_
      refine lv_iload hx hb d_Wa_shorten_64 (lv_at hl 7 rfl) ?_
      refine lv_iadd hx hb d_Wa_shorten_66 ?_
      obtain ⟨hi, hw⟩ := hw
      refine va_iald (D := (dC, dI)) hx hb hI.1 hI.2.1 22 0 (wdX_o22 a cA _) rfl hi d_Wa_shorten_67 ?_
      refine lv_iload hx hb d_Wa_shorten_68 (lv_at hl 0 rfl) ?_
      refine va_mmin hx hb (by rw [hml]; exact hl.1.symm) hown (hts _ wA_368) (hts _ wA_369) (hts _ wA_41) (hts _ wA_370) (Nat.le_of_ble_eq_true rfl) (Nat.le_of_ble_eq_true rfl) (Nat.zero_le _) (Nat.zero_le _) d_Wa_shorten_70 ?_
      obtain ⟨hi, hw⟩ := hw
      refine tr_iast (w := wdX a cA) hx hb hI 22 0 12 (wdX_o22 a cA _) rfl (wdX_a12 a cA _ _ _) hi d_Wa_shorten_73 (fun H locs hI => ?_)
      refine lv_iinc (v := (x6 + 1)) (lv' := [(6, .int (x6 + 1)), (7, .int (x5 + r37)), (0, .ref (a 4)), (1, .int x1), (2, .int x2), (3, .int x3), (4, .int x4), (5, .int x5)]) hx hb d_Wa_shorten_74 hl (k := 7) rfl rfl (by decide) rfl (fun ls hl => ?_)
      refine lv_goto (tgt := 24) hx hb d_Wa_shorten_77 (by decide) ?_
      exact ih _ _ _ _ _ _ _ _ _ ls hw hI (lv_sub hl [2, 3, 4, 5, 6, 7, 0] rfl)
set_option maxRecDepth 100000 in
set_option maxHeartbeats 4000000 in
theorem k_Wa_shorten_3 {p : Program} {l : Launch} {e : Env} {s : State} {m : MethodId} {args : Array Value} {below : List Frame} {meth : Method} {c : Code} {dC : Nat → ClassId} {dI : Nat → Nat → Nat} {cA : ClassId} {a : Nat → Nat} {A : Nat → Prop} (hC : tC p s m meth c args b_Wa_shorten 8 none wsA R_Wa A) (post : tS → Prop) : ∀ n : Nat, ∀ (x1 x2 x3 x4 : Int32) (u : tS) (H : Heap) (locs : List Loc) (ls : Array Slot), w_Wa_shorten_3 post n x1 x2 x3 x4 u → tX (dC, dI) twCl [(cA, .int)] A s H locs (wdX a cA u) → lv_has ls 8 [(0, .ref (a 4)), (1, .int x1), (2, .int x2), (3, .int x3), (4, .int x4)] → W p l e ({ frames := 2, cells := 0, slots := 0, locals := 44 }) s m args below meth c H locs 0 0 (MQ below (va_Qv post (tB (dC, dI) twCl [(cA, .int)] A (wdX a cA)) A) args s 0 0 A) (F0 m 3 ls []) := by
  obtain ⟨hx, hb, hr, hml, hown, hts, hlocks, hA, hN⟩ := id hC
  intro n
  induction n with
  | zero => intro x1 x2 x3 x4 u H locs ls hw; exact False.elim hw
  | succ n ih =>
    intro x1 x2 x3 x4 u H locs ls hw hI hl
    refine lv_iload hx hb d_Wa_shorten_3 (lv_at hl 4 rfl) ?_
    refine lv_bipush (v := 12) hx hb d_Wa_shorten_5 (by decide) ?_
    refine lv_icmp_ge (tgt := 86) hx hb d_Wa_shorten_7 (by decide) (fun hc => ?_) (fun hc => ?_)
    · have hw := hw.1 hc
      exact tr_vret hx hb hr hlocks hI hw d_Wa_shorten_86
    · have hw := hw.2 hc
      refine lv_aload_n hx hb d_Wa_shorten_10 rfl (lv_at hl 0 rfl) ?_
      refine lv_iload hx hb d_Wa_shorten_11 (lv_at hl 4 rfl) ?_
      refine lv_iload_n hx hb d_Wa_shorten_13 rfl (lv_at hl 1 rfl) ?_
      refine tr_goi (w := wdX a cA) hI hA (va_runV (As := [.int x4, .int x1]) (rest := []) ⟨hx, hb, hml, hown, hts⟩ (c_Wa_anyNumber l dC dI cA a _ _ _ _ _) (cwV 2 hts (wsA_goodV wA_360 wA_361 wA_362 wA_34 wA_363) rfl rfl rfl (by decide +kernel) ⟨Nat.le_of_ble_eq_true rfl, Nat.le_of_ble_eq_true rfl⟩) (tr_preV (ci := 4) (q0 := 4) hI rfl (wdX_o4 a cA _) rfl hN hw) rfl rfl hl.1 rfl (lv_room (Nat.le_of_ble_eq_true rfl)) d_Wa_shorten_14 ⟨Nat.zero_le _, Nat.zero_le _⟩) (fun r14 u14 H locs hw hI => ?_)
      refine lv_iload_n hx hb d_Wa_shorten_17 rfl (lv_at hl 3 rfl) ?_
      refine lv_iadd hx hb d_Wa_shorten_18 ?_
      refine lv_istore (lv' := [(5, .int (r14 + x3)), (0, .ref (a 4)), (1, .int x1), (2, .int x2), (3, .int x3), (4, .int x4)]) hx hb d_Wa_shorten_19 hl (by decide) rfl (fun ls hl => ?_)
      refine lv_iconst (v := 0) hx hb d_Wa_shorten_21 (by decide) ?_
      refine lv_istore (lv' := [(6, .int 0), (5, .int (r14 + x3)), (0, .ref (a 4)), (1, .int x1), (2, .int x2), (3, .int x3), (4, .int x4)]) hx hb d_Wa_shorten_22 hl (by decide) rfl (fun ls hl => ?_)
      obtain ⟨k, hw⟩ := hw
      exact k_Wa_shorten_24 hC post _ ih k _ _ _ _ _ _ _ _ _ ls hw hI (lv_sub hl [2, 3, 4, 5, 6, 1, 0] rfl)
set_option maxRecDepth 100000 in
set_option maxHeartbeats 4000000 in
theorem c_Wa_shorten (l : Launch) (dC : Nat → ClassId) (dI : Nat → Nat → Nat) (cA : ClassId) (a : Nat → Nat) (u : tS) (x1 : Int32) (x2 : Int32) (x3 : Int32) (post : tS → Prop) (sz : Nat) : Met l y_Wa_shorten ws_Wa_shorten ({ frames := 2, cells := 0, slots := 0, locals := 44 }) (va_Pc [.ref (a 4), .int x1, .int x2, .int x3] (tP (dC, dI) twCl [(cA, .int)] (wdX a cA) u sz (w_Wa_shorten post x1 x2 x3 u))) (va_Qv post (tB (dC, dI) twCl [(cA, .int)] (va_A (wdX a cA u) sz) (wdX a cA)) (va_A (wdX a cA u) sz)) 0 0 (va_A (wdX a cA u) sz) := by
  refine Met.ofW (cc := b_Wa_shorten) (maxL := 8) (ret := none) (by decide) rfl ?_
  intro p e s m args below meth c s₁ B hml hv
  obtain ⟨rfl, hsz, hP, hK, hD0, hN, hw⟩ := hv
  have hx := B.exec
  have hb := B.bytes
  have hr := B.returns
  have hts : ∀ w ∈ wsA, w.before _ s = true := fun w h => atoms_spec (ws := ws_Wa_shorten) B.pre w (List.mem_cons_of_mem _ h)
  have hown : s.vm.findClass R_Wa = some m.cls := findClass_of_methodNamed B.named
  have hlocks := B.notSynchronized
  subst hsz
  have hD := hD0.self (sz := s.heap.size)
  generalize hAe : va_A (wdX a cA u) s.heap.size = A at hD ⊢
  have hA : ∀ q : Nat, s.heap.size ≤ q → A q := fun q h => by rw [← hAe]; exact Or.inr h
  have hS : va_S A s.heap s.heap [] := va_S.rf
  have hI : tX (dC, dI) twCl [(cA, .int)] A s s.heap [] (wdX a cA u) := ⟨hK, hP, hD, hS⟩
  have hC : tC p s m meth c ([.ref (a 4), .int x1, .int x2, .int x3] : List Value).toArray b_Wa_shorten 8 none wsA R_Wa A := ⟨hx, hb, hr, hml, hown, hts, hlocks, hA, hN⟩
  have hl := lv_entry ([.ref (a 4), .int x1, .int x2, .int x3]) (n := 8) (Nat.le_of_ble_eq_true rfl)
  rw [lg_entry_eq]
  generalize (lg_sl ([.ref (a 4), .int x1, .int x2, .int x3]) ++ List.replicate (8 - (lg_sl ([.ref (a 4), .int x1, .int x2, .int x3])).length) Slot.unset).toArray = ls at hl ⊢
  have hl : lv_has ls 8 [(0, .ref (a 4)), (1, .int x1), (2, .int x2), (3, .int x3)] := hl
  have hw : (∃ k, w_Wa_shorten_3 post k x1 x2 x3 0 u) := hw
  refine lv_iconst (v := 0) hx hb d_Wa_shorten_0 (by decide) ?_
  refine lv_istore (lv' := [(4, .int 0), (0, .ref (a 4)), (1, .int x1), (2, .int x2), (3, .int x3)]) hx hb d_Wa_shorten_1 hl (by decide) rfl (fun ls hl => ?_)
  obtain ⟨k, hw⟩ := hw
  exact k_Wa_shorten_3 hC post k _ _ _ _ _ _ _ ls hw hI (lv_sub hl [1, 2, 3, 4, 0] rfl)
def w_Wa_add (post : Int32 → tS → Prop) (x1 : Int32) (x2 : Int32) (x3 : Int32) (u : tS) : Prop := (vp_in (u.1 3) 30 ∧ (vp_in ((tA u 9 (u.1 3) x1).1 3) 30 ∧ (vp_in ((tA (tA u 9 (u.1 3) x1) 10 ((tA u 9 (u.1 3) x1).1 3) x2).1 3) 30 ∧ (w_Wa_shorten (fun u44 => (post ((u44.1 3) - 1) u44)) x1 x2 x3 (tI (tA (tA (tA u 9 (u.1 3) x1) 10 ((tA u 9 (u.1 3) x1).1 3) x2) 11 ((tA (tA u 9 (u.1 3) x1) 10 ((tA u 9 (u.1 3) x1).1 3) x2).1 3) x3) 3 (((tA (tA (tA u 9 (u.1 3) x1) 10 ((tA u 9 (u.1 3) x1).1 3) x2) 11 ((tA (tA u 9 (u.1 3) x1) 10 ((tA u 9 (u.1 3) x1).1 3) x2).1 3) x3).1 3) + 1))))))
set_option maxRecDepth 100000 in
set_option maxHeartbeats 4000000 in
theorem c_Wa_add (l : Launch) (dC : Nat → ClassId) (dI : Nat → Nat → Nat) (cA : ClassId) (a : Nat → Nat) (u : tS) (x1 : Int32) (x2 : Int32) (x3 : Int32) (post : Int32 → tS → Prop) (sz : Nat) : Met l y_Wa_add ws_Wa_add ({ frames := 3, cells := 0, slots := 0, locals := 71 }) (va_Pc [.ref (a 4), .int x1, .int x2, .int x3] (tP (dC, dI) twCl [(cA, .int)] (wdX a cA) u sz (w_Wa_add post x1 x2 x3 u))) (va_Qi post (tB (dC, dI) twCl [(cA, .int)] (va_A (wdX a cA u) sz) (wdX a cA)) (va_A (wdX a cA u) sz)) 0 0 (va_A (wdX a cA u) sz) := by
  refine Met.ofW (cc := b_Wa_add) (maxL := 4) (ret := (some .int)) (by decide) rfl ?_
  intro p e s m args below meth c s₁ B hml hv
  obtain ⟨rfl, hsz, hP, hK, hD0, hN, hw⟩ := hv
  have hx := B.exec
  have hb := B.bytes
  have hr := B.returns
  have hts : ∀ w ∈ wsA, w.before _ s = true := fun w h => atoms_spec (ws := ws_Wa_add) B.pre w (List.mem_cons_of_mem _ h)
  have hown : s.vm.findClass R_Wa = some m.cls := findClass_of_methodNamed B.named
  have hlocks := B.notSynchronized
  subst hsz
  have hD := hD0.self (sz := s.heap.size)
  generalize hAe : va_A (wdX a cA u) s.heap.size = A at hD ⊢
  have hA : ∀ q : Nat, s.heap.size ≤ q → A q := fun q h => by rw [← hAe]; exact Or.inr h
  have hS : va_S A s.heap s.heap [] := va_S.rf
  have hI : tX (dC, dI) twCl [(cA, .int)] A s s.heap [] (wdX a cA u) := ⟨hK, hP, hD, hS⟩
  have hC : tC p s m meth c ([.ref (a 4), .int x1, .int x2, .int x3] : List Value).toArray b_Wa_add 4 (some .int) wsA R_Wa A := ⟨hx, hb, hr, hml, hown, hts, hlocks, hA, hN⟩
  have hl := lv_entry ([.ref (a 4), .int x1, .int x2, .int x3]) (n := 4) (Nat.le_of_ble_eq_true rfl)
  rw [lg_entry_eq]
  generalize (lg_sl ([.ref (a 4), .int x1, .int x2, .int x3]) ++ List.replicate (4 - (lg_sl ([.ref (a 4), .int x1, .int x2, .int x3])).length) Slot.unset).toArray = ls at hl ⊢
  have hl : lv_has ls 4 [(0, .ref (a 4)), (1, .int x1), (2, .int x2), (3, .int x3)] := hl
  have hw : (vp_in (u.1 3) 30 ∧ (vp_in ((tA u 9 (u.1 3) x1).1 3) 30 ∧ (vp_in ((tA (tA u 9 (u.1 3) x1) 10 ((tA u 9 (u.1 3) x1).1 3) x2).1 3) 30 ∧ (w_Wa_shorten (fun u44 => (post ((u44.1 3) - 1) u44)) x1 x2 x3 (tI (tA (tA (tA u 9 (u.1 3) x1) 10 ((tA u 9 (u.1 3) x1).1 3) x2) 11 ((tA (tA u 9 (u.1 3) x1) 10 ((tA u 9 (u.1 3) x1).1 3) x2).1 3) x3) 3 (((tA (tA (tA u 9 (u.1 3) x1) 10 ((tA u 9 (u.1 3) x1).1 3) x2) 11 ((tA (tA u 9 (u.1 3) x1) 10 ((tA u 9 (u.1 3) x1).1 3) x2).1 3) x3).1 3) + 1)))))) := hw
  refine lv_aload_n hx hb d_Wa_add_0 rfl (lv_at hl 0 rfl) ?_
  refine va_get (D := (dC, dI)) (C := R_Wa) (T := F_Wa) (N := 5) hx hb hts in_Wa hown hI.1 hI.2.1 4 (wdX_o4 a cA _) rfl 1 (by decide) (hts _ wA_140) (fun _ h9 => h9) rfl d_Wa_add_1 ?_
  refine lv_aload_n hx hb d_Wa_add_4 rfl (lv_at hl 0 rfl) ?_
  refine va_get (D := (dC, dI)) (C := R_Wa) (T := F_Wa) (N := 5) hx hb hts in_Wa hown hI.1 hI.2.1 4 (wdX_o4 a cA _) rfl 0 (by decide) (hts _ wA_137) (fun _ h9 => h9) rfl d_Wa_add_5 ?_
  refine lv_iload_n hx hb d_Wa_add_8 rfl (lv_at hl 1 rfl) ?_
  obtain ⟨hi, hw⟩ := hw
  refine tr_iast (w := wdX a cA) hx hb hI 19 0 9 (wdX_o19 a cA _) rfl (wdX_a9 a cA _ _ _) hi d_Wa_add_9 (fun H locs hI => ?_)
  refine lv_aload_n hx hb d_Wa_add_10 rfl (lv_at hl 0 rfl) ?_
  refine va_get (D := (dC, dI)) (C := R_Wa) (T := F_Wa) (N := 5) hx hb hts in_Wa hown hI.1 hI.2.1 4 (wdX_o4 a cA _) rfl 2 (by decide) (hts _ wA_143) (fun _ h9 => h9) rfl d_Wa_add_11 ?_
  refine lv_aload_n hx hb d_Wa_add_14 rfl (lv_at hl 0 rfl) ?_
  refine va_get (D := (dC, dI)) (C := R_Wa) (T := F_Wa) (N := 5) hx hb hts in_Wa hown hI.1 hI.2.1 4 (wdX_o4 a cA _) rfl 0 (by decide) (hts _ wA_137) (fun _ h9 => h9) rfl d_Wa_add_15 ?_
  refine lv_iload_n hx hb d_Wa_add_18 rfl (lv_at hl 2 rfl) ?_
  obtain ⟨hi, hw⟩ := hw
  refine tr_iast (w := wdX a cA) hx hb hI 20 0 10 (wdX_o20 a cA _) rfl (wdX_a10 a cA _ _ _) hi d_Wa_add_19 (fun H locs hI => ?_)
  refine lv_aload_n hx hb d_Wa_add_20 rfl (lv_at hl 0 rfl) ?_
  refine va_get (D := (dC, dI)) (C := R_Wa) (T := F_Wa) (N := 5) hx hb hts in_Wa hown hI.1 hI.2.1 4 (wdX_o4 a cA _) rfl 3 (by decide) (hts _ wA_145) (fun _ h9 => h9) rfl d_Wa_add_21 ?_
  refine lv_aload_n hx hb d_Wa_add_24 rfl (lv_at hl 0 rfl) ?_
  refine va_get (D := (dC, dI)) (C := R_Wa) (T := F_Wa) (N := 5) hx hb hts in_Wa hown hI.1 hI.2.1 4 (wdX_o4 a cA _) rfl 0 (by decide) (hts _ wA_137) (fun _ h9 => h9) rfl d_Wa_add_25 ?_
  refine lv_iload_n hx hb d_Wa_add_28 rfl (lv_at hl 3 rfl) ?_
  obtain ⟨hi, hw⟩ := hw
  refine tr_iast (w := wdX a cA) hx hb hI 21 0 11 (wdX_o21 a cA _) rfl (wdX_a11 a cA _ _ _) hi d_Wa_add_29 (fun H locs hI => ?_)
  refine lv_aload_n hx hb d_Wa_add_30 rfl (lv_at hl 0 rfl) ?_
  refine lv_dup hx hb d_Wa_add_31 rfl ?_
  refine va_get (D := (dC, dI)) (C := R_Wa) (T := F_Wa) (N := 5) hx hb hts in_Wa hown hI.1 hI.2.1 4 (wdX_o4 a cA _) rfl 0 (by decide) (hts _ wA_137) (fun _ h9 => h9) rfl d_Wa_add_32 ?_
  refine lv_iconst (v := 1) hx hb d_Wa_add_35 (by decide) ?_
  refine lv_iadd hx hb d_Wa_add_36 ?_
  refine tr_put (C := R_Wa) (T := F_Wa) (N := 5) (w := wdX a cA) hx hb hts in_Wa ft_Wa ft_Wa_ok fn_Wa hown hI 4 3 (wdX_o4 a cA _) rfl 0 (by decide) (hts _ wA_137) rfl (by decide +kernel) (Nat.le_of_ble_eq_true rfl) (wdX_i3 a cA _ _) d_Wa_add_37 (fun H locs hI => ?_)
  refine lv_aload_n hx hb d_Wa_add_40 rfl (lv_at hl 0 rfl) ?_
  refine lv_iload_n hx hb d_Wa_add_41 rfl (lv_at hl 1 rfl) ?_
  refine lv_iload_n hx hb d_Wa_add_42 rfl (lv_at hl 2 rfl) ?_
  refine lv_iload_n hx hb d_Wa_add_43 rfl (lv_at hl 3 rfl) ?_
  refine tr_gov (w := wdX a cA) hI hA (va_runV (As := [.int x1, .int x2, .int x3]) (rest := []) ⟨hx, hb, hml, hown, hts⟩ (c_Wa_shorten l dC dI cA a _ _ _ _ _ _) (cwV 3 hts (wsA_goodV wA_356 wA_358 wA_1 wA_34 wA_359) rfl rfl rfl (by decide +kernel) ⟨Nat.le_of_ble_eq_true rfl, Nat.le_of_ble_eq_true rfl⟩) (tr_preV (ci := 4) (q0 := 4) hI rfl (wdX_o4 a cA _) rfl hN hw) rfl rfl hl.1 rfl (lv_room (Nat.le_of_ble_eq_true rfl)) d_Wa_add_44 ⟨Nat.zero_le _, Nat.zero_le _⟩) (fun u44 H locs hw hI => ?_)
  refine lv_aload_n hx hb d_Wa_add_47 rfl (lv_at hl 0 rfl) ?_
  refine va_get (D := (dC, dI)) (C := R_Wa) (T := F_Wa) (N := 5) hx hb hts in_Wa hown hI.1 hI.2.1 4 (wdX_o4 a cA _) rfl 0 (by decide) (hts _ wA_137) (fun _ h9 => h9) rfl d_Wa_add_48 ?_
  refine lv_iconst (v := 1) hx hb d_Wa_add_51 (by decide) ?_
  refine lv_isub hx hb d_Wa_add_52 ?_
  exact tr_iret hx hb hr hlocks hI hw d_Wa_add_53
