def w_Ar_lastWalk_2 (post : Int32 → tS → Prop) : Nat → Int32 → Int32 → tS → Prop
  | 0 => fun _ _ _ => False
  | n + 1 => fun x2 x3 u => (((u.1 3) ≤ x3 → (post (-1) u)) ∧ (¬ (u.1 3) ≤ x3 → (vp_in x3 30 ∧ (w_Ar_first (fun r23 u23 => (vp_in x3 30 ∧ (vp_in x3 30 ∧ (((u23.2 10 x3.toNatClampNeg) = x2 → (vp_in x2 12 ∧ (((r23 + (u23.2 11 x3.toNatClampNeg)) = (u23.2 14 x2.toNatClampNeg) → (post x3 u23)) ∧ (¬ (r23 + (u23.2 11 x3.toNatClampNeg)) = (u23.2 14 x2.toNatClampNeg) → (w_Ar_lastWalk_2 post n x2 (x3 + 1) u23))))) ∧ (¬ (u23.2 10 x3.toNatClampNeg) = x2 → (w_Ar_lastWalk_2 post n x2 (x3 + 1) u23)))))) (u.2 9 x3.toNatClampNeg) u))))
def w_Ar_lastWalk (post : Int32 → tS → Prop) (x2 : Int32) (u : tS) : Prop := (∃ k, w_Ar_lastWalk_2 post k x2 0 u)
set_option maxRecDepth 100000 in
set_option maxHeartbeats 4000000 in
theorem k_Ar_lastWalk_2 {p : Program} {l : Launch} {e : Env} {s : State} {m : MethodId} {args : Array Value} {below : List Frame} {meth : Method} {c : Code} {dC : Nat → ClassId} {dI : Nat → Nat → Nat} {cA : ClassId} {a : Nat → Nat} {A : Nat → Prop} (hC : tC p s m meth c args b_Ar_lastWalk 5 (some .int) wsA R_Ar A) (post : Int32 → tS → Prop) : ∀ n : Nat, ∀ (x2 x3 : Int32) (u : tS) (H : Heap) (locs : List Loc) (ls : Array Slot), w_Ar_lastWalk_2 post n x2 x3 u → tX (dC, dI) twCl [(cA, .int)] A s H locs (wdX a cA u) → lv_has ls 5 [(0, .ref (a 5)), (1, .ref (a 1)), (2, .int x2), (3, .int x3)] → W p l e ({ frames := 2, cells := 0, slots := 0, locals := 34 }) s m args below meth c H locs 0 0 (MQ below (va_Qi post (tB (dC, dI) twCl [(cA, .int)] A (wdX a cA)) A) args s 0 0 A) (F0 m 2 ls []) := by
  obtain ⟨hx, hb, hr, hml, hown, hts, hlocks, hA, hN⟩ := id hC
  intro n
  induction n with
  | zero => intro x2 x3 u H locs ls hw; exact False.elim hw
  | succ n ih =>
    intro x2 x3 u H locs ls hw hI hl
    refine lv_iload_n hx hb d_Ar_lastWalk_2 rfl (lv_at hl 3 rfl) ?_
    refine lv_aload_n hx hb d_Ar_lastWalk_3 rfl (lv_at hl 1 rfl) ?_
    refine va_get (D := (dC, dI)) (C := R_Ne) (T := F_Ne) (N := 5) hx hb hts in_Ne hown hI.1 hI.2.1 1 (wdX_o1 a cA _) rfl 4 (by decide) (hts _ wA_178) (fun _ h9 => h9) rfl d_Ar_lastWalk_4 ?_
    refine va_get (D := (dC, dI)) (C := R_Wa) (T := F_Wa) (N := 5) hx hb hts in_Wa hown hI.1 hI.2.1 4 (wdX_o4 a cA _) rfl 0 (by decide) (hts _ wA_139) (fun _ h9 => h9) rfl d_Ar_lastWalk_7 ?_
    refine lv_icmp_ge (tgt := 70) hx hb d_Ar_lastWalk_10 (by decide) (fun hc => ?_) (fun hc => ?_)
    · have hw := hw.1 hc
      refine lv_iconst (v := (-1)) hx hb d_Ar_lastWalk_70 (by decide) ?_
      exact tr_iret hx hb hr hlocks hI hw d_Ar_lastWalk_71
    · have hw := hw.2 hc
      refine lv_aload_n hx hb d_Ar_lastWalk_13 rfl (lv_at hl 0 rfl) ?_
      refine lv_aload_n hx hb d_Ar_lastWalk_14 rfl (lv_at hl 1 rfl) ?_
      refine va_get (D := (dC, dI)) (C := R_Ne) (T := F_Ne) (N := 5) hx hb hts in_Ne hown hI.1 hI.2.1 1 (wdX_o1 a cA _) rfl 4 (by decide) (hts _ wA_178) (fun _ h9 => h9) rfl d_Ar_lastWalk_15 ?_
      refine va_get (D := (dC, dI)) (C := R_Wa) (T := F_Wa) (N := 5) hx hb hts in_Wa hown hI.1 hI.2.1 4 (wdX_o4 a cA _) rfl 1 (by decide) (hts _ wA_142) (fun _ h9 => h9) rfl d_Ar_lastWalk_18 ?_
      refine lv_iload_n hx hb d_Ar_lastWalk_21 rfl (lv_at hl 3 rfl) ?_
      obtain ⟨hi, hw⟩ := hw
      refine va_iald (D := (dC, dI)) hx hb hI.1 hI.2.1 19 0 (wdX_o19 a cA _) rfl hi d_Ar_lastWalk_22 ?_
      refine tr_goi (w := wdX a cA) hI hA (va_runV (As := [.int (u.2 9 x3.toNatClampNeg)]) (rest := []) ⟨hx, hb, hml, hown, hts⟩ (c_Ar_first l dC dI cA a _ _ _ _) (cwV 1 hts (wsA_goodV wA_533 wA_422 wA_423 wA_36 wA_424) rfl rfl rfl (by decide +kernel) ⟨Nat.le_of_ble_eq_true rfl, Nat.le_of_ble_eq_true rfl⟩) (tr_preV (ci := 5) (q0 := 5) hI rfl (wdX_o5 a cA _) rfl hN hw) rfl rfl hl.1 rfl (lv_room (Nat.le_of_ble_eq_true rfl)) d_Ar_lastWalk_23 ⟨Nat.zero_le _, Nat.zero_le _⟩) (fun r23 u23 H locs hw hI => ?_)
      refine lv_aload_n hx hb d_Ar_lastWalk_26 rfl (lv_at hl 1 rfl) ?_
      refine va_get (D := (dC, dI)) (C := R_Ne) (T := F_Ne) (N := 5) hx hb hts in_Ne hown hI.1 hI.2.1 1 (wdX_o1 a cA _) rfl 4 (by decide) (hts _ wA_178) (fun _ h9 => h9) rfl d_Ar_lastWalk_27 ?_
      refine va_get (D := (dC, dI)) (C := R_Wa) (T := F_Wa) (N := 5) hx hb hts in_Wa hown hI.1 hI.2.1 4 (wdX_o4 a cA _) rfl 3 (by decide) (hts _ wA_147) (fun _ h9 => h9) rfl d_Ar_lastWalk_30 ?_
      refine lv_iload_n hx hb d_Ar_lastWalk_33 rfl (lv_at hl 3 rfl) ?_
      obtain ⟨hi, hw⟩ := hw
      refine va_iald (D := (dC, dI)) hx hb hI.1 hI.2.1 21 0 (wdX_o21 a cA _) rfl hi d_Ar_lastWalk_34 ?_
      refine lv_iadd hx hb d_Ar_lastWalk_35 ?_
      refine lv_istore (lv' := [(4, .int (r23 + (u23.2 11 x3.toNatClampNeg))), (0, .ref (a 5)), (1, .ref (a 1)), (2, .int x2), (3, .int x3)]) hx hb d_Ar_lastWalk_36 hl (by decide) rfl (fun ls hl => ?_)
      refine lv_aload_n hx hb d_Ar_lastWalk_38 rfl (lv_at hl 2 rfl) ?_
      refine va_get (D := (dC, dI)) (C := R_Ne) (T := F_Ne) (N := 5) hx hb hts in_Ne hown hI.1 hI.2.1 1 (wdX_o1 a cA _) rfl 4 (by decide) (hts _ wA_178) (fun _ h9 => h9) rfl d_Ar_lastWalk_39 ?_
      refine va_get (D := (dC, dI)) (C := R_Wa) (T := F_Wa) (N := 5) hx hb hts in_Wa hown hI.1 hI.2.1 4 (wdX_o4 a cA _) rfl 2 (by decide) (hts _ wA_144) (fun _ h9 => h9) rfl d_Ar_lastWalk_42 ?_
      refine lv_iload_n hx hb d_Ar_lastWalk_45 rfl (lv_at hl 4 rfl) ?_
      obtain ⟨hi, hw⟩ := hw
      refine va_iald (D := (dC, dI)) hx hb hI.1 hI.2.1 20 0 (wdX_o20 a cA _) rfl hi d_Ar_lastWalk_46 ?_
      refine lv_iload_n hx hb d_Ar_lastWalk_47 rfl (lv_at hl 3 rfl) ?_
      refine lv_icmp_ne (tgt := 64) hx hb d_Ar_lastWalk_48 (by decide) (fun hc => ?_) (fun hc => ?_)
      · have hw := hw.2 hc
        refine lv_iinc (v := (x3 + 1)) (lv' := [(3, .int (x3 + 1)), (4, .int (r23 + (u23.2 11 x3.toNatClampNeg))), (0, .ref (a 5)), (1, .ref (a 1)), (2, .int x2)]) hx hb d_Ar_lastWalk_64 hl (k := 4) rfl rfl (by decide) rfl (fun ls hl => ?_)
        refine lv_goto (tgt := 2) hx hb d_Ar_lastWalk_67 (by decide) ?_
        exact ih _ _ _ _ _ ls hw hI (lv_sub hl [2, 3, 4, 0] rfl)
      · have hw := hw.1 hc
        refine lv_iload hx hb d_Ar_lastWalk_51 (lv_at hl 0 rfl) ?_
        refine lv_aload_n hx hb d_Ar_lastWalk_53 rfl (lv_at hl 1 rfl) ?_
        refine va_get (D := (dC, dI)) (C := R_Ar) (T := F_Ar) (N := 2) hx hb hts in_Ar hown hI.1 hI.2.1 5 (wdX_o5 a cA _) rfl 1 (by decide) (hts _ wA_198) (fun _ h9 => h9) rfl d_Ar_lastWalk_54 ?_
        refine lv_iload_n hx hb d_Ar_lastWalk_57 rfl (lv_at hl 3 rfl) ?_
        obtain ⟨hi, hw⟩ := hw
        refine va_iald (D := (dC, dI)) hx hb hI.1 hI.2.1 24 0 (wdX_o24 a cA _) rfl hi d_Ar_lastWalk_58 ?_
        refine lv_icmp_ne (tgt := 64) hx hb d_Ar_lastWalk_59 (by decide) (fun hc => ?_) (fun hc => ?_)
        · have hw := hw.2 hc
          refine lv_iinc (v := (x3 + 1)) (lv' := [(3, .int (x3 + 1)), (4, .int (r23 + (u23.2 11 x3.toNatClampNeg))), (0, .ref (a 5)), (1, .ref (a 1)), (2, .int x2)]) hx hb d_Ar_lastWalk_64 hl (k := 4) rfl rfl (by decide) rfl (fun ls hl => ?_)
          refine lv_goto (tgt := 2) hx hb d_Ar_lastWalk_67 (by decide) ?_
          exact ih _ _ _ _ _ ls hw hI (lv_sub hl [2, 3, 4, 0] rfl)
        · have hw := hw.1 hc
          refine lv_iload_n hx hb d_Ar_lastWalk_62 rfl (lv_at hl 4 rfl) ?_
          exact tr_iret hx hb hr hlocks hI hw d_Ar_lastWalk_63
set_option maxRecDepth 100000 in
set_option maxHeartbeats 4000000 in
theorem c_Ar_lastWalk (l : Launch) (dC : Nat → ClassId) (dI : Nat → Nat → Nat) (cA : ClassId) (a : Nat → Nat) (u : tS) (x2 : Int32) (post : Int32 → tS → Prop) (sz : Nat) : Met l y_Ar_lastWalk ws_Ar_lastWalk ({ frames := 2, cells := 0, slots := 0, locals := 34 }) (va_Pc [.ref (a 5), .ref (a 1), .int x2] (tP (dC, dI) twCl [(cA, .int)] (wdX a cA) u sz (w_Ar_lastWalk post x2 u))) (va_Qi post (tB (dC, dI) twCl [(cA, .int)] (va_A (wdX a cA u) sz) (wdX a cA)) (va_A (wdX a cA u) sz)) 0 0 (va_A (wdX a cA u) sz) := by
  refine Met.ofW (cc := b_Ar_lastWalk) (maxL := 5) (ret := (some .int)) (by decide) rfl ?_
  intro p e s m args below meth c s₁ B hml hv
  obtain ⟨rfl, hsz, hP, hK, hD0, hN, hw⟩ := hv
  have hx := B.exec
  have hb := B.bytes
  have hr := B.returns
  have hts : ∀ w ∈ wsA, w.before _ s = true := fun w h => atoms_spec (ws := ws_Ar_lastWalk) B.pre w (List.mem_cons_of_mem _ h)
  have hown : s.vm.findClass R_Ar = some m.cls := findClass_of_methodNamed B.named
  have hlocks := B.notSynchronized
  subst hsz
  have hD := hD0.self (sz := s.heap.size)
  generalize hAe : va_A (wdX a cA u) s.heap.size = A at hD ⊢
  have hA : ∀ q : Nat, s.heap.size ≤ q → A q := fun q h => by rw [← hAe]; exact Or.inr h
  have hS : va_S A s.heap s.heap [] := va_S.rf
  have hI : tX (dC, dI) twCl [(cA, .int)] A s s.heap [] (wdX a cA u) := ⟨hK, hP, hD, hS⟩
  have hC : tC p s m meth c ([.ref (a 5), .ref (a 1), .int x2] : List Value).toArray b_Ar_lastWalk 5 (some .int) wsA R_Ar A := ⟨hx, hb, hr, hml, hown, hts, hlocks, hA, hN⟩
  have hl := lv_entry ([.ref (a 5), .ref (a 1), .int x2]) (n := 5) (Nat.le_of_ble_eq_true rfl)
  rw [lg_entry_eq]
  generalize (lg_sl ([.ref (a 5), .ref (a 1), .int x2]) ++ List.replicate (5 - (lg_sl ([.ref (a 5), .ref (a 1), .int x2])).length) Slot.unset).toArray = ls at hl ⊢
  have hl : lv_has ls 5 [(0, .ref (a 5)), (1, .ref (a 1)), (2, .int x2)] := hl
  have hw : (∃ k, w_Ar_lastWalk_2 post k x2 0 u) := hw
  refine lv_iconst (v := 0) hx hb d_Ar_lastWalk_0 (by decide) ?_
  refine lv_istore_n (lv' := [(3, .int 0), (0, .ref (a 5)), (1, .ref (a 1)), (2, .int x2)]) hx hb d_Ar_lastWalk_1 rfl hl (by decide) rfl (fun ls hl => ?_)
  obtain ⟨k, hw⟩ := hw
  exact k_Ar_lastWalk_2 hC post k _ _ _ _ _ ls hw hI (lv_sub hl [1, 2, 3, 0] rfl)
def w_Ac_addWalk (post : Int32 → tS → Prop) (x3 : Int32) (u : tS) : Prop := (w_Ar_lastWalk (fun r3 u3 => ((r3 = (-1) → (post (-1) u3)) ∧ (¬ r3 = (-1) → (vp_in r3 30 ∧ (w_Ar_first (fun r35 u35 => (vp_in r3 30 ∧ (w_Ac_put (fun u48 => (post (u3.2 9 r3.toNatClampNeg) u48)) r3 (-1) r35 (u35.2 11 r3.toNatClampNeg) u35))) (u3.2 9 r3.toNatClampNeg) u3))))) x3 u)
set_option maxRecDepth 100000 in
set_option maxHeartbeats 4000000 in
theorem c_Ac_addWalk (l : Launch) (dC : Nat → ClassId) (dI : Nat → Nat → Nat) (cA : ClassId) (a : Nat → Nat) (u : tS) (x3 : Int32) (post : Int32 → tS → Prop) (sz : Nat) : Met l y_Ac_addWalk ws_Ac_addWalk ({ frames := 3, cells := 0, slots := 0, locals := 58 }) (va_Pc [.ref (a 9), .ref (a 1), .ref (a 5), .int x3] (tP (dC, dI) twCl [(cA, .int)] (wdX a cA) u sz (w_Ac_addWalk post x3 u))) (va_Qi post (tB (dC, dI) twCl [(cA, .int)] (va_A (wdX a cA u) sz) (wdX a cA)) (va_A (wdX a cA u) sz)) 0 0 (va_A (wdX a cA u) sz) := by
  refine Met.ofW (cc := b_Ac_addWalk) (maxL := 6) (ret := (some .int)) (by decide) rfl ?_
  intro p e s m args below meth c s₁ B hml hv
  obtain ⟨rfl, hsz, hP, hK, hD0, hN, hw⟩ := hv
  have hx := B.exec
  have hb := B.bytes
  have hr := B.returns
  have hts : ∀ w ∈ wsA, w.before _ s = true := fun w h => atoms_spec (ws := ws_Ac_addWalk) B.pre w (List.mem_cons_of_mem _ h)
  have hown : s.vm.findClass R_Ac = some m.cls := findClass_of_methodNamed B.named
  have hlocks := B.notSynchronized
  subst hsz
  have hD := hD0.self (sz := s.heap.size)
  generalize hAe : va_A (wdX a cA u) s.heap.size = A at hD ⊢
  have hA : ∀ q : Nat, s.heap.size ≤ q → A q := fun q h => by rw [← hAe]; exact Or.inr h
  have hS : va_S A s.heap s.heap [] := va_S.rf
  have hI : tX (dC, dI) twCl [(cA, .int)] A s s.heap [] (wdX a cA u) := ⟨hK, hP, hD, hS⟩
  have hC : tC p s m meth c ([.ref (a 9), .ref (a 1), .ref (a 5), .int x3] : List Value).toArray b_Ac_addWalk 6 (some .int) wsA R_Ac A := ⟨hx, hb, hr, hml, hown, hts, hlocks, hA, hN⟩
  have hl := lv_entry ([.ref (a 9), .ref (a 1), .ref (a 5), .int x3]) (n := 6) (Nat.le_of_ble_eq_true rfl)
  rw [lg_entry_eq]
  generalize (lg_sl ([.ref (a 9), .ref (a 1), .ref (a 5), .int x3]) ++ List.replicate (6 - (lg_sl ([.ref (a 9), .ref (a 1), .ref (a 5), .int x3])).length) Slot.unset).toArray = ls at hl ⊢
  have hl : lv_has ls 6 [(0, .ref (a 9)), (1, .ref (a 1)), (2, .ref (a 5)), (3, .int x3)] := hl
  have hw : (w_Ar_lastWalk (fun r3 u3 => ((r3 = (-1) → (post (-1) u3)) ∧ (¬ r3 = (-1) → (vp_in r3 30 ∧ (w_Ar_first (fun r35 u35 => (vp_in r3 30 ∧ (w_Ac_put (fun u48 => (post (u3.2 9 r3.toNatClampNeg) u48)) r3 (-1) r35 (u35.2 11 r3.toNatClampNeg) u35))) (u3.2 9 r3.toNatClampNeg) u3))))) x3 u) := hw
  refine lv_aload_n hx hb d_Ac_addWalk_0 rfl (lv_at hl 2 rfl) ?_
  refine lv_aload_n hx hb d_Ac_addWalk_1 rfl (lv_at hl 1 rfl) ?_
  refine lv_iload_n hx hb d_Ac_addWalk_2 rfl (lv_at hl 3 rfl) ?_
  refine tr_goi (w := wdX a cA) hI hA (va_runV (As := [.ref (a 1), .int x3]) (rest := []) ⟨hx, hb, hml, hown, hts⟩ (c_Ar_lastWalk l dC dI cA a _ _ _ _) (cwV 2 hts (wsA_goodV wA_529 wA_530 wA_531 wA_36 wA_532) rfl rfl rfl (by decide +kernel) ⟨Nat.le_of_ble_eq_true rfl, Nat.le_of_ble_eq_true rfl⟩) (tr_preV (ci := 5) (q0 := 5) hI rfl (wdX_o5 a cA _) rfl hN hw) rfl rfl hl.1 rfl (lv_room (Nat.le_of_ble_eq_true rfl)) d_Ac_addWalk_3 ⟨Nat.zero_le _, Nat.zero_le _⟩) (fun r3 u3 H locs hw hI => ?_)
  refine lv_istore (lv' := [(4, .int r3), (0, .ref (a 9)), (1, .ref (a 1)), (2, .ref (a 5)), (3, .int x3)]) hx hb d_Ac_addWalk_6 hl (by decide) rfl (fun ls hl => ?_)
  refine lv_iload hx hb d_Ac_addWalk_8 (lv_at hl 0 rfl) ?_
  refine lv_iconst (v := (-1)) hx hb d_Ac_addWalk_10 (by decide) ?_
  refine lv_icmp_ne (tgt := 16) hx hb d_Ac_addWalk_11 (by decide) (fun hc => ?_) (fun hc => ?_)
  · have hw := hw.2 hc
    refine lv_aload_n hx hb d_Ac_addWalk_16 rfl (lv_at hl 2 rfl) ?_
    refine va_get (D := (dC, dI)) (C := R_Ne) (T := F_Ne) (N := 5) hx hb hts in_Ne hown hI.1 hI.2.1 1 (wdX_o1 a cA _) rfl 4 (by decide) (hts _ wA_177) (fun _ h9 => h9) rfl d_Ac_addWalk_17 ?_
    refine va_get (D := (dC, dI)) (C := R_Wa) (T := F_Wa) (N := 5) hx hb hts in_Wa hown hI.1 hI.2.1 4 (wdX_o4 a cA _) rfl 1 (by decide) (hts _ wA_141) (fun _ h9 => h9) rfl d_Ac_addWalk_20 ?_
    refine lv_iload hx hb d_Ac_addWalk_23 (lv_at hl 0 rfl) ?_
    obtain ⟨hi, hw⟩ := hw
    refine va_iald (D := (dC, dI)) hx hb hI.1 hI.2.1 19 0 (wdX_o19 a cA _) rfl hi d_Ac_addWalk_25 ?_
    refine lv_istore (lv' := [(5, .int (u3.2 9 r3.toNatClampNeg)), (4, .int r3), (0, .ref (a 9)), (1, .ref (a 1)), (2, .ref (a 5)), (3, .int x3)]) hx hb d_Ac_addWalk_26 hl (by decide) rfl (fun ls hl => ?_)
    refine lv_aload_n hx hb d_Ac_addWalk_28 rfl (lv_at hl 2 rfl) ?_
    refine lv_iload hx hb d_Ac_addWalk_29 (lv_at hl 1 rfl) ?_
    refine lv_iconst (v := (-1)) hx hb d_Ac_addWalk_31 (by decide) ?_
    refine lv_aload_n hx hb d_Ac_addWalk_32 rfl (lv_at hl 4 rfl) ?_
    refine lv_iload hx hb d_Ac_addWalk_33 (lv_at hl 0 rfl) ?_
    refine tr_goi (w := wdX a cA) hI hA (va_runV (As := [.int (u3.2 9 r3.toNatClampNeg)]) (rest := [.int (-1), .int r3, .ref (a 9)]) ⟨hx, hb, hml, hown, hts⟩ (c_Ar_first l dC dI cA a _ _ _ _) (cwV 1 hts (wsA_goodV wA_520 wA_422 wA_423 wA_36 wA_424) rfl rfl rfl (by decide +kernel) ⟨Nat.le_of_ble_eq_true rfl, Nat.le_of_ble_eq_true rfl⟩) (tr_preV (ci := 5) (q0 := 5) hI rfl (wdX_o5 a cA _) rfl hN hw) rfl rfl hl.1 rfl (lv_room (Nat.le_of_ble_eq_true rfl)) d_Ac_addWalk_35 ⟨Nat.zero_le _, Nat.zero_le _⟩) (fun r35 u35 H locs hw hI => ?_)
    refine lv_aload_n hx hb d_Ac_addWalk_38 rfl (lv_at hl 3 rfl) ?_
    refine va_get (D := (dC, dI)) (C := R_Ne) (T := F_Ne) (N := 5) hx hb hts in_Ne hown hI.1 hI.2.1 1 (wdX_o1 a cA _) rfl 4 (by decide) (hts _ wA_177) (fun _ h9 => h9) rfl d_Ac_addWalk_39 ?_
    refine va_get (D := (dC, dI)) (C := R_Wa) (T := F_Wa) (N := 5) hx hb hts in_Wa hown hI.1 hI.2.1 4 (wdX_o4 a cA _) rfl 3 (by decide) (hts _ wA_146) (fun _ h9 => h9) rfl d_Ac_addWalk_42 ?_
    refine lv_iload hx hb d_Ac_addWalk_45 (lv_at hl 1 rfl) ?_
    obtain ⟨hi, hw⟩ := hw
    refine va_iald (D := (dC, dI)) hx hb hI.1 hI.2.1 21 0 (wdX_o21 a cA _) rfl hi d_Ac_addWalk_47 ?_
    refine tr_gov (w := wdX a cA) hI hA (va_runV (As := [.int r3, .int (-1), .int r35, .int (u35.2 11 r3.toNatClampNeg)]) (rest := []) ⟨hx, hb, hml, hown, hts⟩ (c_Ac_put l dC dI cA a _ _ _ _ _ _ _) (cwV 4 hts (wsA_goodV wA_534 wA_536 wA_6 wA_39 wA_537) rfl rfl rfl (by decide +kernel) ⟨Nat.le_of_ble_eq_true rfl, Nat.le_of_ble_eq_true rfl⟩) (tr_preV (ci := 8) (q0 := 9) hI rfl (wdX_o9 a cA _) rfl hN hw) rfl rfl hl.1 rfl (lv_room (Nat.le_of_ble_eq_true rfl)) d_Ac_addWalk_48 ⟨Nat.zero_le _, Nat.zero_le _⟩) (fun u48 H locs hw hI => ?_)
    refine lv_iload hx hb d_Ac_addWalk_51 (lv_at hl 0 rfl) ?_
    exact tr_iret hx hb hr hlocks hI hw d_Ac_addWalk_53
  · have hw := hw.1 hc
    refine lv_iconst (v := (-1)) hx hb d_Ac_addWalk_14 (by decide) ?_
    exact tr_iret hx hb hr hlocks hI hw d_Ac_addWalk_15
def w_Ac_trace_68 (post : tS → Prop) (K26 : Int32 → Int32 → Int32 → Int32 → tS → Prop) (x3 : Int32) (x7 : Int32) (y0 : Int32) (u : tS) : Prop := ((y0 = (-1) → (post u)) ∧ (¬ y0 = (-1) → (vp_in ((u.1 5) - 1) 24 ∧ (w_Ar_isByWalk (fun r91 u91 => (K26 x3 y0 r91 (x7 + 1) u91)) y0 (u.2 23 ((u.1 5) - 1).toNatClampNeg) u))))
def w_Ac_trace_44 (post : tS → Prop) (K26 : Int32 → Int32 → Int32 → Int32 → tS → Prop) (x3 : Int32) (x5 : Int32) (x6 : Int32) (x7 : Int32) (u : tS) : Prop := ((x6 = 0 → (w_Ac_addDeparture (fun r65 u65 => (w_Ac_trace_68 post K26 x3 x7 r65 u65)) x5 u)) ∧ (¬ x6 = 0 → (w_Ac_addWalk (fun r54 u54 => (w_Ac_trace_68 post K26 x3 x7 r54 u54)) x5 u)))
def w_Ac_trace_26 (post : tS → Prop) : Nat → Int32 → Int32 → Int32 → Int32 → tS → Prop
  | 0 => fun _ _ _ _ _ => False
  | n + 1 => fun x3 x5 x6 x7 u => ((24 ≤ x7 → (post u)) ∧ (¬ 24 ≤ x7 → ((x6 = 0 → (w_Ac_trace_44 post (w_Ac_trace_26 post n) x3 x5 x6 x7 u)) ∧ (¬ x6 = 0 → ((x5 = x3 → (post u)) ∧ (¬ x5 = x3 → (w_Ac_trace_44 post (w_Ac_trace_26 post n) x3 x5 x6 x7 u)))))))
def w_Ac_trace (post : tS → Prop) (x3 : Int32) (x4 : Int32) (u : tS) : Prop := (w_Ar_first (fun r15 u15 => (w_Ar_isByWalk (fun r18 u18 => (∃ k, w_Ac_trace_26 post k x3 x4 r18 0 u18)) x4 r15 u15)) x4 (tI u 5 0))
set_option maxRecDepth 100000 in
set_option maxHeartbeats 4000000 in
theorem k_Ac_trace_68 {p : Program} {l : Launch} {e : Env} {s : State} {m : MethodId} {args : Array Value} {below : List Frame} {meth : Method} {c : Code} {dC : Nat → ClassId} {dI : Nat → Nat → Nat} {cA : ClassId} {a : Nat → Nat} {A : Nat → Prop} (hC : tC p s m meth c args b_Ac_trace 8 none wsA R_Ac A) (post : tS → Prop) (K26 : Int32 → Int32 → Int32 → Int32 → tS → Prop) (hK26 : ∀ (x3 x5 x6 x7 : Int32) (u : tS) (H : Heap) (locs : List Loc) (ls : Array Slot), K26 x3 x5 x6 x7 u → tX (dC, dI) twCl [(cA, .int)] A s H locs (wdX a cA u) → lv_has ls 8 [(0, .ref (a 9)), (1, .ref (a 1)), (2, .ref (a 5)), (3, .int x3), (5, .int x5), (6, .int x6), (7, .int x7)] → W p l e ({ frames := 4, cells := 0, slots := 0, locals := 97 }) s m args below meth c H locs 0 0 (MQ below (va_Qv post (tB (dC, dI) twCl [(cA, .int)] A (wdX a cA)) A) args s 0 0 A) (F0 m 26 ls [])) : ∀ (x3 x7 y0 : Int32) (u : tS) (H : Heap) (locs : List Loc) (ls : Array Slot), w_Ac_trace_68 post K26 x3 x7 y0 u → tX (dC, dI) twCl [(cA, .int)] A s H locs (wdX a cA u) → lv_has ls 8 [(0, .ref (a 9)), (1, .ref (a 1)), (2, .ref (a 5)), (3, .int x3), (7, .int x7)] → W p l e ({ frames := 4, cells := 0, slots := 0, locals := 97 }) s m args below meth c H locs 0 0 (MQ below (va_Qv post (tB (dC, dI) twCl [(cA, .int)] A (wdX a cA)) A) args s 0 0 A) (F0 m 68 ls [.int y0]) := by
  obtain ⟨hx, hb, hr, hml, hown, hts, hlocks, hA, hN⟩ := id hC
  intro x3 x7 y0 u H locs ls hw hI hl
  refine lv_istore (lv' := [(5, .int y0), (0, .ref (a 9)), (1, .ref (a 1)), (2, .ref (a 5)), (3, .int x3), (7, .int x7)]) hx hb d_Ac_trace_68 hl (by decide) rfl (fun ls hl => ?_)
  refine lv_iload hx hb d_Ac_trace_70 (lv_at hl 0 rfl) ?_
  refine lv_iconst (v := (-1)) hx hb d_Ac_trace_72 (by decide) ?_
  refine lv_icmp_ne (tgt := 77) hx hb d_Ac_trace_73 (by decide) (fun hc => ?_) (fun hc => ?_)
  · have hw := hw.2 hc
    refine lv_aload_n hx hb d_Ac_trace_77 rfl (lv_at hl 3 rfl) ?_
    refine lv_iload hx hb d_Ac_trace_78 (lv_at hl 0 rfl) ?_
    refine lv_aload_n hx hb d_Ac_trace_80 rfl (lv_at hl 1 rfl) ?_
    refine va_get (D := (dC, dI)) (C := R_Ac) (T := F_Ac) (N := 5) hx hb hts in_Ac hown hI.1 hI.2.1 9 (wdX_o9 a cA _) rfl 3 (by decide) (hts _ wA_249) (fun _ h9 => h9) rfl d_Ac_trace_81 ?_
    refine lv_aload_n hx hb d_Ac_trace_84 rfl (lv_at hl 1 rfl) ?_
    refine va_get (D := (dC, dI)) (C := R_Ac) (T := F_Ac) (N := 5) hx hb hts in_Ac hown hI.1 hI.2.1 9 (wdX_o9 a cA _) rfl 0 (by decide) (hts _ wA_243) (fun _ h9 => h9) rfl d_Ac_trace_85 ?_
    refine lv_iconst (v := 1) hx hb d_Ac_trace_88 (by decide) ?_
    refine lv_isub hx hb d_Ac_trace_89 ?_
    obtain ⟨hi, hw⟩ := hw
    refine va_iald (D := (dC, dI)) hx hb hI.1 hI.2.1 33 0 (wdX_o33 a cA _) rfl hi d_Ac_trace_90 ?_
    refine tr_goi (w := wdX a cA) hI hA (va_runV (As := [.int y0, .int (u.2 23 ((u.1 5) - 1).toNatClampNeg)]) (rest := []) ⟨hx, hb, hml, hown, hts⟩ (c_Ar_isByWalk l dC dI cA a _ _ _ _ _) (cwV 2 hts (wsA_goodV wA_521 wA_522 wA_523 wA_36 wA_524) rfl rfl rfl (by decide +kernel) ⟨Nat.le_of_ble_eq_true rfl, Nat.le_of_ble_eq_true rfl⟩) (tr_preV (ci := 5) (q0 := 5) hI rfl (wdX_o5 a cA _) rfl hN hw) rfl rfl hl.1 rfl (lv_room (Nat.le_of_ble_eq_true rfl)) d_Ac_trace_91 ⟨Nat.zero_le _, Nat.zero_le _⟩) (fun r91 u91 H locs hw hI => ?_)
    refine lv_istore (lv' := [(6, .int r91), (5, .int y0), (0, .ref (a 9)), (1, .ref (a 1)), (2, .ref (a 5)), (3, .int x3), (7, .int x7)]) hx hb d_Ac_trace_94 hl (by decide) rfl (fun ls hl => ?_)
    refine lv_iinc (v := (x7 + 1)) (lv' := [(7, .int (x7 + 1)), (6, .int r91), (5, .int y0), (0, .ref (a 9)), (1, .ref (a 1)), (2, .ref (a 5)), (3, .int x3)]) hx hb d_Ac_trace_96 hl (k := 6) rfl rfl (by decide) rfl (fun ls hl => ?_)
    refine lv_goto (tgt := 26) hx hb d_Ac_trace_99 (by decide) ?_
    exact hK26 _ _ _ _ _ _ _ ls hw hI (lv_sub hl [3, 4, 5, 6, 2, 1, 0] rfl)
  · have hw := hw.1 hc
    exact tr_vret hx hb hr hlocks hI hw d_Ac_trace_76
set_option maxRecDepth 100000 in
set_option maxHeartbeats 4000000 in
theorem k_Ac_trace_44 {p : Program} {l : Launch} {e : Env} {s : State} {m : MethodId} {args : Array Value} {below : List Frame} {meth : Method} {c : Code} {dC : Nat → ClassId} {dI : Nat → Nat → Nat} {cA : ClassId} {a : Nat → Nat} {A : Nat → Prop} (hC : tC p s m meth c args b_Ac_trace 8 none wsA R_Ac A) (post : tS → Prop) (K26 : Int32 → Int32 → Int32 → Int32 → tS → Prop) (hK26 : ∀ (x3 x5 x6 x7 : Int32) (u : tS) (H : Heap) (locs : List Loc) (ls : Array Slot), K26 x3 x5 x6 x7 u → tX (dC, dI) twCl [(cA, .int)] A s H locs (wdX a cA u) → lv_has ls 8 [(0, .ref (a 9)), (1, .ref (a 1)), (2, .ref (a 5)), (3, .int x3), (5, .int x5), (6, .int x6), (7, .int x7)] → W p l e ({ frames := 4, cells := 0, slots := 0, locals := 97 }) s m args below meth c H locs 0 0 (MQ below (va_Qv post (tB (dC, dI) twCl [(cA, .int)] A (wdX a cA)) A) args s 0 0 A) (F0 m 26 ls [])) : ∀ (x3 x5 x6 x7 : Int32) (u : tS) (H : Heap) (locs : List Loc) (ls : Array Slot), w_Ac_trace_44 post K26 x3 x5 x6 x7 u → tX (dC, dI) twCl [(cA, .int)] A s H locs (wdX a cA u) → lv_has ls 8 [(0, .ref (a 9)), (1, .ref (a 1)), (2, .ref (a 5)), (3, .int x3), (5, .int x5), (6, .int x6), (7, .int x7)] → W p l e ({ frames := 4, cells := 0, slots := 0, locals := 97 }) s m args below meth c H locs 0 0 (MQ below (va_Qv post (tB (dC, dI) twCl [(cA, .int)] A (wdX a cA)) A) args s 0 0 A) (F0 m 44 ls []) := by
  obtain ⟨hx, hb, hr, hml, hown, hts, hlocks, hA, hN⟩ := id hC
  intro x3 x5 x6 x7 u H locs ls hw hI hl
  refine lv_iload hx hb d_Ac_trace_44 (lv_at hl 5 rfl) ?_
  refine lv_if_eq (tgt := 60) hx hb d_Ac_trace_46 (by decide) (fun hc => ?_) (fun hc => ?_)
  · have hw := hw.1 hc
    refine lv_aload_n hx hb d_Ac_trace_60 rfl (lv_at hl 0 rfl) ?_
    refine lv_aload_n hx hb d_Ac_trace_61 rfl (lv_at hl 1 rfl) ?_
    refine lv_aload_n hx hb d_Ac_trace_62 rfl (lv_at hl 2 rfl) ?_
    refine lv_iload hx hb d_Ac_trace_63 (lv_at hl 4 rfl) ?_
    refine tr_goi (w := wdX a cA) hI hA (va_runV (As := [.ref (a 1), .ref (a 5), .int x5]) (rest := []) ⟨hx, hb, hml, hown, hts⟩ (c_Ac_addDeparture l dC dI cA a _ _ _ _) (cwV 3 hts (wsA_goodV wA_538 wA_540 wA_7 wA_39 wA_541) rfl rfl rfl (by decide +kernel) ⟨Nat.le_of_ble_eq_true rfl, Nat.le_of_ble_eq_true rfl⟩) (tr_preV (ci := 8) (q0 := 9) hI rfl (wdX_o9 a cA _) rfl hN hw) rfl rfl hl.1 rfl (lv_room (Nat.le_of_ble_eq_true rfl)) d_Ac_trace_65 ⟨Nat.zero_le _, Nat.zero_le _⟩) (fun r65 u65 H locs hw hI => ?_)
    exact k_Ac_trace_68 hC post _ hK26 _ _ _ _ _ _ ls hw hI (lv_sub hl [0, 1, 2, 3, 6] rfl)
  · have hw := hw.2 hc
    refine lv_aload_n hx hb d_Ac_trace_49 rfl (lv_at hl 0 rfl) ?_
    refine lv_aload_n hx hb d_Ac_trace_50 rfl (lv_at hl 1 rfl) ?_
    refine lv_aload_n hx hb d_Ac_trace_51 rfl (lv_at hl 2 rfl) ?_
    refine lv_iload hx hb d_Ac_trace_52 (lv_at hl 4 rfl) ?_
    refine tr_goi (w := wdX a cA) hI hA (va_runV (As := [.ref (a 1), .ref (a 5), .int x5]) (rest := []) ⟨hx, hb, hml, hown, hts⟩ (c_Ac_addWalk l dC dI cA a _ _ _ _) (cwV 3 hts (wsA_goodV wA_525 wA_527 wA_5 wA_39 wA_528) rfl rfl rfl (by decide +kernel) ⟨Nat.le_of_ble_eq_true rfl, Nat.le_of_ble_eq_true rfl⟩) (tr_preV (ci := 8) (q0 := 9) hI rfl (wdX_o9 a cA _) rfl hN hw) rfl rfl hl.1 rfl (lv_room (Nat.le_of_ble_eq_true rfl)) d_Ac_trace_54 ⟨Nat.zero_le _, Nat.zero_le _⟩) (fun r54 u54 H locs hw hI => ?_)
    refine lv_goto (tgt := 68) hx hb d_Ac_trace_57 (by decide) ?_
    exact k_Ac_trace_68 hC post _ hK26 _ _ _ _ _ _ ls hw hI (lv_sub hl [0, 1, 2, 3, 6] rfl)
set_option maxRecDepth 100000 in
set_option maxHeartbeats 4000000 in
theorem k_Ac_trace_26 {p : Program} {l : Launch} {e : Env} {s : State} {m : MethodId} {args : Array Value} {below : List Frame} {meth : Method} {c : Code} {dC : Nat → ClassId} {dI : Nat → Nat → Nat} {cA : ClassId} {a : Nat → Nat} {A : Nat → Prop} (hC : tC p s m meth c args b_Ac_trace 8 none wsA R_Ac A) (post : tS → Prop) : ∀ n : Nat, ∀ (x3 x5 x6 x7 : Int32) (u : tS) (H : Heap) (locs : List Loc) (ls : Array Slot), w_Ac_trace_26 post n x3 x5 x6 x7 u → tX (dC, dI) twCl [(cA, .int)] A s H locs (wdX a cA u) → lv_has ls 8 [(0, .ref (a 9)), (1, .ref (a 1)), (2, .ref (a 5)), (3, .int x3), (5, .int x5), (6, .int x6), (7, .int x7)] → W p l e ({ frames := 4, cells := 0, slots := 0, locals := 97 }) s m args below meth c H locs 0 0 (MQ below (va_Qv post (tB (dC, dI) twCl [(cA, .int)] A (wdX a cA)) A) args s 0 0 A) (F0 m 26 ls []) := by
  obtain ⟨hx, hb, hr, hml, hown, hts, hlocks, hA, hN⟩ := id hC
  intro n
  induction n with
  | zero => intro x3 x5 x6 x7 u H locs ls hw; exact False.elim hw
  | succ n ih =>
    intro x3 x5 x6 x7 u H locs ls hw hI hl
    refine lv_iload hx hb d_Ac_trace_26 (lv_at hl 6 rfl) ?_
    refine lv_bipush (v := 24) hx hb d_Ac_trace_28 (by decide) ?_
    refine lv_icmp_ge (tgt := 102) hx hb d_Ac_trace_30 (by decide) (fun hc => ?_) (fun hc => ?_)
    · have hw := hw.1 hc
      exact tr_vret hx hb hr hlocks hI hw d_Ac_trace_102
    · have hw := hw.2 hc
      refine lv_iload hx hb d_Ac_trace_33 (lv_at hl 5 rfl) ?_
      refine lv_if_eq (tgt := 44) hx hb d_Ac_trace_35 (by decide) (fun hc => ?_) (fun hc => ?_)
      · have hw := hw.1 hc
        exact k_Ac_trace_44 hC post _ ih _ _ _ _ _ _ _ ls hw hI (lv_sub hl [0, 1, 2, 3, 4, 5, 6] rfl)
      · have hw := hw.2 hc
        refine lv_iload hx hb d_Ac_trace_38 (lv_at hl 4 rfl) ?_
        refine lv_iload_n hx hb d_Ac_trace_40 rfl (lv_at hl 3 rfl) ?_
        refine lv_icmp_eq (tgt := 102) hx hb d_Ac_trace_41 (by decide) (fun hc => ?_) (fun hc => ?_)
        · have hw := hw.1 hc
          exact tr_vret hx hb hr hlocks hI hw d_Ac_trace_102
        · have hw := hw.2 hc
          exact k_Ac_trace_44 hC post _ ih _ _ _ _ _ _ _ ls hw hI (lv_sub hl [0, 1, 2, 3, 4, 5, 6] rfl)
set_option maxRecDepth 100000 in
set_option maxHeartbeats 4000000 in
theorem c_Ac_trace (l : Launch) (dC : Nat → ClassId) (dI : Nat → Nat → Nat) (cA : ClassId) (a : Nat → Nat) (u : tS) (x3 : Int32) (x4 : Int32) (post : tS → Prop) (sz : Nat) : Met l y_Ac_trace ws_Ac_trace ({ frames := 4, cells := 0, slots := 0, locals := 97 }) (va_Pc [.ref (a 9), .ref (a 1), .ref (a 5), .int x3, .int x4] (tP (dC, dI) twCl [(cA, .int)] (wdX a cA) u sz (w_Ac_trace post x3 x4 u))) (va_Qv post (tB (dC, dI) twCl [(cA, .int)] (va_A (wdX a cA u) sz) (wdX a cA)) (va_A (wdX a cA u) sz)) 0 0 (va_A (wdX a cA u) sz) := by
  refine Met.ofW (cc := b_Ac_trace) (maxL := 8) (ret := none) (by decide) rfl ?_
  intro p e s m args below meth c s₁ B hml hv
  obtain ⟨rfl, hsz, hP, hK, hD0, hN, hw⟩ := hv
  have hx := B.exec
  have hb := B.bytes
  have hr := B.returns
  have hts : ∀ w ∈ wsA, w.before _ s = true := fun w h => atoms_spec (ws := ws_Ac_trace) B.pre w (List.mem_cons_of_mem _ h)
  have hown : s.vm.findClass R_Ac = some m.cls := findClass_of_methodNamed B.named
  have hlocks := B.notSynchronized
  subst hsz
  have hD := hD0.self (sz := s.heap.size)
  generalize hAe : va_A (wdX a cA u) s.heap.size = A at hD ⊢
  have hA : ∀ q : Nat, s.heap.size ≤ q → A q := fun q h => by rw [← hAe]; exact Or.inr h
  have hS : va_S A s.heap s.heap [] := va_S.rf
  have hI : tX (dC, dI) twCl [(cA, .int)] A s s.heap [] (wdX a cA u) := ⟨hK, hP, hD, hS⟩
  have hC : tC p s m meth c ([.ref (a 9), .ref (a 1), .ref (a 5), .int x3, .int x4] : List Value).toArray b_Ac_trace 8 none wsA R_Ac A := ⟨hx, hb, hr, hml, hown, hts, hlocks, hA, hN⟩
  have hl := lv_entry ([.ref (a 9), .ref (a 1), .ref (a 5), .int x3, .int x4]) (n := 8) (Nat.le_of_ble_eq_true rfl)
  rw [lg_entry_eq]
  generalize (lg_sl ([.ref (a 9), .ref (a 1), .ref (a 5), .int x3, .int x4]) ++ List.replicate (8 - (lg_sl ([.ref (a 9), .ref (a 1), .ref (a 5), .int x3, .int x4])).length) Slot.unset).toArray = ls at hl ⊢
  have hl : lv_has ls 8 [(0, .ref (a 9)), (1, .ref (a 1)), (2, .ref (a 5)), (3, .int x3), (4, .int x4)] := hl
  have hw : (w_Ar_first (fun r15 u15 => (w_Ar_isByWalk (fun r18 u18 => (∃ k, w_Ac_trace_26 post k x3 x4 r18 0 u18)) x4 r15 u15)) x4 (tI u 5 0)) := hw
  refine lv_aload_n hx hb d_Ac_trace_0 rfl (lv_at hl 0 rfl) ?_
  refine lv_iconst (v := 0) hx hb d_Ac_trace_1 (by decide) ?_
  refine tr_put (C := R_Ac) (T := F_Ac) (N := 5) (w := wdX a cA) hx hb hts in_Ac ft_Ac ft_Ac_ok fn_Ac hown hI 9 5 (wdX_o9 a cA _) rfl 0 (by decide) (hts _ wA_243) rfl (by decide +kernel) (Nat.le_of_ble_eq_true rfl) (wdX_i5 a cA _ _) d_Ac_trace_2 (fun H locs hI => ?_)
  refine lv_iload hx hb d_Ac_trace_5 (lv_at hl 4 rfl) ?_
  refine lv_istore (lv' := [(5, .int x4), (0, .ref (a 9)), (1, .ref (a 1)), (2, .ref (a 5)), (3, .int x3), (4, .int x4)]) hx hb d_Ac_trace_7 hl (by decide) rfl (fun ls hl => ?_)
  refine lv_aload_n hx hb d_Ac_trace_9 rfl (lv_at hl 3 rfl) ?_
  refine lv_iload hx hb d_Ac_trace_10 (lv_at hl 5 rfl) ?_
  refine lv_aload_n hx hb d_Ac_trace_12 rfl (lv_at hl 3 rfl) ?_
  refine lv_iload hx hb d_Ac_trace_13 (lv_at hl 5 rfl) ?_
  refine tr_goi (w := wdX a cA) hI hA (va_runV (As := [.int x4]) (rest := [.int x4, .ref (a 5)]) ⟨hx, hb, hml, hown, hts⟩ (c_Ar_first l dC dI cA a _ _ _ _) (cwV 1 hts (wsA_goodV wA_520 wA_422 wA_423 wA_36 wA_424) rfl rfl rfl (by decide +kernel) ⟨Nat.le_of_ble_eq_true rfl, Nat.le_of_ble_eq_true rfl⟩) (tr_preV (ci := 5) (q0 := 5) hI rfl (wdX_o5 a cA _) rfl hN hw) rfl rfl hl.1 rfl (lv_room (Nat.le_of_ble_eq_true rfl)) d_Ac_trace_15 ⟨Nat.zero_le _, Nat.zero_le _⟩) (fun r15 u15 H locs hw hI => ?_)
  refine tr_goi (w := wdX a cA) hI hA (va_runV (As := [.int x4, .int r15]) (rest := []) ⟨hx, hb, hml, hown, hts⟩ (c_Ar_isByWalk l dC dI cA a _ _ _ _ _) (cwV 2 hts (wsA_goodV wA_521 wA_522 wA_523 wA_36 wA_524) rfl rfl rfl (by decide +kernel) ⟨Nat.le_of_ble_eq_true rfl, Nat.le_of_ble_eq_true rfl⟩) (tr_preV (ci := 5) (q0 := 5) hI rfl (wdX_o5 a cA _) rfl hN hw) rfl rfl hl.1 rfl (lv_room (Nat.le_of_ble_eq_true rfl)) d_Ac_trace_18 ⟨Nat.zero_le _, Nat.zero_le _⟩) (fun r18 u18 H locs hw hI => ?_)
  refine lv_istore (lv' := [(6, .int r18), (5, .int x4), (0, .ref (a 9)), (1, .ref (a 1)), (2, .ref (a 5)), (3, .int x3), (4, .int x4)]) hx hb d_Ac_trace_21 hl (by decide) rfl (fun ls hl => ?_)
  refine lv_iconst (v := 0) hx hb d_Ac_trace_23 (by decide) ?_
  refine lv_istore (lv' := [(7, .int 0), (6, .int r18), (5, .int x4), (0, .ref (a 9)), (1, .ref (a 1)), (2, .ref (a 5)), (3, .int x3), (4, .int x4)]) hx hb d_Ac_trace_24 hl (by decide) rfl (fun ls hl => ?_)
  obtain ⟨k, hw⟩ := hw
  exact k_Ac_trace_26 hC post k _ _ _ _ _ _ _ ls hw hI (lv_sub hl [3, 4, 5, 6, 2, 1, 0] rfl)
def w_T_way (post : Int32 → tS → Prop) (x1 : Int32) (x2 : Int32) (x3 : Int32) (u : tS) : Prop := (w_Ne_hasStops (fun r6 u6 => ((r6 = 0 → (post (-2) u6)) ∧ (¬ r6 = 0 → (w_T_isTime (fun r13 u13 => ((r13 = 0 → (post (-2) u13)) ∧ (¬ r13 = 0 → (w_Ar_find (fun u32 => (w_Ar_first (fun r40 u40 => ((r40 < 1000000 → (w_Ac_trace (fun u64 => (post (u64.1 5) u64)) x1 x2 u40)) ∧ (¬ r40 < 1000000 → (post (-1) u40)))) x2 u32)) x1 x3 u13)))) x3 u6)))) x1 x2 u)
set_option maxRecDepth 100000 in
set_option maxHeartbeats 4000000 in
theorem c_T_way (l : Launch) (dC : Nat → ClassId) (dI : Nat → Nat → Nat) (cA : ClassId) (a : Nat → Nat) (u : tS) (x1 : Int32) (x2 : Int32) (x3 : Int32) (post : Int32 → tS → Prop) (sz : Nat) : Met l y_T_way ws_T_way ({ frames := 5, cells := 0, slots := 0, locals := 124 }) (va_Pc [.ref (a 0), .int x1, .int x2, .int x3] (tP (dC, dI) twCl [(cA, .int)] (wdX a cA) u sz (w_T_way post x1 x2 x3 u))) (va_Qi post (tB (dC, dI) twCl [(cA, .int)] (va_A (wdX a cA u) sz) (wdX a cA)) (va_A (wdX a cA u) sz)) 0 0 (va_A (wdX a cA u) sz) := by
  refine Met.ofW (cc := b_T_way) (maxL := 4) (ret := (some .int)) (by decide) rfl ?_
  intro p e s m args below meth c s₁ B hml hv
  obtain ⟨rfl, hsz, hP, hK, hD0, hN, hw⟩ := hv
  have hx := B.exec
  have hb := B.bytes
  have hr := B.returns
  have hts : ∀ w ∈ wsA, w.before _ s = true := fun w h => atoms_spec (ws := ws_T_way) B.pre w (List.mem_cons_of_mem _ h)
  have hown : s.vm.findClass R_T = some m.cls := findClass_of_methodNamed B.named
  have hlocks := B.notSynchronized
  subst hsz
  have hD := hD0.self (sz := s.heap.size)
  generalize hAe : va_A (wdX a cA u) s.heap.size = A at hD ⊢
  have hA : ∀ q : Nat, s.heap.size ≤ q → A q := fun q h => by rw [← hAe]; exact Or.inr h
  have hS : va_S A s.heap s.heap [] := va_S.rf
  have hI : tX (dC, dI) twCl [(cA, .int)] A s s.heap [] (wdX a cA u) := ⟨hK, hP, hD, hS⟩
  have hC : tC p s m meth c ([.ref (a 0), .int x1, .int x2, .int x3] : List Value).toArray b_T_way 4 (some .int) wsA R_T A := ⟨hx, hb, hr, hml, hown, hts, hlocks, hA, hN⟩
  have hl := lv_entry ([.ref (a 0), .int x1, .int x2, .int x3]) (n := 4) (Nat.le_of_ble_eq_true rfl)
  rw [lg_entry_eq]
  generalize (lg_sl ([.ref (a 0), .int x1, .int x2, .int x3]) ++ List.replicate (4 - (lg_sl ([.ref (a 0), .int x1, .int x2, .int x3])).length) Slot.unset).toArray = ls at hl ⊢
  have hl : lv_has ls 4 [(0, .ref (a 0)), (1, .int x1), (2, .int x2), (3, .int x3)] := hl
  have hw : (w_Ne_hasStops (fun r6 u6 => ((r6 = 0 → (post (-2) u6)) ∧ (¬ r6 = 0 → (w_T_isTime (fun r13 u13 => ((r13 = 0 → (post (-2) u13)) ∧ (¬ r13 = 0 → (w_Ar_find (fun u32 => (w_Ar_first (fun r40 u40 => ((r40 < 1000000 → (w_Ac_trace (fun u64 => (post (u64.1 5) u64)) x1 x2 u40)) ∧ (¬ r40 < 1000000 → (post (-1) u40)))) x2 u32)) x1 x3 u13)))) x3 u6)))) x1 x2 u) := hw
  refine lv_aload_n hx hb d_T_way_0 rfl (lv_at hl 0 rfl) ?_
  refine va_get (D := (dC, dI)) (C := R_T) (T := F_T) (N := 6) hx hb hts in_T hown hI.1 hI.2.1 0 (wdX_o0 a cA _) rfl 0 (by decide) (hts _ wA_264) (fun _ h9 => h9) rfl d_T_way_1 ?_
  refine lv_iload_n hx hb d_T_way_4 rfl (lv_at hl 1 rfl) ?_
  refine lv_iload_n hx hb d_T_way_5 rfl (lv_at hl 2 rfl) ?_
  refine tr_goi (w := wdX a cA) hI hA (va_runV (As := [.int x1, .int x2]) (rest := []) ⟨hx, hb, hml, hown, hts⟩ (c_Ne_hasStops l dC dI cA a _ _ _ _ _) (cwV 2 hts (wsA_goodV wA_315 wA_316 wA_317 wA_31 wA_318) rfl rfl rfl (by decide +kernel) ⟨Nat.le_of_ble_eq_true rfl, Nat.le_of_ble_eq_true rfl⟩) (tr_preV (ci := 1) (q0 := 1) hI rfl (wdX_o1 a cA _) rfl hN hw) rfl rfl hl.1 rfl (lv_room (Nat.le_of_ble_eq_true rfl)) d_T_way_6 ⟨Nat.zero_le _, Nat.zero_le _⟩) (fun r6 u6 H locs hw hI => ?_)
  refine lv_if_eq (tgt := 19) hx hb d_T_way_9 (by decide) (fun hc => ?_) (fun hc => ?_)
  · have hw := hw.1 hc
    refine lv_bipush (v := (-2)) hx hb d_T_way_19 (by decide) ?_
    exact tr_iret hx hb hr hlocks hI hw d_T_way_21
  · have hw := hw.2 hc
    refine lv_iload_n hx hb d_T_way_12 rfl (lv_at hl 3 rfl) ?_
    refine tr_goi (w := wdX a cA) hI hA (va_runS (As := [.int x3]) (rest := []) ⟨hx, hb, hml, hown, hts⟩ (c_T_isTime l dC dI cA a _ _ _ _) ⟨callB_of 1 hts (wsA_good wA_392) rfl rfl rfl (hts _ wA_30) (hts _ wA_390) (by decide +kernel) ⟨Nat.le_of_ble_eq_true rfl, Nat.le_of_ble_eq_true rfl⟩, hts _ wA_391⟩ (tr_preS hI hN hw) rfl rfl hl.1 rfl (lv_room (Nat.le_of_ble_eq_true rfl)) d_T_way_13 ⟨Nat.zero_le _, Nat.zero_le _⟩) (fun r13 u13 H locs hw hI => ?_)
    refine lv_if_ne (tgt := 22) hx hb d_T_way_16 (by decide) (fun hc => ?_) (fun hc => ?_)
    · have hw := hw.2 hc
      refine lv_aload_n hx hb d_T_way_22 rfl (lv_at hl 0 rfl) ?_
      refine va_get (D := (dC, dI)) (C := R_T) (T := F_T) (N := 6) hx hb hts in_T hown hI.1 hI.2.1 0 (wdX_o0 a cA _) rfl 1 (by decide) (hts _ wA_265) (fun _ h9 => h9) rfl d_T_way_23 ?_
      refine lv_aload_n hx hb d_T_way_26 rfl (lv_at hl 0 rfl) ?_
      refine va_get (D := (dC, dI)) (C := R_T) (T := F_T) (N := 6) hx hb hts in_T hown hI.1 hI.2.1 0 (wdX_o0 a cA _) rfl 0 (by decide) (hts _ wA_264) (fun _ h9 => h9) rfl d_T_way_27 ?_
      refine lv_iload_n hx hb d_T_way_30 rfl (lv_at hl 1 rfl) ?_
      refine lv_iload_n hx hb d_T_way_31 rfl (lv_at hl 3 rfl) ?_
      refine tr_gov (w := wdX a cA) hI hA (va_runV (As := [.ref (a 1), .int x1, .int x3]) (rest := []) ⟨hx, hb, hml, hown, hts⟩ (c_Ar_find l dC dI cA a _ _ _ _ _) (cwV 3 hts (wsA_goodV wA_393 wA_394 wA_395 wA_36 wA_396) rfl rfl rfl (by decide +kernel) ⟨Nat.le_of_ble_eq_true rfl, Nat.le_of_ble_eq_true rfl⟩) (tr_preV (ci := 5) (q0 := 5) hI rfl (wdX_o5 a cA _) rfl hN hw) rfl rfl hl.1 rfl (lv_room (Nat.le_of_ble_eq_true rfl)) d_T_way_32 ⟨Nat.zero_le _, Nat.zero_le _⟩) (fun u32 H locs hw hI => ?_)
      refine lv_aload_n hx hb d_T_way_35 rfl (lv_at hl 0 rfl) ?_
      refine va_get (D := (dC, dI)) (C := R_T) (T := F_T) (N := 6) hx hb hts in_T hown hI.1 hI.2.1 0 (wdX_o0 a cA _) rfl 1 (by decide) (hts _ wA_265) (fun _ h9 => h9) rfl d_T_way_36 ?_
      refine lv_iload_n hx hb d_T_way_39 rfl (lv_at hl 2 rfl) ?_
      refine tr_goi (w := wdX a cA) hI hA (va_runV (As := [.int x2]) (rest := []) ⟨hx, hb, hml, hown, hts⟩ (c_Ar_first l dC dI cA a _ _ _ _) (cwV 1 hts (wsA_goodV wA_421 wA_422 wA_423 wA_36 wA_424) rfl rfl rfl (by decide +kernel) ⟨Nat.le_of_ble_eq_true rfl, Nat.le_of_ble_eq_true rfl⟩) (tr_preV (ci := 5) (q0 := 5) hI rfl (wdX_o5 a cA _) rfl hN hw) rfl rfl hl.1 rfl (lv_room (Nat.le_of_ble_eq_true rfl)) d_T_way_40 ⟨Nat.zero_le _, Nat.zero_le _⟩) (fun r40 u40 H locs hw hI => ?_)
      refine lv_ldc (v := 1000000) hx hb hown (hts _ wA_428) d_T_way_43 ?_
      refine lv_icmp_lt (tgt := 50) hx hb d_T_way_45 (by decide) (fun hc => ?_) (fun hc => ?_)
      · have hw := hw.1 hc
        refine lv_aload_n hx hb d_T_way_50 rfl (lv_at hl 0 rfl) ?_
        refine va_get (D := (dC, dI)) (C := R_T) (T := F_T) (N := 6) hx hb hts in_T hown hI.1 hI.2.1 0 (wdX_o0 a cA _) rfl 5 (by decide) (hts _ wA_269) (fun _ h9 => h9) rfl d_T_way_51 ?_
        refine lv_aload_n hx hb d_T_way_54 rfl (lv_at hl 0 rfl) ?_
        refine va_get (D := (dC, dI)) (C := R_T) (T := F_T) (N := 6) hx hb hts in_T hown hI.1 hI.2.1 0 (wdX_o0 a cA _) rfl 0 (by decide) (hts _ wA_264) (fun _ h9 => h9) rfl d_T_way_55 ?_
        refine lv_aload_n hx hb d_T_way_58 rfl (lv_at hl 0 rfl) ?_
        refine va_get (D := (dC, dI)) (C := R_T) (T := F_T) (N := 6) hx hb hts in_T hown hI.1 hI.2.1 0 (wdX_o0 a cA _) rfl 1 (by decide) (hts _ wA_265) (fun _ h9 => h9) rfl d_T_way_59 ?_
        refine lv_iload_n hx hb d_T_way_62 rfl (lv_at hl 1 rfl) ?_
        refine lv_iload_n hx hb d_T_way_63 rfl (lv_at hl 2 rfl) ?_
        refine tr_gov (w := wdX a cA) hI hA (va_runV (As := [.ref (a 1), .ref (a 5), .int x1, .int x2]) (rest := []) ⟨hx, hb, hml, hown, hts⟩ (c_Ac_trace l dC dI cA a _ _ _ _ _) (cwV 4 hts (wsA_goodV wA_516 wA_517 wA_518 wA_39 wA_519) rfl rfl rfl (by decide +kernel) ⟨Nat.le_of_ble_eq_true rfl, Nat.le_of_ble_eq_true rfl⟩) (tr_preV (ci := 8) (q0 := 9) hI rfl (wdX_o9 a cA _) rfl hN hw) rfl rfl hl.1 rfl (lv_room (Nat.le_of_ble_eq_true rfl)) d_T_way_64 ⟨Nat.zero_le _, Nat.zero_le _⟩) (fun u64 H locs hw hI => ?_)
        refine lv_aload_n hx hb d_T_way_67 rfl (lv_at hl 0 rfl) ?_
        refine va_get (D := (dC, dI)) (C := R_T) (T := F_T) (N := 6) hx hb hts in_T hown hI.1 hI.2.1 0 (wdX_o0 a cA _) rfl 5 (by decide) (hts _ wA_269) (fun _ h9 => h9) rfl d_T_way_68 ?_
        refine va_get (D := (dC, dI)) (C := R_Ac) (T := F_Ac) (N := 5) hx hb hts in_Ac hown hI.1 hI.2.1 9 (wdX_o9 a cA _) rfl 0 (by decide) (hts _ wA_244) (fun _ h9 => h9) rfl d_T_way_71 ?_
        exact tr_iret hx hb hr hlocks hI hw d_T_way_74
      · have hw := hw.2 hc
        refine lv_iconst (v := (-1)) hx hb d_T_way_48 (by decide) ?_
        exact tr_iret hx hb hr hlocks hI hw d_T_way_49
    · have hw := hw.1 hc
      refine lv_bipush (v := (-2)) hx hb d_T_way_19 (by decide) ?_
      exact tr_iret hx hb hr hlocks hI hw d_T_way_21
def w_T_act (post : Int32 → tS → Prop) (x1 : Int32) (x2 : Int32) (u : tS) : Prop := (w_T_within (fun r11 u11 => ((r11 = 0 → (post (-2) u11)) ∧ (¬ r11 = 0 → ((x2 = 0 → (vp_in (((u11.1 5) - 1) - x1) 24 ∧ (((u11.2 22 (((u11.1 5) - 1) - x1).toNatClampNeg) = (-1) → (post 0 u11)) ∧ (¬ (u11.2 22 (((u11.1 5) - 1) - x1).toNatClampNeg) = (-1) → (post 1 u11))))) ∧ (¬ x2 = 0 → ((x2 = 1 → (vp_in (((u11.1 5) - 1) - x1) 24 ∧ (post (u11.2 21 (((u11.1 5) - 1) - x1).toNatClampNeg) u11))) ∧ (¬ x2 = 1 → ((x2 = 2 → (vp_in (((u11.1 5) - 1) - x1) 24 ∧ (post (u11.2 22 (((u11.1 5) - 1) - x1).toNatClampNeg) u11))) ∧ (¬ x2 = 2 → ((x2 = 3 → (vp_in (((u11.1 5) - 1) - x1) 24 ∧ (post (u11.2 23 (((u11.1 5) - 1) - x1).toNatClampNeg) u11))) ∧ (¬ x2 = 3 → ((x2 = 4 → (vp_in (((u11.1 5) - 1) - x1) 24 ∧ (post (u11.2 24 (((u11.1 5) - 1) - x1).toNatClampNeg) u11))) ∧ (¬ x2 = 4 → (post (-2) u11)))))))))))))) x1 0 ((u.1 5) - 1) u)
set_option maxRecDepth 100000 in
set_option maxHeartbeats 4000000 in
theorem c_T_act (l : Launch) (dC : Nat → ClassId) (dI : Nat → Nat → Nat) (cA : ClassId) (a : Nat → Nat) (u : tS) (x1 : Int32) (x2 : Int32) (post : Int32 → tS → Prop) (sz : Nat) : Met l y_T_act ws_T_act ({ frames := 1, cells := 0, slots := 0, locals := 22 }) (va_Pc [.ref (a 0), .int x1, .int x2] (tP (dC, dI) twCl [(cA, .int)] (wdX a cA) u sz (w_T_act post x1 x2 u))) (va_Qi post (tB (dC, dI) twCl [(cA, .int)] (va_A (wdX a cA u) sz) (wdX a cA)) (va_A (wdX a cA u) sz)) 0 0 (va_A (wdX a cA u) sz) := by
  refine Met.ofW (cc := b_T_act) (maxL := 4) (ret := (some .int)) (by decide) rfl ?_
  intro p e s m args below meth c s₁ B hml hv
  obtain ⟨rfl, hsz, hP, hK, hD0, hN, hw⟩ := hv
  have hx := B.exec
  have hb := B.bytes
  have hr := B.returns
  have hts : ∀ w ∈ wsA, w.before _ s = true := fun w h => atoms_spec (ws := ws_T_act) B.pre w (List.mem_cons_of_mem _ h)
  have hown : s.vm.findClass R_T = some m.cls := findClass_of_methodNamed B.named
  have hlocks := B.notSynchronized
  subst hsz
  have hD := hD0.self (sz := s.heap.size)
  generalize hAe : va_A (wdX a cA u) s.heap.size = A at hD ⊢
  have hA : ∀ q : Nat, s.heap.size ≤ q → A q := fun q h => by rw [← hAe]; exact Or.inr h
  have hS : va_S A s.heap s.heap [] := va_S.rf
  have hI : tX (dC, dI) twCl [(cA, .int)] A s s.heap [] (wdX a cA u) := ⟨hK, hP, hD, hS⟩
  have hC : tC p s m meth c ([.ref (a 0), .int x1, .int x2] : List Value).toArray b_T_act 4 (some .int) wsA R_T A := ⟨hx, hb, hr, hml, hown, hts, hlocks, hA, hN⟩
  have hl := lv_entry ([.ref (a 0), .int x1, .int x2]) (n := 4) (Nat.le_of_ble_eq_true rfl)
  rw [lg_entry_eq]
  generalize (lg_sl ([.ref (a 0), .int x1, .int x2]) ++ List.replicate (4 - (lg_sl ([.ref (a 0), .int x1, .int x2])).length) Slot.unset).toArray = ls at hl ⊢
  have hl : lv_has ls 4 [(0, .ref (a 0)), (1, .int x1), (2, .int x2)] := hl
  have hw : (w_T_within (fun r11 u11 => ((r11 = 0 → (post (-2) u11)) ∧ (¬ r11 = 0 → ((x2 = 0 → (vp_in (((u11.1 5) - 1) - x1) 24 ∧ (((u11.2 22 (((u11.1 5) - 1) - x1).toNatClampNeg) = (-1) → (post 0 u11)) ∧ (¬ (u11.2 22 (((u11.1 5) - 1) - x1).toNatClampNeg) = (-1) → (post 1 u11))))) ∧ (¬ x2 = 0 → ((x2 = 1 → (vp_in (((u11.1 5) - 1) - x1) 24 ∧ (post (u11.2 21 (((u11.1 5) - 1) - x1).toNatClampNeg) u11))) ∧ (¬ x2 = 1 → ((x2 = 2 → (vp_in (((u11.1 5) - 1) - x1) 24 ∧ (post (u11.2 22 (((u11.1 5) - 1) - x1).toNatClampNeg) u11))) ∧ (¬ x2 = 2 → ((x2 = 3 → (vp_in (((u11.1 5) - 1) - x1) 24 ∧ (post (u11.2 23 (((u11.1 5) - 1) - x1).toNatClampNeg) u11))) ∧ (¬ x2 = 3 → ((x2 = 4 → (vp_in (((u11.1 5) - 1) - x1) 24 ∧ (post (u11.2 24 (((u11.1 5) - 1) - x1).toNatClampNeg) u11))) ∧ (¬ x2 = 4 → (post (-2) u11)))))))))))))) x1 0 ((u.1 5) - 1) u) := hw
  refine lv_iload_n hx hb d_T_act_0 rfl (lv_at hl 1 rfl) ?_
  refine lv_iconst (v := 0) hx hb d_T_act_1 (by decide) ?_
  refine lv_aload_n hx hb d_T_act_2 rfl (lv_at hl 0 rfl) ?_
  refine va_get (D := (dC, dI)) (C := R_T) (T := F_T) (N := 6) hx hb hts in_T hown hI.1 hI.2.1 0 (wdX_o0 a cA _) rfl 5 (by decide) (hts _ wA_269) (fun _ h9 => h9) rfl d_T_act_3 ?_
  refine va_get (D := (dC, dI)) (C := R_Ac) (T := F_Ac) (N := 5) hx hb hts in_Ac hown hI.1 hI.2.1 9 (wdX_o9 a cA _) rfl 0 (by decide) (hts _ wA_244) (fun _ h9 => h9) rfl d_T_act_6 ?_
  refine lv_iconst (v := 1) hx hb d_T_act_9 (by decide) ?_
  refine lv_isub hx hb d_T_act_10 ?_
  refine tr_goi (w := wdX a cA) hI hA (va_runS (As := [.int x1, .int 0, .int ((u.1 5) - 1)]) (rest := []) ⟨hx, hb, hml, hown, hts⟩ (c_T_within l dC dI cA a _ _ _ _ _ _) ⟨callB_of 3 hts (wsA_good wA_301) rfl rfl rfl (hts _ wA_30) (hts _ wA_299) (by decide +kernel) ⟨Nat.le_of_ble_eq_true rfl, Nat.le_of_ble_eq_true rfl⟩, hts _ wA_300⟩ (tr_preS hI hN hw) rfl rfl hl.1 rfl (lv_room (Nat.le_of_ble_eq_true rfl)) d_T_act_11 ⟨Nat.zero_le _, Nat.zero_le _⟩) (fun r11 u11 H locs hw hI => ?_)
  refine lv_if_ne (tgt := 20) hx hb d_T_act_14 (by decide) (fun hc => ?_) (fun hc => ?_)
  · have hw := hw.2 hc
    refine lv_aload_n hx hb d_T_act_20 rfl (lv_at hl 0 rfl) ?_
    refine va_get (D := (dC, dI)) (C := R_T) (T := F_T) (N := 6) hx hb hts in_T hown hI.1 hI.2.1 0 (wdX_o0 a cA _) rfl 5 (by decide) (hts _ wA_269) (fun _ h9 => h9) rfl d_T_act_21 ?_
    refine va_get (D := (dC, dI)) (C := R_Ac) (T := F_Ac) (N := 5) hx hb hts in_Ac hown hI.1 hI.2.1 9 (wdX_o9 a cA _) rfl 0 (by decide) (hts _ wA_244) (fun _ h9 => h9) rfl d_T_act_24 ?_
    refine lv_iconst (v := 1) hx hb d_T_act_27 (by decide) ?_
    refine lv_isub hx hb d_T_act_28 ?_
    refine lv_iload_n hx hb d_T_act_29 rfl (lv_at hl 1 rfl) ?_
    refine lv_isub hx hb d_T_act_30 ?_
    refine lv_istore_n (lv' := [(3, .int (((u11.1 5) - 1) - x1)), (0, .ref (a 0)), (1, .int x1), (2, .int x2)]) hx hb d_T_act_31 rfl hl (by decide) rfl (fun ls hl => ?_)
    refine lv_iload_n hx hb d_T_act_32 rfl (lv_at hl 3 rfl) ?_
    by_cases hc0 : x2 = 0
    · have hw := hw.1 hc0
      refine lv_tableIn (tgt := 68) hx hb d_T_act_33 (by rw [hc0]; decide) (by rw [hc0]; decide) (by rw [hc0]; rfl) (by decide) ?_
      refine lv_aload_n hx hb d_T_act_68 rfl (lv_at hl 1 rfl) ?_
      refine va_get (D := (dC, dI)) (C := R_T) (T := F_T) (N := 6) hx hb hts in_T hown hI.1 hI.2.1 0 (wdX_o0 a cA _) rfl 5 (by decide) (hts _ wA_269) (fun _ h9 => h9) rfl d_T_act_69 ?_
      refine va_get (D := (dC, dI)) (C := R_Ac) (T := F_Ac) (N := 5) hx hb hts in_Ac hown hI.1 hI.2.1 9 (wdX_o9 a cA _) rfl 2 (by decide) (hts _ wA_248) (fun _ h9 => h9) rfl d_T_act_72 ?_
      refine lv_iload_n hx hb d_T_act_75 rfl (lv_at hl 0 rfl) ?_
      obtain ⟨hi, hw⟩ := hw
      refine va_iald (D := (dC, dI)) hx hb hI.1 hI.2.1 32 0 (wdX_o32 a cA _) rfl hi d_T_act_76 ?_
      refine lv_iconst (v := (-1)) hx hb d_T_act_77 (by decide) ?_
      refine lv_icmp_ne (tgt := 85) hx hb d_T_act_78 (by decide) (fun hc => ?_) (fun hc => ?_)
      · have hw := hw.2 hc
        refine lv_iconst (v := 1) hx hb d_T_act_85 (by decide) ?_
        exact tr_iret hx hb hr hlocks hI hw d_T_act_86
      · have hw := hw.1 hc
        refine lv_iconst (v := 0) hx hb d_T_act_81 (by decide) ?_
        refine lv_goto (tgt := 86) hx hb d_T_act_82 (by decide) ?_
        exact tr_iret hx hb hr hlocks hI hw d_T_act_86
    · have hw := hw.2 hc0
      by_cases hc1 : x2 = 1
      · have hw := hw.1 hc1
        refine lv_tableIn (tgt := 87) hx hb d_T_act_33 (by rw [hc1]; decide) (by rw [hc1]; decide) (by rw [hc1]; rfl) (by decide) ?_
        refine lv_aload_n hx hb d_T_act_87 rfl (lv_at hl 1 rfl) ?_
        refine va_get (D := (dC, dI)) (C := R_T) (T := F_T) (N := 6) hx hb hts in_T hown hI.1 hI.2.1 0 (wdX_o0 a cA _) rfl 5 (by decide) (hts _ wA_269) (fun _ h9 => h9) rfl d_T_act_88 ?_
        refine va_get (D := (dC, dI)) (C := R_Ac) (T := F_Ac) (N := 5) hx hb hts in_Ac hown hI.1 hI.2.1 9 (wdX_o9 a cA _) rfl 1 (by decide) (hts _ wA_246) (fun _ h9 => h9) rfl d_T_act_91 ?_
        refine lv_iload_n hx hb d_T_act_94 rfl (lv_at hl 0 rfl) ?_
        obtain ⟨hi, hw⟩ := hw
        refine va_iald (D := (dC, dI)) hx hb hI.1 hI.2.1 31 0 (wdX_o31 a cA _) rfl hi d_T_act_95 ?_
        exact tr_iret hx hb hr hlocks hI hw d_T_act_96
      · have hw := hw.2 hc1
        by_cases hc2 : x2 = 2
        · have hw := hw.1 hc2
          refine lv_tableIn (tgt := 97) hx hb d_T_act_33 (by rw [hc2]; decide) (by rw [hc2]; decide) (by rw [hc2]; rfl) (by decide) ?_
          refine lv_aload_n hx hb d_T_act_97 rfl (lv_at hl 1 rfl) ?_
          refine va_get (D := (dC, dI)) (C := R_T) (T := F_T) (N := 6) hx hb hts in_T hown hI.1 hI.2.1 0 (wdX_o0 a cA _) rfl 5 (by decide) (hts _ wA_269) (fun _ h9 => h9) rfl d_T_act_98 ?_
          refine va_get (D := (dC, dI)) (C := R_Ac) (T := F_Ac) (N := 5) hx hb hts in_Ac hown hI.1 hI.2.1 9 (wdX_o9 a cA _) rfl 2 (by decide) (hts _ wA_248) (fun _ h9 => h9) rfl d_T_act_101 ?_
          refine lv_iload_n hx hb d_T_act_104 rfl (lv_at hl 0 rfl) ?_
          obtain ⟨hi, hw⟩ := hw
          refine va_iald (D := (dC, dI)) hx hb hI.1 hI.2.1 32 0 (wdX_o32 a cA _) rfl hi d_T_act_105 ?_
          exact tr_iret hx hb hr hlocks hI hw d_T_act_106
        · have hw := hw.2 hc2
          by_cases hc3 : x2 = 3
          · have hw := hw.1 hc3
            refine lv_tableIn (tgt := 107) hx hb d_T_act_33 (by rw [hc3]; decide) (by rw [hc3]; decide) (by rw [hc3]; rfl) (by decide) ?_
            refine lv_aload_n hx hb d_T_act_107 rfl (lv_at hl 1 rfl) ?_
            refine va_get (D := (dC, dI)) (C := R_T) (T := F_T) (N := 6) hx hb hts in_T hown hI.1 hI.2.1 0 (wdX_o0 a cA _) rfl 5 (by decide) (hts _ wA_269) (fun _ h9 => h9) rfl d_T_act_108 ?_
            refine va_get (D := (dC, dI)) (C := R_Ac) (T := F_Ac) (N := 5) hx hb hts in_Ac hown hI.1 hI.2.1 9 (wdX_o9 a cA _) rfl 3 (by decide) (hts _ wA_250) (fun _ h9 => h9) rfl d_T_act_111 ?_
            refine lv_iload_n hx hb d_T_act_114 rfl (lv_at hl 0 rfl) ?_
            obtain ⟨hi, hw⟩ := hw
            refine va_iald (D := (dC, dI)) hx hb hI.1 hI.2.1 33 0 (wdX_o33 a cA _) rfl hi d_T_act_115 ?_
            exact tr_iret hx hb hr hlocks hI hw d_T_act_116
          · have hw := hw.2 hc3
            by_cases hc4 : x2 = 4
            · have hw := hw.1 hc4
              refine lv_tableIn (tgt := 117) hx hb d_T_act_33 (by rw [hc4]; decide) (by rw [hc4]; decide) (by rw [hc4]; rfl) (by decide) ?_
              refine lv_aload_n hx hb d_T_act_117 rfl (lv_at hl 1 rfl) ?_
              refine va_get (D := (dC, dI)) (C := R_T) (T := F_T) (N := 6) hx hb hts in_T hown hI.1 hI.2.1 0 (wdX_o0 a cA _) rfl 5 (by decide) (hts _ wA_269) (fun _ h9 => h9) rfl d_T_act_118 ?_
              refine va_get (D := (dC, dI)) (C := R_Ac) (T := F_Ac) (N := 5) hx hb hts in_Ac hown hI.1 hI.2.1 9 (wdX_o9 a cA _) rfl 4 (by decide) (hts _ wA_252) (fun _ h9 => h9) rfl d_T_act_121 ?_
              refine lv_iload_n hx hb d_T_act_124 rfl (lv_at hl 0 rfl) ?_
              obtain ⟨hi, hw⟩ := hw
              refine va_iald (D := (dC, dI)) hx hb hI.1 hI.2.1 34 0 (wdX_o34 a cA _) rfl hi d_T_act_125 ?_
              exact tr_iret hx hb hr hlocks hI hw d_T_act_126
            · have hw := hw.2 hc4
              refine lv_tableOut (tgt := 127) hx hb d_T_act_33 (tab_out5 hc0 hc1 hc2 hc3 hc4) (by decide) ?_
              refine lv_bipush (v := (-2)) hx hb d_T_act_127 (by decide) ?_
              exact tr_iret hx hb hr hlocks hI hw d_T_act_129
  · have hw := hw.1 hc
    refine lv_bipush (v := (-2)) hx hb d_T_act_17 (by decide) ?_
    exact tr_iret hx hb hr hlocks hI hw d_T_act_19
