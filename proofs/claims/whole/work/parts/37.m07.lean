def w_M_act (post : Int32 → tS → Prop) (x1 : Int32) (x2 : Int32) (u : tS) : Prop := (w_M_isIn (fun r8 u8 => ((r8 = 0 → (post (-2) u8)) ∧ (¬ r8 = 0 → (w_M_isIn (fun r17 u17 => ((r17 = 0 → (post (-2) u17)) ∧ (¬ r17 = 0 → (vp_in ((5 * (((u17.1 4) - 1) - x1)) + x2) 320 ∧ (post (u17.2 12 ((5 * (((u17.1 4) - 1) - x1)) + x2).toNatClampNeg) u17))))) x2 0 4 u8)))) x1 0 ((u.1 4) - 1) u)
set_option maxRecDepth 100000 in
set_option maxHeartbeats 4000000 in
theorem c_M_act (l : Launch) (dC : Nat → ClassId) (dI : Nat → Nat → Nat) (cA : ClassId) (a : Nat → Nat) (u : tS) (x1 : Int32) (x2 : Int32) (post : Int32 → tS → Prop) (sz : Nat) : Met l y_M_act ws_M_act ({ frames := 1, cells := 0, slots := 0, locals := 22 }) (va_Pc [.ref (a 0), .int x1, .int x2] (tP (dC, dI) twCl [(cA, .int)] (wdM a cA) u sz (w_M_act post x1 x2 u))) (va_Qi post (tB (dC, dI) twCl [(cA, .int)] (va_A (wdM a cA u) sz) (wdM a cA)) (va_A (wdM a cA u) sz)) 0 0 (va_A (wdM a cA u) sz) := by
  refine Met.ofW (cc := b_M_act) (maxL := 3) (ret := (some .int)) (by decide) rfl ?_
  intro p e s m args below meth c s₁ B hml hv
  obtain ⟨rfl, hsz, hP, hK, hD0, hN, hw⟩ := hv
  have hx := B.exec
  have hb := B.bytes
  have hr := B.returns
  have hts : ∀ w ∈ wsA, w.before _ s = true := fun w h => atoms_spec (ws := ws_M_act) B.pre w (List.mem_cons_of_mem _ h)
  have hown : s.vm.findClass R_M = some m.cls := findClass_of_methodNamed B.named
  have hlocks := B.notSynchronized
  subst hsz
  have hD := hD0.self (sz := s.heap.size)
  generalize hAe : va_A (wdM a cA u) s.heap.size = A at hD ⊢
  have hA : ∀ q : Nat, s.heap.size ≤ q → A q := fun q h => by rw [← hAe]; exact Or.inr h
  have hS : va_S A s.heap s.heap [] := va_S.rf
  have hI : tX (dC, dI) twCl [(cA, .int)] A s s.heap [] (wdM a cA u) := ⟨hK, hP, hD, hS⟩
  have hC : tC p s m meth c ([.ref (a 0), .int x1, .int x2] : List Value).toArray b_M_act 3 (some .int) wsA R_M A := ⟨hx, hb, hr, hml, hown, hts, hlocks, hA, hN⟩
  have hl := lv_entry ([.ref (a 0), .int x1, .int x2]) (n := 3) (Nat.le_of_ble_eq_true rfl)
  rw [lg_entry_eq]
  generalize (lg_sl ([.ref (a 0), .int x1, .int x2]) ++ List.replicate (3 - (lg_sl ([.ref (a 0), .int x1, .int x2])).length) Slot.unset).toArray = ls at hl ⊢
  have hl : lv_has ls 3 [(0, .ref (a 0)), (1, .int x1), (2, .int x2)] := hl
  have hw : (w_M_isIn (fun r8 u8 => ((r8 = 0 → (post (-2) u8)) ∧ (¬ r8 = 0 → (w_M_isIn (fun r17 u17 => ((r17 = 0 → (post (-2) u17)) ∧ (¬ r17 = 0 → (vp_in ((5 * (((u17.1 4) - 1) - x1)) + x2) 320 ∧ (post (u17.2 12 ((5 * (((u17.1 4) - 1) - x1)) + x2).toNatClampNeg) u17))))) x2 0 4 u8)))) x1 0 ((u.1 4) - 1) u) := hw
  refine lv_iload_n hx hb d_M_act_0 rfl (lv_at hl 1 rfl) ?_
  refine lv_iconst (v := 0) hx hb d_M_act_1 (by decide) ?_
  refine lv_aload_n hx hb d_M_act_2 rfl (lv_at hl 0 rfl) ?_
  refine va_get (D := (dC, dI)) (C := R_M) (T := F_M) (N := 22) hx hb hts in_M hown hI.1 hI.2.1 0 (wdM_o0 a cA _) rfl 16 (by decide) (hts _ wA_605) (fun _ h9 => h9) rfl d_M_act_3 ?_
  refine lv_iconst (v := 1) hx hb d_M_act_6 (by decide) ?_
  refine lv_isub hx hb d_M_act_7 ?_
  refine tr_goi (w := wdM a cA) hI hA (va_runS (As := [.int x1, .int 0, .int ((u.1 4) - 1)]) (rest := []) ⟨hx, hb, hml, hown, hts⟩ (c_M_isIn l dC dI cA a _ _ _ _ _ _) ⟨callB_of 3 hts (wsA_good wA_666) rfl rfl rfl (hts _ wA_40) (hts _ wA_664) (by decide +kernel) ⟨Nat.le_of_ble_eq_true rfl, Nat.le_of_ble_eq_true rfl⟩, hts _ wA_665⟩ (tr_preS hI hN hw) rfl rfl hl.1 rfl (lv_room (Nat.le_of_ble_eq_true rfl)) d_M_act_8 ⟨Nat.zero_le _, Nat.zero_le _⟩) (fun r8 u8 H locs hw hI => ?_)
  refine lv_if_eq (tgt := 43) hx hb d_M_act_11 (by decide) (fun hc => ?_) (fun hc => ?_)
  · have hw := hw.1 hc
    refine lv_bipush (v := (-2)) hx hb d_M_act_43 (by decide) ?_
    exact tr_iret hx hb hr hlocks hI hw d_M_act_45
  · have hw := hw.2 hc
    refine lv_iload_n hx hb d_M_act_14 rfl (lv_at hl 2 rfl) ?_
    refine lv_iconst (v := 0) hx hb d_M_act_15 (by decide) ?_
    refine lv_iconst (v := 4) hx hb d_M_act_16 (by decide) ?_
    refine tr_goi (w := wdM a cA) hI hA (va_runS (As := [.int x2, .int 0, .int 4]) (rest := []) ⟨hx, hb, hml, hown, hts⟩ (c_M_isIn l dC dI cA a _ _ _ _ _ _) ⟨callB_of 3 hts (wsA_good wA_666) rfl rfl rfl (hts _ wA_40) (hts _ wA_664) (by decide +kernel) ⟨Nat.le_of_ble_eq_true rfl, Nat.le_of_ble_eq_true rfl⟩, hts _ wA_665⟩ (tr_preS hI hN hw) rfl rfl hl.1 rfl (lv_room (Nat.le_of_ble_eq_true rfl)) d_M_act_17 ⟨Nat.zero_le _, Nat.zero_le _⟩) (fun r17 u17 H locs hw hI => ?_)
    refine lv_if_eq (tgt := 43) hx hb d_M_act_20 (by decide) (fun hc => ?_) (fun hc => ?_)
    · have hw := hw.1 hc
      refine lv_bipush (v := (-2)) hx hb d_M_act_43 (by decide) ?_
      exact tr_iret hx hb hr hlocks hI hw d_M_act_45
    · have hw := hw.2 hc
      refine lv_aload_n hx hb d_M_act_23 rfl (lv_at hl 0 rfl) ?_
      refine va_get (D := (dC, dI)) (C := R_M) (T := F_M) (N := 22) hx hb hts in_M hown hI.1 hI.2.1 0 (wdM_o0 a cA _) rfl 17 (by decide) (hts _ wA_606) (fun _ h9 => h9) rfl d_M_act_24 ?_
      refine lv_iconst (v := 5) hx hb d_M_act_27 (by decide) ?_
      refine lv_aload_n hx hb d_M_act_28 rfl (lv_at hl 0 rfl) ?_
      refine va_get (D := (dC, dI)) (C := R_M) (T := F_M) (N := 22) hx hb hts in_M hown hI.1 hI.2.1 0 (wdM_o0 a cA _) rfl 16 (by decide) (hts _ wA_605) (fun _ h9 => h9) rfl d_M_act_29 ?_
      refine lv_iconst (v := 1) hx hb d_M_act_32 (by decide) ?_
      refine lv_isub hx hb d_M_act_33 ?_
      refine lv_iload_n hx hb d_M_act_34 rfl (lv_at hl 1 rfl) ?_
      refine lv_isub hx hb d_M_act_35 ?_
      refine lv_imul hx hb d_M_act_36 ?_
      refine lv_iload_n hx hb d_M_act_37 rfl (lv_at hl 2 rfl) ?_
      refine lv_iadd hx hb d_M_act_38 ?_
      obtain ⟨hi, hw⟩ := hw
      refine va_iald (D := (dC, dI)) hx hb hI.1 hI.2.1 13 0 (wdM_o13 a cA _) rfl hi d_M_act_39 ?_
      refine lv_goto (tgt := 45) hx hb d_M_act_40 (by decide) ?_
      exact tr_iret hx hb hr hlocks hI hw d_M_act_45
def w_M_next_31 (post : Int32 → tS → Prop) : Nat → Int32 → Int32 → Int32 → Int32 → Int32 → tS → Prop
  | 0 => fun _ _ _ _ _ _ => False
  | n + 1 => fun x1 x2 x3 x4 x5 u => (((7 * (u.1 1)) ≤ x5 → (post x3 u)) ∧ (¬ (7 * (u.1 1)) ≤ x5 → (vp_in (x5 / 7) 40 ∧ (((u.2 1 (x5 / 7).toNatClampNeg) = x1 → (w_M_goes (fun r73 u73 => ((r73 = 0 → (w_M_next_31 post n x1 x2 x3 x4 (x5 + 1) u73)) ∧ (¬ r73 = 0 → (w_M_leaves (fun r84 u84 => ((r84 < x2 → (w_M_next_31 post n x1 x2 x3 x4 (x5 + 1) u84)) ∧ (¬ r84 < x2 → (w_M_leaves (fun r96 u96 => ((x4 ≤ r96 → (w_M_next_31 post n x1 x2 x3 x4 (x5 + 1) u96)) ∧ (¬ x4 ≤ r96 → (w_M_leaves (fun r112 u112 => (w_M_next_31 post n x1 x2 x5 r112 (x5 + 1) u112)) (x5 / 7) (x5 - x5 / 7 * 7) u96)))) (x5 / 7) (x5 - x5 / 7 * 7) u84)))) (x5 / 7) (x5 - x5 / 7 * 7) u73)))) (x5 / 7) (x5 - x5 / 7 * 7) u)) ∧ (¬ (u.2 1 (x5 / 7).toNatClampNeg) = x1 → (w_M_next_31 post n x1 x2 x3 x4 (x5 + 1) u))))))
def w_M_next (post : Int32 → tS → Prop) (x1 : Int32) (x2 : Int32) (u : tS) : Prop := (w_M_isStop (fun r2 u2 => ((r2 = 0 → (post (-2) u2)) ∧ (¬ r2 = 0 → (w_M_isIn (fun r13 u13 => ((r13 = 0 → (post (-2) u13)) ∧ (¬ r13 = 0 → (∃ k, w_M_next_31 post k x1 x2 (-1) 1000000 0 u13)))) x2 0 10079 u2)))) x1 u)
set_option maxRecDepth 100000 in
set_option maxHeartbeats 4000000 in
theorem k_M_next_31 {p : Program} {l : Launch} {e : Env} {s : State} {m : MethodId} {args : Array Value} {below : List Frame} {meth : Method} {c : Code} {dC : Nat → ClassId} {dI : Nat → Nat → Nat} {cA : ClassId} {a : Nat → Nat} {A : Nat → Prop} (hC : tC p s m meth c args b_M_next 8 (some .int) wsA R_M A) (post : Int32 → tS → Prop) : ∀ n : Nat, ∀ (x1 x2 x3 x4 x5 : Int32) (u : tS) (H : Heap) (locs : List Loc) (ls : Array Slot), w_M_next_31 post n x1 x2 x3 x4 x5 u → tX (dC, dI) twCl [(cA, .int)] A s H locs (wdM a cA u) → lv_has ls 8 [(0, .ref (a 0)), (1, .int x1), (2, .int x2), (3, .int x3), (4, .int x4), (5, .int x5)] → W p l e ({ frames := 2, cells := 0, slots := 0, locals := 44 }) s m args below meth c H locs 0 0 (MQ below (va_Qi post (tB (dC, dI) twCl [(cA, .int)] A (wdM a cA)) A) args s 0 0 A) (F0 m 31 ls []) := by
  obtain ⟨hx, hb, hr, hml, hown, hts, hlocks, hA, hN⟩ := id hC
  intro n
  induction n with
  | zero => intro x1 x2 x3 x4 x5 u H locs ls hw; exact False.elim hw
  | succ n ih =>
    intro x1 x2 x3 x4 x5 u H locs ls hw hI hl
    refine lv_iload hx hb d_M_next_31 (lv_at hl 5 rfl) ?_
    refine lv_bipush (v := 7) hx hb d_M_next_33 (by decide) ?_
    refine lv_aload_n hx hb d_M_next_35 rfl (lv_at hl 0 rfl) ?_
    refine va_get (D := (dC, dI)) (C := R_M) (T := F_M) (N := 22) hx hb hts in_M hown hI.1 hI.2.1 0 (wdM_o0 a cA _) rfl 2 (by decide) (hts _ wA_591) (fun _ h9 => h9) rfl d_M_next_36 ?_
    refine lv_imul hx hb d_M_next_39 ?_
    refine lv_icmp_ge (tgt := 123) hx hb d_M_next_40 (by decide) (fun hc => ?_) (fun hc => ?_)
    · have hw := hw.1 hc
      refine lv_iload_n hx hb d_M_next_123 rfl (lv_at hl 3 rfl) ?_
      exact tr_iret hx hb hr hlocks hI hw d_M_next_124
    · have hw := hw.2 hc
      refine lv_iload hx hb d_M_next_43 (lv_at hl 5 rfl) ?_
      refine lv_bipush (v := 7) hx hb d_M_next_45 (by decide) ?_
      refine lv_idiv hx hb d_M_next_47 (by decide) ?_
      refine lv_istore (lv' := [(6, .int (x5 / 7)), (0, .ref (a 0)), (1, .int x1), (2, .int x2), (3, .int x3), (4, .int x4), (5, .int x5)]) hx hb d_M_next_48 hl (by decide) rfl (fun ls hl => ?_)
      refine lv_iload hx hb d_M_next_50 (lv_at hl 6 rfl) ?_
      refine lv_bipush (v := 7) hx hb d_M_next_52 (by decide) ?_
      refine lv_irem hx hb d_M_next_54 (by decide) ?_
      refine lv_istore (lv' := [(7, .int (x5 - x5 / 7 * 7)), (6, .int (x5 / 7)), (0, .ref (a 0)), (1, .int x1), (2, .int x2), (3, .int x3), (4, .int x4), (5, .int x5)]) hx hb d_M_next_55 hl (by decide) rfl (fun ls hl => ?_)
      refine lv_aload_n hx hb d_M_next_57 rfl (lv_at hl 2 rfl) ?_
      refine va_get (D := (dC, dI)) (C := R_M) (T := F_M) (N := 22) hx hb hts in_M hown hI.1 hI.2.1 0 (wdM_o0 a cA _) rfl 3 (by decide) (hts _ wA_592) (fun _ h9 => h9) rfl d_M_next_58 ?_
      refine lv_iload hx hb d_M_next_61 (lv_at hl 1 rfl) ?_
      obtain ⟨hi, hw⟩ := hw
      refine va_iald (D := (dC, dI)) hx hb hI.1 hI.2.1 2 0 (wdM_o2 a cA _) rfl hi d_M_next_63 ?_
      refine lv_iload_n hx hb d_M_next_64 rfl (lv_at hl 3 rfl) ?_
      refine lv_icmp_ne (tgt := 117) hx hb d_M_next_65 (by decide) (fun hc => ?_) (fun hc => ?_)
      · have hw := hw.2 hc
        refine lv_iinc (v := (x5 + 1)) (lv' := [(5, .int (x5 + 1)), (7, .int (x5 - x5 / 7 * 7)), (6, .int (x5 / 7)), (0, .ref (a 0)), (1, .int x1), (2, .int x2), (3, .int x3), (4, .int x4)]) hx hb d_M_next_117 hl (k := 7) rfl rfl (by decide) rfl (fun ls hl => ?_)
        refine lv_goto (tgt := 31) hx hb d_M_next_120 (by decide) ?_
        exact ih _ _ _ _ _ _ _ _ ls hw hI (lv_sub hl [3, 4, 5, 6, 7, 0] rfl)
      · have hw := hw.1 hc
        refine lv_aload_n hx hb d_M_next_68 rfl (lv_at hl 2 rfl) ?_
        refine lv_iload hx hb d_M_next_69 (lv_at hl 1 rfl) ?_
        refine lv_iload hx hb d_M_next_71 (lv_at hl 0 rfl) ?_
        refine tr_goi (w := wdM a cA) hI hA (va_runV (As := [.int (x5 / 7), .int (x5 - x5 / 7 * 7)]) (rest := []) ⟨hx, hb, hml, hown, hts⟩ (c_M_goes l dC dI cA a _ _ _ _ _) (cwV 2 hts (wsA_goodV wA_736 wA_738 wA_21 wA_40 wA_739) rfl rfl rfl (by decide +kernel) ⟨Nat.le_of_ble_eq_true rfl, Nat.le_of_ble_eq_true rfl⟩) (tr_preV (ci := 9) (q0 := 0) hI rfl (wdM_o0 a cA _) rfl hN hw) rfl rfl hl.1 rfl (lv_room (Nat.le_of_ble_eq_true rfl)) d_M_next_73 ⟨Nat.zero_le _, Nat.zero_le _⟩) (fun r73 u73 H locs hw hI => ?_)
        refine lv_if_eq (tgt := 117) hx hb d_M_next_76 (by decide) (fun hc => ?_) (fun hc => ?_)
        · have hw := hw.1 hc
          refine lv_iinc (v := (x5 + 1)) (lv' := [(5, .int (x5 + 1)), (7, .int (x5 - x5 / 7 * 7)), (6, .int (x5 / 7)), (0, .ref (a 0)), (1, .int x1), (2, .int x2), (3, .int x3), (4, .int x4)]) hx hb d_M_next_117 hl (k := 7) rfl rfl (by decide) rfl (fun ls hl => ?_)
          refine lv_goto (tgt := 31) hx hb d_M_next_120 (by decide) ?_
          exact ih _ _ _ _ _ _ _ _ ls hw hI (lv_sub hl [3, 4, 5, 6, 7, 0] rfl)
        · have hw := hw.2 hc
          refine lv_aload_n hx hb d_M_next_79 rfl (lv_at hl 2 rfl) ?_
          refine lv_iload hx hb d_M_next_80 (lv_at hl 1 rfl) ?_
          refine lv_iload hx hb d_M_next_82 (lv_at hl 0 rfl) ?_
          refine tr_goi (w := wdM a cA) hI hA (va_runV (As := [.int (x5 / 7), .int (x5 - x5 / 7 * 7)]) (rest := []) ⟨hx, hb, hml, hown, hts⟩ (c_M_leaves l dC dI cA a _ _ _ _ _) (cwV 2 hts (wsA_goodV wA_740 wA_742 wA_22 wA_40 wA_743) rfl rfl rfl (by decide +kernel) ⟨Nat.le_of_ble_eq_true rfl, Nat.le_of_ble_eq_true rfl⟩) (tr_preV (ci := 9) (q0 := 0) hI rfl (wdM_o0 a cA _) rfl hN hw) rfl rfl hl.1 rfl (lv_room (Nat.le_of_ble_eq_true rfl)) d_M_next_84 ⟨Nat.zero_le _, Nat.zero_le _⟩) (fun r84 u84 H locs hw hI => ?_)
          refine lv_iload_n hx hb d_M_next_87 rfl (lv_at hl 4 rfl) ?_
          refine lv_icmp_lt (tgt := 117) hx hb d_M_next_88 (by decide) (fun hc => ?_) (fun hc => ?_)
          · have hw := hw.1 hc
            refine lv_iinc (v := (x5 + 1)) (lv' := [(5, .int (x5 + 1)), (7, .int (x5 - x5 / 7 * 7)), (6, .int (x5 / 7)), (0, .ref (a 0)), (1, .int x1), (2, .int x2), (3, .int x3), (4, .int x4)]) hx hb d_M_next_117 hl (k := 7) rfl rfl (by decide) rfl (fun ls hl => ?_)
            refine lv_goto (tgt := 31) hx hb d_M_next_120 (by decide) ?_
            exact ih _ _ _ _ _ _ _ _ ls hw hI (lv_sub hl [3, 4, 5, 6, 7, 0] rfl)
          · have hw := hw.2 hc
            refine lv_aload_n hx hb d_M_next_91 rfl (lv_at hl 2 rfl) ?_
            refine lv_iload hx hb d_M_next_92 (lv_at hl 1 rfl) ?_
            refine lv_iload hx hb d_M_next_94 (lv_at hl 0 rfl) ?_
            refine tr_goi (w := wdM a cA) hI hA (va_runV (As := [.int (x5 / 7), .int (x5 - x5 / 7 * 7)]) (rest := []) ⟨hx, hb, hml, hown, hts⟩ (c_M_leaves l dC dI cA a _ _ _ _ _) (cwV 2 hts (wsA_goodV wA_740 wA_742 wA_22 wA_40 wA_743) rfl rfl rfl (by decide +kernel) ⟨Nat.le_of_ble_eq_true rfl, Nat.le_of_ble_eq_true rfl⟩) (tr_preV (ci := 9) (q0 := 0) hI rfl (wdM_o0 a cA _) rfl hN hw) rfl rfl hl.1 rfl (lv_room (Nat.le_of_ble_eq_true rfl)) d_M_next_96 ⟨Nat.zero_le _, Nat.zero_le _⟩) (fun r96 u96 H locs hw hI => ?_)
            refine lv_iload hx hb d_M_next_99 (lv_at hl 6 rfl) ?_
            refine lv_icmp_ge (tgt := 117) hx hb d_M_next_101 (by decide) (fun hc => ?_) (fun hc => ?_)
            · have hw := hw.1 hc
              refine lv_iinc (v := (x5 + 1)) (lv' := [(5, .int (x5 + 1)), (7, .int (x5 - x5 / 7 * 7)), (6, .int (x5 / 7)), (0, .ref (a 0)), (1, .int x1), (2, .int x2), (3, .int x3), (4, .int x4)]) hx hb d_M_next_117 hl (k := 7) rfl rfl (by decide) rfl (fun ls hl => ?_)
              refine lv_goto (tgt := 31) hx hb d_M_next_120 (by decide) ?_
              exact ih _ _ _ _ _ _ _ _ ls hw hI (lv_sub hl [3, 4, 5, 6, 7, 0] rfl)
            · have hw := hw.2 hc
              refine lv_iload hx hb d_M_next_104 (lv_at hl 7 rfl) ?_
              refine lv_istore_n (lv' := [(3, .int x5), (7, .int (x5 - x5 / 7 * 7)), (6, .int (x5 / 7)), (0, .ref (a 0)), (1, .int x1), (2, .int x2), (4, .int x4), (5, .int x5)]) hx hb d_M_next_106 rfl hl (by decide) rfl (fun ls hl => ?_)
              refine lv_aload_n hx hb d_M_next_107 rfl (lv_at hl 3 rfl) ?_
              refine lv_iload hx hb d_M_next_108 (lv_at hl 2 rfl) ?_
              refine lv_iload hx hb d_M_next_110 (lv_at hl 1 rfl) ?_
              refine tr_goi (w := wdM a cA) hI hA (va_runV (As := [.int (x5 / 7), .int (x5 - x5 / 7 * 7)]) (rest := []) ⟨hx, hb, hml, hown, hts⟩ (c_M_leaves l dC dI cA a _ _ _ _ _) (cwV 2 hts (wsA_goodV wA_740 wA_742 wA_22 wA_40 wA_743) rfl rfl rfl (by decide +kernel) ⟨Nat.le_of_ble_eq_true rfl, Nat.le_of_ble_eq_true rfl⟩) (tr_preV (ci := 9) (q0 := 0) hI rfl (wdM_o0 a cA _) rfl hN hw) rfl rfl hl.1 rfl (lv_room (Nat.le_of_ble_eq_true rfl)) d_M_next_112 ⟨Nat.zero_le _, Nat.zero_le _⟩) (fun r112 u112 H locs hw hI => ?_)
              refine lv_istore (lv' := [(4, .int r112), (3, .int x5), (7, .int (x5 - x5 / 7 * 7)), (6, .int (x5 / 7)), (0, .ref (a 0)), (1, .int x1), (2, .int x2), (5, .int x5)]) hx hb d_M_next_115 hl (by decide) rfl (fun ls hl => ?_)
              refine lv_iinc (v := (x5 + 1)) (lv' := [(5, .int (x5 + 1)), (4, .int r112), (3, .int x5), (7, .int (x5 - x5 / 7 * 7)), (6, .int (x5 / 7)), (0, .ref (a 0)), (1, .int x1), (2, .int x2)]) hx hb d_M_next_117 hl (k := 7) rfl rfl (by decide) rfl (fun ls hl => ?_)
              refine lv_goto (tgt := 31) hx hb d_M_next_120 (by decide) ?_
              exact ih _ _ _ _ _ _ _ _ ls hw hI (lv_sub hl [5, 6, 7, 2, 1, 0] rfl)
set_option maxRecDepth 100000 in
set_option maxHeartbeats 4000000 in
theorem c_M_next (l : Launch) (dC : Nat → ClassId) (dI : Nat → Nat → Nat) (cA : ClassId) (a : Nat → Nat) (u : tS) (x1 : Int32) (x2 : Int32) (post : Int32 → tS → Prop) (sz : Nat) : Met l y_M_next ws_M_next ({ frames := 2, cells := 0, slots := 0, locals := 44 }) (va_Pc [.ref (a 0), .int x1, .int x2] (tP (dC, dI) twCl [(cA, .int)] (wdM a cA) u sz (w_M_next post x1 x2 u))) (va_Qi post (tB (dC, dI) twCl [(cA, .int)] (va_A (wdM a cA u) sz) (wdM a cA)) (va_A (wdM a cA u) sz)) 0 0 (va_A (wdM a cA u) sz) := by
  refine Met.ofW (cc := b_M_next) (maxL := 8) (ret := (some .int)) (by decide) rfl ?_
  intro p e s m args below meth c s₁ B hml hv
  obtain ⟨rfl, hsz, hP, hK, hD0, hN, hw⟩ := hv
  have hx := B.exec
  have hb := B.bytes
  have hr := B.returns
  have hts : ∀ w ∈ wsA, w.before _ s = true := fun w h => atoms_spec (ws := ws_M_next) B.pre w (List.mem_cons_of_mem _ h)
  have hown : s.vm.findClass R_M = some m.cls := findClass_of_methodNamed B.named
  have hlocks := B.notSynchronized
  subst hsz
  have hD := hD0.self (sz := s.heap.size)
  generalize hAe : va_A (wdM a cA u) s.heap.size = A at hD ⊢
  have hA : ∀ q : Nat, s.heap.size ≤ q → A q := fun q h => by rw [← hAe]; exact Or.inr h
  have hS : va_S A s.heap s.heap [] := va_S.rf
  have hI : tX (dC, dI) twCl [(cA, .int)] A s s.heap [] (wdM a cA u) := ⟨hK, hP, hD, hS⟩
  have hC : tC p s m meth c ([.ref (a 0), .int x1, .int x2] : List Value).toArray b_M_next 8 (some .int) wsA R_M A := ⟨hx, hb, hr, hml, hown, hts, hlocks, hA, hN⟩
  have hl := lv_entry ([.ref (a 0), .int x1, .int x2]) (n := 8) (Nat.le_of_ble_eq_true rfl)
  rw [lg_entry_eq]
  generalize (lg_sl ([.ref (a 0), .int x1, .int x2]) ++ List.replicate (8 - (lg_sl ([.ref (a 0), .int x1, .int x2])).length) Slot.unset).toArray = ls at hl ⊢
  have hl : lv_has ls 8 [(0, .ref (a 0)), (1, .int x1), (2, .int x2)] := hl
  have hw : (w_M_isStop (fun r2 u2 => ((r2 = 0 → (post (-2) u2)) ∧ (¬ r2 = 0 → (w_M_isIn (fun r13 u13 => ((r13 = 0 → (post (-2) u13)) ∧ (¬ r13 = 0 → (∃ k, w_M_next_31 post k x1 x2 (-1) 1000000 0 u13)))) x2 0 10079 u2)))) x1 u) := hw
  refine lv_aload_n hx hb d_M_next_0 rfl (lv_at hl 0 rfl) ?_
  refine lv_iload_n hx hb d_M_next_1 rfl (lv_at hl 1 rfl) ?_
  refine tr_goi (w := wdM a cA) hI hA (va_runV (As := [.int x1]) (rest := []) ⟨hx, hb, hml, hown, hts⟩ (c_M_isStop l dC dI cA a _ _ _ _) (cwV 1 hts (wsA_goodV wA_671 wA_673 wA_9 wA_40 wA_674) rfl rfl rfl (by decide +kernel) ⟨Nat.le_of_ble_eq_true rfl, Nat.le_of_ble_eq_true rfl⟩) (tr_preV (ci := 9) (q0 := 0) hI rfl (wdM_o0 a cA _) rfl hN hw) rfl rfl hl.1 rfl (lv_room (Nat.le_of_ble_eq_true rfl)) d_M_next_2 ⟨Nat.zero_le _, Nat.zero_le _⟩) (fun r2 u2 H locs hw hI => ?_)
  refine lv_if_eq (tgt := 19) hx hb d_M_next_5 (by decide) (fun hc => ?_) (fun hc => ?_)
  · have hw := hw.1 hc
    refine lv_bipush (v := (-2)) hx hb d_M_next_19 (by decide) ?_
    exact tr_iret hx hb hr hlocks hI hw d_M_next_21
  · have hw := hw.2 hc
    refine lv_iload_n hx hb d_M_next_8 rfl (lv_at hl 2 rfl) ?_
    refine lv_iconst (v := 0) hx hb d_M_next_9 (by decide) ?_
    refine lv_sipush (v := 10079) hx hb d_M_next_10 (by decide) ?_
    refine tr_goi (w := wdM a cA) hI hA (va_runS (As := [.int x2, .int 0, .int 10079]) (rest := []) ⟨hx, hb, hml, hown, hts⟩ (c_M_isIn l dC dI cA a _ _ _ _ _ _) ⟨callB_of 3 hts (wsA_good wA_666) rfl rfl rfl (hts _ wA_40) (hts _ wA_664) (by decide +kernel) ⟨Nat.le_of_ble_eq_true rfl, Nat.le_of_ble_eq_true rfl⟩, hts _ wA_665⟩ (tr_preS hI hN hw) rfl rfl hl.1 rfl (lv_room (Nat.le_of_ble_eq_true rfl)) d_M_next_13 ⟨Nat.zero_le _, Nat.zero_le _⟩) (fun r13 u13 H locs hw hI => ?_)
    refine lv_if_ne (tgt := 22) hx hb d_M_next_16 (by decide) (fun hc => ?_) (fun hc => ?_)
    · have hw := hw.2 hc
      refine lv_iconst (v := (-1)) hx hb d_M_next_22 (by decide) ?_
      refine lv_istore_n (lv' := [(3, .int (-1)), (0, .ref (a 0)), (1, .int x1), (2, .int x2)]) hx hb d_M_next_23 rfl hl (by decide) rfl (fun ls hl => ?_)
      refine lv_ldc (v := 1000000) hx hb hown (hts _ wA_719) d_M_next_24 ?_
      refine lv_istore (lv' := [(4, .int 1000000), (3, .int (-1)), (0, .ref (a 0)), (1, .int x1), (2, .int x2)]) hx hb d_M_next_26 hl (by decide) rfl (fun ls hl => ?_)
      refine lv_iconst (v := 0) hx hb d_M_next_28 (by decide) ?_
      refine lv_istore (lv' := [(5, .int 0), (4, .int 1000000), (3, .int (-1)), (0, .ref (a 0)), (1, .int x1), (2, .int x2)]) hx hb d_M_next_29 hl (by decide) rfl (fun ls hl => ?_)
      obtain ⟨k, hw⟩ := hw
      exact k_M_next_31 hC post k _ _ _ _ _ _ _ _ ls hw hI (lv_sub hl [3, 4, 5, 2, 1, 0] rfl)
    · have hw := hw.1 hc
      refine lv_bipush (v := (-2)) hx hb d_M_next_19 (by decide) ?_
      exact tr_iret hx hb hr hlocks hI hw d_M_next_21
def w_M_told_96 (post : Int32 → tS → Prop) : Nat → Int32 → Int32 → Int32 → tS → Prop
  | 0 => fun _ _ _ _ => False
  | n + 1 => fun x1 x3 x4 u => ((7 ≤ x4 → (post x3 u)) ∧ (¬ 7 ≤ x4 → (w_M_goes (fun r108 u108 => ((r108 = 0 → (w_M_told_96 post n x1 (x3 ||| 0) (x4 + 1) u108)) ∧ (¬ r108 = 0 → (w_M_told_96 post n x1 (x3 ||| (1 <<< (x4 &&& 31))) (x4 + 1) u108)))) x1 x4 u)))
def w_M_told (post : Int32 → tS → Prop) (x1 : Int32) (x2 : Int32) (u : tS) : Prop := (w_M_isRide (fun r2 u2 => ((r2 = 0 → (post (-2) u2)) ∧ (¬ r2 = 0 → (w_M_isIn (fun r11 u11 => ((r11 = 0 → (post (-2) u11)) ∧ (¬ r11 = 0 → ((x2 = 0 → (vp_in x1 40 ∧ (post (u11.2 1 x1.toNatClampNeg) u11))) ∧ (¬ x2 = 0 → ((x2 = 1 → (vp_in x1 40 ∧ (post (u11.2 2 x1.toNatClampNeg) u11))) ∧ (¬ x2 = 1 → ((x2 = 2 → (vp_in x1 40 ∧ (post (u11.2 3 x1.toNatClampNeg) u11))) ∧ (¬ x2 = 2 → ((x2 = 3 → (vp_in x1 40 ∧ (post (u11.2 4 x1.toNatClampNeg) u11))) ∧ (¬ x2 = 3 → ((x2 = 4 → (vp_in x1 40 ∧ (post (u11.2 5 x1.toNatClampNeg) u11))) ∧ (¬ x2 = 4 → (∃ k, w_M_told_96 post k x1 0 0 u11)))))))))))))) x2 0 5 u2)))) x1 u)
set_option maxRecDepth 100000 in
set_option maxHeartbeats 4000000 in
theorem k_M_told_96 {p : Program} {l : Launch} {e : Env} {s : State} {m : MethodId} {args : Array Value} {below : List Frame} {meth : Method} {c : Code} {dC : Nat → ClassId} {dI : Nat → Nat → Nat} {cA : ClassId} {a : Nat → Nat} {A : Nat → Prop} (hC : tC p s m meth c args b_M_told 5 (some .int) wsA R_M A) (post : Int32 → tS → Prop) : ∀ n : Nat, ∀ (x1 x3 x4 : Int32) (u : tS) (H : Heap) (locs : List Loc) (ls : Array Slot), w_M_told_96 post n x1 x3 x4 u → tX (dC, dI) twCl [(cA, .int)] A s H locs (wdM a cA u) → lv_has ls 5 [(0, .ref (a 0)), (1, .int x1), (3, .int x3), (4, .int x4)] → W p l e ({ frames := 2, cells := 0, slots := 0, locals := 44 }) s m args below meth c H locs 0 0 (MQ below (va_Qi post (tB (dC, dI) twCl [(cA, .int)] A (wdM a cA)) A) args s 0 0 A) (F0 m 96 ls []) := by
  obtain ⟨hx, hb, hr, hml, hown, hts, hlocks, hA, hN⟩ := id hC
  intro n
  induction n with
  | zero => intro x1 x3 x4 u H locs ls hw; exact False.elim hw
  | succ n ih =>
    intro x1 x3 x4 u H locs ls hw hI hl
    refine lv_iload hx hb d_M_told_96 (lv_at hl 3 rfl) ?_
    refine lv_bipush (v := 7) hx hb d_M_told_98 (by decide) ?_
    refine lv_icmp_ge (tgt := 130) hx hb d_M_told_100 (by decide) (fun hc => ?_) (fun hc => ?_)
    · have hw := hw.1 hc
      refine lv_iload_n hx hb d_M_told_130 rfl (lv_at hl 2 rfl) ?_
      exact tr_iret hx hb hr hlocks hI hw d_M_told_131
    · have hw := hw.2 hc
      refine lv_iload_n hx hb d_M_told_103 rfl (lv_at hl 2 rfl) ?_
      refine lv_aload_n hx hb d_M_told_104 rfl (lv_at hl 0 rfl) ?_
      refine lv_iload_n hx hb d_M_told_105 rfl (lv_at hl 1 rfl) ?_
      refine lv_iload hx hb d_M_told_106 (lv_at hl 3 rfl) ?_
      refine tr_goi (w := wdM a cA) hI hA (va_runV (As := [.int x1, .int x4]) (rest := [.int x3]) ⟨hx, hb, hml, hown, hts⟩ (c_M_goes l dC dI cA a _ _ _ _ _) (cwV 2 hts (wsA_goodV wA_736 wA_738 wA_21 wA_40 wA_739) rfl rfl rfl (by decide +kernel) ⟨Nat.le_of_ble_eq_true rfl, Nat.le_of_ble_eq_true rfl⟩) (tr_preV (ci := 9) (q0 := 0) hI rfl (wdM_o0 a cA _) rfl hN hw) rfl rfl hl.1 rfl (lv_room (Nat.le_of_ble_eq_true rfl)) d_M_told_108 ⟨Nat.zero_le _, Nat.zero_le _⟩) (fun r108 u108 H locs hw hI => ?_)
      refine lv_if_eq (tgt := 121) hx hb d_M_told_111 (by decide) (fun hc => ?_) (fun hc => ?_)
      · have hw := hw.1 hc
        refine lv_iconst (v := 0) hx hb d_M_told_121 (by decide) ?_
        refine lv_ior hx hb d_M_told_122 ?_
        refine lv_istore_n (lv' := [(3, .int (x3 ||| 0)), (0, .ref (a 0)), (1, .int x1), (4, .int x4)]) hx hb d_M_told_123 rfl hl (by decide) rfl (fun ls hl => ?_)
        refine lv_iinc (v := (x4 + 1)) (lv' := [(4, .int (x4 + 1)), (3, .int (x3 ||| 0)), (0, .ref (a 0)), (1, .int x1)]) hx hb d_M_told_124 hl (k := 3) rfl rfl (by decide) rfl (fun ls hl => ?_)
        refine lv_goto (tgt := 96) hx hb d_M_told_127 (by decide) ?_
        exact ih _ _ _ _ _ _ ls hw hI (lv_sub hl [2, 3, 1, 0] rfl)
      · have hw := hw.2 hc
        refine lv_iconst (v := 1) hx hb d_M_told_114 (by decide) ?_
        refine lv_iload hx hb d_M_told_115 (lv_at hl 3 rfl) ?_
        refine lv_ishl hx hb d_M_told_117 ?_
        refine lv_goto (tgt := 122) hx hb d_M_told_118 (by decide) ?_
        refine lv_ior hx hb d_M_told_122 ?_
        refine lv_istore_n (lv' := [(3, .int (x3 ||| (1 <<< (x4 &&& 31)))), (0, .ref (a 0)), (1, .int x1), (4, .int x4)]) hx hb d_M_told_123 rfl hl (by decide) rfl (fun ls hl => ?_)
        refine lv_iinc (v := (x4 + 1)) (lv' := [(4, .int (x4 + 1)), (3, .int (x3 ||| (1 <<< (x4 &&& 31)))), (0, .ref (a 0)), (1, .int x1)]) hx hb d_M_told_124 hl (k := 3) rfl rfl (by decide) rfl (fun ls hl => ?_)
        refine lv_goto (tgt := 96) hx hb d_M_told_127 (by decide) ?_
        exact ih _ _ _ _ _ _ ls hw hI (lv_sub hl [2, 3, 1, 0] rfl)
set_option maxRecDepth 100000 in
set_option maxHeartbeats 4000000 in
theorem c_M_told (l : Launch) (dC : Nat → ClassId) (dI : Nat → Nat → Nat) (cA : ClassId) (a : Nat → Nat) (u : tS) (x1 : Int32) (x2 : Int32) (post : Int32 → tS → Prop) (sz : Nat) : Met l y_M_told ws_M_told ({ frames := 2, cells := 0, slots := 0, locals := 44 }) (va_Pc [.ref (a 0), .int x1, .int x2] (tP (dC, dI) twCl [(cA, .int)] (wdM a cA) u sz (w_M_told post x1 x2 u))) (va_Qi post (tB (dC, dI) twCl [(cA, .int)] (va_A (wdM a cA u) sz) (wdM a cA)) (va_A (wdM a cA u) sz)) 0 0 (va_A (wdM a cA u) sz) := by
  refine Met.ofW (cc := b_M_told) (maxL := 5) (ret := (some .int)) (by decide) rfl ?_
  intro p e s m args below meth c s₁ B hml hv
  obtain ⟨rfl, hsz, hP, hK, hD0, hN, hw⟩ := hv
  have hx := B.exec
  have hb := B.bytes
  have hr := B.returns
  have hts : ∀ w ∈ wsA, w.before _ s = true := fun w h => atoms_spec (ws := ws_M_told) B.pre w (List.mem_cons_of_mem _ h)
  have hown : s.vm.findClass R_M = some m.cls := findClass_of_methodNamed B.named
  have hlocks := B.notSynchronized
  subst hsz
  have hD := hD0.self (sz := s.heap.size)
  generalize hAe : va_A (wdM a cA u) s.heap.size = A at hD ⊢
  have hA : ∀ q : Nat, s.heap.size ≤ q → A q := fun q h => by rw [← hAe]; exact Or.inr h
  have hS : va_S A s.heap s.heap [] := va_S.rf
  have hI : tX (dC, dI) twCl [(cA, .int)] A s s.heap [] (wdM a cA u) := ⟨hK, hP, hD, hS⟩
  have hC : tC p s m meth c ([.ref (a 0), .int x1, .int x2] : List Value).toArray b_M_told 5 (some .int) wsA R_M A := ⟨hx, hb, hr, hml, hown, hts, hlocks, hA, hN⟩
  have hl := lv_entry ([.ref (a 0), .int x1, .int x2]) (n := 5) (Nat.le_of_ble_eq_true rfl)
  rw [lg_entry_eq]
  generalize (lg_sl ([.ref (a 0), .int x1, .int x2]) ++ List.replicate (5 - (lg_sl ([.ref (a 0), .int x1, .int x2])).length) Slot.unset).toArray = ls at hl ⊢
  have hl : lv_has ls 5 [(0, .ref (a 0)), (1, .int x1), (2, .int x2)] := hl
  have hw : (w_M_isRide (fun r2 u2 => ((r2 = 0 → (post (-2) u2)) ∧ (¬ r2 = 0 → (w_M_isIn (fun r11 u11 => ((r11 = 0 → (post (-2) u11)) ∧ (¬ r11 = 0 → ((x2 = 0 → (vp_in x1 40 ∧ (post (u11.2 1 x1.toNatClampNeg) u11))) ∧ (¬ x2 = 0 → ((x2 = 1 → (vp_in x1 40 ∧ (post (u11.2 2 x1.toNatClampNeg) u11))) ∧ (¬ x2 = 1 → ((x2 = 2 → (vp_in x1 40 ∧ (post (u11.2 3 x1.toNatClampNeg) u11))) ∧ (¬ x2 = 2 → ((x2 = 3 → (vp_in x1 40 ∧ (post (u11.2 4 x1.toNatClampNeg) u11))) ∧ (¬ x2 = 3 → ((x2 = 4 → (vp_in x1 40 ∧ (post (u11.2 5 x1.toNatClampNeg) u11))) ∧ (¬ x2 = 4 → (∃ k, w_M_told_96 post k x1 0 0 u11)))))))))))))) x2 0 5 u2)))) x1 u) := hw
  refine lv_aload_n hx hb d_M_told_0 rfl (lv_at hl 0 rfl) ?_
  refine lv_iload_n hx hb d_M_told_1 rfl (lv_at hl 1 rfl) ?_
  refine tr_goi (w := wdM a cA) hI hA (va_runV (As := [.int x1]) (rest := []) ⟨hx, hb, hml, hown, hts⟩ (c_M_isRide l dC dI cA a _ _ _ _) (cwV 1 hts (wsA_goodV wA_691 wA_693 wA_11 wA_40 wA_694) rfl rfl rfl (by decide +kernel) ⟨Nat.le_of_ble_eq_true rfl, Nat.le_of_ble_eq_true rfl⟩) (tr_preV (ci := 9) (q0 := 0) hI rfl (wdM_o0 a cA _) rfl hN hw) rfl rfl hl.1 rfl (lv_room (Nat.le_of_ble_eq_true rfl)) d_M_told_2 ⟨Nat.zero_le _, Nat.zero_le _⟩) (fun r2 u2 H locs hw hI => ?_)
  refine lv_if_eq (tgt := 17) hx hb d_M_told_5 (by decide) (fun hc => ?_) (fun hc => ?_)
  · have hw := hw.1 hc
    refine lv_bipush (v := (-2)) hx hb d_M_told_17 (by decide) ?_
    exact tr_iret hx hb hr hlocks hI hw d_M_told_19
  · have hw := hw.2 hc
    refine lv_iload_n hx hb d_M_told_8 rfl (lv_at hl 2 rfl) ?_
    refine lv_iconst (v := 0) hx hb d_M_told_9 (by decide) ?_
    refine lv_iconst (v := 5) hx hb d_M_told_10 (by decide) ?_
    refine tr_goi (w := wdM a cA) hI hA (va_runS (As := [.int x2, .int 0, .int 5]) (rest := []) ⟨hx, hb, hml, hown, hts⟩ (c_M_isIn l dC dI cA a _ _ _ _ _ _) ⟨callB_of 3 hts (wsA_good wA_666) rfl rfl rfl (hts _ wA_40) (hts _ wA_664) (by decide +kernel) ⟨Nat.le_of_ble_eq_true rfl, Nat.le_of_ble_eq_true rfl⟩, hts _ wA_665⟩ (tr_preS hI hN hw) rfl rfl hl.1 rfl (lv_room (Nat.le_of_ble_eq_true rfl)) d_M_told_11 ⟨Nat.zero_le _, Nat.zero_le _⟩) (fun r11 u11 H locs hw hI => ?_)
    refine lv_if_ne (tgt := 20) hx hb d_M_told_14 (by decide) (fun hc => ?_) (fun hc => ?_)
    · have hw := hw.2 hc
      refine lv_iload_n hx hb d_M_told_20 rfl (lv_at hl 2 rfl) ?_
      by_cases hc0 : x2 = 0
      · have hw := hw.1 hc0
        refine lv_tableIn (tgt := 56) hx hb d_M_told_21 (by rw [hc0]; decide) (by rw [hc0]; decide) (by rw [hc0]; rfl) (by decide) ?_
        refine lv_aload_n hx hb d_M_told_56 rfl (lv_at hl 0 rfl) ?_
        refine va_get (D := (dC, dI)) (C := R_M) (T := F_M) (N := 22) hx hb hts in_M hown hI.1 hI.2.1 0 (wdM_o0 a cA _) rfl 3 (by decide) (hts _ wA_592) (fun _ h9 => h9) rfl d_M_told_57 ?_
        refine lv_iload_n hx hb d_M_told_60 rfl (lv_at hl 1 rfl) ?_
        obtain ⟨hi, hw⟩ := hw
        refine va_iald (D := (dC, dI)) hx hb hI.1 hI.2.1 2 0 (wdM_o2 a cA _) rfl hi d_M_told_61 ?_
        exact tr_iret hx hb hr hlocks hI hw d_M_told_62
      · have hw := hw.2 hc0
        by_cases hc1 : x2 = 1
        · have hw := hw.1 hc1
          refine lv_tableIn (tgt := 63) hx hb d_M_told_21 (by rw [hc1]; decide) (by rw [hc1]; decide) (by rw [hc1]; rfl) (by decide) ?_
          refine lv_aload_n hx hb d_M_told_63 rfl (lv_at hl 0 rfl) ?_
          refine va_get (D := (dC, dI)) (C := R_M) (T := F_M) (N := 22) hx hb hts in_M hown hI.1 hI.2.1 0 (wdM_o0 a cA _) rfl 4 (by decide) (hts _ wA_593) (fun _ h9 => h9) rfl d_M_told_64 ?_
          refine lv_iload_n hx hb d_M_told_67 rfl (lv_at hl 1 rfl) ?_
          obtain ⟨hi, hw⟩ := hw
          refine va_iald (D := (dC, dI)) hx hb hI.1 hI.2.1 3 0 (wdM_o3 a cA _) rfl hi d_M_told_68 ?_
          exact tr_iret hx hb hr hlocks hI hw d_M_told_69
        · have hw := hw.2 hc1
          by_cases hc2 : x2 = 2
          · have hw := hw.1 hc2
            refine lv_tableIn (tgt := 70) hx hb d_M_told_21 (by rw [hc2]; decide) (by rw [hc2]; decide) (by rw [hc2]; rfl) (by decide) ?_
            refine lv_aload_n hx hb d_M_told_70 rfl (lv_at hl 0 rfl) ?_
            refine va_get (D := (dC, dI)) (C := R_M) (T := F_M) (N := 22) hx hb hts in_M hown hI.1 hI.2.1 0 (wdM_o0 a cA _) rfl 5 (by decide) (hts _ wA_594) (fun _ h9 => h9) rfl d_M_told_71 ?_
            refine lv_iload_n hx hb d_M_told_74 rfl (lv_at hl 1 rfl) ?_
            obtain ⟨hi, hw⟩ := hw
            refine va_iald (D := (dC, dI)) hx hb hI.1 hI.2.1 4 0 (wdM_o4 a cA _) rfl hi d_M_told_75 ?_
            exact tr_iret hx hb hr hlocks hI hw d_M_told_76
          · have hw := hw.2 hc2
            by_cases hc3 : x2 = 3
            · have hw := hw.1 hc3
              refine lv_tableIn (tgt := 77) hx hb d_M_told_21 (by rw [hc3]; decide) (by rw [hc3]; decide) (by rw [hc3]; rfl) (by decide) ?_
              refine lv_aload_n hx hb d_M_told_77 rfl (lv_at hl 0 rfl) ?_
              refine va_get (D := (dC, dI)) (C := R_M) (T := F_M) (N := 22) hx hb hts in_M hown hI.1 hI.2.1 0 (wdM_o0 a cA _) rfl 6 (by decide) (hts _ wA_595) (fun _ h9 => h9) rfl d_M_told_78 ?_
              refine lv_iload_n hx hb d_M_told_81 rfl (lv_at hl 1 rfl) ?_
              obtain ⟨hi, hw⟩ := hw
              refine va_iald (D := (dC, dI)) hx hb hI.1 hI.2.1 5 0 (wdM_o5 a cA _) rfl hi d_M_told_82 ?_
              exact tr_iret hx hb hr hlocks hI hw d_M_told_83
            · have hw := hw.2 hc3
              by_cases hc4 : x2 = 4
              · have hw := hw.1 hc4
                refine lv_tableIn (tgt := 84) hx hb d_M_told_21 (by rw [hc4]; decide) (by rw [hc4]; decide) (by rw [hc4]; rfl) (by decide) ?_
                refine lv_aload_n hx hb d_M_told_84 rfl (lv_at hl 0 rfl) ?_
                refine va_get (D := (dC, dI)) (C := R_M) (T := F_M) (N := 22) hx hb hts in_M hown hI.1 hI.2.1 0 (wdM_o0 a cA _) rfl 7 (by decide) (hts _ wA_596) (fun _ h9 => h9) rfl d_M_told_85 ?_
                refine lv_iload_n hx hb d_M_told_88 rfl (lv_at hl 1 rfl) ?_
                obtain ⟨hi, hw⟩ := hw
                refine va_iald (D := (dC, dI)) hx hb hI.1 hI.2.1 6 0 (wdM_o6 a cA _) rfl hi d_M_told_89 ?_
                exact tr_iret hx hb hr hlocks hI hw d_M_told_90
              · have hw := hw.2 hc4
                refine lv_tableOut (tgt := 91) hx hb d_M_told_21 (tab_out5 hc0 hc1 hc2 hc3 hc4) (by decide) ?_
                refine lv_iconst (v := 0) hx hb d_M_told_91 (by decide) ?_
                refine lv_istore_n (lv' := [(3, .int 0), (0, .ref (a 0)), (1, .int x1), (2, .int x2)]) hx hb d_M_told_92 rfl hl (by decide) rfl (fun ls hl => ?_)
                refine lv_iconst (v := 0) hx hb d_M_told_93 (by decide) ?_
                refine lv_istore (lv' := [(4, .int 0), (3, .int 0), (0, .ref (a 0)), (1, .int x1), (2, .int x2)]) hx hb d_M_told_94 hl (by decide) rfl (fun ls hl => ?_)
                obtain ⟨k, hw⟩ := hw
                exact k_M_told_96 hC post k _ _ _ _ _ _ ls hw hI (lv_sub hl [2, 3, 1, 0] rfl)
    · have hw := hw.1 hc
      refine lv_bipush (v := (-2)) hx hb d_M_told_17 (by decide) ?_
      exact tr_iret hx hb hr hlocks hI hw d_M_told_19
def w_M_of_60 (post : Int32 → tS → Prop) (K49 : Int32 → Int32 → Int32 → tS → Prop) : Nat → Int32 → Int32 → Int32 → Int32 → tS → Prop
  | 0 => fun _ _ _ _ _ => False
  | n + 1 => fun x1 x2 x3 x4 u => ((7 ≤ x4 → (K49 x1 x2 (x3 + 1) u)) ∧ (¬ 7 ≤ x4 → (w_M_goes (fun r72 u72 => ((r72 = 0 → (w_M_of_60 post K49 n x1 (x2 + 0) x3 (x4 + 1) u72)) ∧ (¬ r72 = 0 → ((x1 = 3 → (w_M_of_60 post K49 n x1 (x2 + 1) x3 (x4 + 1) u72)) ∧ (¬ x1 = 3 → (vp_in ((7 * x3) + x4) 280 ∧ (((u72.2 6 ((7 * x3) + x4).toNatClampNeg) ≤ 0 → (w_M_of_60 post K49 n x1 (x2 + 0) x3 (x4 + 1) u72)) ∧ (¬ (u72.2 6 ((7 * x3) + x4).toNatClampNeg) ≤ 0 → (w_M_of_60 post K49 n x1 (x2 + 1) x3 (x4 + 1) u72))))))))) x3 x4 u)))
def w_M_of_49 (post : Int32 → tS → Prop) : Nat → Int32 → Int32 → Int32 → tS → Prop
  | 0 => fun _ _ _ _ => False
  | n + 1 => fun x1 x2 x3 u => (((u.1 1) ≤ x3 → (post x2 u)) ∧ (¬ (u.1 1) ≤ x3 → (∃ k, w_M_of_60 post (w_M_of_49 post n) k x1 x2 x3 0 u)))
def w_M_of (post : Int32 → tS → Prop) (x1 : Int32) (u : tS) : Prop := (w_M_isIn (fun r3 u3 => ((r3 = 0 → (post (-2) u3)) ∧ (¬ r3 = 0 → ((3 ≤ x1 → (∃ k, w_M_of_49 post k x1 0 0 u3)) ∧ (¬ 3 ≤ x1 → ((x1 = 0 → (post (u3.1 0) u3)) ∧ (¬ x1 = 0 → ((x1 = 1 → (post (u3.1 1) u3)) ∧ (¬ x1 = 1 → (post (u3.1 2) u3)))))))))) x1 0 4 u)
set_option maxRecDepth 100000 in
set_option maxHeartbeats 4000000 in
theorem k_M_of_60 {p : Program} {l : Launch} {e : Env} {s : State} {m : MethodId} {args : Array Value} {below : List Frame} {meth : Method} {c : Code} {dC : Nat → ClassId} {dI : Nat → Nat → Nat} {cA : ClassId} {a : Nat → Nat} {A : Nat → Prop} (hC : tC p s m meth c args b_M_of 5 (some .int) wsA R_M A) (post : Int32 → tS → Prop) (K49 : Int32 → Int32 → Int32 → tS → Prop) (hK49 : ∀ (x1 x2 x3 : Int32) (u : tS) (H : Heap) (locs : List Loc) (ls : Array Slot), K49 x1 x2 x3 u → tX (dC, dI) twCl [(cA, .int)] A s H locs (wdM a cA u) → lv_has ls 5 [(0, .ref (a 0)), (1, .int x1), (2, .int x2), (3, .int x3)] → W p l e ({ frames := 2, cells := 0, slots := 0, locals := 44 }) s m args below meth c H locs 0 0 (MQ below (va_Qi post (tB (dC, dI) twCl [(cA, .int)] A (wdM a cA)) A) args s 0 0 A) (F0 m 49 ls [])) : ∀ n : Nat, ∀ (x1 x2 x3 x4 : Int32) (u : tS) (H : Heap) (locs : List Loc) (ls : Array Slot), w_M_of_60 post K49 n x1 x2 x3 x4 u → tX (dC, dI) twCl [(cA, .int)] A s H locs (wdM a cA u) → lv_has ls 5 [(0, .ref (a 0)), (1, .int x1), (2, .int x2), (3, .int x3), (4, .int x4)] → W p l e ({ frames := 2, cells := 0, slots := 0, locals := 44 }) s m args below meth c H locs 0 0 (MQ below (va_Qi post (tB (dC, dI) twCl [(cA, .int)] A (wdM a cA)) A) args s 0 0 A) (F0 m 60 ls []) := by
  obtain ⟨hx, hb, hr, hml, hown, hts, hlocks, hA, hN⟩ := id hC
  intro n
  induction n with
  | zero => intro x1 x2 x3 x4 u H locs ls hw; exact False.elim hw
  | succ n ih =>
    intro x1 x2 x3 x4 u H locs ls hw hI hl
    refine lv_iload hx hb d_M_of_60 (lv_at hl 4 rfl) ?_
    refine lv_bipush (v := 7) hx hb d_M_of_62 (by decide) ?_
    refine lv_icmp_ge (tgt := 111) hx hb d_M_of_64 (by decide) (fun hc => ?_) (fun hc => ?_)
    · have hw := hw.1 hc
      refine lv_iinc (v := (x3 + 1)) (lv' := [(3, .int (x3 + 1)), (0, .ref (a 0)), (1, .int x1), (2, .int x2), (4, .int x4)]) hx hb d_M_of_111 hl (k := 3) rfl rfl (by decide) rfl (fun ls hl => ?_)
      refine lv_goto (tgt := 49) hx hb d_M_of_114 (by decide) ?_
      exact hK49 _ _ _ _ _ _ ls hw hI (lv_sub hl [1, 2, 3, 0] rfl)
    · have hw := hw.2 hc
      refine lv_iload_n hx hb d_M_of_67 rfl (lv_at hl 2 rfl) ?_
      refine lv_aload_n hx hb d_M_of_68 rfl (lv_at hl 0 rfl) ?_
      refine lv_iload_n hx hb d_M_of_69 rfl (lv_at hl 3 rfl) ?_
      refine lv_iload hx hb d_M_of_70 (lv_at hl 4 rfl) ?_
      refine tr_goi (w := wdM a cA) hI hA (va_runV (As := [.int x3, .int x4]) (rest := [.int x2]) ⟨hx, hb, hml, hown, hts⟩ (c_M_goes l dC dI cA a _ _ _ _ _) (cwV 2 hts (wsA_goodV wA_736 wA_738 wA_21 wA_40 wA_739) rfl rfl rfl (by decide +kernel) ⟨Nat.le_of_ble_eq_true rfl, Nat.le_of_ble_eq_true rfl⟩) (tr_preV (ci := 9) (q0 := 0) hI rfl (wdM_o0 a cA _) rfl hN hw) rfl rfl hl.1 rfl (lv_room (Nat.le_of_ble_eq_true rfl)) d_M_of_72 ⟨Nat.zero_le _, Nat.zero_le _⟩) (fun r72 u72 H locs hw hI => ?_)
      refine lv_if_eq (tgt := 102) hx hb d_M_of_75 (by decide) (fun hc => ?_) (fun hc => ?_)
      · have hw := hw.1 hc
        refine lv_iconst (v := 0) hx hb d_M_of_102 (by decide) ?_
        refine lv_iadd hx hb d_M_of_103 ?_
        refine lv_istore_n (lv' := [(2, .int (x2 + 0)), (0, .ref (a 0)), (1, .int x1), (3, .int x3), (4, .int x4)]) hx hb d_M_of_104 rfl hl (by decide) rfl (fun ls hl => ?_)
        refine lv_iinc (v := (x4 + 1)) (lv' := [(4, .int (x4 + 1)), (2, .int (x2 + 0)), (0, .ref (a 0)), (1, .int x1), (3, .int x3)]) hx hb d_M_of_105 hl (k := 4) rfl rfl (by decide) rfl (fun ls hl => ?_)
        refine lv_goto (tgt := 60) hx hb d_M_of_108 (by decide) ?_
        exact ih _ _ _ _ _ _ _ ls hw hI (lv_sub hl [2, 3, 1, 4, 0] rfl)
      · have hw := hw.2 hc
        refine lv_iload_n hx hb d_M_of_78 rfl (lv_at hl 1 rfl) ?_
        refine lv_iconst (v := 3) hx hb d_M_of_79 (by decide) ?_
        refine lv_icmp_eq (tgt := 98) hx hb d_M_of_80 (by decide) (fun hc => ?_) (fun hc => ?_)
        · have hw := hw.1 hc
          refine lv_iconst (v := 1) hx hb d_M_of_98 (by decide) ?_
          refine lv_goto (tgt := 103) hx hb d_M_of_99 (by decide) ?_
          refine lv_iadd hx hb d_M_of_103 ?_
          refine lv_istore_n (lv' := [(2, .int (x2 + 1)), (0, .ref (a 0)), (1, .int x1), (3, .int x3), (4, .int x4)]) hx hb d_M_of_104 rfl hl (by decide) rfl (fun ls hl => ?_)
          refine lv_iinc (v := (x4 + 1)) (lv' := [(4, .int (x4 + 1)), (2, .int (x2 + 1)), (0, .ref (a 0)), (1, .int x1), (3, .int x3)]) hx hb d_M_of_105 hl (k := 4) rfl rfl (by decide) rfl (fun ls hl => ?_)
          refine lv_goto (tgt := 60) hx hb d_M_of_108 (by decide) ?_
          exact ih _ _ _ _ _ _ _ ls hw hI (lv_sub hl [2, 3, 1, 4, 0] rfl)
        · have hw := hw.2 hc
          refine lv_aload_n hx hb d_M_of_83 rfl (lv_at hl 0 rfl) ?_
          refine va_get (D := (dC, dI)) (C := R_M) (T := F_M) (N := 22) hx hb hts in_M hown hI.1 hI.2.1 0 (wdM_o0 a cA _) rfl 8 (by decide) (hts _ wA_597) (fun _ h9 => h9) rfl d_M_of_84 ?_
          refine lv_bipush (v := 7) hx hb d_M_of_87 (by decide) ?_
          refine lv_iload_n hx hb d_M_of_89 rfl (lv_at hl 3 rfl) ?_
          refine lv_imul hx hb d_M_of_90 ?_
          refine lv_iload hx hb d_M_of_91 (lv_at hl 4 rfl) ?_
          refine lv_iadd hx hb d_M_of_93 ?_
          obtain ⟨hi, hw⟩ := hw
          refine va_iald (D := (dC, dI)) hx hb hI.1 hI.2.1 7 0 (wdM_o7 a cA _) rfl hi d_M_of_94 ?_
          refine lv_if_le (tgt := 102) hx hb d_M_of_95 (by decide) (fun hc => ?_) (fun hc => ?_)
          · have hw := hw.1 hc
            refine lv_iconst (v := 0) hx hb d_M_of_102 (by decide) ?_
            refine lv_iadd hx hb d_M_of_103 ?_
            refine lv_istore_n (lv' := [(2, .int (x2 + 0)), (0, .ref (a 0)), (1, .int x1), (3, .int x3), (4, .int x4)]) hx hb d_M_of_104 rfl hl (by decide) rfl (fun ls hl => ?_)
            refine lv_iinc (v := (x4 + 1)) (lv' := [(4, .int (x4 + 1)), (2, .int (x2 + 0)), (0, .ref (a 0)), (1, .int x1), (3, .int x3)]) hx hb d_M_of_105 hl (k := 4) rfl rfl (by decide) rfl (fun ls hl => ?_)
            refine lv_goto (tgt := 60) hx hb d_M_of_108 (by decide) ?_
            exact ih _ _ _ _ _ _ _ ls hw hI (lv_sub hl [2, 3, 1, 4, 0] rfl)
          · have hw := hw.2 hc
            refine lv_iconst (v := 1) hx hb d_M_of_98 (by decide) ?_
            refine lv_goto (tgt := 103) hx hb d_M_of_99 (by decide) ?_
            refine lv_iadd hx hb d_M_of_103 ?_
            refine lv_istore_n (lv' := [(2, .int (x2 + 1)), (0, .ref (a 0)), (1, .int x1), (3, .int x3), (4, .int x4)]) hx hb d_M_of_104 rfl hl (by decide) rfl (fun ls hl => ?_)
            refine lv_iinc (v := (x4 + 1)) (lv' := [(4, .int (x4 + 1)), (2, .int (x2 + 1)), (0, .ref (a 0)), (1, .int x1), (3, .int x3)]) hx hb d_M_of_105 hl (k := 4) rfl rfl (by decide) rfl (fun ls hl => ?_)
            refine lv_goto (tgt := 60) hx hb d_M_of_108 (by decide) ?_
            exact ih _ _ _ _ _ _ _ ls hw hI (lv_sub hl [2, 3, 1, 4, 0] rfl)
set_option maxRecDepth 100000 in
set_option maxHeartbeats 4000000 in
theorem k_M_of_49 {p : Program} {l : Launch} {e : Env} {s : State} {m : MethodId} {args : Array Value} {below : List Frame} {meth : Method} {c : Code} {dC : Nat → ClassId} {dI : Nat → Nat → Nat} {cA : ClassId} {a : Nat → Nat} {A : Nat → Prop} (hC : tC p s m meth c args b_M_of 5 (some .int) wsA R_M A) (post : Int32 → tS → Prop) : ∀ n : Nat, ∀ (x1 x2 x3 : Int32) (u : tS) (H : Heap) (locs : List Loc) (ls : Array Slot), w_M_of_49 post n x1 x2 x3 u → tX (dC, dI) twCl [(cA, .int)] A s H locs (wdM a cA u) → lv_has ls 5 [(0, .ref (a 0)), (1, .int x1), (2, .int x2), (3, .int x3)] → W p l e ({ frames := 2, cells := 0, slots := 0, locals := 44 }) s m args below meth c H locs 0 0 (MQ below (va_Qi post (tB (dC, dI) twCl [(cA, .int)] A (wdM a cA)) A) args s 0 0 A) (F0 m 49 ls []) := by
  obtain ⟨hx, hb, hr, hml, hown, hts, hlocks, hA, hN⟩ := id hC
  intro n
  induction n with
  | zero => intro x1 x2 x3 u H locs ls hw; exact False.elim hw
  | succ n ih =>
    intro x1 x2 x3 u H locs ls hw hI hl
    refine lv_iload_n hx hb d_M_of_49 rfl (lv_at hl 3 rfl) ?_
    refine lv_aload_n hx hb d_M_of_50 rfl (lv_at hl 0 rfl) ?_
    refine va_get (D := (dC, dI)) (C := R_M) (T := F_M) (N := 22) hx hb hts in_M hown hI.1 hI.2.1 0 (wdM_o0 a cA _) rfl 2 (by decide) (hts _ wA_591) (fun _ h9 => h9) rfl d_M_of_51 ?_
    refine lv_icmp_ge (tgt := 117) hx hb d_M_of_54 (by decide) (fun hc => ?_) (fun hc => ?_)
    · have hw := hw.1 hc
      refine lv_iload_n hx hb d_M_of_117 rfl (lv_at hl 2 rfl) ?_
      exact tr_iret hx hb hr hlocks hI hw d_M_of_118
    · have hw := hw.2 hc
      refine lv_iconst (v := 0) hx hb d_M_of_57 (by decide) ?_
      refine lv_istore (lv' := [(4, .int 0), (0, .ref (a 0)), (1, .int x1), (2, .int x2), (3, .int x3)]) hx hb d_M_of_58 hl (by decide) rfl (fun ls hl => ?_)
      obtain ⟨k, hw⟩ := hw
      exact k_M_of_60 hC post _ ih k _ _ _ _ _ _ _ ls hw hI (lv_sub hl [1, 2, 3, 4, 0] rfl)
set_option maxRecDepth 100000 in
set_option maxHeartbeats 4000000 in
theorem c_M_of (l : Launch) (dC : Nat → ClassId) (dI : Nat → Nat → Nat) (cA : ClassId) (a : Nat → Nat) (u : tS) (x1 : Int32) (post : Int32 → tS → Prop) (sz : Nat) : Met l y_M_of ws_M_of ({ frames := 2, cells := 0, slots := 0, locals := 44 }) (va_Pc [.ref (a 0), .int x1] (tP (dC, dI) twCl [(cA, .int)] (wdM a cA) u sz (w_M_of post x1 u))) (va_Qi post (tB (dC, dI) twCl [(cA, .int)] (va_A (wdM a cA u) sz) (wdM a cA)) (va_A (wdM a cA u) sz)) 0 0 (va_A (wdM a cA u) sz) := by
  refine Met.ofW (cc := b_M_of) (maxL := 5) (ret := (some .int)) (by decide) rfl ?_
  intro p e s m args below meth c s₁ B hml hv
  obtain ⟨rfl, hsz, hP, hK, hD0, hN, hw⟩ := hv
  have hx := B.exec
  have hb := B.bytes
  have hr := B.returns
  have hts : ∀ w ∈ wsA, w.before _ s = true := fun w h => atoms_spec (ws := ws_M_of) B.pre w (List.mem_cons_of_mem _ h)
  have hown : s.vm.findClass R_M = some m.cls := findClass_of_methodNamed B.named
  have hlocks := B.notSynchronized
  subst hsz
  have hD := hD0.self (sz := s.heap.size)
  generalize hAe : va_A (wdM a cA u) s.heap.size = A at hD ⊢
  have hA : ∀ q : Nat, s.heap.size ≤ q → A q := fun q h => by rw [← hAe]; exact Or.inr h
  have hS : va_S A s.heap s.heap [] := va_S.rf
  have hI : tX (dC, dI) twCl [(cA, .int)] A s s.heap [] (wdM a cA u) := ⟨hK, hP, hD, hS⟩
  have hC : tC p s m meth c ([.ref (a 0), .int x1] : List Value).toArray b_M_of 5 (some .int) wsA R_M A := ⟨hx, hb, hr, hml, hown, hts, hlocks, hA, hN⟩
  have hl := lv_entry ([.ref (a 0), .int x1]) (n := 5) (Nat.le_of_ble_eq_true rfl)
  rw [lg_entry_eq]
  generalize (lg_sl ([.ref (a 0), .int x1]) ++ List.replicate (5 - (lg_sl ([.ref (a 0), .int x1])).length) Slot.unset).toArray = ls at hl ⊢
  have hl : lv_has ls 5 [(0, .ref (a 0)), (1, .int x1)] := hl
  have hw : (w_M_isIn (fun r3 u3 => ((r3 = 0 → (post (-2) u3)) ∧ (¬ r3 = 0 → ((3 ≤ x1 → (∃ k, w_M_of_49 post k x1 0 0 u3)) ∧ (¬ 3 ≤ x1 → ((x1 = 0 → (post (u3.1 0) u3)) ∧ (¬ x1 = 0 → ((x1 = 1 → (post (u3.1 1) u3)) ∧ (¬ x1 = 1 → (post (u3.1 2) u3)))))))))) x1 0 4 u) := hw
  refine lv_iload_n hx hb d_M_of_0 rfl (lv_at hl 1 rfl) ?_
  refine lv_iconst (v := 0) hx hb d_M_of_1 (by decide) ?_
  refine lv_iconst (v := 4) hx hb d_M_of_2 (by decide) ?_
  refine tr_goi (w := wdM a cA) hI hA (va_runS (As := [.int x1, .int 0, .int 4]) (rest := []) ⟨hx, hb, hml, hown, hts⟩ (c_M_isIn l dC dI cA a _ _ _ _ _ _) ⟨callB_of 3 hts (wsA_good wA_666) rfl rfl rfl (hts _ wA_40) (hts _ wA_664) (by decide +kernel) ⟨Nat.le_of_ble_eq_true rfl, Nat.le_of_ble_eq_true rfl⟩, hts _ wA_665⟩ (tr_preS hI hN hw) rfl rfl hl.1 rfl (lv_room (Nat.le_of_ble_eq_true rfl)) d_M_of_3 ⟨Nat.zero_le _, Nat.zero_le _⟩) (fun r3 u3 H locs hw hI => ?_)
  refine lv_if_ne (tgt := 12) hx hb d_M_of_6 (by decide) (fun hc => ?_) (fun hc => ?_)
  · have hw := hw.2 hc
    refine lv_iload_n hx hb d_M_of_12 rfl (lv_at hl 1 rfl) ?_
    refine lv_iconst (v := 3) hx hb d_M_of_13 (by decide) ?_
    refine lv_icmp_ge (tgt := 45) hx hb d_M_of_14 (by decide) (fun hc => ?_) (fun hc => ?_)
    · have hw := hw.1 hc
      refine lv_iconst (v := 0) hx hb d_M_of_45 (by decide) ?_
      refine lv_istore_n (lv' := [(2, .int 0), (0, .ref (a 0)), (1, .int x1)]) hx hb d_M_of_46 rfl hl (by decide) rfl (fun ls hl => ?_)
      refine lv_iconst (v := 0) hx hb d_M_of_47 (by decide) ?_
      refine lv_istore_n (lv' := [(3, .int 0), (2, .int 0), (0, .ref (a 0)), (1, .int x1)]) hx hb d_M_of_48 rfl hl (by decide) rfl (fun ls hl => ?_)
      obtain ⟨k, hw⟩ := hw
      exact k_M_of_49 hC post k _ _ _ _ _ _ ls hw hI (lv_sub hl [2, 3, 1, 0] rfl)
    · have hw := hw.2 hc
      refine lv_iload_n hx hb d_M_of_17 rfl (lv_at hl 1 rfl) ?_
      refine lv_if_ne (tgt := 28) hx hb d_M_of_18 (by decide) (fun hc => ?_) (fun hc => ?_)
      · have hw := hw.2 hc
        refine lv_iload_n hx hb d_M_of_28 rfl (lv_at hl 1 rfl) ?_
        refine lv_iconst (v := 1) hx hb d_M_of_29 (by decide) ?_
        refine lv_icmp_ne (tgt := 40) hx hb d_M_of_30 (by decide) (fun hc => ?_) (fun hc => ?_)
        · have hw := hw.2 hc
          refine lv_aload_n hx hb d_M_of_40 rfl (lv_at hl 0 rfl) ?_
          refine va_get (D := (dC, dI)) (C := R_M) (T := F_M) (N := 22) hx hb hts in_M hown hI.1 hI.2.1 0 (wdM_o0 a cA _) rfl 9 (by decide) (hts _ wA_598) (fun _ h9 => h9) rfl d_M_of_41 ?_
          exact tr_iret hx hb hr hlocks hI hw d_M_of_44
        · have hw := hw.1 hc
          refine lv_aload_n hx hb d_M_of_33 rfl (lv_at hl 0 rfl) ?_
          refine va_get (D := (dC, dI)) (C := R_M) (T := F_M) (N := 22) hx hb hts in_M hown hI.1 hI.2.1 0 (wdM_o0 a cA _) rfl 2 (by decide) (hts _ wA_591) (fun _ h9 => h9) rfl d_M_of_34 ?_
          refine lv_goto (tgt := 44) hx hb d_M_of_37 (by decide) ?_
          exact tr_iret hx hb hr hlocks hI hw d_M_of_44
      · have hw := hw.1 hc
        refine lv_aload_n hx hb d_M_of_21 rfl (lv_at hl 0 rfl) ?_
        refine va_get (D := (dC, dI)) (C := R_M) (T := F_M) (N := 22) hx hb hts in_M hown hI.1 hI.2.1 0 (wdM_o0 a cA _) rfl 0 (by decide) (hts _ wA_589) (fun _ h9 => h9) rfl d_M_of_22 ?_
        refine lv_goto (tgt := 44) hx hb d_M_of_25 (by decide) ?_
        exact tr_iret hx hb hr hlocks hI hw d_M_of_44
  · have hw := hw.1 hc
    refine lv_bipush (v := (-2)) hx hb d_M_of_9 (by decide) ?_
    exact tr_iret hx hb hr hlocks hI hw d_M_of_11
