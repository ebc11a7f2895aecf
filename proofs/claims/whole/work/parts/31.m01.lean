def w_M_walk (post : Int32 → tS → Prop) (x1 : Int32) (x2 : Int32) (x3 : Int32) (u : tS) : Prop := (w_M_areTwo (fun r3 u3 => ((r3 = 0 → (post (-2) u3)) ∧ (¬ r3 = 0 → (w_M_isIn (fun r14 u14 => ((r14 = 0 → (post (-2) u14)) ∧ (¬ r14 = 0 → (((u14.1 2) = 30 → (post (-3) u14)) ∧ (¬ (u14.1 2) = 30 → (vp_in (u14.1 2) 30 ∧ (vp_in ((tA u14 7 (u14.1 2) x1).1 2) 30 ∧ (vp_in ((tA (tA u14 7 (u14.1 2) x1) 8 ((tA u14 7 (u14.1 2) x1).1 2) x2).1 2) 30 ∧ (post (((tI (tA (tA (tA u14 7 (u14.1 2) x1) 8 ((tA u14 7 (u14.1 2) x1).1 2) x2) 9 ((tA (tA u14 7 (u14.1 2) x1) 8 ((tA u14 7 (u14.1 2) x1).1 2) x2).1 2) x3) 2 (((tA (tA (tA u14 7 (u14.1 2) x1) 8 ((tA u14 7 (u14.1 2) x1).1 2) x2) 9 ((tA (tA u14 7 (u14.1 2) x1) 8 ((tA u14 7 (u14.1 2) x1).1 2) x2).1 2) x3).1 2) + 1)).1 2) - 1) (tI (tA (tA (tA u14 7 (u14.1 2) x1) 8 ((tA u14 7 (u14.1 2) x1).1 2) x2) 9 ((tA (tA u14 7 (u14.1 2) x1) 8 ((tA u14 7 (u14.1 2) x1).1 2) x2).1 2) x3) 2 (((tA (tA (tA u14 7 (u14.1 2) x1) 8 ((tA u14 7 (u14.1 2) x1).1 2) x2) 9 ((tA (tA u14 7 (u14.1 2) x1) 8 ((tA u14 7 (u14.1 2) x1).1 2) x2).1 2) x3).1 2) + 1))))))))))) x3 1 600 u3)))) x1 x2 u)
set_option maxRecDepth 100000 in
set_option maxHeartbeats 4000000 in
theorem c_M_walk (l : Launch) (dC : Nat → ClassId) (dI : Nat → Nat → Nat) (cA : ClassId) (a : Nat → Nat) (u : tS) (x1 : Int32) (x2 : Int32) (x3 : Int32) (post : Int32 → tS → Prop) (sz : Nat) : Met l y_M_walk ws_M_walk ({ frames := 3, cells := 0, slots := 0, locals := 65 }) (va_Pc [.ref (a 0), .int x1, .int x2, .int x3] (tP (dC, dI) twCl [(cA, .int)] (wdM a cA) u sz (w_M_walk post x1 x2 x3 u))) (va_Qi post (tB (dC, dI) twCl [(cA, .int)] (va_A (wdM a cA u) sz) (wdM a cA)) (va_A (wdM a cA u) sz)) 0 0 (va_A (wdM a cA u) sz) := by
  refine Met.ofW (cc := b_M_walk) (maxL := 4) (ret := (some .int)) (by decide) rfl ?_
  intro p e s m args below meth c s₁ B hml hv
  obtain ⟨rfl, hsz, hP, hK, hD0, hN, hw⟩ := hv
  have hx := B.exec
  have hb := B.bytes
  have hr := B.returns
  have hts : ∀ w ∈ wsA, w.before _ s = true := fun w h => atoms_spec (ws := ws_M_walk) B.pre w (List.mem_cons_of_mem _ h)
  have hown : s.vm.findClass R_M = some m.cls := findClass_of_methodNamed B.named
  have hlocks := B.notSynchronized
  subst hsz
  have hD := hD0.self (sz := s.heap.size)
  generalize hAe : va_A (wdM a cA u) s.heap.size = A at hD ⊢
  have hA : ∀ q : Nat, s.heap.size ≤ q → A q := fun q h => by rw [← hAe]; exact Or.inr h
  have hS : va_S A s.heap s.heap [] := va_S.rf
  have hI : tX (dC, dI) twCl [(cA, .int)] A s s.heap [] (wdM a cA u) := ⟨hK, hP, hD, hS⟩
  have hC : tC p s m meth c ([.ref (a 0), .int x1, .int x2, .int x3] : List Value).toArray b_M_walk 4 (some .int) wsA R_M A := ⟨hx, hb, hr, hml, hown, hts, hlocks, hA, hN⟩
  have hl := lv_entry ([.ref (a 0), .int x1, .int x2, .int x3]) (n := 4) (Nat.le_of_ble_eq_true rfl)
  rw [lg_entry_eq]
  generalize (lg_sl ([.ref (a 0), .int x1, .int x2, .int x3]) ++ List.replicate (4 - (lg_sl ([.ref (a 0), .int x1, .int x2, .int x3])).length) Slot.unset).toArray = ls at hl ⊢
  have hl : lv_has ls 4 [(0, .ref (a 0)), (1, .int x1), (2, .int x2), (3, .int x3)] := hl
  have hw : (w_M_areTwo (fun r3 u3 => ((r3 = 0 → (post (-2) u3)) ∧ (¬ r3 = 0 → (w_M_isIn (fun r14 u14 => ((r14 = 0 → (post (-2) u14)) ∧ (¬ r14 = 0 → (((u14.1 2) = 30 → (post (-3) u14)) ∧ (¬ (u14.1 2) = 30 → (vp_in (u14.1 2) 30 ∧ (vp_in ((tA u14 7 (u14.1 2) x1).1 2) 30 ∧ (vp_in ((tA (tA u14 7 (u14.1 2) x1) 8 ((tA u14 7 (u14.1 2) x1).1 2) x2).1 2) 30 ∧ (post (((tI (tA (tA (tA u14 7 (u14.1 2) x1) 8 ((tA u14 7 (u14.1 2) x1).1 2) x2) 9 ((tA (tA u14 7 (u14.1 2) x1) 8 ((tA u14 7 (u14.1 2) x1).1 2) x2).1 2) x3) 2 (((tA (tA (tA u14 7 (u14.1 2) x1) 8 ((tA u14 7 (u14.1 2) x1).1 2) x2) 9 ((tA (tA u14 7 (u14.1 2) x1) 8 ((tA u14 7 (u14.1 2) x1).1 2) x2).1 2) x3).1 2) + 1)).1 2) - 1) (tI (tA (tA (tA u14 7 (u14.1 2) x1) 8 ((tA u14 7 (u14.1 2) x1).1 2) x2) 9 ((tA (tA u14 7 (u14.1 2) x1) 8 ((tA u14 7 (u14.1 2) x1).1 2) x2).1 2) x3) 2 (((tA (tA (tA u14 7 (u14.1 2) x1) 8 ((tA u14 7 (u14.1 2) x1).1 2) x2) 9 ((tA (tA u14 7 (u14.1 2) x1) 8 ((tA u14 7 (u14.1 2) x1).1 2) x2).1 2) x3).1 2) + 1))))))))))) x3 1 600 u3)))) x1 x2 u) := hw
  refine lv_aload_n hx hb d_M_walk_0 rfl (lv_at hl 0 rfl) ?_
  refine lv_iload_n hx hb d_M_walk_1 rfl (lv_at hl 1 rfl) ?_
  refine lv_iload_n hx hb d_M_walk_2 rfl (lv_at hl 2 rfl) ?_
  refine tr_goi (w := wdM a cA) hI hA (va_runV (As := [.int x1, .int x2]) (rest := []) ⟨hx, hb, hml, hown, hts⟩ (c_M_areTwo l dC dI cA a _ _ _ _ _) (cwV 2 hts (wsA_goodV wA_679 wA_681 wA_10 wA_40 wA_682) rfl rfl rfl (by decide +kernel) ⟨Nat.le_of_ble_eq_true rfl, Nat.le_of_ble_eq_true rfl⟩) (tr_preV (ci := 9) (q0 := 0) hI rfl (wdM_o0 a cA _) rfl hN hw) rfl rfl hl.1 rfl (lv_room (Nat.le_of_ble_eq_true rfl)) d_M_walk_3 ⟨Nat.zero_le _, Nat.zero_le _⟩) (fun r3 u3 H locs hw hI => ?_)
  refine lv_if_eq (tgt := 20) hx hb d_M_walk_6 (by decide) (fun hc => ?_) (fun hc => ?_)
  · have hw := hw.1 hc
    refine lv_bipush (v := (-2)) hx hb d_M_walk_20 (by decide) ?_
    exact tr_iret hx hb hr hlocks hI hw d_M_walk_22
  · have hw := hw.2 hc
    refine lv_iload_n hx hb d_M_walk_9 rfl (lv_at hl 3 rfl) ?_
    refine lv_iconst (v := 1) hx hb d_M_walk_10 (by decide) ?_
    refine lv_sipush (v := 600) hx hb d_M_walk_11 (by decide) ?_
    refine tr_goi (w := wdM a cA) hI hA (va_runS (As := [.int x3, .int 1, .int 600]) (rest := []) ⟨hx, hb, hml, hown, hts⟩ (c_M_isIn l dC dI cA a _ _ _ _ _ _) ⟨callB_of 3 hts (wsA_good wA_666) rfl rfl rfl (hts _ wA_40) (hts _ wA_664) (by decide +kernel) ⟨Nat.le_of_ble_eq_true rfl, Nat.le_of_ble_eq_true rfl⟩, hts _ wA_665⟩ (tr_preS hI hN hw) rfl rfl hl.1 rfl (lv_room (Nat.le_of_ble_eq_true rfl)) d_M_walk_14 ⟨Nat.zero_le _, Nat.zero_le _⟩) (fun r14 u14 H locs hw hI => ?_)
    refine lv_if_ne (tgt := 23) hx hb d_M_walk_17 (by decide) (fun hc => ?_) (fun hc => ?_)
    · have hw := hw.2 hc
      refine lv_aload_n hx hb d_M_walk_23 rfl (lv_at hl 0 rfl) ?_
      refine va_get (D := (dC, dI)) (C := R_M) (T := F_M) (N := 22) hx hb hts in_M hown hI.1 hI.2.1 0 (wdM_o0 a cA _) rfl 9 (by decide) (hts _ wA_598) (fun _ h9 => h9) rfl d_M_walk_24 ?_
      refine lv_bipush (v := 30) hx hb d_M_walk_27 (by decide) ?_
      refine lv_icmp_ne (tgt := 35) hx hb d_M_walk_29 (by decide) (fun hc => ?_) (fun hc => ?_)
      · have hw := hw.2 hc
        refine lv_aload_n hx hb d_M_walk_35 rfl (lv_at hl 0 rfl) ?_
        refine va_get (D := (dC, dI)) (C := R_M) (T := F_M) (N := 22) hx hb hts in_M hown hI.1 hI.2.1 0 (wdM_o0 a cA _) rfl 10 (by decide) (hts _ wA_599) (fun _ h9 => h9) rfl d_M_walk_36 ?_
        refine lv_aload_n hx hb d_M_walk_39 rfl (lv_at hl 0 rfl) ?_
        refine va_get (D := (dC, dI)) (C := R_M) (T := F_M) (N := 22) hx hb hts in_M hown hI.1 hI.2.1 0 (wdM_o0 a cA _) rfl 9 (by decide) (hts _ wA_598) (fun _ h9 => h9) rfl d_M_walk_40 ?_
        refine lv_iload_n hx hb d_M_walk_43 rfl (lv_at hl 1 rfl) ?_
        obtain ⟨hi, hw⟩ := hw
        refine tr_iast (w := wdM a cA) hx hb hI 8 0 7 (wdM_o8 a cA _) rfl (wdM_a7 a cA _ _ _) hi d_M_walk_44 (fun H locs hI => ?_)
        refine lv_aload_n hx hb d_M_walk_45 rfl (lv_at hl 0 rfl) ?_
        refine va_get (D := (dC, dI)) (C := R_M) (T := F_M) (N := 22) hx hb hts in_M hown hI.1 hI.2.1 0 (wdM_o0 a cA _) rfl 11 (by decide) (hts _ wA_600) (fun _ h9 => h9) rfl d_M_walk_46 ?_
        refine lv_aload_n hx hb d_M_walk_49 rfl (lv_at hl 0 rfl) ?_
        refine va_get (D := (dC, dI)) (C := R_M) (T := F_M) (N := 22) hx hb hts in_M hown hI.1 hI.2.1 0 (wdM_o0 a cA _) rfl 9 (by decide) (hts _ wA_598) (fun _ h9 => h9) rfl d_M_walk_50 ?_
        refine lv_iload_n hx hb d_M_walk_53 rfl (lv_at hl 2 rfl) ?_
        obtain ⟨hi, hw⟩ := hw
        refine tr_iast (w := wdM a cA) hx hb hI 9 0 8 (wdM_o9 a cA _) rfl (wdM_a8 a cA _ _ _) hi d_M_walk_54 (fun H locs hI => ?_)
        refine lv_aload_n hx hb d_M_walk_55 rfl (lv_at hl 0 rfl) ?_
        refine va_get (D := (dC, dI)) (C := R_M) (T := F_M) (N := 22) hx hb hts in_M hown hI.1 hI.2.1 0 (wdM_o0 a cA _) rfl 12 (by decide) (hts _ wA_601) (fun _ h9 => h9) rfl d_M_walk_56 ?_
        refine lv_aload_n hx hb d_M_walk_59 rfl (lv_at hl 0 rfl) ?_
        refine va_get (D := (dC, dI)) (C := R_M) (T := F_M) (N := 22) hx hb hts in_M hown hI.1 hI.2.1 0 (wdM_o0 a cA _) rfl 9 (by decide) (hts _ wA_598) (fun _ h9 => h9) rfl d_M_walk_60 ?_
        refine lv_iload_n hx hb d_M_walk_63 rfl (lv_at hl 3 rfl) ?_
        obtain ⟨hi, hw⟩ := hw
        refine tr_iast (w := wdM a cA) hx hb hI 10 0 9 (wdM_o10 a cA _) rfl (wdM_a9 a cA _ _ _) hi d_M_walk_64 (fun H locs hI => ?_)
        refine lv_aload_n hx hb d_M_walk_65 rfl (lv_at hl 0 rfl) ?_
        refine lv_dup hx hb d_M_walk_66 rfl ?_
        refine va_get (D := (dC, dI)) (C := R_M) (T := F_M) (N := 22) hx hb hts in_M hown hI.1 hI.2.1 0 (wdM_o0 a cA _) rfl 9 (by decide) (hts _ wA_598) (fun _ h9 => h9) rfl d_M_walk_67 ?_
        refine lv_iconst (v := 1) hx hb d_M_walk_70 (by decide) ?_
        refine lv_iadd hx hb d_M_walk_71 ?_
        refine tr_put (C := R_M) (T := F_M) (N := 22) (w := wdM a cA) hx hb hts in_M ft_M ft_M_ok fn_M hown hI 0 2 (wdM_o0 a cA _) rfl 9 (by decide) (hts _ wA_598) rfl (by decide +kernel) (Nat.le_of_ble_eq_true rfl) (wdM_i2 a cA _ _) d_M_walk_72 (fun H locs hI => ?_)
        refine lv_aload_n hx hb d_M_walk_75 rfl (lv_at hl 0 rfl) ?_
        refine va_get (D := (dC, dI)) (C := R_M) (T := F_M) (N := 22) hx hb hts in_M hown hI.1 hI.2.1 0 (wdM_o0 a cA _) rfl 9 (by decide) (hts _ wA_598) (fun _ h9 => h9) rfl d_M_walk_76 ?_
        refine lv_iconst (v := 1) hx hb d_M_walk_79 (by decide) ?_
        refine lv_isub hx hb d_M_walk_80 ?_
        exact tr_iret hx hb hr hlocks hI hw d_M_walk_81
      · have hw := hw.1 hc
        refine lv_bipush (v := (-3)) hx hb d_M_walk_32 (by decide) ?_
        exact tr_iret hx hb hr hlocks hI hw d_M_walk_34
    · have hw := hw.1 hc
      refine lv_bipush (v := (-2)) hx hb d_M_walk_20 (by decide) ?_
      exact tr_iret hx hb hr hlocks hI hw d_M_walk_22
def w_M_isRide (post : Int32 → tS → Prop) (x1 : Int32) (u : tS) : Prop := (w_M_isIn (fun r8 u8 => (narrow .boolean (.int r8) = .int r8 ∧ post r8 u8)) x1 0 ((u.1 1) - 1) u)
set_option maxRecDepth 100000 in
set_option maxHeartbeats 4000000 in
theorem c_M_isRide (l : Launch) (dC : Nat → ClassId) (dI : Nat → Nat → Nat) (cA : ClassId) (a : Nat → Nat) (u : tS) (x1 : Int32) (post : Int32 → tS → Prop) (sz : Nat) : Met l y_M_isRide ws_M_isRide ({ frames := 1, cells := 0, slots := 0, locals := 22 }) (va_Pc [.ref (a 0), .int x1] (tP (dC, dI) twCl [(cA, .int)] (wdM a cA) u sz (w_M_isRide post x1 u))) (va_Qi post (tB (dC, dI) twCl [(cA, .int)] (va_A (wdM a cA u) sz) (wdM a cA)) (va_A (wdM a cA u) sz)) 0 0 (va_A (wdM a cA u) sz) := by
  refine Met.ofW (cc := b_M_isRide) (maxL := 2) (ret := (some .boolean)) (by decide) rfl ?_
  intro p e s m args below meth c s₁ B hml hv
  obtain ⟨rfl, hsz, hP, hK, hD0, hN, hw⟩ := hv
  have hx := B.exec
  have hb := B.bytes
  have hr := B.returns
  have hts : ∀ w ∈ wsA, w.before _ s = true := fun w h => atoms_spec (ws := ws_M_isRide) B.pre w (List.mem_cons_of_mem _ h)
  have hown : s.vm.findClass R_M = some m.cls := findClass_of_methodNamed B.named
  have hlocks := B.notSynchronized
  subst hsz
  have hD := hD0.self (sz := s.heap.size)
  generalize hAe : va_A (wdM a cA u) s.heap.size = A at hD ⊢
  have hA : ∀ q : Nat, s.heap.size ≤ q → A q := fun q h => by rw [← hAe]; exact Or.inr h
  have hS : va_S A s.heap s.heap [] := va_S.rf
  have hI : tX (dC, dI) twCl [(cA, .int)] A s s.heap [] (wdM a cA u) := ⟨hK, hP, hD, hS⟩
  have hC : tC p s m meth c ([.ref (a 0), .int x1] : List Value).toArray b_M_isRide 2 (some .boolean) wsA R_M A := ⟨hx, hb, hr, hml, hown, hts, hlocks, hA, hN⟩
  have hl := lv_entry ([.ref (a 0), .int x1]) (n := 2) (Nat.le_of_ble_eq_true rfl)
  rw [lg_entry_eq]
  generalize (lg_sl ([.ref (a 0), .int x1]) ++ List.replicate (2 - (lg_sl ([.ref (a 0), .int x1])).length) Slot.unset).toArray = ls at hl ⊢
  have hl : lv_has ls 2 [(0, .ref (a 0)), (1, .int x1)] := hl
  have hw : (w_M_isIn (fun r8 u8 => (narrow .boolean (.int r8) = .int r8 ∧ post r8 u8)) x1 0 ((u.1 1) - 1) u) := hw
  refine lv_iload_n hx hb d_M_isRide_0 rfl (lv_at hl 1 rfl) ?_
  refine lv_iconst (v := 0) hx hb d_M_isRide_1 (by decide) ?_
  refine lv_aload_n hx hb d_M_isRide_2 rfl (lv_at hl 0 rfl) ?_
  refine va_get (D := (dC, dI)) (C := R_M) (T := F_M) (N := 22) hx hb hts in_M hown hI.1 hI.2.1 0 (wdM_o0 a cA _) rfl 2 (by decide) (hts _ wA_591) (fun _ h9 => h9) rfl d_M_isRide_3 ?_
  refine lv_iconst (v := 1) hx hb d_M_isRide_6 (by decide) ?_
  refine lv_isub hx hb d_M_isRide_7 ?_
  refine tr_goi (w := wdM a cA) hI hA (va_runS (As := [.int x1, .int 0, .int ((u.1 1) - 1)]) (rest := []) ⟨hx, hb, hml, hown, hts⟩ (c_M_isIn l dC dI cA a _ _ _ _ _ _) ⟨callB_of 3 hts (wsA_good wA_666) rfl rfl rfl (hts _ wA_40) (hts _ wA_664) (by decide +kernel) ⟨Nat.le_of_ble_eq_true rfl, Nat.le_of_ble_eq_true rfl⟩, hts _ wA_665⟩ (tr_preS hI hN hw) rfl rfl hl.1 rfl (lv_room (Nat.le_of_ble_eq_true rfl)) d_M_isRide_8 ⟨Nat.zero_le _, Nat.zero_le _⟩) (fun r8 u8 H locs hw hI => ?_)
  obtain ⟨hn, hw⟩ := hw
  exact tr_zret hx hb hr hlocks hI hn hw d_M_isRide_11
def w_M_isOn (post : Int32 → tS → Prop) (x1 : Int32) (x2 : Int32) (u : tS) : Prop := (vp_in x1 40 ∧ (((((u.2 5 x1.toNatClampNeg) >>> (x2 &&& 31)) &&& 1) = 1 → (post 1 u)) ∧ (¬ (((u.2 5 x1.toNatClampNeg) >>> (x2 &&& 31)) &&& 1) = 1 → (post 0 u))))
set_option maxRecDepth 100000 in
set_option maxHeartbeats 4000000 in
theorem c_M_isOn (l : Launch) (dC : Nat → ClassId) (dI : Nat → Nat → Nat) (cA : ClassId) (a : Nat → Nat) (u : tS) (x1 : Int32) (x2 : Int32) (post : Int32 → tS → Prop) (sz : Nat) : Met l y_M_isOn ws_M_isOn ({ frames := 0, cells := 0, slots := 0, locals := 0 }) (va_Pc [.ref (a 0), .int x1, .int x2] (tP (dC, dI) twCl [(cA, .int)] (wdM a cA) u sz (w_M_isOn post x1 x2 u))) (va_Qi post (tB (dC, dI) twCl [(cA, .int)] (va_A (wdM a cA u) sz) (wdM a cA)) (va_A (wdM a cA u) sz)) 0 0 (va_A (wdM a cA u) sz) := by
  refine Met.ofW (cc := b_M_isOn) (maxL := 3) (ret := (some .boolean)) (by decide) rfl ?_
  intro p e s m args below meth c s₁ B hml hv
  obtain ⟨rfl, hsz, hP, hK, hD0, hN, hw⟩ := hv
  have hx := B.exec
  have hb := B.bytes
  have hr := B.returns
  have hts : ∀ w ∈ wsA, w.before _ s = true := fun w h => atoms_spec (ws := ws_M_isOn) B.pre w (List.mem_cons_of_mem _ h)
  have hown : s.vm.findClass R_M = some m.cls := findClass_of_methodNamed B.named
  have hlocks := B.notSynchronized
  subst hsz
  have hD := hD0.self (sz := s.heap.size)
  generalize hAe : va_A (wdM a cA u) s.heap.size = A at hD ⊢
  have hA : ∀ q : Nat, s.heap.size ≤ q → A q := fun q h => by rw [← hAe]; exact Or.inr h
  have hS : va_S A s.heap s.heap [] := va_S.rf
  have hI : tX (dC, dI) twCl [(cA, .int)] A s s.heap [] (wdM a cA u) := ⟨hK, hP, hD, hS⟩
  have hC : tC p s m meth c ([.ref (a 0), .int x1, .int x2] : List Value).toArray b_M_isOn 3 (some .boolean) wsA R_M A := ⟨hx, hb, hr, hml, hown, hts, hlocks, hA, hN⟩
  have hl := lv_entry ([.ref (a 0), .int x1, .int x2]) (n := 3) (Nat.le_of_ble_eq_true rfl)
  rw [lg_entry_eq]
  generalize (lg_sl ([.ref (a 0), .int x1, .int x2]) ++ List.replicate (3 - (lg_sl ([.ref (a 0), .int x1, .int x2])).length) Slot.unset).toArray = ls at hl ⊢
  have hl : lv_has ls 3 [(0, .ref (a 0)), (1, .int x1), (2, .int x2)] := hl
  have hw : (vp_in x1 40 ∧ (((((u.2 5 x1.toNatClampNeg) >>> (x2 &&& 31)) &&& 1) = 1 → (post 1 u)) ∧ (¬ (((u.2 5 x1.toNatClampNeg) >>> (x2 &&& 31)) &&& 1) = 1 → (post 0 u)))) := hw
  refine lv_aload_n hx hb d_M_isOn_0 rfl (lv_at hl 0 rfl) ?_
  refine va_get (D := (dC, dI)) (C := R_M) (T := F_M) (N := 22) hx hb hts in_M hown hI.1 hI.2.1 0 (wdM_o0 a cA _) rfl 7 (by decide) (hts _ wA_596) (fun _ h9 => h9) rfl d_M_isOn_1 ?_
  refine lv_iload_n hx hb d_M_isOn_4 rfl (lv_at hl 1 rfl) ?_
  obtain ⟨hi, hw⟩ := hw
  refine va_iald (D := (dC, dI)) hx hb hI.1 hI.2.1 6 0 (wdM_o6 a cA _) rfl hi d_M_isOn_5 ?_
  refine lv_iload_n hx hb d_M_isOn_6 rfl (lv_at hl 2 rfl) ?_
  refine lv_ishr hx hb d_M_isOn_7 ?_
  refine lv_iconst (v := 1) hx hb d_M_isOn_8 (by decide) ?_
  refine lv_iand hx hb d_M_isOn_9 ?_
  refine lv_iconst (v := 1) hx hb d_M_isOn_10 (by decide) ?_
  refine lv_icmp_ne (tgt := 18) hx hb d_M_isOn_11 (by decide) (fun hc => ?_) (fun hc => ?_)
  · have hw := hw.2 hc
    refine lv_iconst (v := 0) hx hb d_M_isOn_18 (by decide) ?_
    exact tr_zret hx hb hr hlocks hI rfl hw d_M_isOn_19
  · have hw := hw.1 hc
    refine lv_iconst (v := 1) hx hb d_M_isOn_14 (by decide) ?_
    refine lv_goto (tgt := 19) hx hb d_M_isOn_15 (by decide) ?_
    exact tr_zret hx hb hr hlocks hI rfl hw d_M_isOn_19
def w_M_late (post : Int32 → tS → Prop) (x1 : Int32) (x2 : Int32) (x3 : Int32) (u : tS) : Prop := (w_M_isRide (fun r2 u2 => ((r2 = 0 → (post (-2) u2)) ∧ (¬ r2 = 0 → (w_M_isIn (fun r12 u12 => ((r12 = 0 → (post (-2) u12)) ∧ (¬ r12 = 0 → (w_M_isOn (fun r21 u21 => ((r21 = 0 → (post (-2) u21)) ∧ (¬ r21 = 0 → (w_M_isIn (fun r32 u32 => ((r32 = 0 → (post (-2) u32)) ∧ (¬ r32 = 0 → (vp_in ((7 * x1) + x2) 280 ∧ (vp_in ((7 * x1) + x2) 280 ∧ (post (u32.2 6 ((7 * x1) + x2).toNatClampNeg) (tA u32 6 ((7 * x1) + x2) x3))))))) x3 (-1) 300 u21)))) x1 x2 u12)))) x2 0 6 u2)))) x1 u)
set_option maxRecDepth 100000 in
set_option maxHeartbeats 4000000 in
theorem c_M_late (l : Launch) (dC : Nat → ClassId) (dI : Nat → Nat → Nat) (cA : ClassId) (a : Nat → Nat) (u : tS) (x1 : Int32) (x2 : Int32) (x3 : Int32) (post : Int32 → tS → Prop) (sz : Nat) : Met l y_M_late ws_M_late ({ frames := 2, cells := 0, slots := 0, locals := 43 }) (va_Pc [.ref (a 0), .int x1, .int x2, .int x3] (tP (dC, dI) twCl [(cA, .int)] (wdM a cA) u sz (w_M_late post x1 x2 x3 u))) (va_Qi post (tB (dC, dI) twCl [(cA, .int)] (va_A (wdM a cA u) sz) (wdM a cA)) (va_A (wdM a cA u) sz)) 0 0 (va_A (wdM a cA u) sz) := by
  refine Met.ofW (cc := b_M_late) (maxL := 5) (ret := (some .int)) (by decide) rfl ?_
  intro p e s m args below meth c s₁ B hml hv
  obtain ⟨rfl, hsz, hP, hK, hD0, hN, hw⟩ := hv
  have hx := B.exec
  have hb := B.bytes
  have hr := B.returns
  have hts : ∀ w ∈ wsA, w.before _ s = true := fun w h => atoms_spec (ws := ws_M_late) B.pre w (List.mem_cons_of_mem _ h)
  have hown : s.vm.findClass R_M = some m.cls := findClass_of_methodNamed B.named
  have hlocks := B.notSynchronized
  subst hsz
  have hD := hD0.self (sz := s.heap.size)
  generalize hAe : va_A (wdM a cA u) s.heap.size = A at hD ⊢
  have hA : ∀ q : Nat, s.heap.size ≤ q → A q := fun q h => by rw [← hAe]; exact Or.inr h
  have hS : va_S A s.heap s.heap [] := va_S.rf
  have hI : tX (dC, dI) twCl [(cA, .int)] A s s.heap [] (wdM a cA u) := ⟨hK, hP, hD, hS⟩
  have hC : tC p s m meth c ([.ref (a 0), .int x1, .int x2, .int x3] : List Value).toArray b_M_late 5 (some .int) wsA R_M A := ⟨hx, hb, hr, hml, hown, hts, hlocks, hA, hN⟩
  have hl := lv_entry ([.ref (a 0), .int x1, .int x2, .int x3]) (n := 5) (Nat.le_of_ble_eq_true rfl)
  rw [lg_entry_eq]
  generalize (lg_sl ([.ref (a 0), .int x1, .int x2, .int x3]) ++ List.replicate (5 - (lg_sl ([.ref (a 0), .int x1, .int x2, .int x3])).length) Slot.unset).toArray = ls at hl ⊢
  have hl : lv_has ls 5 [(0, .ref (a 0)), (1, .int x1), (2, .int x2), (3, .int x3)] := hl
  have hw : (w_M_isRide (fun r2 u2 => ((r2 = 0 → (post (-2) u2)) ∧ (¬ r2 = 0 → (w_M_isIn (fun r12 u12 => ((r12 = 0 → (post (-2) u12)) ∧ (¬ r12 = 0 → (w_M_isOn (fun r21 u21 => ((r21 = 0 → (post (-2) u21)) ∧ (¬ r21 = 0 → (w_M_isIn (fun r32 u32 => ((r32 = 0 → (post (-2) u32)) ∧ (¬ r32 = 0 → (vp_in ((7 * x1) + x2) 280 ∧ (vp_in ((7 * x1) + x2) 280 ∧ (post (u32.2 6 ((7 * x1) + x2).toNatClampNeg) (tA u32 6 ((7 * x1) + x2) x3))))))) x3 (-1) 300 u21)))) x1 x2 u12)))) x2 0 6 u2)))) x1 u) := hw
  refine lv_aload_n hx hb d_M_late_0 rfl (lv_at hl 0 rfl) ?_
  refine lv_iload_n hx hb d_M_late_1 rfl (lv_at hl 1 rfl) ?_
  refine tr_goi (w := wdM a cA) hI hA (va_runV (As := [.int x1]) (rest := []) ⟨hx, hb, hml, hown, hts⟩ (c_M_isRide l dC dI cA a _ _ _ _) (cwV 1 hts (wsA_goodV wA_691 wA_693 wA_11 wA_40 wA_694) rfl rfl rfl (by decide +kernel) ⟨Nat.le_of_ble_eq_true rfl, Nat.le_of_ble_eq_true rfl⟩) (tr_preV (ci := 9) (q0 := 0) hI rfl (wdM_o0 a cA _) rfl hN hw) rfl rfl hl.1 rfl (lv_room (Nat.le_of_ble_eq_true rfl)) d_M_late_2 ⟨Nat.zero_le _, Nat.zero_le _⟩) (fun r2 u2 H locs hw hI => ?_)
  refine lv_if_eq (tgt := 38) hx hb d_M_late_5 (by decide) (fun hc => ?_) (fun hc => ?_)
  · have hw := hw.1 hc
    refine lv_bipush (v := (-2)) hx hb d_M_late_38 (by decide) ?_
    exact tr_iret hx hb hr hlocks hI hw d_M_late_40
  · have hw := hw.2 hc
    refine lv_iload_n hx hb d_M_late_8 rfl (lv_at hl 2 rfl) ?_
    refine lv_iconst (v := 0) hx hb d_M_late_9 (by decide) ?_
    refine lv_bipush (v := 6) hx hb d_M_late_10 (by decide) ?_
    refine tr_goi (w := wdM a cA) hI hA (va_runS (As := [.int x2, .int 0, .int 6]) (rest := []) ⟨hx, hb, hml, hown, hts⟩ (c_M_isIn l dC dI cA a _ _ _ _ _ _) ⟨callB_of 3 hts (wsA_good wA_666) rfl rfl rfl (hts _ wA_40) (hts _ wA_664) (by decide +kernel) ⟨Nat.le_of_ble_eq_true rfl, Nat.le_of_ble_eq_true rfl⟩, hts _ wA_665⟩ (tr_preS hI hN hw) rfl rfl hl.1 rfl (lv_room (Nat.le_of_ble_eq_true rfl)) d_M_late_12 ⟨Nat.zero_le _, Nat.zero_le _⟩) (fun r12 u12 H locs hw hI => ?_)
    refine lv_if_eq (tgt := 38) hx hb d_M_late_15 (by decide) (fun hc => ?_) (fun hc => ?_)
    · have hw := hw.1 hc
      refine lv_bipush (v := (-2)) hx hb d_M_late_38 (by decide) ?_
      exact tr_iret hx hb hr hlocks hI hw d_M_late_40
    · have hw := hw.2 hc
      refine lv_aload_n hx hb d_M_late_18 rfl (lv_at hl 0 rfl) ?_
      refine lv_iload_n hx hb d_M_late_19 rfl (lv_at hl 1 rfl) ?_
      refine lv_iload_n hx hb d_M_late_20 rfl (lv_at hl 2 rfl) ?_
      refine tr_goi (w := wdM a cA) hI hA (va_runV (As := [.int x1, .int x2]) (rest := []) ⟨hx, hb, hml, hown, hts⟩ (c_M_isOn l dC dI cA a _ _ _ _ _) (cwV 2 hts (wsA_goodV wA_695 wA_697 wA_12 wA_40 wA_698) rfl rfl rfl (by decide +kernel) ⟨Nat.le_of_ble_eq_true rfl, Nat.le_of_ble_eq_true rfl⟩) (tr_preV (ci := 9) (q0 := 0) hI rfl (wdM_o0 a cA _) rfl hN hw) rfl rfl hl.1 rfl (lv_room (Nat.le_of_ble_eq_true rfl)) d_M_late_21 ⟨Nat.zero_le _, Nat.zero_le _⟩) (fun r21 u21 H locs hw hI => ?_)
      refine lv_if_eq (tgt := 38) hx hb d_M_late_24 (by decide) (fun hc => ?_) (fun hc => ?_)
      · have hw := hw.1 hc
        refine lv_bipush (v := (-2)) hx hb d_M_late_38 (by decide) ?_
        exact tr_iret hx hb hr hlocks hI hw d_M_late_40
      · have hw := hw.2 hc
        refine lv_iload_n hx hb d_M_late_27 rfl (lv_at hl 3 rfl) ?_
        refine lv_iconst (v := (-1)) hx hb d_M_late_28 (by decide) ?_
        refine lv_sipush (v := 300) hx hb d_M_late_29 (by decide) ?_
        refine tr_goi (w := wdM a cA) hI hA (va_runS (As := [.int x3, .int (-1), .int 300]) (rest := []) ⟨hx, hb, hml, hown, hts⟩ (c_M_isIn l dC dI cA a _ _ _ _ _ _) ⟨callB_of 3 hts (wsA_good wA_666) rfl rfl rfl (hts _ wA_40) (hts _ wA_664) (by decide +kernel) ⟨Nat.le_of_ble_eq_true rfl, Nat.le_of_ble_eq_true rfl⟩, hts _ wA_665⟩ (tr_preS hI hN hw) rfl rfl hl.1 rfl (lv_room (Nat.le_of_ble_eq_true rfl)) d_M_late_32 ⟨Nat.zero_le _, Nat.zero_le _⟩) (fun r32 u32 H locs hw hI => ?_)
        refine lv_if_ne (tgt := 41) hx hb d_M_late_35 (by decide) (fun hc => ?_) (fun hc => ?_)
        · have hw := hw.2 hc
          refine lv_aload_n hx hb d_M_late_41 rfl (lv_at hl 0 rfl) ?_
          refine va_get (D := (dC, dI)) (C := R_M) (T := F_M) (N := 22) hx hb hts in_M hown hI.1 hI.2.1 0 (wdM_o0 a cA _) rfl 8 (by decide) (hts _ wA_597) (fun _ h9 => h9) rfl d_M_late_42 ?_
          refine lv_bipush (v := 7) hx hb d_M_late_45 (by decide) ?_
          refine lv_iload_n hx hb d_M_late_47 rfl (lv_at hl 1 rfl) ?_
          refine lv_imul hx hb d_M_late_48 ?_
          refine lv_iload_n hx hb d_M_late_49 rfl (lv_at hl 2 rfl) ?_
          refine lv_iadd hx hb d_M_late_50 ?_
          obtain ⟨hi, hw⟩ := hw
          refine va_iald (D := (dC, dI)) hx hb hI.1 hI.2.1 7 0 (wdM_o7 a cA _) rfl hi d_M_late_51 ?_
          refine lv_istore (lv' := [(4, .int (u32.2 6 ((7 * x1) + x2).toNatClampNeg)), (0, .ref (a 0)), (1, .int x1), (2, .int x2), (3, .int x3)]) hx hb d_M_late_52 hl (by decide) rfl (fun ls hl => ?_)
          refine lv_aload_n hx hb d_M_late_54 rfl (lv_at hl 1 rfl) ?_
          refine va_get (D := (dC, dI)) (C := R_M) (T := F_M) (N := 22) hx hb hts in_M hown hI.1 hI.2.1 0 (wdM_o0 a cA _) rfl 8 (by decide) (hts _ wA_597) (fun _ h9 => h9) rfl d_M_late_55 ?_
          refine lv_bipush (v := 7) hx hb d_M_late_58 (by decide) ?_
          refine lv_iload_n hx hb d_M_late_60 rfl (lv_at hl 2 rfl) ?_
          refine lv_imul hx hb d_M_late_61 ?_
          refine lv_iload_n hx hb d_M_late_62 rfl (lv_at hl 3 rfl) ?_
          refine lv_iadd hx hb d_M_late_63 ?_
          refine lv_iload_n hx hb d_M_late_64 rfl (lv_at hl 4 rfl) ?_
          obtain ⟨hi, hw⟩ := hw
          refine tr_iast (w := wdM a cA) hx hb hI 7 0 6 (wdM_o7 a cA _) rfl (wdM_a6 a cA _ _ _) hi d_M_late_65 (fun H locs hI => ?_)
          refine lv_iload hx hb d_M_late_66 (lv_at hl 0 rfl) ?_
          exact tr_iret hx hb hr hlocks hI hw d_M_late_68
        · have hw := hw.1 hc
          refine lv_bipush (v := (-2)) hx hb d_M_late_38 (by decide) ?_
          exact tr_iret hx hb hr hlocks hI hw d_M_late_40
def w_M_isAsked (post : Int32 → tS → Prop) (x1 : Int32) (x2 : Int32) (x3 : Int32) (u : tS) : Prop := (w_M_isStop (fun r2 u2 => ((r2 = 0 → (post 0 u2)) ∧ (¬ r2 = 0 → (w_M_isStop (fun r10 u10 => ((r10 = 0 → (post 0 u10)) ∧ (¬ r10 = 0 → (w_M_isIn (fun r21 u21 => ((r21 = 0 → (post 0 u21)) ∧ (¬ r21 = 0 → (post 1 u21)))) x3 0 10079 u10)))) x2 u2)))) x1 u)
set_option maxRecDepth 100000 in
set_option maxHeartbeats 4000000 in
theorem c_M_isAsked (l : Launch) (dC : Nat → ClassId) (dI : Nat → Nat → Nat) (cA : ClassId) (a : Nat → Nat) (u : tS) (x1 : Int32) (x2 : Int32) (x3 : Int32) (post : Int32 → tS → Prop) (sz : Nat) : Met l y_M_isAsked ws_M_isAsked ({ frames := 2, cells := 0, slots := 0, locals := 43 }) (va_Pc [.ref (a 0), .int x1, .int x2, .int x3] (tP (dC, dI) twCl [(cA, .int)] (wdM a cA) u sz (w_M_isAsked post x1 x2 x3 u))) (va_Qi post (tB (dC, dI) twCl [(cA, .int)] (va_A (wdM a cA u) sz) (wdM a cA)) (va_A (wdM a cA u) sz)) 0 0 (va_A (wdM a cA u) sz) := by
  refine Met.ofW (cc := b_M_isAsked) (maxL := 4) (ret := (some .boolean)) (by decide) rfl ?_
  intro p e s m args below meth c s₁ B hml hv
  obtain ⟨rfl, hsz, hP, hK, hD0, hN, hw⟩ := hv
  have hx := B.exec
  have hb := B.bytes
  have hr := B.returns
  have hts : ∀ w ∈ wsA, w.before _ s = true := fun w h => atoms_spec (ws := ws_M_isAsked) B.pre w (List.mem_cons_of_mem _ h)
  have hown : s.vm.findClass R_M = some m.cls := findClass_of_methodNamed B.named
  have hlocks := B.notSynchronized
  subst hsz
  have hD := hD0.self (sz := s.heap.size)
  generalize hAe : va_A (wdM a cA u) s.heap.size = A at hD ⊢
  have hA : ∀ q : Nat, s.heap.size ≤ q → A q := fun q h => by rw [← hAe]; exact Or.inr h
  have hS : va_S A s.heap s.heap [] := va_S.rf
  have hI : tX (dC, dI) twCl [(cA, .int)] A s s.heap [] (wdM a cA u) := ⟨hK, hP, hD, hS⟩
  have hC : tC p s m meth c ([.ref (a 0), .int x1, .int x2, .int x3] : List Value).toArray b_M_isAsked 4 (some .boolean) wsA R_M A := ⟨hx, hb, hr, hml, hown, hts, hlocks, hA, hN⟩
  have hl := lv_entry ([.ref (a 0), .int x1, .int x2, .int x3]) (n := 4) (Nat.le_of_ble_eq_true rfl)
  rw [lg_entry_eq]
  generalize (lg_sl ([.ref (a 0), .int x1, .int x2, .int x3]) ++ List.replicate (4 - (lg_sl ([.ref (a 0), .int x1, .int x2, .int x3])).length) Slot.unset).toArray = ls at hl ⊢
  have hl : lv_has ls 4 [(0, .ref (a 0)), (1, .int x1), (2, .int x2), (3, .int x3)] := hl
  have hw : (w_M_isStop (fun r2 u2 => ((r2 = 0 → (post 0 u2)) ∧ (¬ r2 = 0 → (w_M_isStop (fun r10 u10 => ((r10 = 0 → (post 0 u10)) ∧ (¬ r10 = 0 → (w_M_isIn (fun r21 u21 => ((r21 = 0 → (post 0 u21)) ∧ (¬ r21 = 0 → (post 1 u21)))) x3 0 10079 u10)))) x2 u2)))) x1 u) := hw
  refine lv_aload_n hx hb d_M_isAsked_0 rfl (lv_at hl 0 rfl) ?_
  refine lv_iload_n hx hb d_M_isAsked_1 rfl (lv_at hl 1 rfl) ?_
  refine tr_goi (w := wdM a cA) hI hA (va_runV (As := [.int x1]) (rest := []) ⟨hx, hb, hml, hown, hts⟩ (c_M_isStop l dC dI cA a _ _ _ _) (cwV 1 hts (wsA_goodV wA_671 wA_673 wA_9 wA_40 wA_674) rfl rfl rfl (by decide +kernel) ⟨Nat.le_of_ble_eq_true rfl, Nat.le_of_ble_eq_true rfl⟩) (tr_preV (ci := 9) (q0 := 0) hI rfl (wdM_o0 a cA _) rfl hN hw) rfl rfl hl.1 rfl (lv_room (Nat.le_of_ble_eq_true rfl)) d_M_isAsked_2 ⟨Nat.zero_le _, Nat.zero_le _⟩) (fun r2 u2 H locs hw hI => ?_)
  refine lv_if_eq (tgt := 31) hx hb d_M_isAsked_5 (by decide) (fun hc => ?_) (fun hc => ?_)
  · have hw := hw.1 hc
    refine lv_iconst (v := 0) hx hb d_M_isAsked_31 (by decide) ?_
    exact tr_zret hx hb hr hlocks hI rfl hw d_M_isAsked_32
  · have hw := hw.2 hc
    refine lv_aload_n hx hb d_M_isAsked_8 rfl (lv_at hl 0 rfl) ?_
    refine lv_iload_n hx hb d_M_isAsked_9 rfl (lv_at hl 2 rfl) ?_
    refine tr_goi (w := wdM a cA) hI hA (va_runV (As := [.int x2]) (rest := []) ⟨hx, hb, hml, hown, hts⟩ (c_M_isStop l dC dI cA a _ _ _ _) (cwV 1 hts (wsA_goodV wA_671 wA_673 wA_9 wA_40 wA_674) rfl rfl rfl (by decide +kernel) ⟨Nat.le_of_ble_eq_true rfl, Nat.le_of_ble_eq_true rfl⟩) (tr_preV (ci := 9) (q0 := 0) hI rfl (wdM_o0 a cA _) rfl hN hw) rfl rfl hl.1 rfl (lv_room (Nat.le_of_ble_eq_true rfl)) d_M_isAsked_10 ⟨Nat.zero_le _, Nat.zero_le _⟩) (fun r10 u10 H locs hw hI => ?_)
    refine lv_if_eq (tgt := 31) hx hb d_M_isAsked_13 (by decide) (fun hc => ?_) (fun hc => ?_)
    · have hw := hw.1 hc
      refine lv_iconst (v := 0) hx hb d_M_isAsked_31 (by decide) ?_
      exact tr_zret hx hb hr hlocks hI rfl hw d_M_isAsked_32
    · have hw := hw.2 hc
      refine lv_iload_n hx hb d_M_isAsked_16 rfl (lv_at hl 3 rfl) ?_
      refine lv_iconst (v := 0) hx hb d_M_isAsked_17 (by decide) ?_
      refine lv_sipush (v := 10079) hx hb d_M_isAsked_18 (by decide) ?_
      refine tr_goi (w := wdM a cA) hI hA (va_runS (As := [.int x3, .int 0, .int 10079]) (rest := []) ⟨hx, hb, hml, hown, hts⟩ (c_M_isIn l dC dI cA a _ _ _ _ _ _) ⟨callB_of 3 hts (wsA_good wA_666) rfl rfl rfl (hts _ wA_40) (hts _ wA_664) (by decide +kernel) ⟨Nat.le_of_ble_eq_true rfl, Nat.le_of_ble_eq_true rfl⟩, hts _ wA_665⟩ (tr_preS hI hN hw) rfl rfl hl.1 rfl (lv_room (Nat.le_of_ble_eq_true rfl)) d_M_isAsked_21 ⟨Nat.zero_le _, Nat.zero_le _⟩) (fun r21 u21 H locs hw hI => ?_)
      refine lv_if_eq (tgt := 31) hx hb d_M_isAsked_24 (by decide) (fun hc => ?_) (fun hc => ?_)
      · have hw := hw.1 hc
        refine lv_iconst (v := 0) hx hb d_M_isAsked_31 (by decide) ?_
        exact tr_zret hx hb hr hlocks hI rfl hw d_M_isAsked_32
      · have hw := hw.2 hc
        refine lv_iconst (v := 1) hx hb d_M_isAsked_27 (by decide) ?_
        refine lv_goto (tgt := 32) hx hb d_M_isAsked_28 (by decide) ?_
        exact tr_zret hx hb hr hlocks hI rfl hw d_M_isAsked_32
def w_M_begin_2 (post : tS → Prop) : Nat → Int32 → Int32 → Int32 → tS → Prop
  | 0 => fun _ _ _ _ => False
  | n + 1 => fun x1 x2 x3 u => ((12 ≤ x3 → (post u)) ∧ (¬ 12 ≤ x3 → (vp_in x3 12 ∧ ((x3 = x1 → (vp_in x3 12 ∧ (w_M_begin_2 post n x1 x2 (x3 + 1) (tA (tA u 13 x3 1000000) 14 x3 x2)))) ∧ (¬ x3 = x1 → (vp_in x3 12 ∧ (w_M_begin_2 post n x1 x2 (x3 + 1) (tA (tA u 13 x3 1000000) 14 x3 1000000))))))))
def w_M_begin (post : tS → Prop) (x1 : Int32) (x2 : Int32) (u : tS) : Prop := (∃ k, w_M_begin_2 post k x1 x2 0 u)
set_option maxRecDepth 100000 in
set_option maxHeartbeats 4000000 in
theorem k_M_begin_2 {p : Program} {l : Launch} {e : Env} {s : State} {m : MethodId} {args : Array Value} {below : List Frame} {meth : Method} {c : Code} {dC : Nat → ClassId} {dI : Nat → Nat → Nat} {cA : ClassId} {a : Nat → Nat} {A : Nat → Prop} (hC : tC p s m meth c args b_M_begin 4 none wsA R_M A) (post : tS → Prop) : ∀ n : Nat, ∀ (x1 x2 x3 : Int32) (u : tS) (H : Heap) (locs : List Loc) (ls : Array Slot), w_M_begin_2 post n x1 x2 x3 u → tX (dC, dI) twCl [(cA, .int)] A s H locs (wdM a cA u) → lv_has ls 4 [(0, .ref (a 0)), (1, .int x1), (2, .int x2), (3, .int x3)] → W p l e ({ frames := 0, cells := 0, slots := 0, locals := 0 }) s m args below meth c H locs 0 0 (MQ below (va_Qv post (tB (dC, dI) twCl [(cA, .int)] A (wdM a cA)) A) args s 0 0 A) (F0 m 2 ls []) := by
  obtain ⟨hx, hb, hr, hml, hown, hts, hlocks, hA, hN⟩ := id hC
  intro n
  induction n with
  | zero => intro x1 x2 x3 u H locs ls hw; exact False.elim hw
  | succ n ih =>
    intro x1 x2 x3 u H locs ls hw hI hl
    refine lv_iload_n hx hb d_M_begin_2 rfl (lv_at hl 3 rfl) ?_
    refine lv_bipush (v := 12) hx hb d_M_begin_3 (by decide) ?_
    refine lv_icmp_ge (tgt := 39) hx hb d_M_begin_5 (by decide) (fun hc => ?_) (fun hc => ?_)
    · have hw := hw.1 hc
      exact tr_vret hx hb hr hlocks hI hw d_M_begin_39
    · have hw := hw.2 hc
      refine lv_aload_n hx hb d_M_begin_8 rfl (lv_at hl 0 rfl) ?_
      refine va_get (D := (dC, dI)) (C := R_M) (T := F_M) (N := 22) hx hb hts in_M hown hI.1 hI.2.1 0 (wdM_o0 a cA _) rfl 18 (by decide) (hts _ wA_607) (fun _ h9 => h9) rfl d_M_begin_9 ?_
      refine lv_iload_n hx hb d_M_begin_12 rfl (lv_at hl 3 rfl) ?_
      refine lv_ldc (v := 1000000) hx hb hown (hts _ wA_719) d_M_begin_13 ?_
      obtain ⟨hi, hw⟩ := hw
      refine tr_iast (w := wdM a cA) hx hb hI 14 0 13 (wdM_o14 a cA _) rfl (wdM_a13 a cA _ _ _) hi d_M_begin_15 (fun H locs hI => ?_)
      refine lv_aload_n hx hb d_M_begin_16 rfl (lv_at hl 0 rfl) ?_
      refine va_get (D := (dC, dI)) (C := R_M) (T := F_M) (N := 22) hx hb hts in_M hown hI.1 hI.2.1 0 (wdM_o0 a cA _) rfl 19 (by decide) (hts _ wA_608) (fun _ h9 => h9) rfl d_M_begin_17 ?_
      refine lv_iload_n hx hb d_M_begin_20 rfl (lv_at hl 3 rfl) ?_
      refine lv_iload_n hx hb d_M_begin_21 rfl (lv_at hl 3 rfl) ?_
      refine lv_iload_n hx hb d_M_begin_22 rfl (lv_at hl 1 rfl) ?_
      refine lv_icmp_ne (tgt := 30) hx hb d_M_begin_23 (by decide) (fun hc => ?_) (fun hc => ?_)
      · have hw := hw.2 hc
        refine lv_ldc (v := 1000000) hx hb hown (hts _ wA_719) d_M_begin_30 ?_
        obtain ⟨hi, hw⟩ := hw
        refine tr_iast (w := wdM a cA) hx hb hI 15 0 14 (wdM_o15 a cA _) rfl (wdM_a14 a cA _ _ _) hi d_M_begin_32 (fun H locs hI => ?_)
        refine lv_iinc (v := (x3 + 1)) (lv' := [(3, .int (x3 + 1)), (0, .ref (a 0)), (1, .int x1), (2, .int x2)]) hx hb d_M_begin_33 hl (k := 3) rfl rfl (by decide) rfl (fun ls hl => ?_)
        refine lv_goto (tgt := 2) hx hb d_M_begin_36 (by decide) ?_
        exact ih _ _ _ _ _ _ ls hw hI (lv_sub hl [1, 2, 3, 0] rfl)
      · have hw := hw.1 hc
        refine lv_iload_n hx hb d_M_begin_26 rfl (lv_at hl 2 rfl) ?_
        refine lv_goto (tgt := 32) hx hb d_M_begin_27 (by decide) ?_
        obtain ⟨hi, hw⟩ := hw
        refine tr_iast (w := wdM a cA) hx hb hI 15 0 14 (wdM_o15 a cA _) rfl (wdM_a14 a cA _ _ _) hi d_M_begin_32 (fun H locs hI => ?_)
        refine lv_iinc (v := (x3 + 1)) (lv' := [(3, .int (x3 + 1)), (0, .ref (a 0)), (1, .int x1), (2, .int x2)]) hx hb d_M_begin_33 hl (k := 3) rfl rfl (by decide) rfl (fun ls hl => ?_)
        refine lv_goto (tgt := 2) hx hb d_M_begin_36 (by decide) ?_
        exact ih _ _ _ _ _ _ ls hw hI (lv_sub hl [1, 2, 3, 0] rfl)
set_option maxRecDepth 100000 in
set_option maxHeartbeats 4000000 in
theorem c_M_begin (l : Launch) (dC : Nat → ClassId) (dI : Nat → Nat → Nat) (cA : ClassId) (a : Nat → Nat) (u : tS) (x1 : Int32) (x2 : Int32) (post : tS → Prop) (sz : Nat) : Met l y_M_begin ws_M_begin ({ frames := 0, cells := 0, slots := 0, locals := 0 }) (va_Pc [.ref (a 0), .int x1, .int x2] (tP (dC, dI) twCl [(cA, .int)] (wdM a cA) u sz (w_M_begin post x1 x2 u))) (va_Qv post (tB (dC, dI) twCl [(cA, .int)] (va_A (wdM a cA u) sz) (wdM a cA)) (va_A (wdM a cA u) sz)) 0 0 (va_A (wdM a cA u) sz) := by
  refine Met.ofW (cc := b_M_begin) (maxL := 4) (ret := none) (by decide) rfl ?_
  intro p e s m args below meth c s₁ B hml hv
  obtain ⟨rfl, hsz, hP, hK, hD0, hN, hw⟩ := hv
  have hx := B.exec
  have hb := B.bytes
  have hr := B.returns
  have hts : ∀ w ∈ wsA, w.before _ s = true := fun w h => atoms_spec (ws := ws_M_begin) B.pre w (List.mem_cons_of_mem _ h)
  have hown : s.vm.findClass R_M = some m.cls := findClass_of_methodNamed B.named
  have hlocks := B.notSynchronized
  subst hsz
  have hD := hD0.self (sz := s.heap.size)
  generalize hAe : va_A (wdM a cA u) s.heap.size = A at hD ⊢
  have hA : ∀ q : Nat, s.heap.size ≤ q → A q := fun q h => by rw [← hAe]; exact Or.inr h
  have hS : va_S A s.heap s.heap [] := va_S.rf
  have hI : tX (dC, dI) twCl [(cA, .int)] A s s.heap [] (wdM a cA u) := ⟨hK, hP, hD, hS⟩
  have hC : tC p s m meth c ([.ref (a 0), .int x1, .int x2] : List Value).toArray b_M_begin 4 none wsA R_M A := ⟨hx, hb, hr, hml, hown, hts, hlocks, hA, hN⟩
  have hl := lv_entry ([.ref (a 0), .int x1, .int x2]) (n := 4) (Nat.le_of_ble_eq_true rfl)
  rw [lg_entry_eq]
  generalize (lg_sl ([.ref (a 0), .int x1, .int x2]) ++ List.replicate (4 - (lg_sl ([.ref (a 0), .int x1, .int x2])).length) Slot.unset).toArray = ls at hl ⊢
  have hl : lv_has ls 4 [(0, .ref (a 0)), (1, .int x1), (2, .int x2)] := hl
  have hw : (∃ k, w_M_begin_2 post k x1 x2 0 u) := hw
  refine lv_iconst (v := 0) hx hb d_M_begin_0 (by decide) ?_
  refine lv_istore_n (lv' := [(3, .int 0), (0, .ref (a 0)), (1, .int x1), (2, .int x2)]) hx hb d_M_begin_1 rfl hl (by decide) rfl (fun ls hl => ?_)
  obtain ⟨k, hw⟩ := hw
  exact k_M_begin_2 hC post k _ _ _ _ _ _ ls hw hI (lv_sub hl [1, 2, 3, 0] rfl)
