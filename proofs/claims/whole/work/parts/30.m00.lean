def w_M_clear (post : Int32 → tS → Prop) (u : tS) : Prop := (post (u.1 1) (tI (tI (tI (tI (tI u 0 0) 1 0) 2 0) 3 0) 4 0))
set_option maxRecDepth 100000 in
set_option maxHeartbeats 4000000 in
theorem c_M_clear (l : Launch) (dC : Nat → ClassId) (dI : Nat → Nat → Nat) (cA : ClassId) (a : Nat → Nat) (u : tS) (post : Int32 → tS → Prop) (sz : Nat) : Met l y_M_clear ws_M_clear ({ frames := 0, cells := 0, slots := 0, locals := 0 }) (va_Pc [.ref (a 0)] (tP (dC, dI) twCl [(cA, .int)] (wdM a cA) u sz (w_M_clear post u))) (va_Qi post (tB (dC, dI) twCl [(cA, .int)] (va_A (wdM a cA u) sz) (wdM a cA)) (va_A (wdM a cA u) sz)) 0 0 (va_A (wdM a cA u) sz) := by
  refine Met.ofW (cc := b_M_clear) (maxL := 2) (ret := (some .int)) (by decide) rfl ?_
  intro p e s m args below meth c s₁ B hml hv
  obtain ⟨rfl, hsz, hP, hK, hD0, hN, hw⟩ := hv
  have hx := B.exec
  have hb := B.bytes
  have hr := B.returns
  have hts : ∀ w ∈ wsA, w.before _ s = true := fun w h => atoms_spec (ws := ws_M_clear) B.pre w (List.mem_cons_of_mem _ h)
  have hown : s.vm.findClass R_M = some m.cls := findClass_of_methodNamed B.named
  have hlocks := B.notSynchronized
  subst hsz
  have hD := hD0.self (sz := s.heap.size)
  generalize hAe : va_A (wdM a cA u) s.heap.size = A at hD ⊢
  have hA : ∀ q : Nat, s.heap.size ≤ q → A q := fun q h => by rw [← hAe]; exact Or.inr h
  have hS : va_S A s.heap s.heap [] := va_S.rf
  have hI : tX (dC, dI) twCl [(cA, .int)] A s s.heap [] (wdM a cA u) := ⟨hK, hP, hD, hS⟩
  have hC : tC p s m meth c ([.ref (a 0)] : List Value).toArray b_M_clear 2 (some .int) wsA R_M A := ⟨hx, hb, hr, hml, hown, hts, hlocks, hA, hN⟩
  have hl := lv_entry ([.ref (a 0)]) (n := 2) (Nat.le_of_ble_eq_true rfl)
  rw [lg_entry_eq]
  generalize (lg_sl ([.ref (a 0)]) ++ List.replicate (2 - (lg_sl ([.ref (a 0)])).length) Slot.unset).toArray = ls at hl ⊢
  have hl : lv_has ls 2 [(0, .ref (a 0))] := hl
  have hw : (post (u.1 1) (tI (tI (tI (tI (tI u 0 0) 1 0) 2 0) 3 0) 4 0)) := hw
  refine lv_aload_n hx hb d_M_clear_0 rfl (lv_at hl 0 rfl) ?_
  refine va_get (D := (dC, dI)) (C := R_M) (T := F_M) (N := 22) hx hb hts in_M hown hI.1 hI.2.1 0 (wdM_o0 a cA _) rfl 2 (by decide) (hts _ wA_591) (fun _ h9 => h9) rfl d_M_clear_1 ?_
  refine lv_istore_n (lv' := [(1, .int (u.1 1)), (0, .ref (a 0))]) hx hb d_M_clear_4 rfl hl (by decide) rfl (fun ls hl => ?_)
  refine lv_aload_n hx hb d_M_clear_5 rfl (lv_at hl 1 rfl) ?_
  refine lv_iconst (v := 0) hx hb d_M_clear_6 (by decide) ?_
  refine tr_put (C := R_M) (T := F_M) (N := 22) (w := wdM a cA) hx hb hts in_M ft_M ft_M_ok fn_M hown hI 0 0 (wdM_o0 a cA _) rfl 0 (by decide) (hts _ wA_589) rfl (by decide +kernel) (Nat.le_of_ble_eq_true rfl) (wdM_i0 a cA _ _) d_M_clear_7 (fun H locs hI => ?_)
  refine lv_aload_n hx hb d_M_clear_10 rfl (lv_at hl 1 rfl) ?_
  refine lv_iconst (v := 0) hx hb d_M_clear_11 (by decide) ?_
  refine tr_put (C := R_M) (T := F_M) (N := 22) (w := wdM a cA) hx hb hts in_M ft_M ft_M_ok fn_M hown hI 0 1 (wdM_o0 a cA _) rfl 2 (by decide) (hts _ wA_591) rfl (by decide +kernel) (Nat.le_of_ble_eq_true rfl) (wdM_i1 a cA _ _) d_M_clear_12 (fun H locs hI => ?_)
  refine lv_aload_n hx hb d_M_clear_15 rfl (lv_at hl 1 rfl) ?_
  refine lv_iconst (v := 0) hx hb d_M_clear_16 (by decide) ?_
  refine tr_put (C := R_M) (T := F_M) (N := 22) (w := wdM a cA) hx hb hts in_M ft_M ft_M_ok fn_M hown hI 0 2 (wdM_o0 a cA _) rfl 9 (by decide) (hts _ wA_598) rfl (by decide +kernel) (Nat.le_of_ble_eq_true rfl) (wdM_i2 a cA _ _) d_M_clear_17 (fun H locs hI => ?_)
  refine lv_aload_n hx hb d_M_clear_20 rfl (lv_at hl 1 rfl) ?_
  refine lv_iconst (v := 0) hx hb d_M_clear_21 (by decide) ?_
  refine tr_put (C := R_M) (T := F_M) (N := 22) (w := wdM a cA) hx hb hts in_M ft_M ft_M_ok fn_M hown hI 0 3 (wdM_o0 a cA _) rfl 13 (by decide) (hts _ wA_602) rfl (by decide +kernel) (Nat.le_of_ble_eq_true rfl) (wdM_i3 a cA _ _) d_M_clear_22 (fun H locs hI => ?_)
  refine lv_aload_n hx hb d_M_clear_25 rfl (lv_at hl 1 rfl) ?_
  refine lv_iconst (v := 0) hx hb d_M_clear_26 (by decide) ?_
  refine tr_put (C := R_M) (T := F_M) (N := 22) (w := wdM a cA) hx hb hts in_M ft_M ft_M_ok fn_M hown hI 0 4 (wdM_o0 a cA _) rfl 16 (by decide) (hts _ wA_605) rfl (by decide +kernel) (Nat.le_of_ble_eq_true rfl) (wdM_i4 a cA _ _) d_M_clear_27 (fun H locs hI => ?_)
  refine lv_iload_n hx hb d_M_clear_30 rfl (lv_at hl 0 rfl) ?_
  exact tr_iret hx hb hr hlocks hI hw d_M_clear_31
def w_M_isIn (post : Int32 → tS → Prop) (x0 : Int32) (x1 : Int32) (x2 : Int32) (u : tS) : Prop := ((x0 < x1 → (post 0 u)) ∧ (¬ x0 < x1 → ((x2 < x0 → (post 0 u)) ∧ (¬ x2 < x0 → (post 1 u)))))
set_option maxRecDepth 100000 in
set_option maxHeartbeats 4000000 in
theorem c_M_isIn (l : Launch) (dC : Nat → ClassId) (dI : Nat → Nat → Nat) (cA : ClassId) (a : Nat → Nat) (u : tS) (x0 : Int32) (x1 : Int32) (x2 : Int32) (post : Int32 → tS → Prop) (sz : Nat) : Met l y_M_isIn ws_M_isIn ({ frames := 0, cells := 0, slots := 0, locals := 0 }) (va_Pc [.int x0, .int x1, .int x2] (tP (dC, dI) twCl [(cA, .int)] (wdM a cA) u sz (w_M_isIn post x0 x1 x2 u))) (va_Qi post (tB (dC, dI) twCl [(cA, .int)] (va_A (wdM a cA u) sz) (wdM a cA)) (va_A (wdM a cA u) sz)) 0 0 (va_A (wdM a cA u) sz) := by
  refine Met.ofW (cc := b_M_isIn) (maxL := 3) (ret := (some .boolean)) (by decide) rfl ?_
  intro p e s m args below meth c s₁ B hml hv
  obtain ⟨rfl, hsz, hP, hK, hD0, hN, hw⟩ := hv
  have hx := B.exec
  have hb := B.bytes
  have hr := B.returns
  have hts : ∀ w ∈ wsA, w.before _ s = true := fun w h => atoms_spec (ws := ws_M_isIn) B.pre w (List.mem_cons_of_mem _ h)
  have hown : s.vm.findClass R_M = some m.cls := findClass_of_methodNamed B.named
  have hlocks := B.notSynchronized
  subst hsz
  have hD := hD0.self (sz := s.heap.size)
  generalize hAe : va_A (wdM a cA u) s.heap.size = A at hD ⊢
  have hA : ∀ q : Nat, s.heap.size ≤ q → A q := fun q h => by rw [← hAe]; exact Or.inr h
  have hS : va_S A s.heap s.heap [] := va_S.rf
  have hI : tX (dC, dI) twCl [(cA, .int)] A s s.heap [] (wdM a cA u) := ⟨hK, hP, hD, hS⟩
  have hC : tC p s m meth c ([.int x0, .int x1, .int x2] : List Value).toArray b_M_isIn 3 (some .boolean) wsA R_M A := ⟨hx, hb, hr, hml, hown, hts, hlocks, hA, hN⟩
  have hl := lv_entry ([.int x0, .int x1, .int x2]) (n := 3) (Nat.le_of_ble_eq_true rfl)
  rw [lg_entry_eq]
  generalize (lg_sl ([.int x0, .int x1, .int x2]) ++ List.replicate (3 - (lg_sl ([.int x0, .int x1, .int x2])).length) Slot.unset).toArray = ls at hl ⊢
  have hl : lv_has ls 3 [(0, .int x0), (1, .int x1), (2, .int x2)] := hl
  have hw : ((x0 < x1 → (post 0 u)) ∧ (¬ x0 < x1 → ((x2 < x0 → (post 0 u)) ∧ (¬ x2 < x0 → (post 1 u))))) := hw
  refine lv_iload_n hx hb d_M_isIn_0 rfl (lv_at hl 0 rfl) ?_
  refine lv_iload_n hx hb d_M_isIn_1 rfl (lv_at hl 1 rfl) ?_
  refine lv_icmp_lt (tgt := 14) hx hb d_M_isIn_2 (by decide) (fun hc => ?_) (fun hc => ?_)
  · have hw := hw.1 hc
    refine lv_iconst (v := 0) hx hb d_M_isIn_14 (by decide) ?_
    exact tr_zret hx hb hr hlocks hI rfl hw d_M_isIn_15
  · have hw := hw.2 hc
    refine lv_iload_n hx hb d_M_isIn_5 rfl (lv_at hl 0 rfl) ?_
    refine lv_iload_n hx hb d_M_isIn_6 rfl (lv_at hl 2 rfl) ?_
    refine lv_icmp_gt (tgt := 14) hx hb d_M_isIn_7 (by decide) (fun hc => ?_) (fun hc => ?_)
    · have hw := hw.1 hc
      refine lv_iconst (v := 0) hx hb d_M_isIn_14 (by decide) ?_
      exact tr_zret hx hb hr hlocks hI rfl hw d_M_isIn_15
    · have hw := hw.2 hc
      refine lv_iconst (v := 1) hx hb d_M_isIn_10 (by decide) ?_
      refine lv_goto (tgt := 15) hx hb d_M_isIn_11 (by decide) ?_
      exact tr_zret hx hb hr hlocks hI rfl hw d_M_isIn_15
def w_M_stop (post : Int32 → tS → Prop) (x1 : Int32) (u : tS) : Prop := (w_M_isIn (fun r4 u4 => ((r4 = 0 → (post (-2) u4)) ∧ (¬ r4 = 0 → (((u4.1 0) = 12 → (post (-3) u4)) ∧ (¬ (u4.1 0) = 12 → (vp_in (u4.1 0) 12 ∧ (post (((tI (tA u4 0 (u4.1 0) x1) 0 (((tA u4 0 (u4.1 0) x1).1 0) + 1)).1 0) - 1) (tI (tA u4 0 (u4.1 0) x1) 0 (((tA u4 0 (u4.1 0) x1).1 0) + 1))))))))) x1 0 60 u)
set_option maxRecDepth 100000 in
set_option maxHeartbeats 4000000 in
theorem c_M_stop (l : Launch) (dC : Nat → ClassId) (dI : Nat → Nat → Nat) (cA : ClassId) (a : Nat → Nat) (u : tS) (x1 : Int32) (post : Int32 → tS → Prop) (sz : Nat) : Met l y_M_stop ws_M_stop ({ frames := 1, cells := 0, slots := 0, locals := 22 }) (va_Pc [.ref (a 0), .int x1] (tP (dC, dI) twCl [(cA, .int)] (wdM a cA) u sz (w_M_stop post x1 u))) (va_Qi post (tB (dC, dI) twCl [(cA, .int)] (va_A (wdM a cA u) sz) (wdM a cA)) (va_A (wdM a cA u) sz)) 0 0 (va_A (wdM a cA u) sz) := by
  refine Met.ofW (cc := b_M_stop) (maxL := 2) (ret := (some .int)) (by decide) rfl ?_
  intro p e s m args below meth c s₁ B hml hv
  obtain ⟨rfl, hsz, hP, hK, hD0, hN, hw⟩ := hv
  have hx := B.exec
  have hb := B.bytes
  have hr := B.returns
  have hts : ∀ w ∈ wsA, w.before _ s = true := fun w h => atoms_spec (ws := ws_M_stop) B.pre w (List.mem_cons_of_mem _ h)
  have hown : s.vm.findClass R_M = some m.cls := findClass_of_methodNamed B.named
  have hlocks := B.notSynchronized
  subst hsz
  have hD := hD0.self (sz := s.heap.size)
  generalize hAe : va_A (wdM a cA u) s.heap.size = A at hD ⊢
  have hA : ∀ q : Nat, s.heap.size ≤ q → A q := fun q h => by rw [← hAe]; exact Or.inr h
  have hS : va_S A s.heap s.heap [] := va_S.rf
  have hI : tX (dC, dI) twCl [(cA, .int)] A s s.heap [] (wdM a cA u) := ⟨hK, hP, hD, hS⟩
  have hC : tC p s m meth c ([.ref (a 0), .int x1] : List Value).toArray b_M_stop 2 (some .int) wsA R_M A := ⟨hx, hb, hr, hml, hown, hts, hlocks, hA, hN⟩
  have hl := lv_entry ([.ref (a 0), .int x1]) (n := 2) (Nat.le_of_ble_eq_true rfl)
  rw [lg_entry_eq]
  generalize (lg_sl ([.ref (a 0), .int x1]) ++ List.replicate (2 - (lg_sl ([.ref (a 0), .int x1])).length) Slot.unset).toArray = ls at hl ⊢
  have hl : lv_has ls 2 [(0, .ref (a 0)), (1, .int x1)] := hl
  have hw : (w_M_isIn (fun r4 u4 => ((r4 = 0 → (post (-2) u4)) ∧ (¬ r4 = 0 → (((u4.1 0) = 12 → (post (-3) u4)) ∧ (¬ (u4.1 0) = 12 → (vp_in (u4.1 0) 12 ∧ (post (((tI (tA u4 0 (u4.1 0) x1) 0 (((tA u4 0 (u4.1 0) x1).1 0) + 1)).1 0) - 1) (tI (tA u4 0 (u4.1 0) x1) 0 (((tA u4 0 (u4.1 0) x1).1 0) + 1))))))))) x1 0 60 u) := hw
  refine lv_iload_n hx hb d_M_stop_0 rfl (lv_at hl 1 rfl) ?_
  refine lv_iconst (v := 0) hx hb d_M_stop_1 (by decide) ?_
  refine lv_bipush (v := 60) hx hb d_M_stop_2 (by decide) ?_
  refine tr_goi (w := wdM a cA) hI hA (va_runS (As := [.int x1, .int 0, .int 60]) (rest := []) ⟨hx, hb, hml, hown, hts⟩ (c_M_isIn l dC dI cA a _ _ _ _ _ _) ⟨callB_of 3 hts (wsA_good wA_666) rfl rfl rfl (hts _ wA_40) (hts _ wA_664) (by decide +kernel) ⟨Nat.le_of_ble_eq_true rfl, Nat.le_of_ble_eq_true rfl⟩, hts _ wA_665⟩ (tr_preS hI hN hw) rfl rfl hl.1 rfl (lv_room (Nat.le_of_ble_eq_true rfl)) d_M_stop_4 ⟨Nat.zero_le _, Nat.zero_le _⟩) (fun r4 u4 H locs hw hI => ?_)
  refine lv_if_ne (tgt := 13) hx hb d_M_stop_7 (by decide) (fun hc => ?_) (fun hc => ?_)
  · have hw := hw.2 hc
    refine lv_aload_n hx hb d_M_stop_13 rfl (lv_at hl 0 rfl) ?_
    refine va_get (D := (dC, dI)) (C := R_M) (T := F_M) (N := 22) hx hb hts in_M hown hI.1 hI.2.1 0 (wdM_o0 a cA _) rfl 0 (by decide) (hts _ wA_589) (fun _ h9 => h9) rfl d_M_stop_14 ?_
    refine lv_bipush (v := 12) hx hb d_M_stop_17 (by decide) ?_
    refine lv_icmp_ne (tgt := 25) hx hb d_M_stop_19 (by decide) (fun hc => ?_) (fun hc => ?_)
    · have hw := hw.2 hc
      refine lv_aload_n hx hb d_M_stop_25 rfl (lv_at hl 0 rfl) ?_
      refine va_get (D := (dC, dI)) (C := R_M) (T := F_M) (N := 22) hx hb hts in_M hown hI.1 hI.2.1 0 (wdM_o0 a cA _) rfl 1 (by decide) (hts _ wA_590) (fun _ h9 => h9) rfl d_M_stop_26 ?_
      refine lv_aload_n hx hb d_M_stop_29 rfl (lv_at hl 0 rfl) ?_
      refine va_get (D := (dC, dI)) (C := R_M) (T := F_M) (N := 22) hx hb hts in_M hown hI.1 hI.2.1 0 (wdM_o0 a cA _) rfl 0 (by decide) (hts _ wA_589) (fun _ h9 => h9) rfl d_M_stop_30 ?_
      refine lv_iload_n hx hb d_M_stop_33 rfl (lv_at hl 1 rfl) ?_
      obtain ⟨hi, hw⟩ := hw
      refine tr_iast (w := wdM a cA) hx hb hI 1 0 0 (wdM_o1 a cA _) rfl (wdM_a0 a cA _ _ _) hi d_M_stop_34 (fun H locs hI => ?_)
      refine lv_aload_n hx hb d_M_stop_35 rfl (lv_at hl 0 rfl) ?_
      refine lv_dup hx hb d_M_stop_36 rfl ?_
      refine va_get (D := (dC, dI)) (C := R_M) (T := F_M) (N := 22) hx hb hts in_M hown hI.1 hI.2.1 0 (wdM_o0 a cA _) rfl 0 (by decide) (hts _ wA_589) (fun _ h9 => h9) rfl d_M_stop_37 ?_
      refine lv_iconst (v := 1) hx hb d_M_stop_40 (by decide) ?_
      refine lv_iadd hx hb d_M_stop_41 ?_
      refine tr_put (C := R_M) (T := F_M) (N := 22) (w := wdM a cA) hx hb hts in_M ft_M ft_M_ok fn_M hown hI 0 0 (wdM_o0 a cA _) rfl 0 (by decide) (hts _ wA_589) rfl (by decide +kernel) (Nat.le_of_ble_eq_true rfl) (wdM_i0 a cA _ _) d_M_stop_42 (fun H locs hI => ?_)
      refine lv_aload_n hx hb d_M_stop_45 rfl (lv_at hl 0 rfl) ?_
      refine va_get (D := (dC, dI)) (C := R_M) (T := F_M) (N := 22) hx hb hts in_M hown hI.1 hI.2.1 0 (wdM_o0 a cA _) rfl 0 (by decide) (hts _ wA_589) (fun _ h9 => h9) rfl d_M_stop_46 ?_
      refine lv_iconst (v := 1) hx hb d_M_stop_49 (by decide) ?_
      refine lv_isub hx hb d_M_stop_50 ?_
      exact tr_iret hx hb hr hlocks hI hw d_M_stop_51
    · have hw := hw.1 hc
      refine lv_bipush (v := (-3)) hx hb d_M_stop_22 (by decide) ?_
      exact tr_iret hx hb hr hlocks hI hw d_M_stop_24
  · have hw := hw.1 hc
    refine lv_bipush (v := (-2)) hx hb d_M_stop_10 (by decide) ?_
    exact tr_iret hx hb hr hlocks hI hw d_M_stop_12
def w_M_isStop (post : Int32 → tS → Prop) (x1 : Int32) (u : tS) : Prop := (w_M_isIn (fun r8 u8 => (narrow .boolean (.int r8) = .int r8 ∧ post r8 u8)) x1 0 ((u.1 0) - 1) u)
set_option maxRecDepth 100000 in
set_option maxHeartbeats 4000000 in
theorem c_M_isStop (l : Launch) (dC : Nat → ClassId) (dI : Nat → Nat → Nat) (cA : ClassId) (a : Nat → Nat) (u : tS) (x1 : Int32) (post : Int32 → tS → Prop) (sz : Nat) : Met l y_M_isStop ws_M_isStop ({ frames := 1, cells := 0, slots := 0, locals := 22 }) (va_Pc [.ref (a 0), .int x1] (tP (dC, dI) twCl [(cA, .int)] (wdM a cA) u sz (w_M_isStop post x1 u))) (va_Qi post (tB (dC, dI) twCl [(cA, .int)] (va_A (wdM a cA u) sz) (wdM a cA)) (va_A (wdM a cA u) sz)) 0 0 (va_A (wdM a cA u) sz) := by
  refine Met.ofW (cc := b_M_isStop) (maxL := 2) (ret := (some .boolean)) (by decide) rfl ?_
  intro p e s m args below meth c s₁ B hml hv
  obtain ⟨rfl, hsz, hP, hK, hD0, hN, hw⟩ := hv
  have hx := B.exec
  have hb := B.bytes
  have hr := B.returns
  have hts : ∀ w ∈ wsA, w.before _ s = true := fun w h => atoms_spec (ws := ws_M_isStop) B.pre w (List.mem_cons_of_mem _ h)
  have hown : s.vm.findClass R_M = some m.cls := findClass_of_methodNamed B.named
  have hlocks := B.notSynchronized
  subst hsz
  have hD := hD0.self (sz := s.heap.size)
  generalize hAe : va_A (wdM a cA u) s.heap.size = A at hD ⊢
  have hA : ∀ q : Nat, s.heap.size ≤ q → A q := fun q h => by rw [← hAe]; exact Or.inr h
  have hS : va_S A s.heap s.heap [] := va_S.rf
  have hI : tX (dC, dI) twCl [(cA, .int)] A s s.heap [] (wdM a cA u) := ⟨hK, hP, hD, hS⟩
  have hC : tC p s m meth c ([.ref (a 0), .int x1] : List Value).toArray b_M_isStop 2 (some .boolean) wsA R_M A := ⟨hx, hb, hr, hml, hown, hts, hlocks, hA, hN⟩
  have hl := lv_entry ([.ref (a 0), .int x1]) (n := 2) (Nat.le_of_ble_eq_true rfl)
  rw [lg_entry_eq]
  generalize (lg_sl ([.ref (a 0), .int x1]) ++ List.replicate (2 - (lg_sl ([.ref (a 0), .int x1])).length) Slot.unset).toArray = ls at hl ⊢
  have hl : lv_has ls 2 [(0, .ref (a 0)), (1, .int x1)] := hl
  have hw : (w_M_isIn (fun r8 u8 => (narrow .boolean (.int r8) = .int r8 ∧ post r8 u8)) x1 0 ((u.1 0) - 1) u) := hw
  refine lv_iload_n hx hb d_M_isStop_0 rfl (lv_at hl 1 rfl) ?_
  refine lv_iconst (v := 0) hx hb d_M_isStop_1 (by decide) ?_
  refine lv_aload_n hx hb d_M_isStop_2 rfl (lv_at hl 0 rfl) ?_
  refine va_get (D := (dC, dI)) (C := R_M) (T := F_M) (N := 22) hx hb hts in_M hown hI.1 hI.2.1 0 (wdM_o0 a cA _) rfl 0 (by decide) (hts _ wA_589) (fun _ h9 => h9) rfl d_M_isStop_3 ?_
  refine lv_iconst (v := 1) hx hb d_M_isStop_6 (by decide) ?_
  refine lv_isub hx hb d_M_isStop_7 ?_
  refine tr_goi (w := wdM a cA) hI hA (va_runS (As := [.int x1, .int 0, .int ((u.1 0) - 1)]) (rest := []) ⟨hx, hb, hml, hown, hts⟩ (c_M_isIn l dC dI cA a _ _ _ _ _ _) ⟨callB_of 3 hts (wsA_good wA_666) rfl rfl rfl (hts _ wA_40) (hts _ wA_664) (by decide +kernel) ⟨Nat.le_of_ble_eq_true rfl, Nat.le_of_ble_eq_true rfl⟩, hts _ wA_665⟩ (tr_preS hI hN hw) rfl rfl hl.1 rfl (lv_room (Nat.le_of_ble_eq_true rfl)) d_M_isStop_8 ⟨Nat.zero_le _, Nat.zero_le _⟩) (fun r8 u8 H locs hw hI => ?_)
  obtain ⟨hn, hw⟩ := hw
  exact tr_zret hx hb hr hlocks hI hn hw d_M_isStop_11
def w_M_change (post : Int32 → tS → Prop) (x1 : Int32) (x2 : Int32) (u : tS) : Prop := (w_M_isStop (fun r2 u2 => ((r2 = 0 → (post (-2) u2)) ∧ (¬ r2 = 0 → (w_M_isIn (fun r12 u12 => ((r12 = 0 → (post (-2) u12)) ∧ (¬ r12 = 0 → (vp_in x1 12 ∧ (vp_in x1 12 ∧ (post (u12.2 0 x1.toNatClampNeg) (tA u12 0 x1 x2))))))) x2 0 60 u2)))) x1 u)
set_option maxRecDepth 100000 in
set_option maxHeartbeats 4000000 in
theorem c_M_change (l : Launch) (dC : Nat → ClassId) (dI : Nat → Nat → Nat) (cA : ClassId) (a : Nat → Nat) (u : tS) (x1 : Int32) (x2 : Int32) (post : Int32 → tS → Prop) (sz : Nat) : Met l y_M_change ws_M_change ({ frames := 2, cells := 0, slots := 0, locals := 43 }) (va_Pc [.ref (a 0), .int x1, .int x2] (tP (dC, dI) twCl [(cA, .int)] (wdM a cA) u sz (w_M_change post x1 x2 u))) (va_Qi post (tB (dC, dI) twCl [(cA, .int)] (va_A (wdM a cA u) sz) (wdM a cA)) (va_A (wdM a cA u) sz)) 0 0 (va_A (wdM a cA u) sz) := by
  refine Met.ofW (cc := b_M_change) (maxL := 4) (ret := (some .int)) (by decide) rfl ?_
  intro p e s m args below meth c s₁ B hml hv
  obtain ⟨rfl, hsz, hP, hK, hD0, hN, hw⟩ := hv
  have hx := B.exec
  have hb := B.bytes
  have hr := B.returns
  have hts : ∀ w ∈ wsA, w.before _ s = true := fun w h => atoms_spec (ws := ws_M_change) B.pre w (List.mem_cons_of_mem _ h)
  have hown : s.vm.findClass R_M = some m.cls := findClass_of_methodNamed B.named
  have hlocks := B.notSynchronized
  subst hsz
  have hD := hD0.self (sz := s.heap.size)
  generalize hAe : va_A (wdM a cA u) s.heap.size = A at hD ⊢
  have hA : ∀ q : Nat, s.heap.size ≤ q → A q := fun q h => by rw [← hAe]; exact Or.inr h
  have hS : va_S A s.heap s.heap [] := va_S.rf
  have hI : tX (dC, dI) twCl [(cA, .int)] A s s.heap [] (wdM a cA u) := ⟨hK, hP, hD, hS⟩
  have hC : tC p s m meth c ([.ref (a 0), .int x1, .int x2] : List Value).toArray b_M_change 4 (some .int) wsA R_M A := ⟨hx, hb, hr, hml, hown, hts, hlocks, hA, hN⟩
  have hl := lv_entry ([.ref (a 0), .int x1, .int x2]) (n := 4) (Nat.le_of_ble_eq_true rfl)
  rw [lg_entry_eq]
  generalize (lg_sl ([.ref (a 0), .int x1, .int x2]) ++ List.replicate (4 - (lg_sl ([.ref (a 0), .int x1, .int x2])).length) Slot.unset).toArray = ls at hl ⊢
  have hl : lv_has ls 4 [(0, .ref (a 0)), (1, .int x1), (2, .int x2)] := hl
  have hw : (w_M_isStop (fun r2 u2 => ((r2 = 0 → (post (-2) u2)) ∧ (¬ r2 = 0 → (w_M_isIn (fun r12 u12 => ((r12 = 0 → (post (-2) u12)) ∧ (¬ r12 = 0 → (vp_in x1 12 ∧ (vp_in x1 12 ∧ (post (u12.2 0 x1.toNatClampNeg) (tA u12 0 x1 x2))))))) x2 0 60 u2)))) x1 u) := hw
  refine lv_aload_n hx hb d_M_change_0 rfl (lv_at hl 0 rfl) ?_
  refine lv_iload_n hx hb d_M_change_1 rfl (lv_at hl 1 rfl) ?_
  refine tr_goi (w := wdM a cA) hI hA (va_runV (As := [.int x1]) (rest := []) ⟨hx, hb, hml, hown, hts⟩ (c_M_isStop l dC dI cA a _ _ _ _) (cwV 1 hts (wsA_goodV wA_671 wA_673 wA_9 wA_40 wA_674) rfl rfl rfl (by decide +kernel) ⟨Nat.le_of_ble_eq_true rfl, Nat.le_of_ble_eq_true rfl⟩) (tr_preV (ci := 9) (q0 := 0) hI rfl (wdM_o0 a cA _) rfl hN hw) rfl rfl hl.1 rfl (lv_room (Nat.le_of_ble_eq_true rfl)) d_M_change_2 ⟨Nat.zero_le _, Nat.zero_le _⟩) (fun r2 u2 H locs hw hI => ?_)
  refine lv_if_eq (tgt := 18) hx hb d_M_change_5 (by decide) (fun hc => ?_) (fun hc => ?_)
  · have hw := hw.1 hc
    refine lv_bipush (v := (-2)) hx hb d_M_change_18 (by decide) ?_
    exact tr_iret hx hb hr hlocks hI hw d_M_change_20
  · have hw := hw.2 hc
    refine lv_iload_n hx hb d_M_change_8 rfl (lv_at hl 2 rfl) ?_
    refine lv_iconst (v := 0) hx hb d_M_change_9 (by decide) ?_
    refine lv_bipush (v := 60) hx hb d_M_change_10 (by decide) ?_
    refine tr_goi (w := wdM a cA) hI hA (va_runS (As := [.int x2, .int 0, .int 60]) (rest := []) ⟨hx, hb, hml, hown, hts⟩ (c_M_isIn l dC dI cA a _ _ _ _ _ _) ⟨callB_of 3 hts (wsA_good wA_666) rfl rfl rfl (hts _ wA_40) (hts _ wA_664) (by decide +kernel) ⟨Nat.le_of_ble_eq_true rfl, Nat.le_of_ble_eq_true rfl⟩, hts _ wA_665⟩ (tr_preS hI hN hw) rfl rfl hl.1 rfl (lv_room (Nat.le_of_ble_eq_true rfl)) d_M_change_12 ⟨Nat.zero_le _, Nat.zero_le _⟩) (fun r12 u12 H locs hw hI => ?_)
    refine lv_if_ne (tgt := 21) hx hb d_M_change_15 (by decide) (fun hc => ?_) (fun hc => ?_)
    · have hw := hw.2 hc
      refine lv_aload_n hx hb d_M_change_21 rfl (lv_at hl 0 rfl) ?_
      refine va_get (D := (dC, dI)) (C := R_M) (T := F_M) (N := 22) hx hb hts in_M hown hI.1 hI.2.1 0 (wdM_o0 a cA _) rfl 1 (by decide) (hts _ wA_590) (fun _ h9 => h9) rfl d_M_change_22 ?_
      refine lv_iload_n hx hb d_M_change_25 rfl (lv_at hl 1 rfl) ?_
      obtain ⟨hi, hw⟩ := hw
      refine va_iald (D := (dC, dI)) hx hb hI.1 hI.2.1 1 0 (wdM_o1 a cA _) rfl hi d_M_change_26 ?_
      refine lv_istore_n (lv' := [(3, .int (u12.2 0 x1.toNatClampNeg)), (0, .ref (a 0)), (1, .int x1), (2, .int x2)]) hx hb d_M_change_27 rfl hl (by decide) rfl (fun ls hl => ?_)
      refine lv_aload_n hx hb d_M_change_28 rfl (lv_at hl 1 rfl) ?_
      refine va_get (D := (dC, dI)) (C := R_M) (T := F_M) (N := 22) hx hb hts in_M hown hI.1 hI.2.1 0 (wdM_o0 a cA _) rfl 1 (by decide) (hts _ wA_590) (fun _ h9 => h9) rfl d_M_change_29 ?_
      refine lv_iload_n hx hb d_M_change_32 rfl (lv_at hl 2 rfl) ?_
      refine lv_iload_n hx hb d_M_change_33 rfl (lv_at hl 3 rfl) ?_
      obtain ⟨hi, hw⟩ := hw
      refine tr_iast (w := wdM a cA) hx hb hI 1 0 0 (wdM_o1 a cA _) rfl (wdM_a0 a cA _ _ _) hi d_M_change_34 (fun H locs hI => ?_)
      refine lv_iload_n hx hb d_M_change_35 rfl (lv_at hl 0 rfl) ?_
      exact tr_iret hx hb hr hlocks hI hw d_M_change_36
    · have hw := hw.1 hc
      refine lv_bipush (v := (-2)) hx hb d_M_change_18 (by decide) ?_
      exact tr_iret hx hb hr hlocks hI hw d_M_change_20
def w_M_areTwo (post : Int32 → tS → Prop) (x1 : Int32) (x2 : Int32) (u : tS) : Prop := (w_M_isStop (fun r2 u2 => ((r2 = 0 → (post 0 u2)) ∧ (¬ r2 = 0 → (w_M_isStop (fun r10 u10 => ((r10 = 0 → (post 0 u10)) ∧ (¬ r10 = 0 → ((x1 = x2 → (post 0 u10)) ∧ (¬ x1 = x2 → (post 1 u10)))))) x2 u2)))) x1 u)
set_option maxRecDepth 100000 in
set_option maxHeartbeats 4000000 in
theorem c_M_areTwo (l : Launch) (dC : Nat → ClassId) (dI : Nat → Nat → Nat) (cA : ClassId) (a : Nat → Nat) (u : tS) (x1 : Int32) (x2 : Int32) (post : Int32 → tS → Prop) (sz : Nat) : Met l y_M_areTwo ws_M_areTwo ({ frames := 2, cells := 0, slots := 0, locals := 43 }) (va_Pc [.ref (a 0), .int x1, .int x2] (tP (dC, dI) twCl [(cA, .int)] (wdM a cA) u sz (w_M_areTwo post x1 x2 u))) (va_Qi post (tB (dC, dI) twCl [(cA, .int)] (va_A (wdM a cA u) sz) (wdM a cA)) (va_A (wdM a cA u) sz)) 0 0 (va_A (wdM a cA u) sz) := by
  refine Met.ofW (cc := b_M_areTwo) (maxL := 3) (ret := (some .boolean)) (by decide) rfl ?_
  intro p e s m args below meth c s₁ B hml hv
  obtain ⟨rfl, hsz, hP, hK, hD0, hN, hw⟩ := hv
  have hx := B.exec
  have hb := B.bytes
  have hr := B.returns
  have hts : ∀ w ∈ wsA, w.before _ s = true := fun w h => atoms_spec (ws := ws_M_areTwo) B.pre w (List.mem_cons_of_mem _ h)
  have hown : s.vm.findClass R_M = some m.cls := findClass_of_methodNamed B.named
  have hlocks := B.notSynchronized
  subst hsz
  have hD := hD0.self (sz := s.heap.size)
  generalize hAe : va_A (wdM a cA u) s.heap.size = A at hD ⊢
  have hA : ∀ q : Nat, s.heap.size ≤ q → A q := fun q h => by rw [← hAe]; exact Or.inr h
  have hS : va_S A s.heap s.heap [] := va_S.rf
  have hI : tX (dC, dI) twCl [(cA, .int)] A s s.heap [] (wdM a cA u) := ⟨hK, hP, hD, hS⟩
  have hC : tC p s m meth c ([.ref (a 0), .int x1, .int x2] : List Value).toArray b_M_areTwo 3 (some .boolean) wsA R_M A := ⟨hx, hb, hr, hml, hown, hts, hlocks, hA, hN⟩
  have hl := lv_entry ([.ref (a 0), .int x1, .int x2]) (n := 3) (Nat.le_of_ble_eq_true rfl)
  rw [lg_entry_eq]
  generalize (lg_sl ([.ref (a 0), .int x1, .int x2]) ++ List.replicate (3 - (lg_sl ([.ref (a 0), .int x1, .int x2])).length) Slot.unset).toArray = ls at hl ⊢
  have hl : lv_has ls 3 [(0, .ref (a 0)), (1, .int x1), (2, .int x2)] := hl
  have hw : (w_M_isStop (fun r2 u2 => ((r2 = 0 → (post 0 u2)) ∧ (¬ r2 = 0 → (w_M_isStop (fun r10 u10 => ((r10 = 0 → (post 0 u10)) ∧ (¬ r10 = 0 → ((x1 = x2 → (post 0 u10)) ∧ (¬ x1 = x2 → (post 1 u10)))))) x2 u2)))) x1 u) := hw
  refine lv_aload_n hx hb d_M_areTwo_0 rfl (lv_at hl 0 rfl) ?_
  refine lv_iload_n hx hb d_M_areTwo_1 rfl (lv_at hl 1 rfl) ?_
  refine tr_goi (w := wdM a cA) hI hA (va_runV (As := [.int x1]) (rest := []) ⟨hx, hb, hml, hown, hts⟩ (c_M_isStop l dC dI cA a _ _ _ _) (cwV 1 hts (wsA_goodV wA_671 wA_673 wA_9 wA_40 wA_674) rfl rfl rfl (by decide +kernel) ⟨Nat.le_of_ble_eq_true rfl, Nat.le_of_ble_eq_true rfl⟩) (tr_preV (ci := 9) (q0 := 0) hI rfl (wdM_o0 a cA _) rfl hN hw) rfl rfl hl.1 rfl (lv_room (Nat.le_of_ble_eq_true rfl)) d_M_areTwo_2 ⟨Nat.zero_le _, Nat.zero_le _⟩) (fun r2 u2 H locs hw hI => ?_)
  refine lv_if_eq (tgt := 25) hx hb d_M_areTwo_5 (by decide) (fun hc => ?_) (fun hc => ?_)
  · have hw := hw.1 hc
    refine lv_iconst (v := 0) hx hb d_M_areTwo_25 (by decide) ?_
    exact tr_zret hx hb hr hlocks hI rfl hw d_M_areTwo_26
  · have hw := hw.2 hc
    refine lv_aload_n hx hb d_M_areTwo_8 rfl (lv_at hl 0 rfl) ?_
    refine lv_iload_n hx hb d_M_areTwo_9 rfl (lv_at hl 2 rfl) ?_
    refine tr_goi (w := wdM a cA) hI hA (va_runV (As := [.int x2]) (rest := []) ⟨hx, hb, hml, hown, hts⟩ (c_M_isStop l dC dI cA a _ _ _ _) (cwV 1 hts (wsA_goodV wA_671 wA_673 wA_9 wA_40 wA_674) rfl rfl rfl (by decide +kernel) ⟨Nat.le_of_ble_eq_true rfl, Nat.le_of_ble_eq_true rfl⟩) (tr_preV (ci := 9) (q0 := 0) hI rfl (wdM_o0 a cA _) rfl hN hw) rfl rfl hl.1 rfl (lv_room (Nat.le_of_ble_eq_true rfl)) d_M_areTwo_10 ⟨Nat.zero_le _, Nat.zero_le _⟩) (fun r10 u10 H locs hw hI => ?_)
    refine lv_if_eq (tgt := 25) hx hb d_M_areTwo_13 (by decide) (fun hc => ?_) (fun hc => ?_)
    · have hw := hw.1 hc
      refine lv_iconst (v := 0) hx hb d_M_areTwo_25 (by decide) ?_
      exact tr_zret hx hb hr hlocks hI rfl hw d_M_areTwo_26
    · have hw := hw.2 hc
      refine lv_iload_n hx hb d_M_areTwo_16 rfl (lv_at hl 1 rfl) ?_
      refine lv_iload_n hx hb d_M_areTwo_17 rfl (lv_at hl 2 rfl) ?_
      refine lv_icmp_eq (tgt := 25) hx hb d_M_areTwo_18 (by decide) (fun hc => ?_) (fun hc => ?_)
      · have hw := hw.1 hc
        refine lv_iconst (v := 0) hx hb d_M_areTwo_25 (by decide) ?_
        exact tr_zret hx hb hr hlocks hI rfl hw d_M_areTwo_26
      · have hw := hw.2 hc
        refine lv_iconst (v := 1) hx hb d_M_areTwo_21 (by decide) ?_
        refine lv_goto (tgt := 26) hx hb d_M_areTwo_22 (by decide) ?_
        exact tr_zret hx hb hr hlocks hI rfl hw d_M_areTwo_26
def w_M_ride_113 (post : Int32 → tS → Prop) : Nat → Int32 → tS → Prop
  | 0 => fun _ _ => False
  | n + 1 => fun x6 u => ((7 ≤ x6 → (post (((tI u 1 ((u.1 1) + 1)).1 1) - 1) (tI u 1 ((u.1 1) + 1)))) ∧ (¬ 7 ≤ x6 → (vp_in ((7 * (u.1 1)) + x6) 280 ∧ (w_M_ride_113 post n (x6 + 1) (tA u 6 ((7 * (u.1 1)) + x6) 0)))))
def w_M_ride (post : Int32 → tS → Prop) (x1 : Int32) (x2 : Int32) (x3 : Int32) (x4 : Int32) (x5 : Int32) (u : tS) : Prop := (w_M_areTwo (fun r3 u3 => ((r3 = 0 → (post (-2) u3)) ∧ (¬ r3 = 0 → (w_M_isIn (fun r14 u14 => ((r14 = 0 → (post (-2) u14)) ∧ (¬ r14 = 0 → (w_M_isIn (fun r26 u26 => ((r26 = 0 → (post (-2) u26)) ∧ (¬ r26 = 0 → (w_M_isIn (fun r37 u37 => ((r37 = 0 → (post (-2) u37)) ∧ (¬ r37 = 0 → (((u37.1 1) = 40 → (post (-3) u37)) ∧ (¬ (u37.1 1) = 40 → (vp_in (u37.1 1) 40 ∧ (vp_in ((tA u37 1 (u37.1 1) x1).1 1) 40 ∧ (vp_in ((tA (tA u37 1 (u37.1 1) x1) 2 ((tA u37 1 (u37.1 1) x1).1 1) x2).1 1) 40 ∧ (vp_in ((tA (tA (tA u37 1 (u37.1 1) x1) 2 ((tA u37 1 (u37.1 1) x1).1 1) x2) 3 ((tA (tA u37 1 (u37.1 1) x1) 2 ((tA u37 1 (u37.1 1) x1).1 1) x2).1 1) x3).1 1) 40 ∧ (vp_in ((tA (tA (tA (tA u37 1 (u37.1 1) x1) 2 ((tA u37 1 (u37.1 1) x1).1 1) x2) 3 ((tA (tA u37 1 (u37.1 1) x1) 2 ((tA u37 1 (u37.1 1) x1).1 1) x2).1 1) x3) 4 ((tA (tA (tA u37 1 (u37.1 1) x1) 2 ((tA u37 1 (u37.1 1) x1).1 1) x2) 3 ((tA (tA u37 1 (u37.1 1) x1) 2 ((tA u37 1 (u37.1 1) x1).1 1) x2).1 1) x3).1 1) x4).1 1) 40 ∧ (∃ k, w_M_ride_113 post k 0 (tA (tA (tA (tA (tA u37 1 (u37.1 1) x1) 2 ((tA u37 1 (u37.1 1) x1).1 1) x2) 3 ((tA (tA u37 1 (u37.1 1) x1) 2 ((tA u37 1 (u37.1 1) x1).1 1) x2).1 1) x3) 4 ((tA (tA (tA u37 1 (u37.1 1) x1) 2 ((tA u37 1 (u37.1 1) x1).1 1) x2) 3 ((tA (tA u37 1 (u37.1 1) x1) 2 ((tA u37 1 (u37.1 1) x1).1 1) x2).1 1) x3).1 1) x4) 5 ((tA (tA (tA (tA u37 1 (u37.1 1) x1) 2 ((tA u37 1 (u37.1 1) x1).1 1) x2) 3 ((tA (tA u37 1 (u37.1 1) x1) 2 ((tA u37 1 (u37.1 1) x1).1 1) x2).1 1) x3) 4 ((tA (tA (tA u37 1 (u37.1 1) x1) 2 ((tA u37 1 (u37.1 1) x1).1 1) x2) 3 ((tA (tA u37 1 (u37.1 1) x1) 2 ((tA u37 1 (u37.1 1) x1).1 1) x2).1 1) x3).1 1) x4).1 1) x5)))))))))))) x5 1 127 u26)))) x4 1 1440 u14)))) x3 0 1439 u3)))) x1 x2 u)
set_option maxRecDepth 100000 in
set_option maxHeartbeats 4000000 in
theorem k_M_ride_113 {p : Program} {l : Launch} {e : Env} {s : State} {m : MethodId} {args : Array Value} {below : List Frame} {meth : Method} {c : Code} {dC : Nat → ClassId} {dI : Nat → Nat → Nat} {cA : ClassId} {a : Nat → Nat} {A : Nat → Prop} (hC : tC p s m meth c args b_M_ride 7 (some .int) wsA R_M A) (post : Int32 → tS → Prop) : ∀ n : Nat, ∀ (x6 : Int32) (u : tS) (H : Heap) (locs : List Loc) (ls : Array Slot), w_M_ride_113 post n x6 u → tX (dC, dI) twCl [(cA, .int)] A s H locs (wdM a cA u) → lv_has ls 7 [(0, .ref (a 0)), (6, .int x6)] → W p l e ({ frames := 3, cells := 0, slots := 0, locals := 65 }) s m args below meth c H locs 0 0 (MQ below (va_Qi post (tB (dC, dI) twCl [(cA, .int)] A (wdM a cA)) A) args s 0 0 A) (F0 m 113 ls []) := by
  obtain ⟨hx, hb, hr, hml, hown, hts, hlocks, hA, hN⟩ := id hC
  intro n
  induction n with
  | zero => intro x6 u H locs ls hw; exact False.elim hw
  | succ n ih =>
    intro x6 u H locs ls hw hI hl
    refine lv_iload hx hb d_M_ride_113 (lv_at hl 1 rfl) ?_
    refine lv_bipush (v := 7) hx hb d_M_ride_115 (by decide) ?_
    refine lv_icmp_ge (tgt := 142) hx hb d_M_ride_117 (by decide) (fun hc => ?_) (fun hc => ?_)
    · have hw := hw.1 hc
      refine lv_aload_n hx hb d_M_ride_142 rfl (lv_at hl 0 rfl) ?_
      refine lv_dup hx hb d_M_ride_143 rfl ?_
      refine va_get (D := (dC, dI)) (C := R_M) (T := F_M) (N := 22) hx hb hts in_M hown hI.1 hI.2.1 0 (wdM_o0 a cA _) rfl 2 (by decide) (hts _ wA_591) (fun _ h9 => h9) rfl d_M_ride_144 ?_
      refine lv_iconst (v := 1) hx hb d_M_ride_147 (by decide) ?_
      refine lv_iadd hx hb d_M_ride_148 ?_
      refine tr_put (C := R_M) (T := F_M) (N := 22) (w := wdM a cA) hx hb hts in_M ft_M ft_M_ok fn_M hown hI 0 1 (wdM_o0 a cA _) rfl 2 (by decide) (hts _ wA_591) rfl (by decide +kernel) (Nat.le_of_ble_eq_true rfl) (wdM_i1 a cA _ _) d_M_ride_149 (fun H locs hI => ?_)
      refine lv_aload_n hx hb d_M_ride_152 rfl (lv_at hl 0 rfl) ?_
      refine va_get (D := (dC, dI)) (C := R_M) (T := F_M) (N := 22) hx hb hts in_M hown hI.1 hI.2.1 0 (wdM_o0 a cA _) rfl 2 (by decide) (hts _ wA_591) (fun _ h9 => h9) rfl d_M_ride_153 ?_
      refine lv_iconst (v := 1) hx hb d_M_ride_156 (by decide) ?_
      refine lv_isub hx hb d_M_ride_157 ?_
      exact tr_iret hx hb hr hlocks hI hw d_M_ride_158
    · have hw := hw.2 hc
      refine lv_aload_n hx hb d_M_ride_120 rfl (lv_at hl 0 rfl) ?_
      refine va_get (D := (dC, dI)) (C := R_M) (T := F_M) (N := 22) hx hb hts in_M hown hI.1 hI.2.1 0 (wdM_o0 a cA _) rfl 8 (by decide) (hts _ wA_597) (fun _ h9 => h9) rfl d_M_ride_121 ?_
      refine lv_bipush (v := 7) hx hb d_M_ride_124 (by decide) ?_
      refine lv_aload_n hx hb d_M_ride_126 rfl (lv_at hl 0 rfl) ?_
      refine va_get (D := (dC, dI)) (C := R_M) (T := F_M) (N := 22) hx hb hts in_M hown hI.1 hI.2.1 0 (wdM_o0 a cA _) rfl 2 (by decide) (hts _ wA_591) (fun _ h9 => h9) rfl d_M_ride_127 ?_
      refine lv_imul hx hb d_M_ride_130 ?_
      refine lv_iload hx hb d_M_ride_131 (lv_at hl 1 rfl) ?_
      refine lv_iadd hx hb d_M_ride_133 ?_
      refine lv_iconst (v := 0) hx hb d_M_ride_134 (by decide) ?_
      obtain ⟨hi, hw⟩ := hw
      refine tr_iast (w := wdM a cA) hx hb hI 7 0 6 (wdM_o7 a cA _) rfl (wdM_a6 a cA _ _ _) hi d_M_ride_135 (fun H locs hI => ?_)
      refine lv_iinc (v := (x6 + 1)) (lv' := [(6, .int (x6 + 1)), (0, .ref (a 0))]) hx hb d_M_ride_136 hl (k := 1) rfl rfl (by decide) rfl (fun ls hl => ?_)
      refine lv_goto (tgt := 113) hx hb d_M_ride_139 (by decide) ?_
      exact ih _ _ _ _ ls hw hI (lv_sub hl [1, 0] rfl)
set_option maxRecDepth 100000 in
set_option maxHeartbeats 4000000 in
theorem c_M_ride (l : Launch) (dC : Nat → ClassId) (dI : Nat → Nat → Nat) (cA : ClassId) (a : Nat → Nat) (u : tS) (x1 : Int32) (x2 : Int32) (x3 : Int32) (x4 : Int32) (x5 : Int32) (post : Int32 → tS → Prop) (sz : Nat) : Met l y_M_ride ws_M_ride ({ frames := 3, cells := 0, slots := 0, locals := 65 }) (va_Pc [.ref (a 0), .int x1, .int x2, .int x3, .int x4, .int x5] (tP (dC, dI) twCl [(cA, .int)] (wdM a cA) u sz (w_M_ride post x1 x2 x3 x4 x5 u))) (va_Qi post (tB (dC, dI) twCl [(cA, .int)] (va_A (wdM a cA u) sz) (wdM a cA)) (va_A (wdM a cA u) sz)) 0 0 (va_A (wdM a cA u) sz) := by
  refine Met.ofW (cc := b_M_ride) (maxL := 7) (ret := (some .int)) (by decide) rfl ?_
  intro p e s m args below meth c s₁ B hml hv
  obtain ⟨rfl, hsz, hP, hK, hD0, hN, hw⟩ := hv
  have hx := B.exec
  have hb := B.bytes
  have hr := B.returns
  have hts : ∀ w ∈ wsA, w.before _ s = true := fun w h => atoms_spec (ws := ws_M_ride) B.pre w (List.mem_cons_of_mem _ h)
  have hown : s.vm.findClass R_M = some m.cls := findClass_of_methodNamed B.named
  have hlocks := B.notSynchronized
  subst hsz
  have hD := hD0.self (sz := s.heap.size)
  generalize hAe : va_A (wdM a cA u) s.heap.size = A at hD ⊢
  have hA : ∀ q : Nat, s.heap.size ≤ q → A q := fun q h => by rw [← hAe]; exact Or.inr h
  have hS : va_S A s.heap s.heap [] := va_S.rf
  have hI : tX (dC, dI) twCl [(cA, .int)] A s s.heap [] (wdM a cA u) := ⟨hK, hP, hD, hS⟩
  have hC : tC p s m meth c ([.ref (a 0), .int x1, .int x2, .int x3, .int x4, .int x5] : List Value).toArray b_M_ride 7 (some .int) wsA R_M A := ⟨hx, hb, hr, hml, hown, hts, hlocks, hA, hN⟩
  have hl := lv_entry ([.ref (a 0), .int x1, .int x2, .int x3, .int x4, .int x5]) (n := 7) (Nat.le_of_ble_eq_true rfl)
  rw [lg_entry_eq]
  generalize (lg_sl ([.ref (a 0), .int x1, .int x2, .int x3, .int x4, .int x5]) ++ List.replicate (7 - (lg_sl ([.ref (a 0), .int x1, .int x2, .int x3, .int x4, .int x5])).length) Slot.unset).toArray = ls at hl ⊢
  have hl : lv_has ls 7 [(0, .ref (a 0)), (1, .int x1), (2, .int x2), (3, .int x3), (4, .int x4), (5, .int x5)] := hl
  have hw : (w_M_areTwo (fun r3 u3 => ((r3 = 0 → (post (-2) u3)) ∧ (¬ r3 = 0 → (w_M_isIn (fun r14 u14 => ((r14 = 0 → (post (-2) u14)) ∧ (¬ r14 = 0 → (w_M_isIn (fun r26 u26 => ((r26 = 0 → (post (-2) u26)) ∧ (¬ r26 = 0 → (w_M_isIn (fun r37 u37 => ((r37 = 0 → (post (-2) u37)) ∧ (¬ r37 = 0 → (((u37.1 1) = 40 → (post (-3) u37)) ∧ (¬ (u37.1 1) = 40 → (vp_in (u37.1 1) 40 ∧ (vp_in ((tA u37 1 (u37.1 1) x1).1 1) 40 ∧ (vp_in ((tA (tA u37 1 (u37.1 1) x1) 2 ((tA u37 1 (u37.1 1) x1).1 1) x2).1 1) 40 ∧ (vp_in ((tA (tA (tA u37 1 (u37.1 1) x1) 2 ((tA u37 1 (u37.1 1) x1).1 1) x2) 3 ((tA (tA u37 1 (u37.1 1) x1) 2 ((tA u37 1 (u37.1 1) x1).1 1) x2).1 1) x3).1 1) 40 ∧ (vp_in ((tA (tA (tA (tA u37 1 (u37.1 1) x1) 2 ((tA u37 1 (u37.1 1) x1).1 1) x2) 3 ((tA (tA u37 1 (u37.1 1) x1) 2 ((tA u37 1 (u37.1 1) x1).1 1) x2).1 1) x3) 4 ((tA (tA (tA u37 1 (u37.1 1) x1) 2 ((tA u37 1 (u37.1 1) x1).1 1) x2) 3 ((tA (tA u37 1 (u37.1 1) x1) 2 ((tA u37 1 (u37.1 1) x1).1 1) x2).1 1) x3).1 1) x4).1 1) 40 ∧ (∃ k, w_M_ride_113 post k 0 (tA (tA (tA (tA (tA u37 1 (u37.1 1) x1) 2 ((tA u37 1 (u37.1 1) x1).1 1) x2) 3 ((tA (tA u37 1 (u37.1 1) x1) 2 ((tA u37 1 (u37.1 1) x1).1 1) x2).1 1) x3) 4 ((tA (tA (tA u37 1 (u37.1 1) x1) 2 ((tA u37 1 (u37.1 1) x1).1 1) x2) 3 ((tA (tA u37 1 (u37.1 1) x1) 2 ((tA u37 1 (u37.1 1) x1).1 1) x2).1 1) x3).1 1) x4) 5 ((tA (tA (tA (tA u37 1 (u37.1 1) x1) 2 ((tA u37 1 (u37.1 1) x1).1 1) x2) 3 ((tA (tA u37 1 (u37.1 1) x1) 2 ((tA u37 1 (u37.1 1) x1).1 1) x2).1 1) x3) 4 ((tA (tA (tA u37 1 (u37.1 1) x1) 2 ((tA u37 1 (u37.1 1) x1).1 1) x2) 3 ((tA (tA u37 1 (u37.1 1) x1) 2 ((tA u37 1 (u37.1 1) x1).1 1) x2).1 1) x3).1 1) x4).1 1) x5)))))))))))) x5 1 127 u26)))) x4 1 1440 u14)))) x3 0 1439 u3)))) x1 x2 u) := hw
  refine lv_aload_n hx hb d_M_ride_0 rfl (lv_at hl 0 rfl) ?_
  refine lv_iload_n hx hb d_M_ride_1 rfl (lv_at hl 1 rfl) ?_
  refine lv_iload_n hx hb d_M_ride_2 rfl (lv_at hl 2 rfl) ?_
  refine tr_goi (w := wdM a cA) hI hA (va_runV (As := [.int x1, .int x2]) (rest := []) ⟨hx, hb, hml, hown, hts⟩ (c_M_areTwo l dC dI cA a _ _ _ _ _) (cwV 2 hts (wsA_goodV wA_679 wA_681 wA_10 wA_40 wA_682) rfl rfl rfl (by decide +kernel) ⟨Nat.le_of_ble_eq_true rfl, Nat.le_of_ble_eq_true rfl⟩) (tr_preV (ci := 9) (q0 := 0) hI rfl (wdM_o0 a cA _) rfl hN hw) rfl rfl hl.1 rfl (lv_room (Nat.le_of_ble_eq_true rfl)) d_M_ride_3 ⟨Nat.zero_le _, Nat.zero_le _⟩) (fun r3 u3 H locs hw hI => ?_)
  refine lv_if_eq (tgt := 43) hx hb d_M_ride_6 (by decide) (fun hc => ?_) (fun hc => ?_)
  · have hw := hw.1 hc
    refine lv_bipush (v := (-2)) hx hb d_M_ride_43 (by decide) ?_
    exact tr_iret hx hb hr hlocks hI hw d_M_ride_45
  · have hw := hw.2 hc
    refine lv_iload_n hx hb d_M_ride_9 rfl (lv_at hl 3 rfl) ?_
    refine lv_iconst (v := 0) hx hb d_M_ride_10 (by decide) ?_
    refine lv_sipush (v := 1439) hx hb d_M_ride_11 (by decide) ?_
    refine tr_goi (w := wdM a cA) hI hA (va_runS (As := [.int x3, .int 0, .int 1439]) (rest := []) ⟨hx, hb, hml, hown, hts⟩ (c_M_isIn l dC dI cA a _ _ _ _ _ _) ⟨callB_of 3 hts (wsA_good wA_666) rfl rfl rfl (hts _ wA_40) (hts _ wA_664) (by decide +kernel) ⟨Nat.le_of_ble_eq_true rfl, Nat.le_of_ble_eq_true rfl⟩, hts _ wA_665⟩ (tr_preS hI hN hw) rfl rfl hl.1 rfl (lv_room (Nat.le_of_ble_eq_true rfl)) d_M_ride_14 ⟨Nat.zero_le _, Nat.zero_le _⟩) (fun r14 u14 H locs hw hI => ?_)
    refine lv_if_eq (tgt := 43) hx hb d_M_ride_17 (by decide) (fun hc => ?_) (fun hc => ?_)
    · have hw := hw.1 hc
      refine lv_bipush (v := (-2)) hx hb d_M_ride_43 (by decide) ?_
      exact tr_iret hx hb hr hlocks hI hw d_M_ride_45
    · have hw := hw.2 hc
      refine lv_iload hx hb d_M_ride_20 (lv_at hl 4 rfl) ?_
      refine lv_iconst (v := 1) hx hb d_M_ride_22 (by decide) ?_
      refine lv_sipush (v := 1440) hx hb d_M_ride_23 (by decide) ?_
      refine tr_goi (w := wdM a cA) hI hA (va_runS (As := [.int x4, .int 1, .int 1440]) (rest := []) ⟨hx, hb, hml, hown, hts⟩ (c_M_isIn l dC dI cA a _ _ _ _ _ _) ⟨callB_of 3 hts (wsA_good wA_666) rfl rfl rfl (hts _ wA_40) (hts _ wA_664) (by decide +kernel) ⟨Nat.le_of_ble_eq_true rfl, Nat.le_of_ble_eq_true rfl⟩, hts _ wA_665⟩ (tr_preS hI hN hw) rfl rfl hl.1 rfl (lv_room (Nat.le_of_ble_eq_true rfl)) d_M_ride_26 ⟨Nat.zero_le _, Nat.zero_le _⟩) (fun r26 u26 H locs hw hI => ?_)
      refine lv_if_eq (tgt := 43) hx hb d_M_ride_29 (by decide) (fun hc => ?_) (fun hc => ?_)
      · have hw := hw.1 hc
        refine lv_bipush (v := (-2)) hx hb d_M_ride_43 (by decide) ?_
        exact tr_iret hx hb hr hlocks hI hw d_M_ride_45
      · have hw := hw.2 hc
        refine lv_iload hx hb d_M_ride_32 (lv_at hl 5 rfl) ?_
        refine lv_iconst (v := 1) hx hb d_M_ride_34 (by decide) ?_
        refine lv_bipush (v := 127) hx hb d_M_ride_35 (by decide) ?_
        refine tr_goi (w := wdM a cA) hI hA (va_runS (As := [.int x5, .int 1, .int 127]) (rest := []) ⟨hx, hb, hml, hown, hts⟩ (c_M_isIn l dC dI cA a _ _ _ _ _ _) ⟨callB_of 3 hts (wsA_good wA_666) rfl rfl rfl (hts _ wA_40) (hts _ wA_664) (by decide +kernel) ⟨Nat.le_of_ble_eq_true rfl, Nat.le_of_ble_eq_true rfl⟩, hts _ wA_665⟩ (tr_preS hI hN hw) rfl rfl hl.1 rfl (lv_room (Nat.le_of_ble_eq_true rfl)) d_M_ride_37 ⟨Nat.zero_le _, Nat.zero_le _⟩) (fun r37 u37 H locs hw hI => ?_)
        refine lv_if_ne (tgt := 46) hx hb d_M_ride_40 (by decide) (fun hc => ?_) (fun hc => ?_)
        · have hw := hw.2 hc
          refine lv_aload_n hx hb d_M_ride_46 rfl (lv_at hl 0 rfl) ?_
          refine va_get (D := (dC, dI)) (C := R_M) (T := F_M) (N := 22) hx hb hts in_M hown hI.1 hI.2.1 0 (wdM_o0 a cA _) rfl 2 (by decide) (hts _ wA_591) (fun _ h9 => h9) rfl d_M_ride_47 ?_
          refine lv_bipush (v := 40) hx hb d_M_ride_50 (by decide) ?_
          refine lv_icmp_ne (tgt := 58) hx hb d_M_ride_52 (by decide) (fun hc => ?_) (fun hc => ?_)
          · have hw := hw.2 hc
            refine lv_aload_n hx hb d_M_ride_58 rfl (lv_at hl 0 rfl) ?_
            refine va_get (D := (dC, dI)) (C := R_M) (T := F_M) (N := 22) hx hb hts in_M hown hI.1 hI.2.1 0 (wdM_o0 a cA _) rfl 3 (by decide) (hts _ wA_592) (fun _ h9 => h9) rfl d_M_ride_59 ?_
            refine lv_aload_n hx hb d_M_ride_62 rfl (lv_at hl 0 rfl) ?_
            refine va_get (D := (dC, dI)) (C := R_M) (T := F_M) (N := 22) hx hb hts in_M hown hI.1 hI.2.1 0 (wdM_o0 a cA _) rfl 2 (by decide) (hts _ wA_591) (fun _ h9 => h9) rfl d_M_ride_63 ?_
            refine lv_iload_n hx hb d_M_ride_66 rfl (lv_at hl 1 rfl) ?_
            obtain ⟨hi, hw⟩ := hw
            refine tr_iast (w := wdM a cA) hx hb hI 2 0 1 (wdM_o2 a cA _) rfl (wdM_a1 a cA _ _ _) hi d_M_ride_67 (fun H locs hI => ?_)
            refine lv_aload_n hx hb d_M_ride_68 rfl (lv_at hl 0 rfl) ?_
            refine va_get (D := (dC, dI)) (C := R_M) (T := F_M) (N := 22) hx hb hts in_M hown hI.1 hI.2.1 0 (wdM_o0 a cA _) rfl 4 (by decide) (hts _ wA_593) (fun _ h9 => h9) rfl d_M_ride_69 ?_
            refine lv_aload_n hx hb d_M_ride_72 rfl (lv_at hl 0 rfl) ?_
            refine va_get (D := (dC, dI)) (C := R_M) (T := F_M) (N := 22) hx hb hts in_M hown hI.1 hI.2.1 0 (wdM_o0 a cA _) rfl 2 (by decide) (hts _ wA_591) (fun _ h9 => h9) rfl d_M_ride_73 ?_
            refine lv_iload_n hx hb d_M_ride_76 rfl (lv_at hl 2 rfl) ?_
            obtain ⟨hi, hw⟩ := hw
            refine tr_iast (w := wdM a cA) hx hb hI 3 0 2 (wdM_o3 a cA _) rfl (wdM_a2 a cA _ _ _) hi d_M_ride_77 (fun H locs hI => ?_)
            refine lv_aload_n hx hb d_M_ride_78 rfl (lv_at hl 0 rfl) ?_
            refine va_get (D := (dC, dI)) (C := R_M) (T := F_M) (N := 22) hx hb hts in_M hown hI.1 hI.2.1 0 (wdM_o0 a cA _) rfl 5 (by decide) (hts _ wA_594) (fun _ h9 => h9) rfl d_M_ride_79 ?_
            refine lv_aload_n hx hb d_M_ride_82 rfl (lv_at hl 0 rfl) ?_
            refine va_get (D := (dC, dI)) (C := R_M) (T := F_M) (N := 22) hx hb hts in_M hown hI.1 hI.2.1 0 (wdM_o0 a cA _) rfl 2 (by decide) (hts _ wA_591) (fun _ h9 => h9) rfl d_M_ride_83 ?_
            refine lv_iload_n hx hb d_M_ride_86 rfl (lv_at hl 3 rfl) ?_
            obtain ⟨hi, hw⟩ := hw
            refine tr_iast (w := wdM a cA) hx hb hI 4 0 3 (wdM_o4 a cA _) rfl (wdM_a3 a cA _ _ _) hi d_M_ride_87 (fun H locs hI => ?_)
            refine lv_aload_n hx hb d_M_ride_88 rfl (lv_at hl 0 rfl) ?_
            refine va_get (D := (dC, dI)) (C := R_M) (T := F_M) (N := 22) hx hb hts in_M hown hI.1 hI.2.1 0 (wdM_o0 a cA _) rfl 6 (by decide) (hts _ wA_595) (fun _ h9 => h9) rfl d_M_ride_89 ?_
            refine lv_aload_n hx hb d_M_ride_92 rfl (lv_at hl 0 rfl) ?_
            refine va_get (D := (dC, dI)) (C := R_M) (T := F_M) (N := 22) hx hb hts in_M hown hI.1 hI.2.1 0 (wdM_o0 a cA _) rfl 2 (by decide) (hts _ wA_591) (fun _ h9 => h9) rfl d_M_ride_93 ?_
            refine lv_iload hx hb d_M_ride_96 (lv_at hl 4 rfl) ?_
            obtain ⟨hi, hw⟩ := hw
            refine tr_iast (w := wdM a cA) hx hb hI 5 0 4 (wdM_o5 a cA _) rfl (wdM_a4 a cA _ _ _) hi d_M_ride_98 (fun H locs hI => ?_)
            refine lv_aload_n hx hb d_M_ride_99 rfl (lv_at hl 0 rfl) ?_
            refine va_get (D := (dC, dI)) (C := R_M) (T := F_M) (N := 22) hx hb hts in_M hown hI.1 hI.2.1 0 (wdM_o0 a cA _) rfl 7 (by decide) (hts _ wA_596) (fun _ h9 => h9) rfl d_M_ride_100 ?_
            refine lv_aload_n hx hb d_M_ride_103 rfl (lv_at hl 0 rfl) ?_
            refine va_get (D := (dC, dI)) (C := R_M) (T := F_M) (N := 22) hx hb hts in_M hown hI.1 hI.2.1 0 (wdM_o0 a cA _) rfl 2 (by decide) (hts _ wA_591) (fun _ h9 => h9) rfl d_M_ride_104 ?_
            refine lv_iload hx hb d_M_ride_107 (lv_at hl 5 rfl) ?_
            obtain ⟨hi, hw⟩ := hw
            refine tr_iast (w := wdM a cA) hx hb hI 6 0 5 (wdM_o6 a cA _) rfl (wdM_a5 a cA _ _ _) hi d_M_ride_109 (fun H locs hI => ?_)
            refine lv_iconst (v := 0) hx hb d_M_ride_110 (by decide) ?_
            refine lv_istore (lv' := [(6, .int 0), (0, .ref (a 0)), (1, .int x1), (2, .int x2), (3, .int x3), (4, .int x4), (5, .int x5)]) hx hb d_M_ride_111 hl (by decide) rfl (fun ls hl => ?_)
            obtain ⟨k, hw⟩ := hw
            exact k_M_ride_113 hC post k _ _ _ _ ls hw hI (lv_sub hl [1, 0] rfl)
          · have hw := hw.1 hc
            refine lv_bipush (v := (-3)) hx hb d_M_ride_55 (by decide) ?_
            exact tr_iret hx hb hr hlocks hI hw d_M_ride_57
        · have hw := hw.1 hc
          refine lv_bipush (v := (-2)) hx hb d_M_ride_43 (by decide) ?_
          exact tr_iret hx hb hr hlocks hI hw d_M_ride_45
