def w_M_isBy (post : Int32 → tS → Prop) (x1 : Int32) (x2 : Int32) (x3 : Int32) (x4 : Int32) (u : tS) : Prop := (w_M_find (fun u3 => (w_M_arrival (fun r8 u8 => ((x4 < r8 → (post 0 u8)) ∧ (¬ x4 < r8 → (post 1 u8)))) x2 u3)) x1 x3 u)
set_option maxRecDepth 100000 in
set_option maxHeartbeats 4000000 in
theorem c_M_isBy (l : Launch) (dC : Nat → ClassId) (dI : Nat → Nat → Nat) (cA : ClassId) (a : Nat → Nat) (u : tS) (x1 : Int32) (x2 : Int32) (x3 : Int32) (x4 : Int32) (post : Int32 → tS → Prop) (sz : Nat) : Met l y_M_isBy ws_M_isBy ({ frames := 5, cells := 0, slots := 0, locals := 111 }) (va_Pc [.ref (a 0), .int x1, .int x2, .int x3, .int x4] (tP (dC, dI) twCl [(cA, .int)] (wdM a cA) u sz (w_M_isBy post x1 x2 x3 x4 u))) (va_Qi post (tB (dC, dI) twCl [(cA, .int)] (va_A (wdM a cA u) sz) (wdM a cA)) (va_A (wdM a cA u) sz)) 0 0 (va_A (wdM a cA u) sz) := by
  refine Met.ofW (cc := b_M_isBy) (maxL := 5) (ret := (some .boolean)) (by decide) rfl ?_
  intro p e s m args below meth c s₁ B hml hv
  obtain ⟨rfl, hsz, hP, hK, hD0, hN, hw⟩ := hv
  have hx := B.exec
  have hb := B.bytes
  have hr := B.returns
  have hts : ∀ w ∈ wsA, w.before _ s = true := fun w h => atoms_spec (ws := ws_M_isBy) B.pre w (List.mem_cons_of_mem _ h)
  have hown : s.vm.findClass R_M = some m.cls := findClass_of_methodNamed B.named
  have hlocks := B.notSynchronized
  subst hsz
  have hD := hD0.self (sz := s.heap.size)
  generalize hAe : va_A (wdM a cA u) s.heap.size = A at hD ⊢
  have hA : ∀ q : Nat, s.heap.size ≤ q → A q := fun q h => by rw [← hAe]; exact Or.inr h
  have hS : va_S A s.heap s.heap [] := va_S.rf
  have hI : tX (dC, dI) twCl [(cA, .int)] A s s.heap [] (wdM a cA u) := ⟨hK, hP, hD, hS⟩
  have hC : tC p s m meth c ([.ref (a 0), .int x1, .int x2, .int x3, .int x4] : List Value).toArray b_M_isBy 5 (some .boolean) wsA R_M A := ⟨hx, hb, hr, hml, hown, hts, hlocks, hA, hN⟩
  have hl := lv_entry ([.ref (a 0), .int x1, .int x2, .int x3, .int x4]) (n := 5) (Nat.le_of_ble_eq_true rfl)
  rw [lg_entry_eq]
  generalize (lg_sl ([.ref (a 0), .int x1, .int x2, .int x3, .int x4]) ++ List.replicate (5 - (lg_sl ([.ref (a 0), .int x1, .int x2, .int x3, .int x4])).length) Slot.unset).toArray = ls at hl ⊢
  have hl : lv_has ls 5 [(0, .ref (a 0)), (1, .int x1), (2, .int x2), (3, .int x3), (4, .int x4)] := hl
  have hw : (w_M_find (fun u3 => (w_M_arrival (fun r8 u8 => ((x4 < r8 → (post 0 u8)) ∧ (¬ x4 < r8 → (post 1 u8)))) x2 u3)) x1 x3 u) := hw
  refine lv_aload_n hx hb d_M_isBy_0 rfl (lv_at hl 0 rfl) ?_
  refine lv_iload_n hx hb d_M_isBy_1 rfl (lv_at hl 1 rfl) ?_
  refine lv_iload_n hx hb d_M_isBy_2 rfl (lv_at hl 3 rfl) ?_
  refine tr_gov (w := wdM a cA) hI hA (va_runV (As := [.int x1, .int x3]) (rest := []) ⟨hx, hb, hml, hown, hts⟩ (c_M_find l dC dI cA a _ _ _ _ _) (cwV 2 hts (wsA_goodV wA_711 wA_713 wA_15 wA_40 wA_714) rfl rfl rfl (by decide +kernel) ⟨Nat.le_of_ble_eq_true rfl, Nat.le_of_ble_eq_true rfl⟩) (tr_preV (ci := 9) (q0 := 0) hI rfl (wdM_o0 a cA _) rfl hN hw) rfl rfl hl.1 rfl (lv_room (Nat.le_of_ble_eq_true rfl)) d_M_isBy_3 ⟨Nat.zero_le _, Nat.zero_le _⟩) (fun u3 H locs hw hI => ?_)
  refine lv_aload_n hx hb d_M_isBy_6 rfl (lv_at hl 0 rfl) ?_
  refine lv_iload_n hx hb d_M_isBy_7 rfl (lv_at hl 2 rfl) ?_
  refine tr_goi (w := wdM a cA) hI hA (va_runV (As := [.int x2]) (rest := []) ⟨hx, hb, hml, hown, hts⟩ (c_M_arrival l dC dI cA a _ _ _ _) (cwV 1 hts (wsA_goodV wA_724 wA_726 wA_18 wA_40 wA_727) rfl rfl rfl (by decide +kernel) ⟨Nat.le_of_ble_eq_true rfl, Nat.le_of_ble_eq_true rfl⟩) (tr_preV (ci := 9) (q0 := 0) hI rfl (wdM_o0 a cA _) rfl hN hw) rfl rfl hl.1 rfl (lv_room (Nat.le_of_ble_eq_true rfl)) d_M_isBy_8 ⟨Nat.zero_le _, Nat.zero_le _⟩) (fun r8 u8 H locs hw hI => ?_)
  refine lv_iload hx hb d_M_isBy_11 (lv_at hl 4 rfl) ?_
  refine lv_icmp_gt (tgt := 20) hx hb d_M_isBy_13 (by decide) (fun hc => ?_) (fun hc => ?_)
  · have hw := hw.1 hc
    refine lv_iconst (v := 0) hx hb d_M_isBy_20 (by decide) ?_
    exact tr_zret hx hb hr hlocks hI rfl hw d_M_isBy_21
  · have hw := hw.2 hc
    refine lv_iconst (v := 1) hx hb d_M_isBy_16 (by decide) ?_
    refine lv_goto (tgt := 21) hx hb d_M_isBy_17 (by decide) ?_
    exact tr_zret hx hb hr hlocks hI rfl hw d_M_isBy_21
def w_M_latest_38 (post : Int32 → tS → Prop) : Nat → Int32 → Int32 → Int32 → Int32 → Int32 → tS → Prop
  | 0 => fun _ _ _ _ _ _ => False
  | n + 1 => fun x1 x2 x3 x4 x5 u => ((x5 ≤ x4 → (post x4 u)) ∧ (¬ x5 ≤ x4 → (w_M_isBy (fun r62 u62 => ((r62 = 0 → (w_M_latest_38 post n x1 x2 x3 x4 ((((x4 + x5) + 1) / 2) - 1) u62)) ∧ (¬ r62 = 0 → (w_M_latest_38 post n x1 x2 x3 (((x4 + x5) + 1) / 2) x5 u62)))) x1 x2 (((x4 + x5) + 1) / 2) x3 u)))
def w_M_latest (post : Int32 → tS → Prop) (x1 : Int32) (x2 : Int32) (x3 : Int32) (u : tS) : Prop := (w_M_isStop (fun r2 u2 => ((r2 = 0 → (post (-2) u2)) ∧ (¬ r2 = 0 → (w_M_isStop (fun r10 u10 => ((r10 = 0 → (post (-2) u10)) ∧ (¬ r10 = 0 → (w_M_isIn (fun r21 u21 => ((r21 = 0 → (post (-2) u21)) ∧ (¬ r21 = 0 → (∃ k, w_M_latest_38 post k x1 x2 x3 (-1) 10079 u21)))) x3 0 20000 u10)))) x2 u2)))) x1 u)
set_option maxRecDepth 100000 in
set_option maxHeartbeats 4000000 in
theorem k_M_latest_38 {p : Program} {l : Launch} {e : Env} {s : State} {m : MethodId} {args : Array Value} {below : List Frame} {meth : Method} {c : Code} {dC : Nat → ClassId} {dI : Nat → Nat → Nat} {cA : ClassId} {a : Nat → Nat} {A : Nat → Prop} (hC : tC p s m meth c args b_M_latest 7 (some .int) wsA R_M A) (post : Int32 → tS → Prop) : ∀ n : Nat, ∀ (x1 x2 x3 x4 x5 : Int32) (u : tS) (H : Heap) (locs : List Loc) (ls : Array Slot), w_M_latest_38 post n x1 x2 x3 x4 x5 u → tX (dC, dI) twCl [(cA, .int)] A s H locs (wdM a cA u) → lv_has ls 7 [(0, .ref (a 0)), (1, .int x1), (2, .int x2), (3, .int x3), (4, .int x4), (5, .int x5)] → W p l e ({ frames := 6, cells := 0, slots := 0, locals := 135 }) s m args below meth c H locs 0 0 (MQ below (va_Qi post (tB (dC, dI) twCl [(cA, .int)] A (wdM a cA)) A) args s 0 0 A) (F0 m 38 ls []) := by
  obtain ⟨hx, hb, hr, hml, hown, hts, hlocks, hA, hN⟩ := id hC
  intro n
  induction n with
  | zero => intro x1 x2 x3 x4 x5 u H locs ls hw; exact False.elim hw
  | succ n ih =>
    intro x1 x2 x3 x4 x5 u H locs ls hw hI hl
    refine lv_iload hx hb d_M_latest_38 (lv_at hl 4 rfl) ?_
    refine lv_iload hx hb d_M_latest_40 (lv_at hl 5 rfl) ?_
    refine lv_icmp_ge (tgt := 84) hx hb d_M_latest_42 (by decide) (fun hc => ?_) (fun hc => ?_)
    · have hw := hw.1 hc
      refine lv_iload hx hb d_M_latest_84 (lv_at hl 4 rfl) ?_
      exact tr_iret hx hb hr hlocks hI hw d_M_latest_86
    · have hw := hw.2 hc
      refine lv_iload hx hb d_M_latest_45 (lv_at hl 4 rfl) ?_
      refine lv_iload hx hb d_M_latest_47 (lv_at hl 5 rfl) ?_
      refine lv_iadd hx hb d_M_latest_49 ?_
      refine lv_iconst (v := 1) hx hb d_M_latest_50 (by decide) ?_
      refine lv_iadd hx hb d_M_latest_51 ?_
      refine lv_iconst (v := 2) hx hb d_M_latest_52 (by decide) ?_
      refine lv_idiv hx hb d_M_latest_53 (by decide) ?_
      refine lv_istore (lv' := [(6, .int (((x4 + x5) + 1) / 2)), (0, .ref (a 0)), (1, .int x1), (2, .int x2), (3, .int x3), (4, .int x4), (5, .int x5)]) hx hb d_M_latest_54 hl (by decide) rfl (fun ls hl => ?_)
      refine lv_aload_n hx hb d_M_latest_56 rfl (lv_at hl 1 rfl) ?_
      refine lv_iload_n hx hb d_M_latest_57 rfl (lv_at hl 2 rfl) ?_
      refine lv_iload_n hx hb d_M_latest_58 rfl (lv_at hl 3 rfl) ?_
      refine lv_iload hx hb d_M_latest_59 (lv_at hl 0 rfl) ?_
      refine lv_iload_n hx hb d_M_latest_61 rfl (lv_at hl 4 rfl) ?_
      refine tr_goi (w := wdM a cA) hI hA (va_runV (As := [.int x1, .int x2, .int (((x4 + x5) + 1) / 2), .int x3]) (rest := []) ⟨hx, hb, hml, hown, hts⟩ (c_M_isBy l dC dI cA a _ _ _ _ _ _ _) (cwV 4 hts (wsA_goodV wA_752 wA_754 wA_24 wA_40 wA_755) rfl rfl rfl (by decide +kernel) ⟨Nat.le_of_ble_eq_true rfl, Nat.le_of_ble_eq_true rfl⟩) (tr_preV (ci := 9) (q0 := 0) hI rfl (wdM_o0 a cA _) rfl hN hw) rfl rfl hl.1 rfl (lv_room (Nat.le_of_ble_eq_true rfl)) d_M_latest_62 ⟨Nat.zero_le _, Nat.zero_le _⟩) (fun r62 u62 H locs hw hI => ?_)
      refine lv_if_eq (tgt := 75) hx hb d_M_latest_65 (by decide) (fun hc => ?_) (fun hc => ?_)
      · have hw := hw.1 hc
        refine lv_iload hx hb d_M_latest_75 (lv_at hl 0 rfl) ?_
        refine lv_iconst (v := 1) hx hb d_M_latest_77 (by decide) ?_
        refine lv_isub hx hb d_M_latest_78 ?_
        refine lv_istore (lv' := [(5, .int ((((x4 + x5) + 1) / 2) - 1)), (6, .int (((x4 + x5) + 1) / 2)), (0, .ref (a 0)), (1, .int x1), (2, .int x2), (3, .int x3), (4, .int x4)]) hx hb d_M_latest_79 hl (by decide) rfl (fun ls hl => ?_)
        refine lv_goto (tgt := 38) hx hb d_M_latest_81 (by decide) ?_
        exact ih _ _ _ _ _ _ _ _ ls hw hI (lv_sub hl [2, 3, 4, 5, 6, 0] rfl)
      · have hw := hw.2 hc
        refine lv_iload hx hb d_M_latest_68 (lv_at hl 0 rfl) ?_
        refine lv_istore (lv' := [(4, .int (((x4 + x5) + 1) / 2)), (6, .int (((x4 + x5) + 1) / 2)), (0, .ref (a 0)), (1, .int x1), (2, .int x2), (3, .int x3), (5, .int x5)]) hx hb d_M_latest_70 hl (by decide) rfl (fun ls hl => ?_)
        refine lv_goto (tgt := 81) hx hb d_M_latest_72 (by decide) ?_
        refine lv_goto (tgt := 38) hx hb d_M_latest_81 (by decide) ?_
        exact ih _ _ _ _ _ _ _ _ ls hw hI (lv_sub hl [2, 3, 4, 5, 0, 6] rfl)
set_option maxRecDepth 100000 in
set_option maxHeartbeats 4000000 in
theorem c_M_latest (l : Launch) (dC : Nat → ClassId) (dI : Nat → Nat → Nat) (cA : ClassId) (a : Nat → Nat) (u : tS) (x1 : Int32) (x2 : Int32) (x3 : Int32) (post : Int32 → tS → Prop) (sz : Nat) : Met l y_M_latest ws_M_latest ({ frames := 6, cells := 0, slots := 0, locals := 135 }) (va_Pc [.ref (a 0), .int x1, .int x2, .int x3] (tP (dC, dI) twCl [(cA, .int)] (wdM a cA) u sz (w_M_latest post x1 x2 x3 u))) (va_Qi post (tB (dC, dI) twCl [(cA, .int)] (va_A (wdM a cA u) sz) (wdM a cA)) (va_A (wdM a cA u) sz)) 0 0 (va_A (wdM a cA u) sz) := by
  refine Met.ofW (cc := b_M_latest) (maxL := 7) (ret := (some .int)) (by decide) rfl ?_
  intro p e s m args below meth c s₁ B hml hv
  obtain ⟨rfl, hsz, hP, hK, hD0, hN, hw⟩ := hv
  have hx := B.exec
  have hb := B.bytes
  have hr := B.returns
  have hts : ∀ w ∈ wsA, w.before _ s = true := fun w h => atoms_spec (ws := ws_M_latest) B.pre w (List.mem_cons_of_mem _ h)
  have hown : s.vm.findClass R_M = some m.cls := findClass_of_methodNamed B.named
  have hlocks := B.notSynchronized
  subst hsz
  have hD := hD0.self (sz := s.heap.size)
  generalize hAe : va_A (wdM a cA u) s.heap.size = A at hD ⊢
  have hA : ∀ q : Nat, s.heap.size ≤ q → A q := fun q h => by rw [← hAe]; exact Or.inr h
  have hS : va_S A s.heap s.heap [] := va_S.rf
  have hI : tX (dC, dI) twCl [(cA, .int)] A s s.heap [] (wdM a cA u) := ⟨hK, hP, hD, hS⟩
  have hC : tC p s m meth c ([.ref (a 0), .int x1, .int x2, .int x3] : List Value).toArray b_M_latest 7 (some .int) wsA R_M A := ⟨hx, hb, hr, hml, hown, hts, hlocks, hA, hN⟩
  have hl := lv_entry ([.ref (a 0), .int x1, .int x2, .int x3]) (n := 7) (Nat.le_of_ble_eq_true rfl)
  rw [lg_entry_eq]
  generalize (lg_sl ([.ref (a 0), .int x1, .int x2, .int x3]) ++ List.replicate (7 - (lg_sl ([.ref (a 0), .int x1, .int x2, .int x3])).length) Slot.unset).toArray = ls at hl ⊢
  have hl : lv_has ls 7 [(0, .ref (a 0)), (1, .int x1), (2, .int x2), (3, .int x3)] := hl
  have hw : (w_M_isStop (fun r2 u2 => ((r2 = 0 → (post (-2) u2)) ∧ (¬ r2 = 0 → (w_M_isStop (fun r10 u10 => ((r10 = 0 → (post (-2) u10)) ∧ (¬ r10 = 0 → (w_M_isIn (fun r21 u21 => ((r21 = 0 → (post (-2) u21)) ∧ (¬ r21 = 0 → (∃ k, w_M_latest_38 post k x1 x2 x3 (-1) 10079 u21)))) x3 0 20000 u10)))) x2 u2)))) x1 u) := hw
  refine lv_aload_n hx hb d_M_latest_0 rfl (lv_at hl 0 rfl) ?_
  refine lv_iload_n hx hb d_M_latest_1 rfl (lv_at hl 1 rfl) ?_
  refine tr_goi (w := wdM a cA) hI hA (va_runV (As := [.int x1]) (rest := []) ⟨hx, hb, hml, hown, hts⟩ (c_M_isStop l dC dI cA a _ _ _ _) (cwV 1 hts (wsA_goodV wA_671 wA_673 wA_9 wA_40 wA_674) rfl rfl rfl (by decide +kernel) ⟨Nat.le_of_ble_eq_true rfl, Nat.le_of_ble_eq_true rfl⟩) (tr_preV (ci := 9) (q0 := 0) hI rfl (wdM_o0 a cA _) rfl hN hw) rfl rfl hl.1 rfl (lv_room (Nat.le_of_ble_eq_true rfl)) d_M_latest_2 ⟨Nat.zero_le _, Nat.zero_le _⟩) (fun r2 u2 H locs hw hI => ?_)
  refine lv_if_eq (tgt := 27) hx hb d_M_latest_5 (by decide) (fun hc => ?_) (fun hc => ?_)
  · have hw := hw.1 hc
    refine lv_bipush (v := (-2)) hx hb d_M_latest_27 (by decide) ?_
    exact tr_iret hx hb hr hlocks hI hw d_M_latest_29
  · have hw := hw.2 hc
    refine lv_aload_n hx hb d_M_latest_8 rfl (lv_at hl 0 rfl) ?_
    refine lv_iload_n hx hb d_M_latest_9 rfl (lv_at hl 2 rfl) ?_
    refine tr_goi (w := wdM a cA) hI hA (va_runV (As := [.int x2]) (rest := []) ⟨hx, hb, hml, hown, hts⟩ (c_M_isStop l dC dI cA a _ _ _ _) (cwV 1 hts (wsA_goodV wA_671 wA_673 wA_9 wA_40 wA_674) rfl rfl rfl (by decide +kernel) ⟨Nat.le_of_ble_eq_true rfl, Nat.le_of_ble_eq_true rfl⟩) (tr_preV (ci := 9) (q0 := 0) hI rfl (wdM_o0 a cA _) rfl hN hw) rfl rfl hl.1 rfl (lv_room (Nat.le_of_ble_eq_true rfl)) d_M_latest_10 ⟨Nat.zero_le _, Nat.zero_le _⟩) (fun r10 u10 H locs hw hI => ?_)
    refine lv_if_eq (tgt := 27) hx hb d_M_latest_13 (by decide) (fun hc => ?_) (fun hc => ?_)
    · have hw := hw.1 hc
      refine lv_bipush (v := (-2)) hx hb d_M_latest_27 (by decide) ?_
      exact tr_iret hx hb hr hlocks hI hw d_M_latest_29
    · have hw := hw.2 hc
      refine lv_iload_n hx hb d_M_latest_16 rfl (lv_at hl 3 rfl) ?_
      refine lv_iconst (v := 0) hx hb d_M_latest_17 (by decide) ?_
      refine lv_sipush (v := 20000) hx hb d_M_latest_18 (by decide) ?_
      refine tr_goi (w := wdM a cA) hI hA (va_runS (As := [.int x3, .int 0, .int 20000]) (rest := []) ⟨hx, hb, hml, hown, hts⟩ (c_M_isIn l dC dI cA a _ _ _ _ _ _) ⟨callB_of 3 hts (wsA_good wA_666) rfl rfl rfl (hts _ wA_40) (hts _ wA_664) (by decide +kernel) ⟨Nat.le_of_ble_eq_true rfl, Nat.le_of_ble_eq_true rfl⟩, hts _ wA_665⟩ (tr_preS hI hN hw) rfl rfl hl.1 rfl (lv_room (Nat.le_of_ble_eq_true rfl)) d_M_latest_21 ⟨Nat.zero_le _, Nat.zero_le _⟩) (fun r21 u21 H locs hw hI => ?_)
      refine lv_if_ne (tgt := 30) hx hb d_M_latest_24 (by decide) (fun hc => ?_) (fun hc => ?_)
      · have hw := hw.2 hc
        refine lv_iconst (v := (-1)) hx hb d_M_latest_30 (by decide) ?_
        refine lv_istore (lv' := [(4, .int (-1)), (0, .ref (a 0)), (1, .int x1), (2, .int x2), (3, .int x3)]) hx hb d_M_latest_31 hl (by decide) rfl (fun ls hl => ?_)
        refine lv_sipush (v := 10079) hx hb d_M_latest_33 (by decide) ?_
        refine lv_istore (lv' := [(5, .int 10079), (4, .int (-1)), (0, .ref (a 0)), (1, .int x1), (2, .int x2), (3, .int x3)]) hx hb d_M_latest_36 hl (by decide) rfl (fun ls hl => ?_)
        obtain ⟨k, hw⟩ := hw
        exact k_M_latest_38 hC post k _ _ _ _ _ _ _ _ ls hw hI (lv_sub hl [2, 3, 4, 5, 1, 0] rfl)
      · have hw := hw.1 hc
        refine lv_bipush (v := (-2)) hx hb d_M_latest_27 (by decide) ?_
        exact tr_iret hx hb hr hlocks hI hw d_M_latest_29
def w_M_fewest_70 (post : Int32 → tS → Prop) (x2 : Int32) (x4 : Int32) (x5 : Int32) (u : tS) : Prop := (w_M_arrival (fun r72 u72 => ((x4 < r72 → (post (-1) u72)) ∧ (¬ x4 < r72 → (post x5 u72)))) x2 u)
def w_M_fewest_43 (post : Int32 → tS → Prop) : Nat → Int32 → Int32 → Int32 → tS → Prop
  | 0 => fun _ _ _ _ => False
  | n + 1 => fun x2 x4 x5 u => (((u.1 5) = 0 → (w_M_fewest_70 post x2 x4 x5 u)) ∧ (¬ (u.1 5) = 0 → (w_M_arrival (fun r52 u52 => ((r52 ≤ x4 → (w_M_fewest_70 post x2 x4 x5 u52)) ∧ (¬ r52 ≤ x4 → (w_M_goRides (fun u61 => (w_M_fewest_43 post n x2 x4 (x5 + 1) u61)) u52)))) x2 u)))
def w_M_fewest (post : Int32 → tS → Prop) (x1 : Int32) (x2 : Int32) (x3 : Int32) (x4 : Int32) (u : tS) : Prop := (w_M_isAsked (fun r4 u4 => ((r4 = 0 → (post (-2) u4)) ∧ (¬ r4 = 0 → (w_M_isIn (fun r16 u16 => ((r16 = 0 → (post (-2) u16)) ∧ (¬ r16 = 0 → (w_M_begin (fun u28 => (w_M_goWalks (fun u32 => (∃ k, w_M_fewest_43 post k x2 x4 0 (tI u32 5 1))) u28)) x1 x3 u16)))) x4 0 20000 u4)))) x1 x2 x3 u)
set_option maxRecDepth 100000 in
set_option maxHeartbeats 4000000 in
theorem k_M_fewest_70 {p : Program} {l : Launch} {e : Env} {s : State} {m : MethodId} {args : Array Value} {below : List Frame} {meth : Method} {c : Code} {dC : Nat → ClassId} {dI : Nat → Nat → Nat} {cA : ClassId} {a : Nat → Nat} {A : Nat → Prop} (hC : tC p s m meth c args b_M_fewest 6 (some .int) wsA R_M A) (post : Int32 → tS → Prop) : ∀ (x2 x4 x5 : Int32) (u : tS) (H : Heap) (locs : List Loc) (ls : Array Slot), w_M_fewest_70 post x2 x4 x5 u → tX (dC, dI) twCl [(cA, .int)] A s H locs (wdM a cA u) → lv_has ls 6 [(0, .ref (a 0)), (2, .int x2), (4, .int x4), (5, .int x5)] → W p l e ({ frames := 4, cells := 0, slots := 0, locals := 89 }) s m args below meth c H locs 0 0 (MQ below (va_Qi post (tB (dC, dI) twCl [(cA, .int)] A (wdM a cA)) A) args s 0 0 A) (F0 m 70 ls []) := by
  obtain ⟨hx, hb, hr, hml, hown, hts, hlocks, hA, hN⟩ := id hC
  intro x2 x4 x5 u H locs ls hw hI hl
  refine lv_aload_n hx hb d_M_fewest_70 rfl (lv_at hl 0 rfl) ?_
  refine lv_iload_n hx hb d_M_fewest_71 rfl (lv_at hl 1 rfl) ?_
  refine tr_goi (w := wdM a cA) hI hA (va_runV (As := [.int x2]) (rest := []) ⟨hx, hb, hml, hown, hts⟩ (c_M_arrival l dC dI cA a _ _ _ _) (cwV 1 hts (wsA_goodV wA_724 wA_726 wA_18 wA_40 wA_727) rfl rfl rfl (by decide +kernel) ⟨Nat.le_of_ble_eq_true rfl, Nat.le_of_ble_eq_true rfl⟩) (tr_preV (ci := 9) (q0 := 0) hI rfl (wdM_o0 a cA _) rfl hN hw) rfl rfl hl.1 rfl (lv_room (Nat.le_of_ble_eq_true rfl)) d_M_fewest_72 ⟨Nat.zero_le _, Nat.zero_le _⟩) (fun r72 u72 H locs hw hI => ?_)
  refine lv_iload hx hb d_M_fewest_75 (lv_at hl 2 rfl) ?_
  refine lv_icmp_gt (tgt := 85) hx hb d_M_fewest_77 (by decide) (fun hc => ?_) (fun hc => ?_)
  · have hw := hw.1 hc
    refine lv_iconst (v := (-1)) hx hb d_M_fewest_85 (by decide) ?_
    exact tr_iret hx hb hr hlocks hI hw d_M_fewest_86
  · have hw := hw.2 hc
    refine lv_iload hx hb d_M_fewest_80 (lv_at hl 3 rfl) ?_
    refine lv_goto (tgt := 86) hx hb d_M_fewest_82 (by decide) ?_
    exact tr_iret hx hb hr hlocks hI hw d_M_fewest_86
set_option maxRecDepth 100000 in
set_option maxHeartbeats 4000000 in
theorem k_M_fewest_43 {p : Program} {l : Launch} {e : Env} {s : State} {m : MethodId} {args : Array Value} {below : List Frame} {meth : Method} {c : Code} {dC : Nat → ClassId} {dI : Nat → Nat → Nat} {cA : ClassId} {a : Nat → Nat} {A : Nat → Prop} (hC : tC p s m meth c args b_M_fewest 6 (some .int) wsA R_M A) (post : Int32 → tS → Prop) : ∀ n : Nat, ∀ (x2 x4 x5 : Int32) (u : tS) (H : Heap) (locs : List Loc) (ls : Array Slot), w_M_fewest_43 post n x2 x4 x5 u → tX (dC, dI) twCl [(cA, .int)] A s H locs (wdM a cA u) → lv_has ls 6 [(0, .ref (a 0)), (2, .int x2), (4, .int x4), (5, .int x5)] → W p l e ({ frames := 4, cells := 0, slots := 0, locals := 89 }) s m args below meth c H locs 0 0 (MQ below (va_Qi post (tB (dC, dI) twCl [(cA, .int)] A (wdM a cA)) A) args s 0 0 A) (F0 m 43 ls []) := by
  obtain ⟨hx, hb, hr, hml, hown, hts, hlocks, hA, hN⟩ := id hC
  intro n
  induction n with
  | zero => intro x2 x4 x5 u H locs ls hw; exact False.elim hw
  | succ n ih =>
    intro x2 x4 x5 u H locs ls hw hI hl
    refine lv_aload_n hx hb d_M_fewest_43 rfl (lv_at hl 0 rfl) ?_
    refine va_get (D := (dC, dI)) (C := R_M) (T := F_M) (N := 22) hx hb hts in_M hown hI.1 hI.2.1 0 (wdM_o0 a cA _) rfl 21 (by decide) (hts _ wA_610) (fun _ h9 => h9) rfl d_M_fewest_44 ?_
    refine lv_if_eq (tgt := 70) hx hb d_M_fewest_47 (by decide) (fun hc => ?_) (fun hc => ?_)
    · have hw := hw.1 hc
      exact k_M_fewest_70 hC post _ _ _ _ _ _ ls hw hI (lv_sub hl [0, 1, 2, 3] rfl)
    · have hw := hw.2 hc
      refine lv_aload_n hx hb d_M_fewest_50 rfl (lv_at hl 0 rfl) ?_
      refine lv_iload_n hx hb d_M_fewest_51 rfl (lv_at hl 1 rfl) ?_
      refine tr_goi (w := wdM a cA) hI hA (va_runV (As := [.int x2]) (rest := []) ⟨hx, hb, hml, hown, hts⟩ (c_M_arrival l dC dI cA a _ _ _ _) (cwV 1 hts (wsA_goodV wA_724 wA_726 wA_18 wA_40 wA_727) rfl rfl rfl (by decide +kernel) ⟨Nat.le_of_ble_eq_true rfl, Nat.le_of_ble_eq_true rfl⟩) (tr_preV (ci := 9) (q0 := 0) hI rfl (wdM_o0 a cA _) rfl hN hw) rfl rfl hl.1 rfl (lv_room (Nat.le_of_ble_eq_true rfl)) d_M_fewest_52 ⟨Nat.zero_le _, Nat.zero_le _⟩) (fun r52 u52 H locs hw hI => ?_)
      refine lv_iload hx hb d_M_fewest_55 (lv_at hl 2 rfl) ?_
      refine lv_icmp_le (tgt := 70) hx hb d_M_fewest_57 (by decide) (fun hc => ?_) (fun hc => ?_)
      · have hw := hw.1 hc
        exact k_M_fewest_70 hC post _ _ _ _ _ _ ls hw hI (lv_sub hl [0, 1, 2, 3] rfl)
      · have hw := hw.2 hc
        refine lv_aload_n hx hb d_M_fewest_60 rfl (lv_at hl 0 rfl) ?_
        refine tr_gov (w := wdM a cA) hI hA (va_runV (As := []) (rest := []) ⟨hx, hb, hml, hown, hts⟩ (c_M_goRides l dC dI cA a _ _ _) (cwV 0 hts (wsA_goodV wA_728 wA_730 wA_19 wA_40 wA_731) rfl rfl rfl (by decide +kernel) ⟨Nat.le_of_ble_eq_true rfl, Nat.le_of_ble_eq_true rfl⟩) (tr_preV (ci := 9) (q0 := 0) hI rfl (wdM_o0 a cA _) rfl hN hw) rfl rfl hl.1 rfl (lv_room (Nat.le_of_ble_eq_true rfl)) d_M_fewest_61 ⟨Nat.zero_le _, Nat.zero_le _⟩) (fun u61 H locs hw hI => ?_)
        refine lv_iinc (v := (x5 + 1)) (lv' := [(5, .int (x5 + 1)), (0, .ref (a 0)), (2, .int x2), (4, .int x4)]) hx hb d_M_fewest_64 hl (k := 3) rfl rfl (by decide) rfl (fun ls hl => ?_)
        refine lv_goto (tgt := 43) hx hb d_M_fewest_67 (by decide) ?_
        exact ih _ _ _ _ _ _ ls hw hI (lv_sub hl [1, 2, 3, 0] rfl)
set_option maxRecDepth 100000 in
set_option maxHeartbeats 4000000 in
theorem c_M_fewest (l : Launch) (dC : Nat → ClassId) (dI : Nat → Nat → Nat) (cA : ClassId) (a : Nat → Nat) (u : tS) (x1 : Int32) (x2 : Int32) (x3 : Int32) (x4 : Int32) (post : Int32 → tS → Prop) (sz : Nat) : Met l y_M_fewest ws_M_fewest ({ frames := 4, cells := 0, slots := 0, locals := 89 }) (va_Pc [.ref (a 0), .int x1, .int x2, .int x3, .int x4] (tP (dC, dI) twCl [(cA, .int)] (wdM a cA) u sz (w_M_fewest post x1 x2 x3 x4 u))) (va_Qi post (tB (dC, dI) twCl [(cA, .int)] (va_A (wdM a cA u) sz) (wdM a cA)) (va_A (wdM a cA u) sz)) 0 0 (va_A (wdM a cA u) sz) := by
  refine Met.ofW (cc := b_M_fewest) (maxL := 6) (ret := (some .int)) (by decide) rfl ?_
  intro p e s m args below meth c s₁ B hml hv
  obtain ⟨rfl, hsz, hP, hK, hD0, hN, hw⟩ := hv
  have hx := B.exec
  have hb := B.bytes
  have hr := B.returns
  have hts : ∀ w ∈ wsA, w.before _ s = true := fun w h => atoms_spec (ws := ws_M_fewest) B.pre w (List.mem_cons_of_mem _ h)
  have hown : s.vm.findClass R_M = some m.cls := findClass_of_methodNamed B.named
  have hlocks := B.notSynchronized
  subst hsz
  have hD := hD0.self (sz := s.heap.size)
  generalize hAe : va_A (wdM a cA u) s.heap.size = A at hD ⊢
  have hA : ∀ q : Nat, s.heap.size ≤ q → A q := fun q h => by rw [← hAe]; exact Or.inr h
  have hS : va_S A s.heap s.heap [] := va_S.rf
  have hI : tX (dC, dI) twCl [(cA, .int)] A s s.heap [] (wdM a cA u) := ⟨hK, hP, hD, hS⟩
  have hC : tC p s m meth c ([.ref (a 0), .int x1, .int x2, .int x3, .int x4] : List Value).toArray b_M_fewest 6 (some .int) wsA R_M A := ⟨hx, hb, hr, hml, hown, hts, hlocks, hA, hN⟩
  have hl := lv_entry ([.ref (a 0), .int x1, .int x2, .int x3, .int x4]) (n := 6) (Nat.le_of_ble_eq_true rfl)
  rw [lg_entry_eq]
  generalize (lg_sl ([.ref (a 0), .int x1, .int x2, .int x3, .int x4]) ++ List.replicate (6 - (lg_sl ([.ref (a 0), .int x1, .int x2, .int x3, .int x4])).length) Slot.unset).toArray = ls at hl ⊢
  have hl : lv_has ls 6 [(0, .ref (a 0)), (1, .int x1), (2, .int x2), (3, .int x3), (4, .int x4)] := hl
  have hw : (w_M_isAsked (fun r4 u4 => ((r4 = 0 → (post (-2) u4)) ∧ (¬ r4 = 0 → (w_M_isIn (fun r16 u16 => ((r16 = 0 → (post (-2) u16)) ∧ (¬ r16 = 0 → (w_M_begin (fun u28 => (w_M_goWalks (fun u32 => (∃ k, w_M_fewest_43 post k x2 x4 0 (tI u32 5 1))) u28)) x1 x3 u16)))) x4 0 20000 u4)))) x1 x2 x3 u) := hw
  refine lv_aload_n hx hb d_M_fewest_0 rfl (lv_at hl 0 rfl) ?_
  refine lv_iload_n hx hb d_M_fewest_1 rfl (lv_at hl 1 rfl) ?_
  refine lv_iload_n hx hb d_M_fewest_2 rfl (lv_at hl 2 rfl) ?_
  refine lv_iload_n hx hb d_M_fewest_3 rfl (lv_at hl 3 rfl) ?_
  refine tr_goi (w := wdM a cA) hI hA (va_runV (As := [.int x1, .int x2, .int x3]) (rest := []) ⟨hx, hb, hml, hown, hts⟩ (c_M_isAsked l dC dI cA a _ _ _ _ _ _) (cwV 3 hts (wsA_goodV wA_703 wA_705 wA_13 wA_40 wA_706) rfl rfl rfl (by decide +kernel) ⟨Nat.le_of_ble_eq_true rfl, Nat.le_of_ble_eq_true rfl⟩) (tr_preV (ci := 9) (q0 := 0) hI rfl (wdM_o0 a cA _) rfl hN hw) rfl rfl hl.1 rfl (lv_room (Nat.le_of_ble_eq_true rfl)) d_M_fewest_4 ⟨Nat.zero_le _, Nat.zero_le _⟩) (fun r4 u4 H locs hw hI => ?_)
  refine lv_if_eq (tgt := 22) hx hb d_M_fewest_7 (by decide) (fun hc => ?_) (fun hc => ?_)
  · have hw := hw.1 hc
    refine lv_bipush (v := (-2)) hx hb d_M_fewest_22 (by decide) ?_
    exact tr_iret hx hb hr hlocks hI hw d_M_fewest_24
  · have hw := hw.2 hc
    refine lv_iload hx hb d_M_fewest_10 (lv_at hl 4 rfl) ?_
    refine lv_iconst (v := 0) hx hb d_M_fewest_12 (by decide) ?_
    refine lv_sipush (v := 20000) hx hb d_M_fewest_13 (by decide) ?_
    refine tr_goi (w := wdM a cA) hI hA (va_runS (As := [.int x4, .int 0, .int 20000]) (rest := []) ⟨hx, hb, hml, hown, hts⟩ (c_M_isIn l dC dI cA a _ _ _ _ _ _) ⟨callB_of 3 hts (wsA_good wA_666) rfl rfl rfl (hts _ wA_40) (hts _ wA_664) (by decide +kernel) ⟨Nat.le_of_ble_eq_true rfl, Nat.le_of_ble_eq_true rfl⟩, hts _ wA_665⟩ (tr_preS hI hN hw) rfl rfl hl.1 rfl (lv_room (Nat.le_of_ble_eq_true rfl)) d_M_fewest_16 ⟨Nat.zero_le _, Nat.zero_le _⟩) (fun r16 u16 H locs hw hI => ?_)
    refine lv_if_ne (tgt := 25) hx hb d_M_fewest_19 (by decide) (fun hc => ?_) (fun hc => ?_)
    · have hw := hw.2 hc
      refine lv_aload_n hx hb d_M_fewest_25 rfl (lv_at hl 0 rfl) ?_
      refine lv_iload_n hx hb d_M_fewest_26 rfl (lv_at hl 1 rfl) ?_
      refine lv_iload_n hx hb d_M_fewest_27 rfl (lv_at hl 3 rfl) ?_
      refine tr_gov (w := wdM a cA) hI hA (va_runV (As := [.int x1, .int x3]) (rest := []) ⟨hx, hb, hml, hown, hts⟩ (c_M_begin l dC dI cA a _ _ _ _ _) (cwV 2 hts (wsA_goodV wA_715 wA_717 wA_16 wA_40 wA_718) rfl rfl rfl (by decide +kernel) ⟨Nat.le_of_ble_eq_true rfl, Nat.le_of_ble_eq_true rfl⟩) (tr_preV (ci := 9) (q0 := 0) hI rfl (wdM_o0 a cA _) rfl hN hw) rfl rfl hl.1 rfl (lv_room (Nat.le_of_ble_eq_true rfl)) d_M_fewest_28 ⟨Nat.zero_le _, Nat.zero_le _⟩) (fun u28 H locs hw hI => ?_)
      refine lv_aload_n hx hb d_M_fewest_31 rfl (lv_at hl 0 rfl) ?_
      refine tr_gov (w := wdM a cA) hI hA (va_runV (As := []) (rest := []) ⟨hx, hb, hml, hown, hts⟩ (c_M_goWalks l dC dI cA a _ _ _) (cwV 0 hts (wsA_goodV wA_720 wA_722 wA_17 wA_40 wA_723) rfl rfl rfl (by decide +kernel) ⟨Nat.le_of_ble_eq_true rfl, Nat.le_of_ble_eq_true rfl⟩) (tr_preV (ci := 9) (q0 := 0) hI rfl (wdM_o0 a cA _) rfl hN hw) rfl rfl hl.1 rfl (lv_room (Nat.le_of_ble_eq_true rfl)) d_M_fewest_32 ⟨Nat.zero_le _, Nat.zero_le _⟩) (fun u32 H locs hw hI => ?_)
      refine lv_iconst (v := 0) hx hb d_M_fewest_35 (by decide) ?_
      refine lv_istore (lv' := [(5, .int 0), (0, .ref (a 0)), (1, .int x1), (2, .int x2), (3, .int x3), (4, .int x4)]) hx hb d_M_fewest_36 hl (by decide) rfl (fun ls hl => ?_)
      refine lv_aload_n hx hb d_M_fewest_38 rfl (lv_at hl 1 rfl) ?_
      refine lv_iconst (v := 1) hx hb d_M_fewest_39 (by decide) ?_
      refine tr_putz (C := R_M) (T := F_M) (N := 22) (w := wdM a cA) hx hb hts in_M ft_M ft_M_ok fn_M hown hI 0 5 (wdM_o0 a cA _) rfl 21 (by decide) (hts _ wA_610) rfl (by decide +kernel) rfl rfl (Nat.le_of_ble_eq_true rfl) (wdM_i5 a cA _ _) d_M_fewest_40 (fun H locs hI => ?_)
      obtain ⟨k, hw⟩ := hw
      exact k_M_fewest_43 hC post k _ _ _ _ _ _ ls hw hI (lv_sub hl [1, 3, 5, 0] rfl)
    · have hw := hw.1 hc
      refine lv_bipush (v := (-2)) hx hb d_M_fewest_22 (by decide) ?_
      exact tr_iret hx hb hr hlocks hI hw d_M_fewest_24
def w_M_isSpan (post : Int32 → tS → Prop) (x1 : Int32) (x2 : Int32) (x3 : Int32) (x4 : Int32) (u : tS) : Prop := (w_M_isAsked (fun r4 u4 => ((r4 = 0 → (post 0 u4)) ∧ (¬ r4 = 0 → (w_M_isIn (fun r16 u16 => ((r16 = 0 → (post 0 u16)) ∧ (¬ r16 = 0 → ((600 < (x4 - x3) → (post 0 u16)) ∧ (¬ 600 < (x4 - x3) → (post 1 u16)))))) x4 x3 10079 u4)))) x1 x2 x3 u)
set_option maxRecDepth 100000 in
set_option maxHeartbeats 4000000 in
theorem c_M_isSpan (l : Launch) (dC : Nat → ClassId) (dI : Nat → Nat → Nat) (cA : ClassId) (a : Nat → Nat) (u : tS) (x1 : Int32) (x2 : Int32) (x3 : Int32) (x4 : Int32) (post : Int32 → tS → Prop) (sz : Nat) : Met l y_M_isSpan ws_M_isSpan ({ frames := 3, cells := 0, slots := 0, locals := 66 }) (va_Pc [.ref (a 0), .int x1, .int x2, .int x3, .int x4] (tP (dC, dI) twCl [(cA, .int)] (wdM a cA) u sz (w_M_isSpan post x1 x2 x3 x4 u))) (va_Qi post (tB (dC, dI) twCl [(cA, .int)] (va_A (wdM a cA u) sz) (wdM a cA)) (va_A (wdM a cA u) sz)) 0 0 (va_A (wdM a cA u) sz) := by
  refine Met.ofW (cc := b_M_isSpan) (maxL := 5) (ret := (some .boolean)) (by decide) rfl ?_
  intro p e s m args below meth c s₁ B hml hv
  obtain ⟨rfl, hsz, hP, hK, hD0, hN, hw⟩ := hv
  have hx := B.exec
  have hb := B.bytes
  have hr := B.returns
  have hts : ∀ w ∈ wsA, w.before _ s = true := fun w h => atoms_spec (ws := ws_M_isSpan) B.pre w (List.mem_cons_of_mem _ h)
  have hown : s.vm.findClass R_M = some m.cls := findClass_of_methodNamed B.named
  have hlocks := B.notSynchronized
  subst hsz
  have hD := hD0.self (sz := s.heap.size)
  generalize hAe : va_A (wdM a cA u) s.heap.size = A at hD ⊢
  have hA : ∀ q : Nat, s.heap.size ≤ q → A q := fun q h => by rw [← hAe]; exact Or.inr h
  have hS : va_S A s.heap s.heap [] := va_S.rf
  have hI : tX (dC, dI) twCl [(cA, .int)] A s s.heap [] (wdM a cA u) := ⟨hK, hP, hD, hS⟩
  have hC : tC p s m meth c ([.ref (a 0), .int x1, .int x2, .int x3, .int x4] : List Value).toArray b_M_isSpan 5 (some .boolean) wsA R_M A := ⟨hx, hb, hr, hml, hown, hts, hlocks, hA, hN⟩
  have hl := lv_entry ([.ref (a 0), .int x1, .int x2, .int x3, .int x4]) (n := 5) (Nat.le_of_ble_eq_true rfl)
  rw [lg_entry_eq]
  generalize (lg_sl ([.ref (a 0), .int x1, .int x2, .int x3, .int x4]) ++ List.replicate (5 - (lg_sl ([.ref (a 0), .int x1, .int x2, .int x3, .int x4])).length) Slot.unset).toArray = ls at hl ⊢
  have hl : lv_has ls 5 [(0, .ref (a 0)), (1, .int x1), (2, .int x2), (3, .int x3), (4, .int x4)] := hl
  have hw : (w_M_isAsked (fun r4 u4 => ((r4 = 0 → (post 0 u4)) ∧ (¬ r4 = 0 → (w_M_isIn (fun r16 u16 => ((r16 = 0 → (post 0 u16)) ∧ (¬ r16 = 0 → ((600 < (x4 - x3) → (post 0 u16)) ∧ (¬ 600 < (x4 - x3) → (post 1 u16)))))) x4 x3 10079 u4)))) x1 x2 x3 u) := hw
  refine lv_aload_n hx hb d_M_isSpan_0 rfl (lv_at hl 0 rfl) ?_
  refine lv_iload_n hx hb d_M_isSpan_1 rfl (lv_at hl 1 rfl) ?_
  refine lv_iload_n hx hb d_M_isSpan_2 rfl (lv_at hl 2 rfl) ?_
  refine lv_iload_n hx hb d_M_isSpan_3 rfl (lv_at hl 3 rfl) ?_
  refine tr_goi (w := wdM a cA) hI hA (va_runV (As := [.int x1, .int x2, .int x3]) (rest := []) ⟨hx, hb, hml, hown, hts⟩ (c_M_isAsked l dC dI cA a _ _ _ _ _ _) (cwV 3 hts (wsA_goodV wA_703 wA_705 wA_13 wA_40 wA_706) rfl rfl rfl (by decide +kernel) ⟨Nat.le_of_ble_eq_true rfl, Nat.le_of_ble_eq_true rfl⟩) (tr_preV (ci := 9) (q0 := 0) hI rfl (wdM_o0 a cA _) rfl hN hw) rfl rfl hl.1 rfl (lv_room (Nat.le_of_ble_eq_true rfl)) d_M_isSpan_4 ⟨Nat.zero_le _, Nat.zero_le _⟩) (fun r4 u4 H locs hw hI => ?_)
  refine lv_if_eq (tgt := 36) hx hb d_M_isSpan_7 (by decide) (fun hc => ?_) (fun hc => ?_)
  · have hw := hw.1 hc
    refine lv_iconst (v := 0) hx hb d_M_isSpan_36 (by decide) ?_
    exact tr_zret hx hb hr hlocks hI rfl hw d_M_isSpan_37
  · have hw := hw.2 hc
    refine lv_iload hx hb d_M_isSpan_10 (lv_at hl 4 rfl) ?_
    refine lv_iload_n hx hb d_M_isSpan_12 rfl (lv_at hl 3 rfl) ?_
    refine lv_sipush (v := 10079) hx hb d_M_isSpan_13 (by decide) ?_
    refine tr_goi (w := wdM a cA) hI hA (va_runS (As := [.int x4, .int x3, .int 10079]) (rest := []) ⟨hx, hb, hml, hown, hts⟩ (c_M_isIn l dC dI cA a _ _ _ _ _ _) ⟨callB_of 3 hts (wsA_good wA_666) rfl rfl rfl (hts _ wA_40) (hts _ wA_664) (by decide +kernel) ⟨Nat.le_of_ble_eq_true rfl, Nat.le_of_ble_eq_true rfl⟩, hts _ wA_665⟩ (tr_preS hI hN hw) rfl rfl hl.1 rfl (lv_room (Nat.le_of_ble_eq_true rfl)) d_M_isSpan_16 ⟨Nat.zero_le _, Nat.zero_le _⟩) (fun r16 u16 H locs hw hI => ?_)
    refine lv_if_eq (tgt := 36) hx hb d_M_isSpan_19 (by decide) (fun hc => ?_) (fun hc => ?_)
    · have hw := hw.1 hc
      refine lv_iconst (v := 0) hx hb d_M_isSpan_36 (by decide) ?_
      exact tr_zret hx hb hr hlocks hI rfl hw d_M_isSpan_37
    · have hw := hw.2 hc
      refine lv_iload hx hb d_M_isSpan_22 (lv_at hl 4 rfl) ?_
      refine lv_iload_n hx hb d_M_isSpan_24 rfl (lv_at hl 3 rfl) ?_
      refine lv_isub hx hb d_M_isSpan_25 ?_
      refine lv_sipush (v := 600) hx hb d_M_isSpan_26 (by decide) ?_
      refine lv_icmp_gt (tgt := 36) hx hb d_M_isSpan_29 (by decide) (fun hc => ?_) (fun hc => ?_)
      · have hw := hw.1 hc
        refine lv_iconst (v := 0) hx hb d_M_isSpan_36 (by decide) ?_
        exact tr_zret hx hb hr hlocks hI rfl hw d_M_isSpan_37
      · have hw := hw.2 hc
        refine lv_iconst (v := 1) hx hb d_M_isSpan_32 (by decide) ?_
        refine lv_goto (tgt := 37) hx hb d_M_isSpan_33 (by decide) ?_
        exact tr_zret hx hb hr hlocks hI rfl hw d_M_isSpan_37
def w_M_fastest_60 (post : Int32 → tS → Prop) (K21 : Int32 → Int32 → Int32 → Int32 → Int32 → tS → Prop) (x1 : Int32) (x2 : Int32) (x4 : Int32) (x6 : Int32) (x7 : Int32) (u : tS) : Prop := (K21 x1 x2 x4 (x7 - x6) (x6 + 1) u)
def w_M_fastest_21 (post : Int32 → tS → Prop) : Nat → Int32 → Int32 → Int32 → Int32 → Int32 → tS → Prop
  | 0 => fun _ _ _ _ _ _ => False
  | n + 1 => fun x1 x2 x4 x5 x6 u => ((x4 < x6 → (post x5 u)) ∧ (¬ x4 < x6 → (w_M_found (fun r33 u33 => ((r33 = (-1) → (w_M_fastest_21 post n x1 x2 x4 x5 (x6 + 1) u33)) ∧ (¬ r33 = (-1) → ((x5 = (-1) → (w_M_fastest_60 post (w_M_fastest_21 post n) x1 x2 x4 x6 r33 u33)) ∧ (¬ x5 = (-1) → ((x5 ≤ (r33 - x6) → (w_M_fastest_21 post n x1 x2 x4 x5 (x6 + 1) u33)) ∧ (¬ x5 ≤ (r33 - x6) → (w_M_fastest_60 post (w_M_fastest_21 post n) x1 x2 x4 x6 r33 u33)))))))) x1 x2 x6 u)))
def w_M_fastest (post : Int32 → tS → Prop) (x1 : Int32) (x2 : Int32) (x3 : Int32) (x4 : Int32) (u : tS) : Prop := (w_M_isSpan (fun r6 u6 => ((r6 = 0 → (post (-2) u6)) ∧ (¬ r6 = 0 → (∃ k, w_M_fastest_21 post k x1 x2 x4 (-1) x3 u6)))) x1 x2 x3 x4 u)
set_option maxRecDepth 100000 in
set_option maxHeartbeats 4000000 in
theorem k_M_fastest_60 {p : Program} {l : Launch} {e : Env} {s : State} {m : MethodId} {args : Array Value} {below : List Frame} {meth : Method} {c : Code} {dC : Nat → ClassId} {dI : Nat → Nat → Nat} {cA : ClassId} {a : Nat → Nat} {A : Nat → Prop} (hC : tC p s m meth c args b_M_fastest 8 (some .int) wsA R_M A) (post : Int32 → tS → Prop) (K21 : Int32 → Int32 → Int32 → Int32 → Int32 → tS → Prop) (hK21 : ∀ (x1 x2 x4 x5 x6 : Int32) (u : tS) (H : Heap) (locs : List Loc) (ls : Array Slot), K21 x1 x2 x4 x5 x6 u → tX (dC, dI) twCl [(cA, .int)] A s H locs (wdM a cA u) → lv_has ls 8 [(0, .ref (a 0)), (1, .int x1), (2, .int x2), (4, .int x4), (5, .int x5), (6, .int x6)] → W p l e ({ frames := 6, cells := 0, slots := 0, locals := 134 }) s m args below meth c H locs 0 0 (MQ below (va_Qi post (tB (dC, dI) twCl [(cA, .int)] A (wdM a cA)) A) args s 0 0 A) (F0 m 21 ls [])) : ∀ (x1 x2 x4 x6 x7 : Int32) (u : tS) (H : Heap) (locs : List Loc) (ls : Array Slot), w_M_fastest_60 post K21 x1 x2 x4 x6 x7 u → tX (dC, dI) twCl [(cA, .int)] A s H locs (wdM a cA u) → lv_has ls 8 [(0, .ref (a 0)), (1, .int x1), (2, .int x2), (4, .int x4), (6, .int x6), (7, .int x7)] → W p l e ({ frames := 6, cells := 0, slots := 0, locals := 134 }) s m args below meth c H locs 0 0 (MQ below (va_Qi post (tB (dC, dI) twCl [(cA, .int)] A (wdM a cA)) A) args s 0 0 A) (F0 m 60 ls []) := by
  obtain ⟨hx, hb, hr, hml, hown, hts, hlocks, hA, hN⟩ := id hC
  intro x1 x2 x4 x6 x7 u H locs ls hw hI hl
  refine lv_iload hx hb d_M_fastest_60 (lv_at hl 5 rfl) ?_
  refine lv_iload hx hb d_M_fastest_62 (lv_at hl 4 rfl) ?_
  refine lv_isub hx hb d_M_fastest_64 ?_
  refine lv_goto (tgt := 70) hx hb d_M_fastest_65 (by decide) ?_
  refine lv_istore (lv' := [(5, .int (x7 - x6)), (0, .ref (a 0)), (1, .int x1), (2, .int x2), (4, .int x4), (6, .int x6), (7, .int x7)]) hx hb d_M_fastest_70 hl (by decide) rfl (fun ls hl => ?_)
  refine lv_iinc (v := (x6 + 1)) (lv' := [(6, .int (x6 + 1)), (5, .int (x7 - x6)), (0, .ref (a 0)), (1, .int x1), (2, .int x2), (4, .int x4), (7, .int x7)]) hx hb d_M_fastest_72 hl (k := 5) rfl rfl (by decide) rfl (fun ls hl => ?_)
  refine lv_goto (tgt := 21) hx hb d_M_fastest_75 (by decide) ?_
  exact hK21 _ _ _ _ _ _ _ _ ls hw hI (lv_sub hl [2, 3, 4, 5, 1, 0] rfl)
set_option maxRecDepth 100000 in
set_option maxHeartbeats 4000000 in
theorem k_M_fastest_21 {p : Program} {l : Launch} {e : Env} {s : State} {m : MethodId} {args : Array Value} {below : List Frame} {meth : Method} {c : Code} {dC : Nat → ClassId} {dI : Nat → Nat → Nat} {cA : ClassId} {a : Nat → Nat} {A : Nat → Prop} (hC : tC p s m meth c args b_M_fastest 8 (some .int) wsA R_M A) (post : Int32 → tS → Prop) : ∀ n : Nat, ∀ (x1 x2 x4 x5 x6 : Int32) (u : tS) (H : Heap) (locs : List Loc) (ls : Array Slot), w_M_fastest_21 post n x1 x2 x4 x5 x6 u → tX (dC, dI) twCl [(cA, .int)] A s H locs (wdM a cA u) → lv_has ls 8 [(0, .ref (a 0)), (1, .int x1), (2, .int x2), (4, .int x4), (5, .int x5), (6, .int x6)] → W p l e ({ frames := 6, cells := 0, slots := 0, locals := 134 }) s m args below meth c H locs 0 0 (MQ below (va_Qi post (tB (dC, dI) twCl [(cA, .int)] A (wdM a cA)) A) args s 0 0 A) (F0 m 21 ls []) := by
  obtain ⟨hx, hb, hr, hml, hown, hts, hlocks, hA, hN⟩ := id hC
  intro n
  induction n with
  | zero => intro x1 x2 x4 x5 x6 u H locs ls hw; exact False.elim hw
  | succ n ih =>
    intro x1 x2 x4 x5 x6 u H locs ls hw hI hl
    refine lv_iload hx hb d_M_fastest_21 (lv_at hl 5 rfl) ?_
    refine lv_iload hx hb d_M_fastest_23 (lv_at hl 3 rfl) ?_
    refine lv_icmp_gt (tgt := 78) hx hb d_M_fastest_25 (by decide) (fun hc => ?_) (fun hc => ?_)
    · have hw := hw.1 hc
      refine lv_iload hx hb d_M_fastest_78 (lv_at hl 4 rfl) ?_
      exact tr_iret hx hb hr hlocks hI hw d_M_fastest_80
    · have hw := hw.2 hc
      refine lv_aload_n hx hb d_M_fastest_28 rfl (lv_at hl 0 rfl) ?_
      refine lv_iload_n hx hb d_M_fastest_29 rfl (lv_at hl 1 rfl) ?_
      refine lv_iload_n hx hb d_M_fastest_30 rfl (lv_at hl 2 rfl) ?_
      refine lv_iload hx hb d_M_fastest_31 (lv_at hl 5 rfl) ?_
      refine tr_goi (w := wdM a cA) hI hA (va_runV (As := [.int x1, .int x2, .int x6]) (rest := []) ⟨hx, hb, hml, hown, hts⟩ (c_M_found l dC dI cA a _ _ _ _ _ _) (cwV 3 hts (wsA_goodV wA_707 wA_709 wA_14 wA_40 wA_710) rfl rfl rfl (by decide +kernel) ⟨Nat.le_of_ble_eq_true rfl, Nat.le_of_ble_eq_true rfl⟩) (tr_preV (ci := 9) (q0 := 0) hI rfl (wdM_o0 a cA _) rfl hN hw) rfl rfl hl.1 rfl (lv_room (Nat.le_of_ble_eq_true rfl)) d_M_fastest_33 ⟨Nat.zero_le _, Nat.zero_le _⟩) (fun r33 u33 H locs hw hI => ?_)
      refine lv_istore (lv' := [(7, .int r33), (0, .ref (a 0)), (1, .int x1), (2, .int x2), (4, .int x4), (5, .int x5), (6, .int x6)]) hx hb d_M_fastest_36 hl (by decide) rfl (fun ls hl => ?_)
      refine lv_iload hx hb d_M_fastest_38 (lv_at hl 0 rfl) ?_
      refine lv_iconst (v := (-1)) hx hb d_M_fastest_40 (by decide) ?_
      refine lv_icmp_eq (tgt := 68) hx hb d_M_fastest_41 (by decide) (fun hc => ?_) (fun hc => ?_)
      · have hw := hw.1 hc
        refine lv_iload hx hb d_M_fastest_68 (lv_at hl 5 rfl) ?_
        refine lv_istore (lv' := [(5, .int x5), (7, .int r33), (0, .ref (a 0)), (1, .int x1), (2, .int x2), (4, .int x4), (6, .int x6)]) hx hb d_M_fastest_70 hl (by decide) rfl (fun ls hl => ?_)
        refine lv_iinc (v := (x6 + 1)) (lv' := [(6, .int (x6 + 1)), (5, .int x5), (7, .int r33), (0, .ref (a 0)), (1, .int x1), (2, .int x2), (4, .int x4)]) hx hb d_M_fastest_72 hl (k := 6) rfl rfl (by decide) rfl (fun ls hl => ?_)
        refine lv_goto (tgt := 21) hx hb d_M_fastest_75 (by decide) ?_
        exact ih _ _ _ _ _ _ _ _ ls hw hI (lv_sub hl [3, 4, 5, 6, 1, 0] rfl)
      · have hw := hw.2 hc
        refine lv_iload hx hb d_M_fastest_44 (lv_at hl 5 rfl) ?_
        refine lv_iconst (v := (-1)) hx hb d_M_fastest_46 (by decide) ?_
        refine lv_icmp_eq (tgt := 60) hx hb d_M_fastest_47 (by decide) (fun hc => ?_) (fun hc => ?_)
        · have hw := hw.1 hc
          exact k_M_fastest_60 hC post _ ih _ _ _ _ _ _ _ _ ls hw hI (lv_sub hl [1, 2, 3, 4, 6, 0] rfl)
        · have hw := hw.2 hc
          refine lv_iload hx hb d_M_fastest_50 (lv_at hl 0 rfl) ?_
          refine lv_iload hx hb d_M_fastest_52 (lv_at hl 6 rfl) ?_
          refine lv_isub hx hb d_M_fastest_54 ?_
          refine lv_iload hx hb d_M_fastest_55 (lv_at hl 5 rfl) ?_
          refine lv_icmp_ge (tgt := 68) hx hb d_M_fastest_57 (by decide) (fun hc => ?_) (fun hc => ?_)
          · have hw := hw.1 hc
            refine lv_iload hx hb d_M_fastest_68 (lv_at hl 5 rfl) ?_
            refine lv_istore (lv' := [(5, .int x5), (7, .int r33), (0, .ref (a 0)), (1, .int x1), (2, .int x2), (4, .int x4), (6, .int x6)]) hx hb d_M_fastest_70 hl (by decide) rfl (fun ls hl => ?_)
            refine lv_iinc (v := (x6 + 1)) (lv' := [(6, .int (x6 + 1)), (5, .int x5), (7, .int r33), (0, .ref (a 0)), (1, .int x1), (2, .int x2), (4, .int x4)]) hx hb d_M_fastest_72 hl (k := 6) rfl rfl (by decide) rfl (fun ls hl => ?_)
            refine lv_goto (tgt := 21) hx hb d_M_fastest_75 (by decide) ?_
            exact ih _ _ _ _ _ _ _ _ ls hw hI (lv_sub hl [3, 4, 5, 6, 1, 0] rfl)
          · have hw := hw.2 hc
            exact k_M_fastest_60 hC post _ ih _ _ _ _ _ _ _ _ ls hw hI (lv_sub hl [1, 2, 3, 4, 6, 0] rfl)
set_option maxRecDepth 100000 in
set_option maxHeartbeats 4000000 in
theorem c_M_fastest (l : Launch) (dC : Nat → ClassId) (dI : Nat → Nat → Nat) (cA : ClassId) (a : Nat → Nat) (u : tS) (x1 : Int32) (x2 : Int32) (x3 : Int32) (x4 : Int32) (post : Int32 → tS → Prop) (sz : Nat) : Met l y_M_fastest ws_M_fastest ({ frames := 6, cells := 0, slots := 0, locals := 134 }) (va_Pc [.ref (a 0), .int x1, .int x2, .int x3, .int x4] (tP (dC, dI) twCl [(cA, .int)] (wdM a cA) u sz (w_M_fastest post x1 x2 x3 x4 u))) (va_Qi post (tB (dC, dI) twCl [(cA, .int)] (va_A (wdM a cA u) sz) (wdM a cA)) (va_A (wdM a cA u) sz)) 0 0 (va_A (wdM a cA u) sz) := by
  refine Met.ofW (cc := b_M_fastest) (maxL := 8) (ret := (some .int)) (by decide) rfl ?_
  intro p e s m args below meth c s₁ B hml hv
  obtain ⟨rfl, hsz, hP, hK, hD0, hN, hw⟩ := hv
  have hx := B.exec
  have hb := B.bytes
  have hr := B.returns
  have hts : ∀ w ∈ wsA, w.before _ s = true := fun w h => atoms_spec (ws := ws_M_fastest) B.pre w (List.mem_cons_of_mem _ h)
  have hown : s.vm.findClass R_M = some m.cls := findClass_of_methodNamed B.named
  have hlocks := B.notSynchronized
  subst hsz
  have hD := hD0.self (sz := s.heap.size)
  generalize hAe : va_A (wdM a cA u) s.heap.size = A at hD ⊢
  have hA : ∀ q : Nat, s.heap.size ≤ q → A q := fun q h => by rw [← hAe]; exact Or.inr h
  have hS : va_S A s.heap s.heap [] := va_S.rf
  have hI : tX (dC, dI) twCl [(cA, .int)] A s s.heap [] (wdM a cA u) := ⟨hK, hP, hD, hS⟩
  have hC : tC p s m meth c ([.ref (a 0), .int x1, .int x2, .int x3, .int x4] : List Value).toArray b_M_fastest 8 (some .int) wsA R_M A := ⟨hx, hb, hr, hml, hown, hts, hlocks, hA, hN⟩
  have hl := lv_entry ([.ref (a 0), .int x1, .int x2, .int x3, .int x4]) (n := 8) (Nat.le_of_ble_eq_true rfl)
  rw [lg_entry_eq]
  generalize (lg_sl ([.ref (a 0), .int x1, .int x2, .int x3, .int x4]) ++ List.replicate (8 - (lg_sl ([.ref (a 0), .int x1, .int x2, .int x3, .int x4])).length) Slot.unset).toArray = ls at hl ⊢
  have hl : lv_has ls 8 [(0, .ref (a 0)), (1, .int x1), (2, .int x2), (3, .int x3), (4, .int x4)] := hl
  have hw : (w_M_isSpan (fun r6 u6 => ((r6 = 0 → (post (-2) u6)) ∧ (¬ r6 = 0 → (∃ k, w_M_fastest_21 post k x1 x2 x4 (-1) x3 u6)))) x1 x2 x3 x4 u) := hw
  refine lv_aload_n hx hb d_M_fastest_0 rfl (lv_at hl 0 rfl) ?_
  refine lv_iload_n hx hb d_M_fastest_1 rfl (lv_at hl 1 rfl) ?_
  refine lv_iload_n hx hb d_M_fastest_2 rfl (lv_at hl 2 rfl) ?_
  refine lv_iload_n hx hb d_M_fastest_3 rfl (lv_at hl 3 rfl) ?_
  refine lv_iload hx hb d_M_fastest_4 (lv_at hl 4 rfl) ?_
  refine tr_goi (w := wdM a cA) hI hA (va_runV (As := [.int x1, .int x2, .int x3, .int x4]) (rest := []) ⟨hx, hb, hml, hown, hts⟩ (c_M_isSpan l dC dI cA a _ _ _ _ _ _ _) (cwV 4 hts (wsA_goodV wA_764 wA_766 wA_25 wA_40 wA_767) rfl rfl rfl (by decide +kernel) ⟨Nat.le_of_ble_eq_true rfl, Nat.le_of_ble_eq_true rfl⟩) (tr_preV (ci := 9) (q0 := 0) hI rfl (wdM_o0 a cA _) rfl hN hw) rfl rfl hl.1 rfl (lv_room (Nat.le_of_ble_eq_true rfl)) d_M_fastest_6 ⟨Nat.zero_le _, Nat.zero_le _⟩) (fun r6 u6 H locs hw hI => ?_)
  refine lv_if_ne (tgt := 15) hx hb d_M_fastest_9 (by decide) (fun hc => ?_) (fun hc => ?_)
  · have hw := hw.2 hc
    refine lv_iconst (v := (-1)) hx hb d_M_fastest_15 (by decide) ?_
    refine lv_istore (lv' := [(5, .int (-1)), (0, .ref (a 0)), (1, .int x1), (2, .int x2), (3, .int x3), (4, .int x4)]) hx hb d_M_fastest_16 hl (by decide) rfl (fun ls hl => ?_)
    refine lv_iload_n hx hb d_M_fastest_18 rfl (lv_at hl 4 rfl) ?_
    refine lv_istore (lv' := [(6, .int x3), (5, .int (-1)), (0, .ref (a 0)), (1, .int x1), (2, .int x2), (3, .int x3), (4, .int x4)]) hx hb d_M_fastest_19 hl (by decide) rfl (fun ls hl => ?_)
    obtain ⟨k, hw⟩ := hw
    exact k_M_fastest_21 hC post k _ _ _ _ _ _ _ _ ls hw hI (lv_sub hl [2, 3, 4, 6, 1, 0] rfl)
  · have hw := hw.1 hc
    refine lv_bipush (v := (-2)) hx hb d_M_fastest_12 (by decide) ?_
    exact tr_iret hx hb hr hlocks hI hw d_M_fastest_14
