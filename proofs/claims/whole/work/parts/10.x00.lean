def w_J_fill_5 (post : tS → Prop) : Nat → Int32 → Int32 → Int32 → tS → Prop
  | 0 => fun _ _ _ _ => False
  | n + 1 => fun x1 x2 x3 u => ((x3 ≤ x2 → (post u)) ∧ (¬ x3 ≤ x2 → (vp_in x2 144 ∧ (w_J_fill_5 post n x1 (x2 + 1) x3 (tA u 12 x2 x1)))))
def w_J_fill (post : tS → Prop) (x1 : Int32) (u : tS) : Prop := (∃ k, w_J_fill_5 post k x1 0 144 u)
set_option maxRecDepth 100000 in
set_option maxHeartbeats 4000000 in
theorem k_J_fill_5 {p : Program} {l : Launch} {e : Env} {s : State} {m : MethodId} {args : Array Value} {below : List Frame} {meth : Method} {c : Code} {dC : Nat → ClassId} {dI : Nat → Nat → Nat} {cA : ClassId} {a : Nat → Nat} {A : Nat → Prop} (hC : tC p s m meth c args b_J_fill 4 none wsA R_J A) (post : tS → Prop) : ∀ n : Nat, ∀ (x1 x2 x3 : Int32) (u : tS) (H : Heap) (locs : List Loc) (ls : Array Slot), w_J_fill_5 post n x1 x2 x3 u → tX (dC, dI) twCl [(cA, .int)] A s H locs (wdX a cA u) → lv_has ls 4 [(0, .ref (a 22)), (1, .int x1), (2, .int x2), (3, .int x3)] → W p l e ({ frames := 0, cells := 0, slots := 0, locals := 0 }) s m args below meth c H locs 0 0 (MQ below (va_Qv post (tB (dC, dI) twCl [(cA, .int)] A (wdX a cA)) A) args s 0 0 A) (F0 m 5 ls []) := by
  obtain ⟨hx, hb, hr, hml, hown, hts, hlocks, hA, hN⟩ := id hC
  intro n
  induction n with
  | zero => intro x1 x2 x3 u H locs ls hw; exact False.elim hw
  | succ n ih =>
    intro x1 x2 x3 u H locs ls hw hI hl
    refine lv_iload_n hx hb d_J_fill_5 rfl (lv_at hl 2 rfl) ?_
    refine lv_iload_n hx hb d_J_fill_6 rfl (lv_at hl 3 rfl) ?_
    refine lv_icmp_ge (tgt := 20) hx hb d_J_fill_7 (by decide) (fun hc => ?_) (fun hc => ?_)
    · have hw := hw.1 hc
      exact tr_vret hx hb hr hlocks hI hw d_J_fill_20
    · have hw := hw.2 hc
      refine lv_aload_n hx hb d_J_fill_10 rfl (lv_at hl 0 rfl) ?_
      refine lv_iload_n hx hb d_J_fill_11 rfl (lv_at hl 2 rfl) ?_
      refine lv_iload_n hx hb d_J_fill_12 rfl (lv_at hl 1 rfl) ?_
      obtain ⟨hi, hw⟩ := hw
      refine tr_iast (w := wdX a cA) hx hb hI 22 0 12 (wdX_o22 a cA _) rfl (wdX_a12 a cA _ _ _) hi d_J_fill_13 (fun H locs hI => ?_)
      refine lv_iinc (v := (x2 + 1)) (lv' := [(2, .int (x2 + 1)), (0, .ref (a 22)), (1, .int x1), (3, .int x3)]) hx hb d_J_fill_14 hl (k := 2) rfl rfl (by decide) rfl (fun ls hl => ?_)
      refine lv_goto (tgt := 5) hx hb d_J_fill_17 (by decide) ?_
      exact ih _ _ _ _ _ _ ls hw hI (lv_sub hl [1, 2, 0, 3] rfl)
set_option maxRecDepth 100000 in
set_option maxHeartbeats 4000000 in
theorem c_J_fill (l : Launch) (dC : Nat → ClassId) (dI : Nat → Nat → Nat) (cA : ClassId) (a : Nat → Nat) (u : tS) (x1 : Int32) (post : tS → Prop) (sz : Nat) : Met l y_J_fill ws_J_fill ({ frames := 0, cells := 0, slots := 0, locals := 0 }) (va_Pc [.ref (a 22), .int x1] (tP (dC, dI) twCl [(cA, .int)] (wdX a cA) u sz (w_J_fill post x1 u))) (va_Qv post (tB (dC, dI) twCl [(cA, .int)] (va_A (wdX a cA u) sz) (wdX a cA)) (va_A (wdX a cA u) sz)) 0 0 (va_A (wdX a cA u) sz) := by
  refine Met.ofW (cc := b_J_fill) (maxL := 4) (ret := none) (by decide) rfl ?_
  intro p e s m args below meth c s₁ B hml hv
  obtain ⟨rfl, hsz, hP, hK, hD0, hN, hw⟩ := hv
  have hx := B.exec
  have hb := B.bytes
  have hr := B.returns
  have hts : ∀ w ∈ wsA, w.before _ s = true := fun w h => atoms_spec (ws := ws_J_fill) B.pre w (List.mem_cons_of_mem _ h)
  have hown : s.vm.findClass R_J = some m.cls := findClass_of_methodNamed B.named
  have hlocks := B.notSynchronized
  subst hsz
  have hD := hD0.self (sz := s.heap.size)
  generalize hAe : va_A (wdX a cA u) s.heap.size = A at hD ⊢
  have hA : ∀ q : Nat, s.heap.size ≤ q → A q := fun q h => by rw [← hAe]; exact Or.inr h
  have hS : va_S A s.heap s.heap [] := va_S.rf
  have hI : tX (dC, dI) twCl [(cA, .int)] A s s.heap [] (wdX a cA u) := ⟨hK, hP, hD, hS⟩
  have hC : tC p s m meth c ([.ref (a 22), .int x1] : List Value).toArray b_J_fill 4 none wsA R_J A := ⟨hx, hb, hr, hml, hown, hts, hlocks, hA, hN⟩
  have hl := lv_entry ([.ref (a 22), .int x1]) (n := 4) (Nat.le_of_ble_eq_true rfl)
  rw [lg_entry_eq]
  generalize (lg_sl ([.ref (a 22), .int x1]) ++ List.replicate (4 - (lg_sl ([.ref (a 22), .int x1])).length) Slot.unset).toArray = ls at hl ⊢
  have hl : lv_has ls 4 [(0, .ref (a 22)), (1, .int x1)] := hl
  have hw : (∃ k, w_J_fill_5 post k x1 0 144 u) := hw
  refine lv_iconst (v := 0) hx hb d_J_fill_0 (by decide) ?_
  refine lv_istore_n (lv' := [(2, .int 0), (0, .ref (a 22)), (1, .int x1)]) hx hb d_J_fill_1 rfl hl (by decide) rfl (fun ls hl => ?_)
  refine lv_aload_n hx hb d_J_fill_2 rfl (lv_at hl 1 rfl) ?_
  refine va_alen (D := (dC, dI)) (v := 144) hx hb hI.1 hI.2.1 22 0 (wdX_o22 a cA _) rfl rfl d_J_fill_3 ?_
  refine lv_istore_n (lv' := [(3, .int 144), (2, .int 0), (0, .ref (a 22)), (1, .int x1)]) hx hb d_J_fill_4 rfl hl (by decide) rfl (fun ls hl => ?_)
  obtain ⟨k, hw⟩ := hw
  exact k_J_fill_5 hC post k _ _ _ _ _ _ ls hw hI (lv_sub hl [2, 3, 1, 0] rfl)
def w_Wa_empty (post : tS → Prop) (u : tS) : Prop := (w_J_fill (fun u11 => (post u11)) 1000000 (tI u 3 0))
set_option maxRecDepth 100000 in
set_option maxHeartbeats 4000000 in
theorem c_Wa_empty (l : Launch) (dC : Nat → ClassId) (dI : Nat → Nat → Nat) (cA : ClassId) (a : Nat → Nat) (u : tS) (post : tS → Prop) (sz : Nat) : Met l y_Wa_empty ws_Wa_empty ({ frames := 1, cells := 0, slots := 0, locals := 23 }) (va_Pc [.ref (a 4)] (tP (dC, dI) twCl [(cA, .int)] (wdX a cA) u sz (w_Wa_empty post u))) (va_Qv post (tB (dC, dI) twCl [(cA, .int)] (va_A (wdX a cA u) sz) (wdX a cA)) (va_A (wdX a cA u) sz)) 0 0 (va_A (wdX a cA u) sz) := by
  refine Met.ofW (cc := b_Wa_empty) (maxL := 1) (ret := none) (by decide) rfl ?_
  intro p e s m args below meth c s₁ B hml hv
  obtain ⟨rfl, hsz, hP, hK, hD0, hN, hw⟩ := hv
  have hx := B.exec
  have hb := B.bytes
  have hr := B.returns
  have hts : ∀ w ∈ wsA, w.before _ s = true := fun w h => atoms_spec (ws := ws_Wa_empty) B.pre w (List.mem_cons_of_mem _ h)
  have hown : s.vm.findClass R_Wa = some m.cls := findClass_of_methodNamed B.named
  have hlocks := B.notSynchronized
  subst hsz
  have hD := hD0.self (sz := s.heap.size)
  generalize hAe : va_A (wdX a cA u) s.heap.size = A at hD ⊢
  have hA : ∀ q : Nat, s.heap.size ≤ q → A q := fun q h => by rw [← hAe]; exact Or.inr h
  have hS : va_S A s.heap s.heap [] := va_S.rf
  have hI : tX (dC, dI) twCl [(cA, .int)] A s s.heap [] (wdX a cA u) := ⟨hK, hP, hD, hS⟩
  have hC : tC p s m meth c ([.ref (a 4)] : List Value).toArray b_Wa_empty 1 none wsA R_Wa A := ⟨hx, hb, hr, hml, hown, hts, hlocks, hA, hN⟩
  have hl := lv_entry ([.ref (a 4)]) (n := 1) (Nat.le_of_ble_eq_true rfl)
  rw [lg_entry_eq]
  generalize (lg_sl ([.ref (a 4)]) ++ List.replicate (1 - (lg_sl ([.ref (a 4)])).length) Slot.unset).toArray = ls at hl ⊢
  have hl : lv_has ls 1 [(0, .ref (a 4))] := hl
  have hw : (w_J_fill (fun u11 => (post u11)) 1000000 (tI u 3 0)) := hw
  refine lv_aload_n hx hb d_Wa_empty_0 rfl (lv_at hl 0 rfl) ?_
  refine lv_iconst (v := 0) hx hb d_Wa_empty_1 (by decide) ?_
  refine tr_put (C := R_Wa) (T := F_Wa) (N := 5) (w := wdX a cA) hx hb hts in_Wa ft_Wa ft_Wa_ok fn_Wa hown hI 4 3 (wdX_o4 a cA _) rfl 0 (by decide) (hts _ wA_137) rfl (by decide +kernel) (Nat.le_of_ble_eq_true rfl) (wdX_i3 a cA _ _) d_Wa_empty_2 (fun H locs hI => ?_)
  refine lv_aload_n hx hb d_Wa_empty_5 rfl (lv_at hl 0 rfl) ?_
  refine va_get (D := (dC, dI)) (C := R_Wa) (T := F_Wa) (N := 5) hx hb hts in_Wa hown hI.1 hI.2.1 4 (wdX_o4 a cA _) rfl 4 (by decide) (hts _ wA_148) (fun _ h9 => h9) rfl d_Wa_empty_6 ?_
  refine lv_ldc (v := 1000000) hx hb hown (hts _ wA_133) d_Wa_empty_9 ?_
  refine tr_gov (w := wdX a cA) hI hA (va_runS (As := [.ref (a 22), .int 1000000]) (rest := []) ⟨hx, hb, hml, hown, hts⟩ (c_J_fill l dC dI cA a _ _ _ _) ⟨callB_of 2 hts (wsA_good wA_136) rfl rfl rfl (hts _ wA_35) (hts _ wA_134) (by decide +kernel) ⟨Nat.le_of_ble_eq_true rfl, Nat.le_of_ble_eq_true rfl⟩, hts _ wA_135⟩ (tr_preS hI hN hw) rfl rfl hl.1 rfl (lv_room (Nat.le_of_ble_eq_true rfl)) d_Wa_empty_11 ⟨Nat.zero_le _, Nat.zero_le _⟩) (fun u11 H locs hw hI => ?_)
  exact tr_vret hx hb hr hlocks hI hw d_Wa_empty_14
def w_Ne_empty (post : tS → Prop) (u : tS) : Prop := (w_Wa_empty (fun u25 => (post u25)) (tI (tI (tI u 0 0) 1 0) 2 0))
set_option maxRecDepth 100000 in
set_option maxHeartbeats 4000000 in
theorem c_Ne_empty (l : Launch) (dC : Nat → ClassId) (dI : Nat → Nat → Nat) (cA : ClassId) (a : Nat → Nat) (u : tS) (post : tS → Prop) (sz : Nat) : Met l y_Ne_empty ws_Ne_empty ({ frames := 2, cells := 0, slots := 0, locals := 43 }) (va_Pc [.ref (a 1)] (tP (dC, dI) twCl [(cA, .int)] (wdX a cA) u sz (w_Ne_empty post u))) (va_Qv post (tB (dC, dI) twCl [(cA, .int)] (va_A (wdX a cA u) sz) (wdX a cA)) (va_A (wdX a cA u) sz)) 0 0 (va_A (wdX a cA u) sz) := by
  refine Met.ofW (cc := b_Ne_empty) (maxL := 1) (ret := none) (by decide) rfl ?_
  intro p e s m args below meth c s₁ B hml hv
  obtain ⟨rfl, hsz, hP, hK, hD0, hN, hw⟩ := hv
  have hx := B.exec
  have hb := B.bytes
  have hr := B.returns
  have hts : ∀ w ∈ wsA, w.before _ s = true := fun w h => atoms_spec (ws := ws_Ne_empty) B.pre w (List.mem_cons_of_mem _ h)
  have hown : s.vm.findClass R_Ne = some m.cls := findClass_of_methodNamed B.named
  have hlocks := B.notSynchronized
  subst hsz
  have hD := hD0.self (sz := s.heap.size)
  generalize hAe : va_A (wdX a cA u) s.heap.size = A at hD ⊢
  have hA : ∀ q : Nat, s.heap.size ≤ q → A q := fun q h => by rw [← hAe]; exact Or.inr h
  have hS : va_S A s.heap s.heap [] := va_S.rf
  have hI : tX (dC, dI) twCl [(cA, .int)] A s s.heap [] (wdX a cA u) := ⟨hK, hP, hD, hS⟩
  have hC : tC p s m meth c ([.ref (a 1)] : List Value).toArray b_Ne_empty 1 none wsA R_Ne A := ⟨hx, hb, hr, hml, hown, hts, hlocks, hA, hN⟩
  have hl := lv_entry ([.ref (a 1)]) (n := 1) (Nat.le_of_ble_eq_true rfl)
  rw [lg_entry_eq]
  generalize (lg_sl ([.ref (a 1)]) ++ List.replicate (1 - (lg_sl ([.ref (a 1)])).length) Slot.unset).toArray = ls at hl ⊢
  have hl : lv_has ls 1 [(0, .ref (a 1))] := hl
  have hw : (w_Wa_empty (fun u25 => (post u25)) (tI (tI (tI u 0 0) 1 0) 2 0)) := hw
  refine lv_aload_n hx hb d_Ne_empty_0 rfl (lv_at hl 0 rfl) ?_
  refine lv_iconst (v := 0) hx hb d_Ne_empty_1 (by decide) ?_
  refine tr_put (C := R_Ne) (T := F_Ne) (N := 5) (w := wdX a cA) hx hb hts in_Ne ft_Ne ft_Ne_ok fn_Ne hown hI 1 0 (wdX_o1 a cA _) rfl 0 (by decide) (hts _ wA_160) rfl (by decide +kernel) (Nat.le_of_ble_eq_true rfl) (wdX_i0 a cA _ _) d_Ne_empty_2 (fun H locs hI => ?_)
  refine lv_aload_n hx hb d_Ne_empty_5 rfl (lv_at hl 0 rfl) ?_
  refine va_get (D := (dC, dI)) (C := R_Ne) (T := F_Ne) (N := 5) hx hb hts in_Ne hown hI.1 hI.2.1 1 (wdX_o1 a cA _) rfl 2 (by decide) (hts _ wA_166) (fun _ h9 => h9) rfl d_Ne_empty_6 ?_
  refine lv_iconst (v := 0) hx hb d_Ne_empty_9 (by decide) ?_
  refine tr_put (C := R_Ri) (T := F_Ri) (N := 7) (w := wdX a cA) hx hb hts in_Ri ft_Ri ft_Ri_ok fn_Ri hown hI 2 1 (wdX_o2 a cA _) rfl 0 (by decide) (hts _ wA_65) rfl (by decide +kernel) (Nat.le_of_ble_eq_true rfl) (wdX_i1 a cA _ _) d_Ne_empty_10 (fun H locs hI => ?_)
  refine lv_aload_n hx hb d_Ne_empty_13 rfl (lv_at hl 0 rfl) ?_
  refine va_get (D := (dC, dI)) (C := R_Ne) (T := F_Ne) (N := 5) hx hb hts in_Ne hown hI.1 hI.2.1 1 (wdX_o1 a cA _) rfl 3 (by decide) (hts _ wA_171) (fun _ h9 => h9) rfl d_Ne_empty_14 ?_
  refine lv_iconst (v := 0) hx hb d_Ne_empty_17 (by decide) ?_
  refine tr_put (C := R_Bo) (T := F_Bo) (N := 3) (w := wdX a cA) hx hb hts in_Bo ft_Bo ft_Bo_ok fn_Bo hown hI 3 2 (wdX_o3 a cA _) rfl 0 (by decide) (hts _ wA_113) rfl (by decide +kernel) (Nat.le_of_ble_eq_true rfl) (wdX_i2 a cA _ _) d_Ne_empty_18 (fun H locs hI => ?_)
  refine lv_aload_n hx hb d_Ne_empty_21 rfl (lv_at hl 0 rfl) ?_
  refine va_get (D := (dC, dI)) (C := R_Ne) (T := F_Ne) (N := 5) hx hb hts in_Ne hown hI.1 hI.2.1 1 (wdX_o1 a cA _) rfl 4 (by decide) (hts _ wA_175) (fun _ h9 => h9) rfl d_Ne_empty_22 ?_
  refine tr_gov (w := wdX a cA) hI hA (va_runV (As := []) (rest := []) ⟨hx, hb, hml, hown, hts⟩ (c_Wa_empty l dC dI cA a _ _ _) (cwV 0 hts (wsA_goodV wA_291 wA_292 wA_293 wA_34 wA_294) rfl rfl rfl (by decide +kernel) ⟨Nat.le_of_ble_eq_true rfl, Nat.le_of_ble_eq_true rfl⟩) (tr_preV (ci := 4) (q0 := 4) hI rfl (wdX_o4 a cA _) rfl hN hw) rfl rfl hl.1 rfl (lv_room (Nat.le_of_ble_eq_true rfl)) d_Ne_empty_25 ⟨Nat.zero_le _, Nat.zero_le _⟩) (fun u25 H locs hw hI => ?_)
  exact tr_vret hx hb hr hlocks hI hw d_Ne_empty_28
def w_T_clear (post : Int32 → tS → Prop) (u : tS) : Prop := (w_Ne_empty (fun u15 => (post (u.1 1) (tI (tI u15 4 0) 5 0))) u)
set_option maxRecDepth 100000 in
set_option maxHeartbeats 4000000 in
theorem c_T_clear (l : Launch) (dC : Nat → ClassId) (dI : Nat → Nat → Nat) (cA : ClassId) (a : Nat → Nat) (u : tS) (post : Int32 → tS → Prop) (sz : Nat) : Met l y_T_clear ws_T_clear ({ frames := 3, cells := 0, slots := 0, locals := 63 }) (va_Pc [.ref (a 0)] (tP (dC, dI) twCl [(cA, .int)] (wdX a cA) u sz (w_T_clear post u))) (va_Qi post (tB (dC, dI) twCl [(cA, .int)] (va_A (wdX a cA u) sz) (wdX a cA)) (va_A (wdX a cA u) sz)) 0 0 (va_A (wdX a cA u) sz) := by
  refine Met.ofW (cc := b_T_clear) (maxL := 2) (ret := (some .int)) (by decide) rfl ?_
  intro p e s m args below meth c s₁ B hml hv
  obtain ⟨rfl, hsz, hP, hK, hD0, hN, hw⟩ := hv
  have hx := B.exec
  have hb := B.bytes
  have hr := B.returns
  have hts : ∀ w ∈ wsA, w.before _ s = true := fun w h => atoms_spec (ws := ws_T_clear) B.pre w (List.mem_cons_of_mem _ h)
  have hown : s.vm.findClass R_T = some m.cls := findClass_of_methodNamed B.named
  have hlocks := B.notSynchronized
  subst hsz
  have hD := hD0.self (sz := s.heap.size)
  generalize hAe : va_A (wdX a cA u) s.heap.size = A at hD ⊢
  have hA : ∀ q : Nat, s.heap.size ≤ q → A q := fun q h => by rw [← hAe]; exact Or.inr h
  have hS : va_S A s.heap s.heap [] := va_S.rf
  have hI : tX (dC, dI) twCl [(cA, .int)] A s s.heap [] (wdX a cA u) := ⟨hK, hP, hD, hS⟩
  have hC : tC p s m meth c ([.ref (a 0)] : List Value).toArray b_T_clear 2 (some .int) wsA R_T A := ⟨hx, hb, hr, hml, hown, hts, hlocks, hA, hN⟩
  have hl := lv_entry ([.ref (a 0)]) (n := 2) (Nat.le_of_ble_eq_true rfl)
  rw [lg_entry_eq]
  generalize (lg_sl ([.ref (a 0)]) ++ List.replicate (2 - (lg_sl ([.ref (a 0)])).length) Slot.unset).toArray = ls at hl ⊢
  have hl : lv_has ls 2 [(0, .ref (a 0))] := hl
  have hw : (w_Ne_empty (fun u15 => (post (u.1 1) (tI (tI u15 4 0) 5 0))) u) := hw
  refine lv_aload_n hx hb d_T_clear_0 rfl (lv_at hl 0 rfl) ?_
  refine va_get (D := (dC, dI)) (C := R_T) (T := F_T) (N := 6) hx hb hts in_T hown hI.1 hI.2.1 0 (wdX_o0 a cA _) rfl 0 (by decide) (hts _ wA_264) (fun _ h9 => h9) rfl d_T_clear_1 ?_
  refine va_get (D := (dC, dI)) (C := R_Ne) (T := F_Ne) (N := 5) hx hb hts in_Ne hown hI.1 hI.2.1 1 (wdX_o1 a cA _) rfl 2 (by decide) (hts _ wA_167) (fun _ h9 => h9) rfl d_T_clear_4 ?_
  refine va_get (D := (dC, dI)) (C := R_Ri) (T := F_Ri) (N := 7) hx hb hts in_Ri hown hI.1 hI.2.1 2 (wdX_o2 a cA _) rfl 0 (by decide) (hts _ wA_64) (fun _ h9 => h9) rfl d_T_clear_7 ?_
  refine lv_istore_n (lv' := [(1, .int (u.1 1)), (0, .ref (a 0))]) hx hb d_T_clear_10 rfl hl (by decide) rfl (fun ls hl => ?_)
  refine lv_aload_n hx hb d_T_clear_11 rfl (lv_at hl 1 rfl) ?_
  refine va_get (D := (dC, dI)) (C := R_T) (T := F_T) (N := 6) hx hb hts in_T hown hI.1 hI.2.1 0 (wdX_o0 a cA _) rfl 0 (by decide) (hts _ wA_264) (fun _ h9 => h9) rfl d_T_clear_12 ?_
  refine tr_gov (w := wdX a cA) hI hA (va_runV (As := []) (rest := []) ⟨hx, hb, hml, hown, hts⟩ (c_Ne_empty l dC dI cA a _ _ _) (cwV 0 hts (wsA_goodV wA_287 wA_288 wA_289 wA_31 wA_290) rfl rfl rfl (by decide +kernel) ⟨Nat.le_of_ble_eq_true rfl, Nat.le_of_ble_eq_true rfl⟩) (tr_preV (ci := 1) (q0 := 1) hI rfl (wdX_o1 a cA _) rfl hN hw) rfl rfl hl.1 rfl (lv_room (Nat.le_of_ble_eq_true rfl)) d_T_clear_15 ⟨Nat.zero_le _, Nat.zero_le _⟩) (fun u15 H locs hw hI => ?_)
  refine lv_aload_n hx hb d_T_clear_18 rfl (lv_at hl 1 rfl) ?_
  refine va_get (D := (dC, dI)) (C := R_T) (T := F_T) (N := 6) hx hb hts in_T hown hI.1 hI.2.1 0 (wdX_o0 a cA _) rfl 4 (by decide) (hts _ wA_268) (fun _ h9 => h9) rfl d_T_clear_19 ?_
  refine lv_iconst (v := 0) hx hb d_T_clear_22 (by decide) ?_
  refine tr_put (C := R_St) (T := F_St) (N := 3) (w := wdX a cA) hx hb hts in_St ft_St ft_St_ok fn_St hown hI 8 4 (wdX_o8 a cA _) rfl 0 (by decide) (hts _ wA_225) rfl (by decide +kernel) (Nat.le_of_ble_eq_true rfl) (wdX_i4 a cA _ _) d_T_clear_23 (fun H locs hI => ?_)
  refine lv_aload_n hx hb d_T_clear_26 rfl (lv_at hl 1 rfl) ?_
  refine va_get (D := (dC, dI)) (C := R_T) (T := F_T) (N := 6) hx hb hts in_T hown hI.1 hI.2.1 0 (wdX_o0 a cA _) rfl 5 (by decide) (hts _ wA_269) (fun _ h9 => h9) rfl d_T_clear_27 ?_
  refine lv_iconst (v := 0) hx hb d_T_clear_30 (by decide) ?_
  refine tr_put (C := R_Ac) (T := F_Ac) (N := 5) (w := wdX a cA) hx hb hts in_Ac ft_Ac ft_Ac_ok fn_Ac hown hI 9 5 (wdX_o9 a cA _) rfl 0 (by decide) (hts _ wA_244) rfl (by decide +kernel) (Nat.le_of_ble_eq_true rfl) (wdX_i5 a cA _ _) d_T_clear_31 (fun H locs hI => ?_)
  refine lv_iload_n hx hb d_T_clear_34 rfl (lv_at hl 0 rfl) ?_
  exact tr_iret hx hb hr hlocks hI hw d_T_clear_35
def w_T_within (post : Int32 → tS → Prop) (x0 : Int32) (x1 : Int32) (x2 : Int32) (u : tS) : Prop := ((x0 < x1 → (post 0 u)) ∧ (¬ x0 < x1 → ((x2 < x0 → (post 0 u)) ∧ (¬ x2 < x0 → (post 1 u)))))
set_option maxRecDepth 100000 in
set_option maxHeartbeats 4000000 in
theorem c_T_within (l : Launch) (dC : Nat → ClassId) (dI : Nat → Nat → Nat) (cA : ClassId) (a : Nat → Nat) (u : tS) (x0 : Int32) (x1 : Int32) (x2 : Int32) (post : Int32 → tS → Prop) (sz : Nat) : Met l y_T_within ws_T_within ({ frames := 0, cells := 0, slots := 0, locals := 0 }) (va_Pc [.int x0, .int x1, .int x2] (tP (dC, dI) twCl [(cA, .int)] (wdX a cA) u sz (w_T_within post x0 x1 x2 u))) (va_Qi post (tB (dC, dI) twCl [(cA, .int)] (va_A (wdX a cA u) sz) (wdX a cA)) (va_A (wdX a cA u) sz)) 0 0 (va_A (wdX a cA u) sz) := by
  refine Met.ofW (cc := b_T_within) (maxL := 3) (ret := (some .boolean)) (by decide) rfl ?_
  intro p e s m args below meth c s₁ B hml hv
  obtain ⟨rfl, hsz, hP, hK, hD0, hN, hw⟩ := hv
  have hx := B.exec
  have hb := B.bytes
  have hr := B.returns
  have hts : ∀ w ∈ wsA, w.before _ s = true := fun w h => atoms_spec (ws := ws_T_within) B.pre w (List.mem_cons_of_mem _ h)
  have hown : s.vm.findClass R_T = some m.cls := findClass_of_methodNamed B.named
  have hlocks := B.notSynchronized
  subst hsz
  have hD := hD0.self (sz := s.heap.size)
  generalize hAe : va_A (wdX a cA u) s.heap.size = A at hD ⊢
  have hA : ∀ q : Nat, s.heap.size ≤ q → A q := fun q h => by rw [← hAe]; exact Or.inr h
  have hS : va_S A s.heap s.heap [] := va_S.rf
  have hI : tX (dC, dI) twCl [(cA, .int)] A s s.heap [] (wdX a cA u) := ⟨hK, hP, hD, hS⟩
  have hC : tC p s m meth c ([.int x0, .int x1, .int x2] : List Value).toArray b_T_within 3 (some .boolean) wsA R_T A := ⟨hx, hb, hr, hml, hown, hts, hlocks, hA, hN⟩
  have hl := lv_entry ([.int x0, .int x1, .int x2]) (n := 3) (Nat.le_of_ble_eq_true rfl)
  rw [lg_entry_eq]
  generalize (lg_sl ([.int x0, .int x1, .int x2]) ++ List.replicate (3 - (lg_sl ([.int x0, .int x1, .int x2])).length) Slot.unset).toArray = ls at hl ⊢
  have hl : lv_has ls 3 [(0, .int x0), (1, .int x1), (2, .int x2)] := hl
  have hw : ((x0 < x1 → (post 0 u)) ∧ (¬ x0 < x1 → ((x2 < x0 → (post 0 u)) ∧ (¬ x2 < x0 → (post 1 u))))) := hw
  refine lv_iload_n hx hb d_T_within_0 rfl (lv_at hl 0 rfl) ?_
  refine lv_iload_n hx hb d_T_within_1 rfl (lv_at hl 1 rfl) ?_
  refine lv_icmp_lt (tgt := 14) hx hb d_T_within_2 (by decide) (fun hc => ?_) (fun hc => ?_)
  · have hw := hw.1 hc
    refine lv_iconst (v := 0) hx hb d_T_within_14 (by decide) ?_
    exact tr_zret hx hb hr hlocks hI rfl hw d_T_within_15
  · have hw := hw.2 hc
    refine lv_iload_n hx hb d_T_within_5 rfl (lv_at hl 0 rfl) ?_
    refine lv_iload_n hx hb d_T_within_6 rfl (lv_at hl 2 rfl) ?_
    refine lv_icmp_gt (tgt := 14) hx hb d_T_within_7 (by decide) (fun hc => ?_) (fun hc => ?_)
    · have hw := hw.1 hc
      refine lv_iconst (v := 0) hx hb d_T_within_14 (by decide) ?_
      exact tr_zret hx hb hr hlocks hI rfl hw d_T_within_15
    · have hw := hw.2 hc
      refine lv_iconst (v := 1) hx hb d_T_within_10 (by decide) ?_
      refine lv_goto (tgt := 15) hx hb d_T_within_11 (by decide) ?_
      exact tr_zret hx hb hr hlocks hI rfl hw d_T_within_15
def w_T_stop (post : Int32 → tS → Prop) (x1 : Int32) (u : tS) : Prop := (w_T_within (fun r4 u4 => ((r4 = 0 → (post (-2) u4)) ∧ (¬ r4 = 0 → (((u4.1 0) < 12 → (vp_in (u4.1 0) 12 ∧ (post (((tI (tA u4 0 (u4.1 0) x1) 0 (((tA u4 0 (u4.1 0) x1).1 0) + 1)).1 0) - 1) (tI (tA u4 0 (u4.1 0) x1) 0 (((tA u4 0 (u4.1 0) x1).1 0) + 1))))) ∧ (¬ (u4.1 0) < 12 → (post (-3) u4)))))) x1 0 60 u)
set_option maxRecDepth 100000 in
set_option maxHeartbeats 4000000 in
theorem c_T_stop (l : Launch) (dC : Nat → ClassId) (dI : Nat → Nat → Nat) (cA : ClassId) (a : Nat → Nat) (u : tS) (x1 : Int32) (post : Int32 → tS → Prop) (sz : Nat) : Met l y_T_stop ws_T_stop ({ frames := 1, cells := 0, slots := 0, locals := 22 }) (va_Pc [.ref (a 0), .int x1] (tP (dC, dI) twCl [(cA, .int)] (wdX a cA) u sz (w_T_stop post x1 u))) (va_Qi post (tB (dC, dI) twCl [(cA, .int)] (va_A (wdX a cA u) sz) (wdX a cA)) (va_A (wdX a cA u) sz)) 0 0 (va_A (wdX a cA u) sz) := by
  refine Met.ofW (cc := b_T_stop) (maxL := 2) (ret := (some .int)) (by decide) rfl ?_
  intro p e s m args below meth c s₁ B hml hv
  obtain ⟨rfl, hsz, hP, hK, hD0, hN, hw⟩ := hv
  have hx := B.exec
  have hb := B.bytes
  have hr := B.returns
  have hts : ∀ w ∈ wsA, w.before _ s = true := fun w h => atoms_spec (ws := ws_T_stop) B.pre w (List.mem_cons_of_mem _ h)
  have hown : s.vm.findClass R_T = some m.cls := findClass_of_methodNamed B.named
  have hlocks := B.notSynchronized
  subst hsz
  have hD := hD0.self (sz := s.heap.size)
  generalize hAe : va_A (wdX a cA u) s.heap.size = A at hD ⊢
  have hA : ∀ q : Nat, s.heap.size ≤ q → A q := fun q h => by rw [← hAe]; exact Or.inr h
  have hS : va_S A s.heap s.heap [] := va_S.rf
  have hI : tX (dC, dI) twCl [(cA, .int)] A s s.heap [] (wdX a cA u) := ⟨hK, hP, hD, hS⟩
  have hC : tC p s m meth c ([.ref (a 0), .int x1] : List Value).toArray b_T_stop 2 (some .int) wsA R_T A := ⟨hx, hb, hr, hml, hown, hts, hlocks, hA, hN⟩
  have hl := lv_entry ([.ref (a 0), .int x1]) (n := 2) (Nat.le_of_ble_eq_true rfl)
  rw [lg_entry_eq]
  generalize (lg_sl ([.ref (a 0), .int x1]) ++ List.replicate (2 - (lg_sl ([.ref (a 0), .int x1])).length) Slot.unset).toArray = ls at hl ⊢
  have hl : lv_has ls 2 [(0, .ref (a 0)), (1, .int x1)] := hl
  have hw : (w_T_within (fun r4 u4 => ((r4 = 0 → (post (-2) u4)) ∧ (¬ r4 = 0 → (((u4.1 0) < 12 → (vp_in (u4.1 0) 12 ∧ (post (((tI (tA u4 0 (u4.1 0) x1) 0 (((tA u4 0 (u4.1 0) x1).1 0) + 1)).1 0) - 1) (tI (tA u4 0 (u4.1 0) x1) 0 (((tA u4 0 (u4.1 0) x1).1 0) + 1))))) ∧ (¬ (u4.1 0) < 12 → (post (-3) u4)))))) x1 0 60 u) := hw
  refine lv_iload_n hx hb d_T_stop_0 rfl (lv_at hl 1 rfl) ?_
  refine lv_iconst (v := 0) hx hb d_T_stop_1 (by decide) ?_
  refine lv_bipush (v := 60) hx hb d_T_stop_2 (by decide) ?_
  refine tr_goi (w := wdX a cA) hI hA (va_runS (As := [.int x1, .int 0, .int 60]) (rest := []) ⟨hx, hb, hml, hown, hts⟩ (c_T_within l dC dI cA a _ _ _ _ _ _) ⟨callB_of 3 hts (wsA_good wA_301) rfl rfl rfl (hts _ wA_30) (hts _ wA_299) (by decide +kernel) ⟨Nat.le_of_ble_eq_true rfl, Nat.le_of_ble_eq_true rfl⟩, hts _ wA_300⟩ (tr_preS hI hN hw) rfl rfl hl.1 rfl (lv_room (Nat.le_of_ble_eq_true rfl)) d_T_stop_4 ⟨Nat.zero_le _, Nat.zero_le _⟩) (fun r4 u4 H locs hw hI => ?_)
  refine lv_if_ne (tgt := 13) hx hb d_T_stop_7 (by decide) (fun hc => ?_) (fun hc => ?_)
  · have hw := hw.2 hc
    refine lv_aload_n hx hb d_T_stop_13 rfl (lv_at hl 0 rfl) ?_
    refine va_get (D := (dC, dI)) (C := R_T) (T := F_T) (N := 6) hx hb hts in_T hown hI.1 hI.2.1 0 (wdX_o0 a cA _) rfl 0 (by decide) (hts _ wA_264) (fun _ h9 => h9) rfl d_T_stop_14 ?_
    refine va_get (D := (dC, dI)) (C := R_Ne) (T := F_Ne) (N := 5) hx hb hts in_Ne hown hI.1 hI.2.1 1 (wdX_o1 a cA _) rfl 0 (by decide) (hts _ wA_161) (fun _ h9 => h9) rfl d_T_stop_17 ?_
    refine lv_bipush (v := 12) hx hb d_T_stop_20 (by decide) ?_
    refine lv_icmp_lt (tgt := 28) hx hb d_T_stop_22 (by decide) (fun hc => ?_) (fun hc => ?_)
    · have hw := hw.1 hc
      refine lv_aload_n hx hb d_T_stop_28 rfl (lv_at hl 0 rfl) ?_
      refine va_get (D := (dC, dI)) (C := R_T) (T := F_T) (N := 6) hx hb hts in_T hown hI.1 hI.2.1 0 (wdX_o0 a cA _) rfl 0 (by decide) (hts _ wA_264) (fun _ h9 => h9) rfl d_T_stop_29 ?_
      refine va_get (D := (dC, dI)) (C := R_Ne) (T := F_Ne) (N := 5) hx hb hts in_Ne hown hI.1 hI.2.1 1 (wdX_o1 a cA _) rfl 1 (by decide) (hts _ wA_164) (fun _ h9 => h9) rfl d_T_stop_32 ?_
      refine lv_aload_n hx hb d_T_stop_35 rfl (lv_at hl 0 rfl) ?_
      refine va_get (D := (dC, dI)) (C := R_T) (T := F_T) (N := 6) hx hb hts in_T hown hI.1 hI.2.1 0 (wdX_o0 a cA _) rfl 0 (by decide) (hts _ wA_264) (fun _ h9 => h9) rfl d_T_stop_36 ?_
      refine va_get (D := (dC, dI)) (C := R_Ne) (T := F_Ne) (N := 5) hx hb hts in_Ne hown hI.1 hI.2.1 1 (wdX_o1 a cA _) rfl 0 (by decide) (hts _ wA_161) (fun _ h9 => h9) rfl d_T_stop_39 ?_
      refine lv_iload_n hx hb d_T_stop_42 rfl (lv_at hl 1 rfl) ?_
      obtain ⟨hi, hw⟩ := hw
      refine tr_iast (w := wdX a cA) hx hb hI 10 0 0 (wdX_o10 a cA _) rfl (wdX_a0 a cA _ _ _) hi d_T_stop_43 (fun H locs hI => ?_)
      refine lv_aload_n hx hb d_T_stop_44 rfl (lv_at hl 0 rfl) ?_
      refine va_get (D := (dC, dI)) (C := R_T) (T := F_T) (N := 6) hx hb hts in_T hown hI.1 hI.2.1 0 (wdX_o0 a cA _) rfl 0 (by decide) (hts _ wA_264) (fun _ h9 => h9) rfl d_T_stop_45 ?_
      refine lv_dup hx hb d_T_stop_48 rfl ?_
      refine va_get (D := (dC, dI)) (C := R_Ne) (T := F_Ne) (N := 5) hx hb hts in_Ne hown hI.1 hI.2.1 1 (wdX_o1 a cA _) rfl 0 (by decide) (hts _ wA_161) (fun _ h9 => h9) rfl d_T_stop_49 ?_
      refine lv_iconst (v := 1) hx hb d_T_stop_52 (by decide) ?_
      refine lv_iadd hx hb d_T_stop_53 ?_
      refine tr_put (C := R_Ne) (T := F_Ne) (N := 5) (w := wdX a cA) hx hb hts in_Ne ft_Ne ft_Ne_ok fn_Ne hown hI 1 0 (wdX_o1 a cA _) rfl 0 (by decide) (hts _ wA_161) rfl (by decide +kernel) (Nat.le_of_ble_eq_true rfl) (wdX_i0 a cA _ _) d_T_stop_54 (fun H locs hI => ?_)
      refine lv_aload_n hx hb d_T_stop_57 rfl (lv_at hl 0 rfl) ?_
      refine va_get (D := (dC, dI)) (C := R_T) (T := F_T) (N := 6) hx hb hts in_T hown hI.1 hI.2.1 0 (wdX_o0 a cA _) rfl 0 (by decide) (hts _ wA_264) (fun _ h9 => h9) rfl d_T_stop_58 ?_
      refine va_get (D := (dC, dI)) (C := R_Ne) (T := F_Ne) (N := 5) hx hb hts in_Ne hown hI.1 hI.2.1 1 (wdX_o1 a cA _) rfl 0 (by decide) (hts _ wA_161) (fun _ h9 => h9) rfl d_T_stop_61 ?_
      refine lv_iconst (v := 1) hx hb d_T_stop_64 (by decide) ?_
      refine lv_isub hx hb d_T_stop_65 ?_
      exact tr_iret hx hb hr hlocks hI hw d_T_stop_66
    · have hw := hw.2 hc
      refine lv_bipush (v := (-3)) hx hb d_T_stop_25 (by decide) ?_
      exact tr_iret hx hb hr hlocks hI hw d_T_stop_27
  · have hw := hw.1 hc
    refine lv_bipush (v := (-2)) hx hb d_T_stop_10 (by decide) ?_
    exact tr_iret hx hb hr hlocks hI hw d_T_stop_12
def w_Ne_hasStop (post : Int32 → tS → Prop) (x1 : Int32) (u : tS) : Prop := (w_T_within (fun r8 u8 => (narrow .boolean (.int r8) = .int r8 ∧ post r8 u8)) x1 0 ((u.1 0) - 1) u)
set_option maxRecDepth 100000 in
set_option maxHeartbeats 4000000 in
theorem c_Ne_hasStop (l : Launch) (dC : Nat → ClassId) (dI : Nat → Nat → Nat) (cA : ClassId) (a : Nat → Nat) (u : tS) (x1 : Int32) (post : Int32 → tS → Prop) (sz : Nat) : Met l y_Ne_hasStop ws_Ne_hasStop ({ frames := 1, cells := 0, slots := 0, locals := 22 }) (va_Pc [.ref (a 1), .int x1] (tP (dC, dI) twCl [(cA, .int)] (wdX a cA) u sz (w_Ne_hasStop post x1 u))) (va_Qi post (tB (dC, dI) twCl [(cA, .int)] (va_A (wdX a cA u) sz) (wdX a cA)) (va_A (wdX a cA u) sz)) 0 0 (va_A (wdX a cA u) sz) := by
  refine Met.ofW (cc := b_Ne_hasStop) (maxL := 2) (ret := (some .boolean)) (by decide) rfl ?_
  intro p e s m args below meth c s₁ B hml hv
  obtain ⟨rfl, hsz, hP, hK, hD0, hN, hw⟩ := hv
  have hx := B.exec
  have hb := B.bytes
  have hr := B.returns
  have hts : ∀ w ∈ wsA, w.before _ s = true := fun w h => atoms_spec (ws := ws_Ne_hasStop) B.pre w (List.mem_cons_of_mem _ h)
  have hown : s.vm.findClass R_Ne = some m.cls := findClass_of_methodNamed B.named
  have hlocks := B.notSynchronized
  subst hsz
  have hD := hD0.self (sz := s.heap.size)
  generalize hAe : va_A (wdX a cA u) s.heap.size = A at hD ⊢
  have hA : ∀ q : Nat, s.heap.size ≤ q → A q := fun q h => by rw [← hAe]; exact Or.inr h
  have hS : va_S A s.heap s.heap [] := va_S.rf
  have hI : tX (dC, dI) twCl [(cA, .int)] A s s.heap [] (wdX a cA u) := ⟨hK, hP, hD, hS⟩
  have hC : tC p s m meth c ([.ref (a 1), .int x1] : List Value).toArray b_Ne_hasStop 2 (some .boolean) wsA R_Ne A := ⟨hx, hb, hr, hml, hown, hts, hlocks, hA, hN⟩
  have hl := lv_entry ([.ref (a 1), .int x1]) (n := 2) (Nat.le_of_ble_eq_true rfl)
  rw [lg_entry_eq]
  generalize (lg_sl ([.ref (a 1), .int x1]) ++ List.replicate (2 - (lg_sl ([.ref (a 1), .int x1])).length) Slot.unset).toArray = ls at hl ⊢
  have hl : lv_has ls 2 [(0, .ref (a 1)), (1, .int x1)] := hl
  have hw : (w_T_within (fun r8 u8 => (narrow .boolean (.int r8) = .int r8 ∧ post r8 u8)) x1 0 ((u.1 0) - 1) u) := hw
  refine lv_iload_n hx hb d_Ne_hasStop_0 rfl (lv_at hl 1 rfl) ?_
  refine lv_iconst (v := 0) hx hb d_Ne_hasStop_1 (by decide) ?_
  refine lv_aload_n hx hb d_Ne_hasStop_2 rfl (lv_at hl 0 rfl) ?_
  refine va_get (D := (dC, dI)) (C := R_Ne) (T := F_Ne) (N := 5) hx hb hts in_Ne hown hI.1 hI.2.1 1 (wdX_o1 a cA _) rfl 0 (by decide) (hts _ wA_160) (fun _ h9 => h9) rfl d_Ne_hasStop_3 ?_
  refine lv_iconst (v := 1) hx hb d_Ne_hasStop_6 (by decide) ?_
  refine lv_isub hx hb d_Ne_hasStop_7 ?_
  refine tr_goi (w := wdX a cA) hI hA (va_runSN (As := [.int x1, .int 0, .int ((u.1 0) - 1)]) (rest := []) ⟨hx, hb, hml, hown, hts⟩ (c_T_within l dC dI cA a _ _ _ _ _ _) ⟨va_cnB 3 hts (wsA_good wA_301) rfl rfl rfl hN.1 (hts _ wA_30) (by decide +kernel) ⟨Nat.le_of_ble_eq_true rfl, Nat.le_of_ble_eq_true rfl⟩, hts _ wA_300, trivial⟩ (tr_preS hI hN hw) rfl rfl hl.1 rfl (lv_room (Nat.le_of_ble_eq_true rfl)) d_Ne_hasStop_8 ⟨Nat.zero_le _, Nat.zero_le _⟩) (fun r8 u8 H locs hw hI => ?_)
  obtain ⟨hn, hw⟩ := hw
  exact tr_zret hx hb hr hlocks hI hn hw d_Ne_hasStop_11
def w_T_change (post : Int32 → tS → Prop) (x1 : Int32) (x2 : Int32) (u : tS) : Prop := (w_Ne_hasStop (fun r5 u5 => ((r5 = 0 → (post (-2) u5)) ∧ (¬ r5 = 0 → (w_T_within (fun r15 u15 => ((r15 = 0 → (post (-2) u15)) ∧ (¬ r15 = 0 → (vp_in x1 12 ∧ (vp_in x1 12 ∧ (post (u15.2 0 x1.toNatClampNeg) (tA u15 0 x1 x2))))))) x2 0 60 u5)))) x1 u)
set_option maxRecDepth 100000 in
set_option maxHeartbeats 4000000 in
theorem c_T_change (l : Launch) (dC : Nat → ClassId) (dI : Nat → Nat → Nat) (cA : ClassId) (a : Nat → Nat) (u : tS) (x1 : Int32) (x2 : Int32) (post : Int32 → tS → Prop) (sz : Nat) : Met l y_T_change ws_T_change ({ frames := 2, cells := 0, slots := 0, locals := 43 }) (va_Pc [.ref (a 0), .int x1, .int x2] (tP (dC, dI) twCl [(cA, .int)] (wdX a cA) u sz (w_T_change post x1 x2 u))) (va_Qi post (tB (dC, dI) twCl [(cA, .int)] (va_A (wdX a cA u) sz) (wdX a cA)) (va_A (wdX a cA u) sz)) 0 0 (va_A (wdX a cA u) sz) := by
  refine Met.ofW (cc := b_T_change) (maxL := 4) (ret := (some .int)) (by decide) rfl ?_
  intro p e s m args below meth c s₁ B hml hv
  obtain ⟨rfl, hsz, hP, hK, hD0, hN, hw⟩ := hv
  have hx := B.exec
  have hb := B.bytes
  have hr := B.returns
  have hts : ∀ w ∈ wsA, w.before _ s = true := fun w h => atoms_spec (ws := ws_T_change) B.pre w (List.mem_cons_of_mem _ h)
  have hown : s.vm.findClass R_T = some m.cls := findClass_of_methodNamed B.named
  have hlocks := B.notSynchronized
  subst hsz
  have hD := hD0.self (sz := s.heap.size)
  generalize hAe : va_A (wdX a cA u) s.heap.size = A at hD ⊢
  have hA : ∀ q : Nat, s.heap.size ≤ q → A q := fun q h => by rw [← hAe]; exact Or.inr h
  have hS : va_S A s.heap s.heap [] := va_S.rf
  have hI : tX (dC, dI) twCl [(cA, .int)] A s s.heap [] (wdX a cA u) := ⟨hK, hP, hD, hS⟩
  have hC : tC p s m meth c ([.ref (a 0), .int x1, .int x2] : List Value).toArray b_T_change 4 (some .int) wsA R_T A := ⟨hx, hb, hr, hml, hown, hts, hlocks, hA, hN⟩
  have hl := lv_entry ([.ref (a 0), .int x1, .int x2]) (n := 4) (Nat.le_of_ble_eq_true rfl)
  rw [lg_entry_eq]
  generalize (lg_sl ([.ref (a 0), .int x1, .int x2]) ++ List.replicate (4 - (lg_sl ([.ref (a 0), .int x1, .int x2])).length) Slot.unset).toArray = ls at hl ⊢
  have hl : lv_has ls 4 [(0, .ref (a 0)), (1, .int x1), (2, .int x2)] := hl
  have hw : (w_Ne_hasStop (fun r5 u5 => ((r5 = 0 → (post (-2) u5)) ∧ (¬ r5 = 0 → (w_T_within (fun r15 u15 => ((r15 = 0 → (post (-2) u15)) ∧ (¬ r15 = 0 → (vp_in x1 12 ∧ (vp_in x1 12 ∧ (post (u15.2 0 x1.toNatClampNeg) (tA u15 0 x1 x2))))))) x2 0 60 u5)))) x1 u) := hw
  refine lv_aload_n hx hb d_T_change_0 rfl (lv_at hl 0 rfl) ?_
  refine va_get (D := (dC, dI)) (C := R_T) (T := F_T) (N := 6) hx hb hts in_T hown hI.1 hI.2.1 0 (wdX_o0 a cA _) rfl 0 (by decide) (hts _ wA_264) (fun _ h9 => h9) rfl d_T_change_1 ?_
  refine lv_iload_n hx hb d_T_change_4 rfl (lv_at hl 1 rfl) ?_
  refine tr_goi (w := wdX a cA) hI hA (va_runV (As := [.int x1]) (rest := []) ⟨hx, hb, hml, hown, hts⟩ (c_Ne_hasStop l dC dI cA a _ _ _ _) (cwV 1 hts (wsA_goodV wA_306 wA_307 wA_308 wA_31 wA_309) rfl rfl rfl (by decide +kernel) ⟨Nat.le_of_ble_eq_true rfl, Nat.le_of_ble_eq_true rfl⟩) (tr_preV (ci := 1) (q0 := 1) hI rfl (wdX_o1 a cA _) rfl hN hw) rfl rfl hl.1 rfl (lv_room (Nat.le_of_ble_eq_true rfl)) d_T_change_5 ⟨Nat.zero_le _, Nat.zero_le _⟩) (fun r5 u5 H locs hw hI => ?_)
  refine lv_if_eq (tgt := 21) hx hb d_T_change_8 (by decide) (fun hc => ?_) (fun hc => ?_)
  · have hw := hw.1 hc
    refine lv_bipush (v := (-2)) hx hb d_T_change_21 (by decide) ?_
    exact tr_iret hx hb hr hlocks hI hw d_T_change_23
  · have hw := hw.2 hc
    refine lv_iload_n hx hb d_T_change_11 rfl (lv_at hl 2 rfl) ?_
    refine lv_iconst (v := 0) hx hb d_T_change_12 (by decide) ?_
    refine lv_bipush (v := 60) hx hb d_T_change_13 (by decide) ?_
    refine tr_goi (w := wdX a cA) hI hA (va_runS (As := [.int x2, .int 0, .int 60]) (rest := []) ⟨hx, hb, hml, hown, hts⟩ (c_T_within l dC dI cA a _ _ _ _ _ _) ⟨callB_of 3 hts (wsA_good wA_301) rfl rfl rfl (hts _ wA_30) (hts _ wA_299) (by decide +kernel) ⟨Nat.le_of_ble_eq_true rfl, Nat.le_of_ble_eq_true rfl⟩, hts _ wA_300⟩ (tr_preS hI hN hw) rfl rfl hl.1 rfl (lv_room (Nat.le_of_ble_eq_true rfl)) d_T_change_15 ⟨Nat.zero_le _, Nat.zero_le _⟩) (fun r15 u15 H locs hw hI => ?_)
    refine lv_if_ne (tgt := 24) hx hb d_T_change_18 (by decide) (fun hc => ?_) (fun hc => ?_)
    · have hw := hw.2 hc
      refine lv_aload_n hx hb d_T_change_24 rfl (lv_at hl 0 rfl) ?_
      refine va_get (D := (dC, dI)) (C := R_T) (T := F_T) (N := 6) hx hb hts in_T hown hI.1 hI.2.1 0 (wdX_o0 a cA _) rfl 0 (by decide) (hts _ wA_264) (fun _ h9 => h9) rfl d_T_change_25 ?_
      refine va_get (D := (dC, dI)) (C := R_Ne) (T := F_Ne) (N := 5) hx hb hts in_Ne hown hI.1 hI.2.1 1 (wdX_o1 a cA _) rfl 1 (by decide) (hts _ wA_164) (fun _ h9 => h9) rfl d_T_change_28 ?_
      refine lv_iload_n hx hb d_T_change_31 rfl (lv_at hl 1 rfl) ?_
      obtain ⟨hi, hw⟩ := hw
      refine va_iald (D := (dC, dI)) hx hb hI.1 hI.2.1 10 0 (wdX_o10 a cA _) rfl hi d_T_change_32 ?_
      refine lv_istore_n (lv' := [(3, .int (u15.2 0 x1.toNatClampNeg)), (0, .ref (a 0)), (1, .int x1), (2, .int x2)]) hx hb d_T_change_33 rfl hl (by decide) rfl (fun ls hl => ?_)
      refine lv_aload_n hx hb d_T_change_34 rfl (lv_at hl 1 rfl) ?_
      refine va_get (D := (dC, dI)) (C := R_T) (T := F_T) (N := 6) hx hb hts in_T hown hI.1 hI.2.1 0 (wdX_o0 a cA _) rfl 0 (by decide) (hts _ wA_264) (fun _ h9 => h9) rfl d_T_change_35 ?_
      refine va_get (D := (dC, dI)) (C := R_Ne) (T := F_Ne) (N := 5) hx hb hts in_Ne hown hI.1 hI.2.1 1 (wdX_o1 a cA _) rfl 1 (by decide) (hts _ wA_164) (fun _ h9 => h9) rfl d_T_change_38 ?_
      refine lv_iload_n hx hb d_T_change_41 rfl (lv_at hl 2 rfl) ?_
      refine lv_iload_n hx hb d_T_change_42 rfl (lv_at hl 3 rfl) ?_
      obtain ⟨hi, hw⟩ := hw
      refine tr_iast (w := wdX a cA) hx hb hI 10 0 0 (wdX_o10 a cA _) rfl (wdX_a0 a cA _ _ _) hi d_T_change_43 (fun H locs hI => ?_)
      refine lv_iload_n hx hb d_T_change_44 rfl (lv_at hl 0 rfl) ?_
      exact tr_iret hx hb hr hlocks hI hw d_T_change_45
    · have hw := hw.1 hc
      refine lv_bipush (v := (-2)) hx hb d_T_change_21 (by decide) ?_
      exact tr_iret hx hb hr hlocks hI hw d_T_change_23
