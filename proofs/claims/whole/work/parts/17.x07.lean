def w_T_isSpan (post : Int32 → tS → Prop) (x0 : Int32) (x1 : Int32) (u : tS) : Prop := (w_T_isTime (fun r1 u1 => ((r1 = 0 → (post 0 u1)) ∧ (¬ r1 = 0 → (w_T_isTime (fun r8 u8 => ((r8 = 0 → (post 0 u8)) ∧ (¬ r8 = 0 → (w_T_within (fun r21 u21 => ((r21 = 0 → (post 0 u21)) ∧ (¬ r21 = 0 → (post 1 u21)))) (x1 - x0) 0 600 u8)))) x1 u1)))) x0 u)
set_option maxRecDepth 100000 in
set_option maxHeartbeats 4000000 in
theorem c_T_isSpan (l : Launch) (dC : Nat → ClassId) (dI : Nat → Nat → Nat) (cA : ClassId) (a : Nat → Nat) (u : tS) (x0 : Int32) (x1 : Int32) (post : Int32 → tS → Prop) (sz : Nat) : Met l y_T_isSpan ws_T_isSpan ({ frames := 2, cells := 0, slots := 0, locals := 42 }) (va_Pc [.int x0, .int x1] (tP (dC, dI) twCl [(cA, .int)] (wdX a cA) u sz (w_T_isSpan post x0 x1 u))) (va_Qi post (tB (dC, dI) twCl [(cA, .int)] (va_A (wdX a cA u) sz) (wdX a cA)) (va_A (wdX a cA u) sz)) 0 0 (va_A (wdX a cA u) sz) := by
  refine Met.ofW (cc := b_T_isSpan) (maxL := 2) (ret := (some .boolean)) (by decide) rfl ?_
  intro p e s m args below meth c s₁ B hml hv
  obtain ⟨rfl, hsz, hP, hK, hD0, hN, hw⟩ := hv
  have hx := B.exec
  have hb := B.bytes
  have hr := B.returns
  have hts : ∀ w ∈ wsA, w.before _ s = true := fun w h => atoms_spec (ws := ws_T_isSpan) B.pre w (List.mem_cons_of_mem _ h)
  have hown : s.vm.findClass R_T = some m.cls := findClass_of_methodNamed B.named
  have hlocks := B.notSynchronized
  subst hsz
  have hD := hD0.self (sz := s.heap.size)
  generalize hAe : va_A (wdX a cA u) s.heap.size = A at hD ⊢
  have hA : ∀ q : Nat, s.heap.size ≤ q → A q := fun q h => by rw [← hAe]; exact Or.inr h
  have hS : va_S A s.heap s.heap [] := va_S.rf
  have hI : tX (dC, dI) twCl [(cA, .int)] A s s.heap [] (wdX a cA u) := ⟨hK, hP, hD, hS⟩
  have hC : tC p s m meth c ([.int x0, .int x1] : List Value).toArray b_T_isSpan 2 (some .boolean) wsA R_T A := ⟨hx, hb, hr, hml, hown, hts, hlocks, hA, hN⟩
  have hl := lv_entry ([.int x0, .int x1]) (n := 2) (Nat.le_of_ble_eq_true rfl)
  rw [lg_entry_eq]
  generalize (lg_sl ([.int x0, .int x1]) ++ List.replicate (2 - (lg_sl ([.int x0, .int x1])).length) Slot.unset).toArray = ls at hl ⊢
  have hl : lv_has ls 2 [(0, .int x0), (1, .int x1)] := hl
  have hw : (w_T_isTime (fun r1 u1 => ((r1 = 0 → (post 0 u1)) ∧ (¬ r1 = 0 → (w_T_isTime (fun r8 u8 => ((r8 = 0 → (post 0 u8)) ∧ (¬ r8 = 0 → (w_T_within (fun r21 u21 => ((r21 = 0 → (post 0 u21)) ∧ (¬ r21 = 0 → (post 1 u21)))) (x1 - x0) 0 600 u8)))) x1 u1)))) x0 u) := hw
  refine lv_iload_n hx hb d_T_isSpan_0 rfl (lv_at hl 0 rfl) ?_
  refine tr_goi (w := wdX a cA) hI hA (va_runS (As := [.int x0]) (rest := []) ⟨hx, hb, hml, hown, hts⟩ (c_T_isTime l dC dI cA a _ _ _ _) ⟨callB_of 1 hts (wsA_good wA_392) rfl rfl rfl (hts _ wA_30) (hts _ wA_390) (by decide +kernel) ⟨Nat.le_of_ble_eq_true rfl, Nat.le_of_ble_eq_true rfl⟩, hts _ wA_391⟩ (tr_preS hI hN hw) rfl rfl hl.1 rfl (lv_room (Nat.le_of_ble_eq_true rfl)) d_T_isSpan_1 ⟨Nat.zero_le _, Nat.zero_le _⟩) (fun r1 u1 H locs hw hI => ?_)
  refine lv_if_eq (tgt := 31) hx hb d_T_isSpan_4 (by decide) (fun hc => ?_) (fun hc => ?_)
  · have hw := hw.1 hc
    refine lv_iconst (v := 0) hx hb d_T_isSpan_31 (by decide) ?_
    exact tr_zret hx hb hr hlocks hI rfl hw d_T_isSpan_32
  · have hw := hw.2 hc
    refine lv_iload_n hx hb d_T_isSpan_7 rfl (lv_at hl 1 rfl) ?_
    refine tr_goi (w := wdX a cA) hI hA (va_runS (As := [.int x1]) (rest := []) ⟨hx, hb, hml, hown, hts⟩ (c_T_isTime l dC dI cA a _ _ _ _) ⟨callB_of 1 hts (wsA_good wA_392) rfl rfl rfl (hts _ wA_30) (hts _ wA_390) (by decide +kernel) ⟨Nat.le_of_ble_eq_true rfl, Nat.le_of_ble_eq_true rfl⟩, hts _ wA_391⟩ (tr_preS hI hN hw) rfl rfl hl.1 rfl (lv_room (Nat.le_of_ble_eq_true rfl)) d_T_isSpan_8 ⟨Nat.zero_le _, Nat.zero_le _⟩) (fun r8 u8 H locs hw hI => ?_)
    refine lv_if_eq (tgt := 31) hx hb d_T_isSpan_11 (by decide) (fun hc => ?_) (fun hc => ?_)
    · have hw := hw.1 hc
      refine lv_iconst (v := 0) hx hb d_T_isSpan_31 (by decide) ?_
      exact tr_zret hx hb hr hlocks hI rfl hw d_T_isSpan_32
    · have hw := hw.2 hc
      refine lv_iload_n hx hb d_T_isSpan_14 rfl (lv_at hl 1 rfl) ?_
      refine lv_iload_n hx hb d_T_isSpan_15 rfl (lv_at hl 0 rfl) ?_
      refine lv_isub hx hb d_T_isSpan_16 ?_
      refine lv_iconst (v := 0) hx hb d_T_isSpan_17 (by decide) ?_
      refine lv_sipush (v := 600) hx hb d_T_isSpan_18 (by decide) ?_
      refine tr_goi (w := wdX a cA) hI hA (va_runS (As := [.int (x1 - x0), .int 0, .int 600]) (rest := []) ⟨hx, hb, hml, hown, hts⟩ (c_T_within l dC dI cA a _ _ _ _ _ _) ⟨callB_of 3 hts (wsA_good wA_301) rfl rfl rfl (hts _ wA_30) (hts _ wA_299) (by decide +kernel) ⟨Nat.le_of_ble_eq_true rfl, Nat.le_of_ble_eq_true rfl⟩, hts _ wA_300⟩ (tr_preS hI hN hw) rfl rfl hl.1 rfl (lv_room (Nat.le_of_ble_eq_true rfl)) d_T_isSpan_21 ⟨Nat.zero_le _, Nat.zero_le _⟩) (fun r21 u21 H locs hw hI => ?_)
      refine lv_if_eq (tgt := 31) hx hb d_T_isSpan_24 (by decide) (fun hc => ?_) (fun hc => ?_)
      · have hw := hw.1 hc
        refine lv_iconst (v := 0) hx hb d_T_isSpan_31 (by decide) ?_
        exact tr_zret hx hb hr hlocks hI rfl hw d_T_isSpan_32
      · have hw := hw.2 hc
        refine lv_iconst (v := 1) hx hb d_T_isSpan_27 (by decide) ?_
        refine lv_goto (tgt := 32) hx hb d_T_isSpan_28 (by decide) ?_
        exact tr_zret hx hb hr hlocks hI rfl hw d_T_isSpan_32
def w_J_fill2_5 (post : tS → Prop) : Nat → Int32 → Int32 → Int32 → tS → Prop
  | 0 => fun _ _ _ _ => False
  | n + 1 => fun x1 x2 x3 u => ((x3 ≤ x2 → (post u)) ∧ (¬ x3 ≤ x2 → (vp_in x2 601 ∧ (w_J_fill2_5 post n x1 (x2 + 1) x3 (tA u 18 x2 x1)))))
def w_J_fill2 (post : tS → Prop) (x1 : Int32) (u : tS) : Prop := (∃ k, w_J_fill2_5 post k x1 0 601 u)
set_option maxRecDepth 100000 in
set_option maxHeartbeats 4000000 in
theorem k_J_fill2_5 {p : Program} {l : Launch} {e : Env} {s : State} {m : MethodId} {args : Array Value} {below : List Frame} {meth : Method} {c : Code} {dC : Nat → ClassId} {dI : Nat → Nat → Nat} {cA : ClassId} {a : Nat → Nat} {A : Nat → Prop} (hC : tC p s m meth c args b_J_fill 4 none wsA R_J A) (post : tS → Prop) : ∀ n : Nat, ∀ (x1 x2 x3 : Int32) (u : tS) (H : Heap) (locs : List Loc) (ls : Array Slot), w_J_fill2_5 post n x1 x2 x3 u → tX (dC, dI) twCl [(cA, .int)] A s H locs (wdX a cA u) → lv_has ls 4 [(0, .ref (a 28)), (1, .int x1), (2, .int x2), (3, .int x3)] → W p l e ({ frames := 0, cells := 0, slots := 0, locals := 0 }) s m args below meth c H locs 0 0 (MQ below (va_Qv post (tB (dC, dI) twCl [(cA, .int)] A (wdX a cA)) A) args s 0 0 A) (F0 m 5 ls []) := by
  obtain ⟨hx, hb, hr, hml, hown, hts, hlocks, hA, hN⟩ := id hC
  intro n
  induction n with
  | zero => intro x1 x2 x3 u H locs ls hw; exact False.elim hw
  | succ n ih =>
    intro x1 x2 x3 u H locs ls hw hI hl
    refine lv_iload_n hx hb d_J_fill_5 rfl (lv_at hl 2 rfl) ?_
    refine lv_iload_n hx hb d_J_fill_6 rfl (lv_at hl 3 rfl) ?_
    refine lv_icmp_ge (tgt := 20) hx hb d_J_fill_7 (by decide) (fun hc => ?_) (fun hc => ?_)
    · have hw := hw.1 hc
      exact tr_vret hx hb hr hlocks hI hw d_J_fill_20
    · have hw := hw.2 hc
      refine lv_aload_n hx hb d_J_fill_10 rfl (lv_at hl 0 rfl) ?_
      refine lv_iload_n hx hb d_J_fill_11 rfl (lv_at hl 2 rfl) ?_
      refine lv_iload_n hx hb d_J_fill_12 rfl (lv_at hl 1 rfl) ?_
      obtain ⟨hi, hw⟩ := hw
      refine tr_iast (w := wdX a cA) hx hb hI 28 0 18 (wdX_o28 a cA _) rfl (wdX_a18 a cA _ _ _) hi d_J_fill_13 (fun H locs hI => ?_)
      refine lv_iinc (v := (x2 + 1)) (lv' := [(2, .int (x2 + 1)), (0, .ref (a 28)), (1, .int x1), (3, .int x3)]) hx hb d_J_fill_14 hl (k := 2) rfl rfl (by decide) rfl (fun ls hl => ?_)
      refine lv_goto (tgt := 5) hx hb d_J_fill_17 (by decide) ?_
      exact ih _ _ _ _ _ _ ls hw hI (lv_sub hl [1, 2, 0, 3] rfl)
set_option maxRecDepth 100000 in
set_option maxHeartbeats 4000000 in
theorem c_J_fill2 (l : Launch) (dC : Nat → ClassId) (dI : Nat → Nat → Nat) (cA : ClassId) (a : Nat → Nat) (u : tS) (x1 : Int32) (post : tS → Prop) (sz : Nat) : Met l y_J_fill ws_J_fill ({ frames := 0, cells := 0, slots := 0, locals := 0 }) (va_Pc [.ref (a 28), .int x1] (tP (dC, dI) twCl [(cA, .int)] (wdX a cA) u sz (w_J_fill2 post x1 u))) (va_Qv post (tB (dC, dI) twCl [(cA, .int)] (va_A (wdX a cA u) sz) (wdX a cA)) (va_A (wdX a cA u) sz)) 0 0 (va_A (wdX a cA u) sz) := by
  refine Met.ofW (cc := b_J_fill) (maxL := 4) (ret := none) (by decide) rfl ?_
  intro p e s m args below meth c s₁ B hml hv
  obtain ⟨rfl, hsz, hP, hK, hD0, hN, hw⟩ := hv
  have hx := B.exec
  have hb := B.bytes
  have hr := B.returns
  have hts : ∀ w ∈ wsA, w.before _ s = true := fun w h => atoms_spec (ws := ws_J_fill) B.pre w (List.mem_cons_of_mem _ h)
  have hown : s.vm.findClass R_J = some m.cls := findClass_of_methodNamed B.named
  have hlocks := B.notSynchronized
  subst hsz
  have hD := hD0.self (sz := s.heap.size)
  generalize hAe : va_A (wdX a cA u) s.heap.size = A at hD ⊢
  have hA : ∀ q : Nat, s.heap.size ≤ q → A q := fun q h => by rw [← hAe]; exact Or.inr h
  have hS : va_S A s.heap s.heap [] := va_S.rf
  have hI : tX (dC, dI) twCl [(cA, .int)] A s s.heap [] (wdX a cA u) := ⟨hK, hP, hD, hS⟩
  have hC : tC p s m meth c ([.ref (a 28), .int x1] : List Value).toArray b_J_fill 4 none wsA R_J A := ⟨hx, hb, hr, hml, hown, hts, hlocks, hA, hN⟩
  have hl := lv_entry ([.ref (a 28), .int x1]) (n := 4) (Nat.le_of_ble_eq_true rfl)
  rw [lg_entry_eq]
  generalize (lg_sl ([.ref (a 28), .int x1]) ++ List.replicate (4 - (lg_sl ([.ref (a 28), .int x1])).length) Slot.unset).toArray = ls at hl ⊢
  have hl : lv_has ls 4 [(0, .ref (a 28)), (1, .int x1)] := hl
  have hw : (∃ k, w_J_fill2_5 post k x1 0 601 u) := hw
  refine lv_iconst (v := 0) hx hb d_J_fill_0 (by decide) ?_
  refine lv_istore_n (lv' := [(2, .int 0), (0, .ref (a 28)), (1, .int x1)]) hx hb d_J_fill_1 rfl hl (by decide) rfl (fun ls hl => ?_)
  refine lv_aload_n hx hb d_J_fill_2 rfl (lv_at hl 1 rfl) ?_
  refine va_alen (D := (dC, dI)) (v := 601) hx hb hI.1 hI.2.1 28 0 (wdX_o28 a cA _) rfl rfl d_J_fill_3 ?_
  refine lv_istore_n (lv' := [(3, .int 601), (2, .int 0), (0, .ref (a 28)), (1, .int x1)]) hx hb d_J_fill_4 rfl hl (by decide) rfl (fun ls hl => ?_)
  obtain ⟨k, hw⟩ := hw
  exact k_J_fill2_5 hC post k _ _ _ _ _ _ ls hw hI (lv_sub hl [2, 3, 1, 0] rfl)
def w_Sp_spread_7 (post : tS → Prop) : Nat → Int32 → Int32 → Int32 → Int32 → tS → Prop
  | 0 => fun _ _ _ _ _ => False
  | n + 1 => fun x1 x3 x4 x5 u => ((x5 < x1 → (post u)) ∧ (¬ x5 < x1 → (vp_in (x5 - x1) 601 ∧ (vp_in (x5 - x1) 601 ∧ (w_Sp_spread_7 post n x1 x3 (if (u.2 18 (x5 - x1).toNatClampNeg) < x4 then (u.2 18 (x5 - x1).toNatClampNeg) else x4) (x5 + (-1)) (tA u 18 (x5 - x1) (if (x5 + x3) < (if (u.2 18 (x5 - x1).toNatClampNeg) < x4 then (u.2 18 (x5 - x1).toNatClampNeg) else x4) then (x5 + x3) else (if (u.2 18 (x5 - x1).toNatClampNeg) < x4 then (u.2 18 (x5 - x1).toNatClampNeg) else x4))))))))
def w_Sp_spread (post : tS → Prop) (x1 : Int32) (x2 : Int32) (x3 : Int32) (u : tS) : Prop := (∃ k, w_Sp_spread_7 post k x1 x3 1000000 x2 u)
set_option maxRecDepth 100000 in
set_option maxHeartbeats 4000000 in
theorem k_Sp_spread_7 {p : Program} {l : Launch} {e : Env} {s : State} {m : MethodId} {args : Array Value} {below : List Frame} {meth : Method} {c : Code} {dC : Nat → ClassId} {dI : Nat → Nat → Nat} {cA : ClassId} {a : Nat → Nat} {A : Nat → Prop} (hC : tC p s m meth c args b_Sp_spread 6 none wsA R_Sp A) (post : tS → Prop) : ∀ n : Nat, ∀ (x1 x3 x4 x5 : Int32) (u : tS) (H : Heap) (locs : List Loc) (ls : Array Slot), w_Sp_spread_7 post n x1 x3 x4 x5 u → tX (dC, dI) twCl [(cA, .int)] A s H locs (wdX a cA u) → lv_has ls 6 [(0, .ref (a 7)), (1, .int x1), (3, .int x3), (4, .int x4), (5, .int x5)] → W p l e ({ frames := 1, cells := 0, slots := 0, locals := 15 }) s m args below meth c H locs 0 0 (MQ below (va_Qv post (tB (dC, dI) twCl [(cA, .int)] A (wdX a cA)) A) args s 0 0 A) (F0 m 7 ls []) := by
  obtain ⟨hx, hb, hr, hml, hown, hts, hlocks, hA, hN⟩ := id hC
  intro n
  induction n with
  | zero => intro x1 x3 x4 x5 u H locs ls hw; exact False.elim hw
  | succ n ih =>
    intro x1 x3 x4 x5 u H locs ls hw hI hl
    refine lv_iload hx hb d_Sp_spread_7 (lv_at hl 4 rfl) ?_
    refine lv_iload_n hx hb d_Sp_spread_9 rfl (lv_at hl 1 rfl) ?_
    refine lv_icmp_lt (tgt := 53) hx hb d_Sp_spread_10 (by decide) (fun hc => ?_) (fun hc => ?_)
    · have hw := hw.1 hc
      exact tr_vret hx hb hr hlocks hI hw d_Sp_spread_53
    · have hw := hw.2 hc
      refine lv_iload hx hb d_Sp_spread_13 (lv_at hl 3 rfl) ?_
      refine lv_aload_n hx hb d_Sp_spread_15 rfl (lv_at hl 0 rfl) ?_
      refine va_get (D := (dC, dI)) (C := R_Sp) (T := F_Sp) (N := 2) hx hb hts in_Sp hown hI.1 hI.2.1 7 (wdX_o7 a cA _) rfl 1 (by decide) (hts _ wA_211) (fun _ h9 => h9) rfl d_Sp_spread_16 ?_
      refine lv_iload hx hb d_Sp_spread_19 (lv_at hl 4 rfl) ?_
      refine lv_iload_n hx hb d_Sp_spread_21 rfl (lv_at hl 1 rfl) ?_
      refine lv_isub hx hb d_Sp_spread_22 ?_
      obtain ⟨hi, hw⟩ := hw
      refine va_iald (D := (dC, dI)) hx hb hI.1 hI.2.1 28 0 (wdX_o28 a cA _) rfl hi d_Sp_spread_23 ?_
      refine va_mmin hx hb (by rw [hml]; exact hl.1.symm) hown (hts _ wA_447) (hts _ wA_369) (hts _ wA_41) (hts _ wA_370) (Nat.le_of_ble_eq_true rfl) (Nat.le_of_ble_eq_true rfl) (Nat.zero_le _) (Nat.zero_le _) d_Sp_spread_24 ?_
      refine lv_istore (lv' := [(4, .int (if (u.2 18 (x5 - x1).toNatClampNeg) < x4 then (u.2 18 (x5 - x1).toNatClampNeg) else x4)), (0, .ref (a 7)), (1, .int x1), (3, .int x3), (5, .int x5)]) hx hb d_Sp_spread_27 hl (by decide) rfl (fun ls hl => ?_)
      refine lv_aload_n hx hb d_Sp_spread_29 rfl (lv_at hl 1 rfl) ?_
      refine va_get (D := (dC, dI)) (C := R_Sp) (T := F_Sp) (N := 2) hx hb hts in_Sp hown hI.1 hI.2.1 7 (wdX_o7 a cA _) rfl 1 (by decide) (hts _ wA_211) (fun _ h9 => h9) rfl d_Sp_spread_30 ?_
      refine lv_iload hx hb d_Sp_spread_33 (lv_at hl 4 rfl) ?_
      refine lv_iload_n hx hb d_Sp_spread_35 rfl (lv_at hl 2 rfl) ?_
      refine lv_isub hx hb d_Sp_spread_36 ?_
      refine lv_iload hx hb d_Sp_spread_37 (lv_at hl 0 rfl) ?_
      refine lv_iload hx hb d_Sp_spread_39 (lv_at hl 4 rfl) ?_
      refine lv_iload_n hx hb d_Sp_spread_41 rfl (lv_at hl 3 rfl) ?_
      refine lv_iadd hx hb d_Sp_spread_42 ?_
      refine va_mmin hx hb (by rw [hml]; exact hl.1.symm) hown (hts _ wA_447) (hts _ wA_369) (hts _ wA_41) (hts _ wA_370) (Nat.le_of_ble_eq_true rfl) (Nat.le_of_ble_eq_true rfl) (Nat.zero_le _) (Nat.zero_le _) d_Sp_spread_43 ?_
      obtain ⟨hi, hw⟩ := hw
      refine tr_iast (w := wdX a cA) hx hb hI 28 0 18 (wdX_o28 a cA _) rfl (wdX_a18 a cA _ _ _) hi d_Sp_spread_46 (fun H locs hI => ?_)
      refine lv_iinc (v := (x5 + (-1))) (lv' := [(5, .int (x5 + (-1))), (4, .int (if (u.2 18 (x5 - x1).toNatClampNeg) < x4 then (u.2 18 (x5 - x1).toNatClampNeg) else x4)), (0, .ref (a 7)), (1, .int x1), (3, .int x3)]) hx hb d_Sp_spread_47 hl (k := 4) rfl rfl (by decide) rfl (fun ls hl => ?_)
      refine lv_goto (tgt := 7) hx hb d_Sp_spread_50 (by decide) ?_
      exact ih _ _ _ _ _ _ _ ls hw hI (lv_sub hl [2, 3, 4, 1, 0] rfl)
set_option maxRecDepth 100000 in
set_option maxHeartbeats 4000000 in
theorem c_Sp_spread (l : Launch) (dC : Nat → ClassId) (dI : Nat → Nat → Nat) (cA : ClassId) (a : Nat → Nat) (u : tS) (x1 : Int32) (x2 : Int32) (x3 : Int32) (post : tS → Prop) (sz : Nat) : Met l y_Sp_spread ws_Sp_spread ({ frames := 1, cells := 0, slots := 0, locals := 15 }) (va_Pc [.ref (a 7), .int x1, .int x2, .int x3] (tP (dC, dI) twCl [(cA, .int)] (wdX a cA) u sz (w_Sp_spread post x1 x2 x3 u))) (va_Qv post (tB (dC, dI) twCl [(cA, .int)] (va_A (wdX a cA u) sz) (wdX a cA)) (va_A (wdX a cA u) sz)) 0 0 (va_A (wdX a cA u) sz) := by
  refine Met.ofW (cc := b_Sp_spread) (maxL := 6) (ret := none) (by decide) rfl ?_
  intro p e s m args below meth c s₁ B hml hv
  obtain ⟨rfl, hsz, hP, hK, hD0, hN, hw⟩ := hv
  have hx := B.exec
  have hb := B.bytes
  have hr := B.returns
  have hts : ∀ w ∈ wsA, w.before _ s = true := fun w h => atoms_spec (ws := ws_Sp_spread) B.pre w (List.mem_cons_of_mem _ h)
  have hown : s.vm.findClass R_Sp = some m.cls := findClass_of_methodNamed B.named
  have hlocks := B.notSynchronized
  subst hsz
  have hD := hD0.self (sz := s.heap.size)
  generalize hAe : va_A (wdX a cA u) s.heap.size = A at hD ⊢
  have hA : ∀ q : Nat, s.heap.size ≤ q → A q := fun q h => by rw [← hAe]; exact Or.inr h
  have hS : va_S A s.heap s.heap [] := va_S.rf
  have hI : tX (dC, dI) twCl [(cA, .int)] A s s.heap [] (wdX a cA u) := ⟨hK, hP, hD, hS⟩
  have hC : tC p s m meth c ([.ref (a 7), .int x1, .int x2, .int x3] : List Value).toArray b_Sp_spread 6 none wsA R_Sp A := ⟨hx, hb, hr, hml, hown, hts, hlocks, hA, hN⟩
  have hl := lv_entry ([.ref (a 7), .int x1, .int x2, .int x3]) (n := 6) (Nat.le_of_ble_eq_true rfl)
  rw [lg_entry_eq]
  generalize (lg_sl ([.ref (a 7), .int x1, .int x2, .int x3]) ++ List.replicate (6 - (lg_sl ([.ref (a 7), .int x1, .int x2, .int x3])).length) Slot.unset).toArray = ls at hl ⊢
  have hl : lv_has ls 6 [(0, .ref (a 7)), (1, .int x1), (2, .int x2), (3, .int x3)] := hl
  have hw : (∃ k, w_Sp_spread_7 post k x1 x3 1000000 x2 u) := hw
  refine lv_ldc (v := 1000000) hx hb hown (hts _ wA_446) d_Sp_spread_0 ?_
  refine lv_istore (lv' := [(4, .int 1000000), (0, .ref (a 7)), (1, .int x1), (2, .int x2), (3, .int x3)]) hx hb d_Sp_spread_2 hl (by decide) rfl (fun ls hl => ?_)
  refine lv_iload_n hx hb d_Sp_spread_4 rfl (lv_at hl 3 rfl) ?_
  refine lv_istore (lv' := [(5, .int x2), (4, .int 1000000), (0, .ref (a 7)), (1, .int x1), (2, .int x2), (3, .int x3)]) hx hb d_Sp_spread_5 hl (by decide) rfl (fun ls hl => ?_)
  obtain ⟨k, hw⟩ := hw
  exact k_Sp_spread_7 hC post k _ _ _ _ _ _ _ ls hw hI (lv_sub hl [2, 3, 5, 1, 0] rfl)
def w_Sp_find_112 (post : tS → Prop) (x2 : Int32) (x3 : Int32) (x4 : Int32) (x5 : Int32) (u : tS) : Prop := (w_Wa_anyNumber (fun r123 u123 => (w_Sp_spread (fun u126 => (post u126)) x4 x5 r123 u123)) x2 x3 u)
def w_Sp_find_20 (post : tS → Prop) : Nat → Int32 → Int32 → Int32 → Int32 → Int32 → tS → Prop
  | 0 => fun _ _ _ _ _ _ => False
  | n + 1 => fun x2 x3 x4 x5 x6 u => ((x6 < 0 → (w_Sp_find_112 post x2 x3 x4 x5 u)) ∧ (¬ x6 < 0 → (vp_in x6 280 ∧ (((u.2 8 x6.toNatClampNeg) < x4 → (w_Sp_find_112 post x2 x3 x4 x5 u)) ∧ (¬ (u.2 8 x6.toNatClampNeg) < x4 → (w_Sp_endOf (fun r51 u51 => (vp_in x6 280 ∧ (w_Sp_latestFor (fun r61 u61 => (((if r61 < x5 then r61 else x5) < x4 → (w_Sp_find_20 post n x2 x3 x4 x5 (x6 + (-1)) u61)) ∧ (¬ (if r61 < x5 then r61 else x5) < x4 → (vp_in ((if r61 < x5 then r61 else x5) - x4) 601 ∧ (vp_in x6 280 ∧ (vp_in ((if r61 < x5 then r61 else x5) - x4) 601 ∧ (w_Sp_find_20 post n x2 x3 x4 x5 (x6 + (-1)) (tA u61 18 ((if r61 < x5 then r61 else x5) - x4) (if (u61.2 17 x6.toNatClampNeg) < (u61.2 18 ((if r61 < x5 then r61 else x5) - x4).toNatClampNeg) then (u61.2 17 x6.toNatClampNeg) else (u61.2 18 ((if r61 < x5 then r61 else x5) - x4).toNatClampNeg)))))))))) x2 x6 (tA u51 17 x6 r51)))) x6 x3 u))))))
def w_Sp_find (post : tS → Prop) (x2 : Int32) (x3 : Int32) (x4 : Int32) (x5 : Int32) (u : tS) : Prop := (w_J_fill2 (fun u6 => (∃ k, w_Sp_find_20 post k x2 x3 x4 x5 ((u6.1 2) - 1) u6)) 1000000 u)
set_option maxRecDepth 100000 in
set_option maxHeartbeats 4000000 in
theorem k_Sp_find_112 {p : Program} {l : Launch} {e : Env} {s : State} {m : MethodId} {args : Array Value} {below : List Frame} {meth : Method} {c : Code} {dC : Nat → ClassId} {dI : Nat → Nat → Nat} {cA : ClassId} {a : Nat → Nat} {A : Nat → Prop} (hC : tC p s m meth c args b_Sp_find 8 none wsA R_Sp A) (post : tS → Prop) : ∀ (x2 x3 x4 x5 : Int32) (u : tS) (H : Heap) (locs : List Loc) (ls : Array Slot), w_Sp_find_112 post x2 x3 x4 x5 u → tX (dC, dI) twCl [(cA, .int)] A s H locs (wdX a cA u) → lv_has ls 8 [(0, .ref (a 7)), (1, .ref (a 1)), (2, .int x2), (3, .int x3), (4, .int x4), (5, .int x5)] → W p l e ({ frames := 4, cells := 0, slots := 0, locals := 97 }) s m args below meth c H locs 0 0 (MQ below (va_Qv post (tB (dC, dI) twCl [(cA, .int)] A (wdX a cA)) A) args s 0 0 A) (F0 m 112 ls []) := by
  obtain ⟨hx, hb, hr, hml, hown, hts, hlocks, hA, hN⟩ := id hC
  intro x2 x3 x4 x5 u H locs ls hw hI hl
  refine lv_aload_n hx hb d_Sp_find_112 rfl (lv_at hl 0 rfl) ?_
  refine lv_iload hx hb d_Sp_find_113 (lv_at hl 4 rfl) ?_
  refine lv_iload hx hb d_Sp_find_115 (lv_at hl 5 rfl) ?_
  refine lv_aload_n hx hb d_Sp_find_117 rfl (lv_at hl 1 rfl) ?_
  refine va_get (D := (dC, dI)) (C := R_Ne) (T := F_Ne) (N := 5) hx hb hts in_Ne hown hI.1 hI.2.1 1 (wdX_o1 a cA _) rfl 4 (by decide) (hts _ wA_176) (fun _ h9 => h9) rfl d_Sp_find_118 ?_
  refine lv_iload_n hx hb d_Sp_find_121 rfl (lv_at hl 2 rfl) ?_
  refine lv_iload_n hx hb d_Sp_find_122 rfl (lv_at hl 3 rfl) ?_
  refine tr_goi (w := wdX a cA) hI hA (va_runV (As := [.int x2, .int x3]) (rest := [.int x5, .int x4, .ref (a 7)]) ⟨hx, hb, hml, hown, hts⟩ (c_Wa_anyNumber l dC dI cA a _ _ _ _ _) (cwV 2 hts (wsA_goodV wA_440 wA_361 wA_362 wA_34 wA_363) rfl rfl rfl (by decide +kernel) ⟨Nat.le_of_ble_eq_true rfl, Nat.le_of_ble_eq_true rfl⟩) (tr_preV (ci := 4) (q0 := 4) hI rfl (wdX_o4 a cA _) rfl hN hw) rfl rfl hl.1 rfl (lv_room (Nat.le_of_ble_eq_true rfl)) d_Sp_find_123 ⟨Nat.zero_le _, Nat.zero_le _⟩) (fun r123 u123 H locs hw hI => ?_)
  refine tr_gov (w := wdX a cA) hI hA (va_runV (As := [.int x4, .int x5, .int r123]) (rest := []) ⟨hx, hb, hml, hown, hts⟩ (c_Sp_spread l dC dI cA a _ _ _ _ _ _) (cwV 3 hts (wsA_goodV wA_488 wA_490 wA_4 wA_37 wA_491) rfl rfl rfl (by decide +kernel) ⟨Nat.le_of_ble_eq_true rfl, Nat.le_of_ble_eq_true rfl⟩) (tr_preV (ci := 6) (q0 := 7) hI rfl (wdX_o7 a cA _) rfl hN hw) rfl rfl hl.1 rfl (lv_room (Nat.le_of_ble_eq_true rfl)) d_Sp_find_126 ⟨Nat.zero_le _, Nat.zero_le _⟩) (fun u126 H locs hw hI => ?_)
  exact tr_vret hx hb hr hlocks hI hw d_Sp_find_129
set_option maxRecDepth 100000 in
set_option maxHeartbeats 4000000 in
theorem k_Sp_find_20 {p : Program} {l : Launch} {e : Env} {s : State} {m : MethodId} {args : Array Value} {below : List Frame} {meth : Method} {c : Code} {dC : Nat → ClassId} {dI : Nat → Nat → Nat} {cA : ClassId} {a : Nat → Nat} {A : Nat → Prop} (hC : tC p s m meth c args b_Sp_find 8 none wsA R_Sp A) (post : tS → Prop) : ∀ n : Nat, ∀ (x2 x3 x4 x5 x6 : Int32) (u : tS) (H : Heap) (locs : List Loc) (ls : Array Slot), w_Sp_find_20 post n x2 x3 x4 x5 x6 u → tX (dC, dI) twCl [(cA, .int)] A s H locs (wdX a cA u) → lv_has ls 8 [(0, .ref (a 7)), (1, .ref (a 1)), (2, .int x2), (3, .int x3), (4, .int x4), (5, .int x5), (6, .int x6)] → W p l e ({ frames := 4, cells := 0, slots := 0, locals := 97 }) s m args below meth c H locs 0 0 (MQ below (va_Qv post (tB (dC, dI) twCl [(cA, .int)] A (wdX a cA)) A) args s 0 0 A) (F0 m 20 ls []) := by
  obtain ⟨hx, hb, hr, hml, hown, hts, hlocks, hA, hN⟩ := id hC
  intro n
  induction n with
  | zero => intro x2 x3 x4 x5 x6 u H locs ls hw; exact False.elim hw
  | succ n ih =>
    intro x2 x3 x4 x5 x6 u H locs ls hw hI hl
    refine lv_iload hx hb d_Sp_find_20 (lv_at hl 6 rfl) ?_
    refine lv_if_lt (tgt := 112) hx hb d_Sp_find_22 (by decide) (fun hc => ?_) (fun hc => ?_)
    · have hw := hw.1 hc
      exact k_Sp_find_112 hC post _ _ _ _ _ _ _ ls hw hI (lv_sub hl [0, 1, 2, 3, 4, 5] rfl)
    · have hw := hw.2 hc
      refine lv_aload_n hx hb d_Sp_find_25 rfl (lv_at hl 1 rfl) ?_
      refine va_get (D := (dC, dI)) (C := R_Ne) (T := F_Ne) (N := 5) hx hb hts in_Ne hown hI.1 hI.2.1 1 (wdX_o1 a cA _) rfl 3 (by decide) (hts _ wA_172) (fun _ h9 => h9) rfl d_Sp_find_26 ?_
      refine va_get (D := (dC, dI)) (C := R_Bo) (T := F_Bo) (N := 3) hx hb hts in_Bo hown hI.1 hI.2.1 3 (wdX_o3 a cA _) rfl 2 (by decide) (hts _ wA_118) (fun _ h9 => h9) rfl d_Sp_find_29 ?_
      refine lv_iload hx hb d_Sp_find_32 (lv_at hl 6 rfl) ?_
      obtain ⟨hi, hw⟩ := hw
      refine va_iald (D := (dC, dI)) hx hb hI.1 hI.2.1 18 0 (wdX_o18 a cA _) rfl hi d_Sp_find_34 ?_
      refine lv_iload hx hb d_Sp_find_35 (lv_at hl 4 rfl) ?_
      refine lv_icmp_lt (tgt := 112) hx hb d_Sp_find_37 (by decide) (fun hc => ?_) (fun hc => ?_)
      · have hw := hw.1 hc
        exact k_Sp_find_112 hC post _ _ _ _ _ _ _ ls hw hI (lv_sub hl [0, 1, 2, 3, 4, 5] rfl)
      · have hw := hw.2 hc
        refine lv_aload_n hx hb d_Sp_find_40 rfl (lv_at hl 0 rfl) ?_
        refine va_get (D := (dC, dI)) (C := R_Sp) (T := F_Sp) (N := 2) hx hb hts in_Sp hown hI.1 hI.2.1 7 (wdX_o7 a cA _) rfl 0 (by decide) (hts _ wA_210) (fun _ h9 => h9) rfl d_Sp_find_41 ?_
        refine lv_iload hx hb d_Sp_find_44 (lv_at hl 6 rfl) ?_
        refine lv_aload_n hx hb d_Sp_find_46 rfl (lv_at hl 0 rfl) ?_
        refine lv_aload_n hx hb d_Sp_find_47 rfl (lv_at hl 1 rfl) ?_
        refine lv_iload hx hb d_Sp_find_48 (lv_at hl 6 rfl) ?_
        refine lv_iload_n hx hb d_Sp_find_50 rfl (lv_at hl 3 rfl) ?_
        refine tr_goi (w := wdX a cA) hI hA (va_runV (As := [.ref (a 1), .int x6, .int x3]) (rest := [.int x6, .ref (a 27)]) ⟨hx, hb, hml, hown, hts⟩ (c_Sp_endOf l dC dI cA a _ _ _ _ _) (cwV 3 hts (wsA_goodV wA_441 wA_443 wA_3 wA_37 wA_444) rfl rfl rfl (by decide +kernel) ⟨Nat.le_of_ble_eq_true rfl, Nat.le_of_ble_eq_true rfl⟩) (tr_preV (ci := 6) (q0 := 7) hI rfl (wdX_o7 a cA _) rfl hN hw) rfl rfl hl.1 rfl (lv_room (Nat.le_of_ble_eq_true rfl)) d_Sp_find_51 ⟨Nat.zero_le _, Nat.zero_le _⟩) (fun r51 u51 H locs hw hI => ?_)
        obtain ⟨hi, hw⟩ := hw
        refine tr_iast (w := wdX a cA) hx hb hI 27 0 17 (wdX_o27 a cA _) rfl (wdX_a17 a cA _ _ _) hi d_Sp_find_54 (fun H locs hI => ?_)
        refine lv_iload hx hb d_Sp_find_55 (lv_at hl 5 rfl) ?_
        refine lv_aload_n hx hb d_Sp_find_57 rfl (lv_at hl 1 rfl) ?_
        refine lv_iload_n hx hb d_Sp_find_58 rfl (lv_at hl 2 rfl) ?_
        refine lv_iload hx hb d_Sp_find_59 (lv_at hl 6 rfl) ?_
        refine tr_goi (w := wdX a cA) hI hA (va_runS (As := [.ref (a 1), .int x2, .int x6]) (rest := [.int x5]) ⟨hx, hb, hml, hown, hts⟩ (c_Sp_latestFor l dC dI cA a _ _ _ _ _) ⟨callB_of 3 hts (wsA_good wA_459) rfl rfl rfl (hts _ wA_37) (hts _ wA_457) (by decide +kernel) ⟨Nat.le_of_ble_eq_true rfl, Nat.le_of_ble_eq_true rfl⟩, hts _ wA_458⟩ (tr_preS hI hN hw) rfl rfl hl.1 rfl (lv_room (Nat.le_of_ble_eq_true rfl)) d_Sp_find_61 ⟨Nat.zero_le _, Nat.zero_le _⟩) (fun r61 u61 H locs hw hI => ?_)
        refine va_mmin hx hb (by rw [hml]; exact hl.1.symm) hown (hts _ wA_447) (hts _ wA_369) (hts _ wA_41) (hts _ wA_370) (Nat.le_of_ble_eq_true rfl) (Nat.le_of_ble_eq_true rfl) (Nat.zero_le _) (Nat.zero_le _) d_Sp_find_64 ?_
        refine lv_istore (lv' := [(7, .int (if r61 < x5 then r61 else x5)), (0, .ref (a 7)), (1, .ref (a 1)), (2, .int x2), (3, .int x3), (4, .int x4), (5, .int x5), (6, .int x6)]) hx hb d_Sp_find_67 hl (by decide) rfl (fun ls hl => ?_)
        refine lv_iload hx hb d_Sp_find_69 (lv_at hl 0 rfl) ?_
        refine lv_iload hx hb d_Sp_find_71 (lv_at hl 5 rfl) ?_
        refine lv_icmp_lt (tgt := 106) hx hb d_Sp_find_73 (by decide) (fun hc => ?_) (fun hc => ?_)
        · have hw := hw.1 hc
          refine lv_iinc (v := (x6 + (-1))) (lv' := [(6, .int (x6 + (-1))), (7, .int (if r61 < x5 then r61 else x5)), (0, .ref (a 7)), (1, .ref (a 1)), (2, .int x2), (3, .int x3), (4, .int x4), (5, .int x5)]) hx hb d_Sp_find_106 hl (k := 7) rfl rfl (by decide) rfl (fun ls hl => ?_)
          refine lv_goto (tgt := 20) hx hb d_Sp_find_109 (by decide) ?_
          exact ih _ _ _ _ _ _ _ _ ls hw hI (lv_sub hl [2, 3, 4, 5, 6, 7, 0] rfl)
        · have hw := hw.2 hc
          refine lv_aload_n hx hb d_Sp_find_76 rfl (lv_at hl 1 rfl) ?_
          refine va_get (D := (dC, dI)) (C := R_Sp) (T := F_Sp) (N := 2) hx hb hts in_Sp hown hI.1 hI.2.1 7 (wdX_o7 a cA _) rfl 1 (by decide) (hts _ wA_211) (fun _ h9 => h9) rfl d_Sp_find_77 ?_
          refine lv_iload hx hb d_Sp_find_80 (lv_at hl 0 rfl) ?_
          refine lv_iload hx hb d_Sp_find_82 (lv_at hl 5 rfl) ?_
          refine lv_isub hx hb d_Sp_find_84 ?_
          refine lv_aload_n hx hb d_Sp_find_85 rfl (lv_at hl 1 rfl) ?_
          refine va_get (D := (dC, dI)) (C := R_Sp) (T := F_Sp) (N := 2) hx hb hts in_Sp hown hI.1 hI.2.1 7 (wdX_o7 a cA _) rfl 1 (by decide) (hts _ wA_211) (fun _ h9 => h9) rfl d_Sp_find_86 ?_
          refine lv_iload hx hb d_Sp_find_89 (lv_at hl 0 rfl) ?_
          refine lv_iload hx hb d_Sp_find_91 (lv_at hl 5 rfl) ?_
          refine lv_isub hx hb d_Sp_find_93 ?_
          obtain ⟨hi, hw⟩ := hw
          refine va_iald (D := (dC, dI)) hx hb hI.1 hI.2.1 28 0 (wdX_o28 a cA _) rfl hi d_Sp_find_94 ?_
          refine lv_aload_n hx hb d_Sp_find_95 rfl (lv_at hl 1 rfl) ?_
          refine va_get (D := (dC, dI)) (C := R_Sp) (T := F_Sp) (N := 2) hx hb hts in_Sp hown hI.1 hI.2.1 7 (wdX_o7 a cA _) rfl 0 (by decide) (hts _ wA_210) (fun _ h9 => h9) rfl d_Sp_find_96 ?_
          refine lv_iload hx hb d_Sp_find_99 (lv_at hl 7 rfl) ?_
          obtain ⟨hi, hw⟩ := hw
          refine va_iald (D := (dC, dI)) hx hb hI.1 hI.2.1 27 0 (wdX_o27 a cA _) rfl hi d_Sp_find_101 ?_
          refine va_mmin hx hb (by rw [hml]; exact hl.1.symm) hown (hts _ wA_447) (hts _ wA_369) (hts _ wA_41) (hts _ wA_370) (Nat.le_of_ble_eq_true rfl) (Nat.le_of_ble_eq_true rfl) (Nat.zero_le _) (Nat.zero_le _) d_Sp_find_102 ?_
          obtain ⟨hi, hw⟩ := hw
          refine tr_iast (w := wdX a cA) hx hb hI 28 0 18 (wdX_o28 a cA _) rfl (wdX_a18 a cA _ _ _) hi d_Sp_find_105 (fun H locs hI => ?_)
          refine lv_iinc (v := (x6 + (-1))) (lv' := [(6, .int (x6 + (-1))), (7, .int (if r61 < x5 then r61 else x5)), (0, .ref (a 7)), (1, .ref (a 1)), (2, .int x2), (3, .int x3), (4, .int x4), (5, .int x5)]) hx hb d_Sp_find_106 hl (k := 7) rfl rfl (by decide) rfl (fun ls hl => ?_)
          refine lv_goto (tgt := 20) hx hb d_Sp_find_109 (by decide) ?_
          exact ih _ _ _ _ _ _ _ _ ls hw hI (lv_sub hl [2, 3, 4, 5, 6, 7, 0] rfl)
set_option maxRecDepth 100000 in
set_option maxHeartbeats 4000000 in
theorem c_Sp_find (l : Launch) (dC : Nat → ClassId) (dI : Nat → Nat → Nat) (cA : ClassId) (a : Nat → Nat) (u : tS) (x2 : Int32) (x3 : Int32) (x4 : Int32) (x5 : Int32) (post : tS → Prop) (sz : Nat) : Met l y_Sp_find ws_Sp_find ({ frames := 4, cells := 0, slots := 0, locals := 97 }) (va_Pc [.ref (a 7), .ref (a 1), .int x2, .int x3, .int x4, .int x5] (tP (dC, dI) twCl [(cA, .int)] (wdX a cA) u sz (w_Sp_find post x2 x3 x4 x5 u))) (va_Qv post (tB (dC, dI) twCl [(cA, .int)] (va_A (wdX a cA u) sz) (wdX a cA)) (va_A (wdX a cA u) sz)) 0 0 (va_A (wdX a cA u) sz) := by
  refine Met.ofW (cc := b_Sp_find) (maxL := 8) (ret := none) (by decide) rfl ?_
  intro p e s m args below meth c s₁ B hml hv
  obtain ⟨rfl, hsz, hP, hK, hD0, hN, hw⟩ := hv
  have hx := B.exec
  have hb := B.bytes
  have hr := B.returns
  have hts : ∀ w ∈ wsA, w.before _ s = true := fun w h => atoms_spec (ws := ws_Sp_find) B.pre w (List.mem_cons_of_mem _ h)
  have hown : s.vm.findClass R_Sp = some m.cls := findClass_of_methodNamed B.named
  have hlocks := B.notSynchronized
  subst hsz
  have hD := hD0.self (sz := s.heap.size)
  generalize hAe : va_A (wdX a cA u) s.heap.size = A at hD ⊢
  have hA : ∀ q : Nat, s.heap.size ≤ q → A q := fun q h => by rw [← hAe]; exact Or.inr h
  have hS : va_S A s.heap s.heap [] := va_S.rf
  have hI : tX (dC, dI) twCl [(cA, .int)] A s s.heap [] (wdX a cA u) := ⟨hK, hP, hD, hS⟩
  have hC : tC p s m meth c ([.ref (a 7), .ref (a 1), .int x2, .int x3, .int x4, .int x5] : List Value).toArray b_Sp_find 8 none wsA R_Sp A := ⟨hx, hb, hr, hml, hown, hts, hlocks, hA, hN⟩
  have hl := lv_entry ([.ref (a 7), .ref (a 1), .int x2, .int x3, .int x4, .int x5]) (n := 8) (Nat.le_of_ble_eq_true rfl)
  rw [lg_entry_eq]
  generalize (lg_sl ([.ref (a 7), .ref (a 1), .int x2, .int x3, .int x4, .int x5]) ++ List.replicate (8 - (lg_sl ([.ref (a 7), .ref (a 1), .int x2, .int x3, .int x4, .int x5])).length) Slot.unset).toArray = ls at hl ⊢
  have hl : lv_has ls 8 [(0, .ref (a 7)), (1, .ref (a 1)), (2, .int x2), (3, .int x3), (4, .int x4), (5, .int x5)] := hl
  have hw : (w_J_fill2 (fun u6 => (∃ k, w_Sp_find_20 post k x2 x3 x4 x5 ((u6.1 2) - 1) u6)) 1000000 u) := hw
  refine lv_aload_n hx hb d_Sp_find_0 rfl (lv_at hl 0 rfl) ?_
  refine va_get (D := (dC, dI)) (C := R_Sp) (T := F_Sp) (N := 2) hx hb hts in_Sp hown hI.1 hI.2.1 7 (wdX_o7 a cA _) rfl 1 (by decide) (hts _ wA_211) (fun _ h9 => h9) rfl d_Sp_find_1 ?_
  refine lv_ldc (v := 1000000) hx hb hown (hts _ wA_446) d_Sp_find_4 ?_
  refine tr_gov (w := wdX a cA) hI hA (va_runS (As := [.ref (a 28), .int 1000000]) (rest := []) ⟨hx, hb, hml, hown, hts⟩ (c_J_fill2 l dC dI cA a _ _ _ _) ⟨callB_of 2 hts (wsA_good wA_136) rfl rfl rfl (hts _ wA_35) (hts _ wA_487) (by decide +kernel) ⟨Nat.le_of_ble_eq_true rfl, Nat.le_of_ble_eq_true rfl⟩, hts _ wA_135⟩ (tr_preS hI hN hw) rfl rfl hl.1 rfl (lv_room (Nat.le_of_ble_eq_true rfl)) d_Sp_find_6 ⟨Nat.zero_le _, Nat.zero_le _⟩) (fun u6 H locs hw hI => ?_)
  refine lv_aload_n hx hb d_Sp_find_9 rfl (lv_at hl 1 rfl) ?_
  refine va_get (D := (dC, dI)) (C := R_Ne) (T := F_Ne) (N := 5) hx hb hts in_Ne hown hI.1 hI.2.1 1 (wdX_o1 a cA _) rfl 3 (by decide) (hts _ wA_172) (fun _ h9 => h9) rfl d_Sp_find_10 ?_
  refine va_get (D := (dC, dI)) (C := R_Bo) (T := F_Bo) (N := 3) hx hb hts in_Bo hown hI.1 hI.2.1 3 (wdX_o3 a cA _) rfl 0 (by decide) (hts _ wA_112) (fun _ h9 => h9) rfl d_Sp_find_13 ?_
  refine lv_iconst (v := 1) hx hb d_Sp_find_16 (by decide) ?_
  refine lv_isub hx hb d_Sp_find_17 ?_
  refine lv_istore (lv' := [(6, .int ((u6.1 2) - 1)), (0, .ref (a 7)), (1, .ref (a 1)), (2, .int x2), (3, .int x3), (4, .int x4), (5, .int x5)]) hx hb d_Sp_find_18 hl (by decide) rfl (fun ls hl => ?_)
  obtain ⟨k, hw⟩ := hw
  exact k_Sp_find_20 hC post k _ _ _ _ _ _ _ _ ls hw hI (lv_sub hl [1, 2, 3, 4, 5, 6, 0] rfl)
def w_Sp_leastMinutes_6 (post : Int32 → tS → Prop) : Nat → Int32 → Int32 → Int32 → Int32 → tS → Prop
  | 0 => fun _ _ _ _ _ => False
  | n + 1 => fun x1 x2 x3 x4 u => ((x2 < x4 → (post x3 u)) ∧ (¬ x2 < x4 → (vp_in (x4 - x1) 601 ∧ ((1000000 ≤ (u.2 18 (x4 - x1).toNatClampNeg) → (w_Sp_leastMinutes_6 post n x1 x2 x3 (x4 + 1) u)) ∧ (¬ 1000000 ≤ (u.2 18 (x4 - x1).toNatClampNeg) → (w_Sp_leastMinutes_6 post n x1 x2 (if ((u.2 18 (x4 - x1).toNatClampNeg) - x4) < x3 then ((u.2 18 (x4 - x1).toNatClampNeg) - x4) else x3) (x4 + 1) u))))))
def w_Sp_leastMinutes (post : Int32 → tS → Prop) (x1 : Int32) (x2 : Int32) (u : tS) : Prop := (∃ k, w_Sp_leastMinutes_6 post k x1 x2 1000000 x1 u)
set_option maxRecDepth 100000 in
set_option maxHeartbeats 4000000 in
theorem k_Sp_leastMinutes_6 {p : Program} {l : Launch} {e : Env} {s : State} {m : MethodId} {args : Array Value} {below : List Frame} {meth : Method} {c : Code} {dC : Nat → ClassId} {dI : Nat → Nat → Nat} {cA : ClassId} {a : Nat → Nat} {A : Nat → Prop} (hC : tC p s m meth c args b_Sp_leastMinutes 6 (some .int) wsA R_Sp A) (post : Int32 → tS → Prop) : ∀ n : Nat, ∀ (x1 x2 x3 x4 : Int32) (u : tS) (H : Heap) (locs : List Loc) (ls : Array Slot), w_Sp_leastMinutes_6 post n x1 x2 x3 x4 u → tX (dC, dI) twCl [(cA, .int)] A s H locs (wdX a cA u) → lv_has ls 6 [(0, .ref (a 7)), (1, .int x1), (2, .int x2), (3, .int x3), (4, .int x4)] → W p l e ({ frames := 1, cells := 0, slots := 0, locals := 13 }) s m args below meth c H locs 0 0 (MQ below (va_Qi post (tB (dC, dI) twCl [(cA, .int)] A (wdX a cA)) A) args s 0 0 A) (F0 m 6 ls []) := by
  obtain ⟨hx, hb, hr, hml, hown, hts, hlocks, hA, hN⟩ := id hC
  intro n
  induction n with
  | zero => intro x1 x2 x3 x4 u H locs ls hw; exact False.elim hw
  | succ n ih =>
    intro x1 x2 x3 x4 u H locs ls hw hI hl
    refine lv_iload hx hb d_Sp_leastMinutes_6 (lv_at hl 4 rfl) ?_
    refine lv_iload_n hx hb d_Sp_leastMinutes_8 rfl (lv_at hl 2 rfl) ?_
    refine lv_icmp_gt (tgt := 46) hx hb d_Sp_leastMinutes_9 (by decide) (fun hc => ?_) (fun hc => ?_)
    · have hw := hw.1 hc
      refine lv_iload_n hx hb d_Sp_leastMinutes_46 rfl (lv_at hl 3 rfl) ?_
      exact tr_iret hx hb hr hlocks hI hw d_Sp_leastMinutes_47
    · have hw := hw.2 hc
      refine lv_aload_n hx hb d_Sp_leastMinutes_12 rfl (lv_at hl 0 rfl) ?_
      refine va_get (D := (dC, dI)) (C := R_Sp) (T := F_Sp) (N := 2) hx hb hts in_Sp hown hI.1 hI.2.1 7 (wdX_o7 a cA _) rfl 1 (by decide) (hts _ wA_211) (fun _ h9 => h9) rfl d_Sp_leastMinutes_13 ?_
      refine lv_iload hx hb d_Sp_leastMinutes_16 (lv_at hl 4 rfl) ?_
      refine lv_iload_n hx hb d_Sp_leastMinutes_18 rfl (lv_at hl 1 rfl) ?_
      refine lv_isub hx hb d_Sp_leastMinutes_19 ?_
      obtain ⟨hi, hw⟩ := hw
      refine va_iald (D := (dC, dI)) hx hb hI.1 hI.2.1 28 0 (wdX_o28 a cA _) rfl hi d_Sp_leastMinutes_20 ?_
      refine lv_istore (lv' := [(5, .int (u.2 18 (x4 - x1).toNatClampNeg)), (0, .ref (a 7)), (1, .int x1), (2, .int x2), (3, .int x3), (4, .int x4)]) hx hb d_Sp_leastMinutes_21 hl (by decide) rfl (fun ls hl => ?_)
      refine lv_iload hx hb d_Sp_leastMinutes_23 (lv_at hl 0 rfl) ?_
      refine lv_ldc (v := 1000000) hx hb hown (hts _ wA_446) d_Sp_leastMinutes_25 ?_
      refine lv_icmp_ge (tgt := 40) hx hb d_Sp_leastMinutes_27 (by decide) (fun hc => ?_) (fun hc => ?_)
      · have hw := hw.1 hc
        refine lv_iinc (v := (x4 + 1)) (lv' := [(4, .int (x4 + 1)), (5, .int (u.2 18 (x4 - x1).toNatClampNeg)), (0, .ref (a 7)), (1, .int x1), (2, .int x2), (3, .int x3)]) hx hb d_Sp_leastMinutes_40 hl (k := 5) rfl rfl (by decide) rfl (fun ls hl => ?_)
        refine lv_goto (tgt := 6) hx hb d_Sp_leastMinutes_43 (by decide) ?_
        exact ih _ _ _ _ _ _ _ ls hw hI (lv_sub hl [2, 3, 4, 5, 0] rfl)
      · have hw := hw.2 hc
        refine lv_iload_n hx hb d_Sp_leastMinutes_30 rfl (lv_at hl 4 rfl) ?_
        refine lv_iload hx hb d_Sp_leastMinutes_31 (lv_at hl 0 rfl) ?_
        refine lv_iload hx hb d_Sp_leastMinutes_33 (lv_at hl 5 rfl) ?_
        refine lv_isub hx hb d_Sp_leastMinutes_35 ?_
        refine va_mmin hx hb (by rw [hml]; exact hl.1.symm) hown (hts _ wA_447) (hts _ wA_369) (hts _ wA_41) (hts _ wA_370) (Nat.le_of_ble_eq_true rfl) (Nat.le_of_ble_eq_true rfl) (Nat.zero_le _) (Nat.zero_le _) d_Sp_leastMinutes_36 ?_
        refine lv_istore_n (lv' := [(3, .int (if ((u.2 18 (x4 - x1).toNatClampNeg) - x4) < x3 then ((u.2 18 (x4 - x1).toNatClampNeg) - x4) else x3)), (5, .int (u.2 18 (x4 - x1).toNatClampNeg)), (0, .ref (a 7)), (1, .int x1), (2, .int x2), (4, .int x4)]) hx hb d_Sp_leastMinutes_39 rfl hl (by decide) rfl (fun ls hl => ?_)
        refine lv_iinc (v := (x4 + 1)) (lv' := [(4, .int (x4 + 1)), (3, .int (if ((u.2 18 (x4 - x1).toNatClampNeg) - x4) < x3 then ((u.2 18 (x4 - x1).toNatClampNeg) - x4) else x3)), (5, .int (u.2 18 (x4 - x1).toNatClampNeg)), (0, .ref (a 7)), (1, .int x1), (2, .int x2)]) hx hb d_Sp_leastMinutes_40 hl (k := 5) rfl rfl (by decide) rfl (fun ls hl => ?_)
        refine lv_goto (tgt := 6) hx hb d_Sp_leastMinutes_43 (by decide) ?_
        exact ih _ _ _ _ _ _ _ ls hw hI (lv_sub hl [3, 4, 5, 1, 0] rfl)
set_option maxRecDepth 100000 in
set_option maxHeartbeats 4000000 in
theorem c_Sp_leastMinutes (l : Launch) (dC : Nat → ClassId) (dI : Nat → Nat → Nat) (cA : ClassId) (a : Nat → Nat) (u : tS) (x1 : Int32) (x2 : Int32) (post : Int32 → tS → Prop) (sz : Nat) : Met l y_Sp_leastMinutes ws_Sp_leastMinutes ({ frames := 1, cells := 0, slots := 0, locals := 13 }) (va_Pc [.ref (a 7), .int x1, .int x2] (tP (dC, dI) twCl [(cA, .int)] (wdX a cA) u sz (w_Sp_leastMinutes post x1 x2 u))) (va_Qi post (tB (dC, dI) twCl [(cA, .int)] (va_A (wdX a cA u) sz) (wdX a cA)) (va_A (wdX a cA u) sz)) 0 0 (va_A (wdX a cA u) sz) := by
  refine Met.ofW (cc := b_Sp_leastMinutes) (maxL := 6) (ret := (some .int)) (by decide) rfl ?_
  intro p e s m args below meth c s₁ B hml hv
  obtain ⟨rfl, hsz, hP, hK, hD0, hN, hw⟩ := hv
  have hx := B.exec
  have hb := B.bytes
  have hr := B.returns
  have hts : ∀ w ∈ wsA, w.before _ s = true := fun w h => atoms_spec (ws := ws_Sp_leastMinutes) B.pre w (List.mem_cons_of_mem _ h)
  have hown : s.vm.findClass R_Sp = some m.cls := findClass_of_methodNamed B.named
  have hlocks := B.notSynchronized
  subst hsz
  have hD := hD0.self (sz := s.heap.size)
  generalize hAe : va_A (wdX a cA u) s.heap.size = A at hD ⊢
  have hA : ∀ q : Nat, s.heap.size ≤ q → A q := fun q h => by rw [← hAe]; exact Or.inr h
  have hS : va_S A s.heap s.heap [] := va_S.rf
  have hI : tX (dC, dI) twCl [(cA, .int)] A s s.heap [] (wdX a cA u) := ⟨hK, hP, hD, hS⟩
  have hC : tC p s m meth c ([.ref (a 7), .int x1, .int x2] : List Value).toArray b_Sp_leastMinutes 6 (some .int) wsA R_Sp A := ⟨hx, hb, hr, hml, hown, hts, hlocks, hA, hN⟩
  have hl := lv_entry ([.ref (a 7), .int x1, .int x2]) (n := 6) (Nat.le_of_ble_eq_true rfl)
  rw [lg_entry_eq]
  generalize (lg_sl ([.ref (a 7), .int x1, .int x2]) ++ List.replicate (6 - (lg_sl ([.ref (a 7), .int x1, .int x2])).length) Slot.unset).toArray = ls at hl ⊢
  have hl : lv_has ls 6 [(0, .ref (a 7)), (1, .int x1), (2, .int x2)] := hl
  have hw : (∃ k, w_Sp_leastMinutes_6 post k x1 x2 1000000 x1 u) := hw
  refine lv_ldc (v := 1000000) hx hb hown (hts _ wA_446) d_Sp_leastMinutes_0 ?_
  refine lv_istore_n (lv' := [(3, .int 1000000), (0, .ref (a 7)), (1, .int x1), (2, .int x2)]) hx hb d_Sp_leastMinutes_2 rfl hl (by decide) rfl (fun ls hl => ?_)
  refine lv_iload_n hx hb d_Sp_leastMinutes_3 rfl (lv_at hl 2 rfl) ?_
  refine lv_istore (lv' := [(4, .int x1), (3, .int 1000000), (0, .ref (a 7)), (1, .int x1), (2, .int x2)]) hx hb d_Sp_leastMinutes_4 hl (by decide) rfl (fun ls hl => ?_)
  obtain ⟨k, hw⟩ := hw
  exact k_Sp_leastMinutes_6 hC post k _ _ _ _ _ _ _ ls hw hI (lv_sub hl [2, 3, 4, 1, 0] rfl)
