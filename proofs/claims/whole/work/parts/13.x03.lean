def w_T_walk (post : Int32 → tS → Prop) (x1 : Int32) (x2 : Int32) (x3 : Int32) (u : tS) : Prop := (w_Ne_hasStops (fun r6 u6 => ((r6 = 0 → (post (-2) u6)) ∧ (¬ r6 = 0 → ((x1 = x2 → (post (-2) u6)) ∧ (¬ x1 = x2 → (w_T_within (fun r22 u22 => ((r22 = 0 → (post (-2) u22)) ∧ (¬ r22 = 0 → (((u22.1 3) < 30 → (w_Wa_add (fun r59 u59 => (post r59 u59)) x1 x2 x3 u22)) ∧ (¬ (u22.1 3) < 30 → (post (-3) u22)))))) x3 1 600 u6)))))) x1 x2 u)
set_option maxRecDepth 100000 in
set_option maxHeartbeats 4000000 in
theorem c_T_walk (l : Launch) (dC : Nat → ClassId) (dI : Nat → Nat → Nat) (cA : ClassId) (a : Nat → Nat) (u : tS) (x1 : Int32) (x2 : Int32) (x3 : Int32) (post : Int32 → tS → Prop) (sz : Nat) : Met l y_T_walk ws_T_walk ({ frames := 4, cells := 0, slots := 0, locals := 94 }) (va_Pc [.ref (a 0), .int x1, .int x2, .int x3] (tP (dC, dI) twCl [(cA, .int)] (wdX a cA) u sz (w_T_walk post x1 x2 x3 u))) (va_Qi post (tB (dC, dI) twCl [(cA, .int)] (va_A (wdX a cA u) sz) (wdX a cA)) (va_A (wdX a cA u) sz)) 0 0 (va_A (wdX a cA u) sz) := by
  refine Met.ofW (cc := b_T_walk) (maxL := 4) (ret := (some .int)) (by decide) rfl ?_
  intro p e s m args below meth c s₁ B hml hv
  obtain ⟨rfl, hsz, hP, hK, hD0, hN, hw⟩ := hv
  have hx := B.exec
  have hb := B.bytes
  have hr := B.returns
  have hts : ∀ w ∈ wsA, w.before _ s = true := fun w h => atoms_spec (ws := ws_T_walk) B.pre w (List.mem_cons_of_mem _ h)
  have hown : s.vm.findClass R_T = some m.cls := findClass_of_methodNamed B.named
  have hlocks := B.notSynchronized
  subst hsz
  have hD := hD0.self (sz := s.heap.size)
  generalize hAe : va_A (wdX a cA u) s.heap.size = A at hD ⊢
  have hA : ∀ q : Nat, s.heap.size ≤ q → A q := fun q h => by rw [← hAe]; exact Or.inr h
  have hS : va_S A s.heap s.heap [] := va_S.rf
  have hI : tX (dC, dI) twCl [(cA, .int)] A s s.heap [] (wdX a cA u) := ⟨hK, hP, hD, hS⟩
  have hC : tC p s m meth c ([.ref (a 0), .int x1, .int x2, .int x3] : List Value).toArray b_T_walk 4 (some .int) wsA R_T A := ⟨hx, hb, hr, hml, hown, hts, hlocks, hA, hN⟩
  have hl := lv_entry ([.ref (a 0), .int x1, .int x2, .int x3]) (n := 4) (Nat.le_of_ble_eq_true rfl)
  rw [lg_entry_eq]
  generalize (lg_sl ([.ref (a 0), .int x1, .int x2, .int x3]) ++ List.replicate (4 - (lg_sl ([.ref (a 0), .int x1, .int x2, .int x3])).length) Slot.unset).toArray = ls at hl ⊢
  have hl : lv_has ls 4 [(0, .ref (a 0)), (1, .int x1), (2, .int x2), (3, .int x3)] := hl
  have hw : (w_Ne_hasStops (fun r6 u6 => ((r6 = 0 → (post (-2) u6)) ∧ (¬ r6 = 0 → ((x1 = x2 → (post (-2) u6)) ∧ (¬ x1 = x2 → (w_T_within (fun r22 u22 => ((r22 = 0 → (post (-2) u22)) ∧ (¬ r22 = 0 → (((u22.1 3) < 30 → (w_Wa_add (fun r59 u59 => (post r59 u59)) x1 x2 x3 u22)) ∧ (¬ (u22.1 3) < 30 → (post (-3) u22)))))) x3 1 600 u6)))))) x1 x2 u) := hw
  refine lv_aload_n hx hb d_T_walk_0 rfl (lv_at hl 0 rfl) ?_
  refine va_get (D := (dC, dI)) (C := R_T) (T := F_T) (N := 6) hx hb hts in_T hown hI.1 hI.2.1 0 (wdX_o0 a cA _) rfl 0 (by decide) (hts _ wA_264) (fun _ h9 => h9) rfl d_T_walk_1 ?_
  refine lv_iload_n hx hb d_T_walk_4 rfl (lv_at hl 1 rfl) ?_
  refine lv_iload_n hx hb d_T_walk_5 rfl (lv_at hl 2 rfl) ?_
  refine tr_goi (w := wdX a cA) hI hA (va_runV (As := [.int x1, .int x2]) (rest := []) ⟨hx, hb, hml, hown, hts⟩ (c_Ne_hasStops l dC dI cA a _ _ _ _ _) (cwV 2 hts (wsA_goodV wA_315 wA_316 wA_317 wA_31 wA_318) rfl rfl rfl (by decide +kernel) ⟨Nat.le_of_ble_eq_true rfl, Nat.le_of_ble_eq_true rfl⟩) (tr_preV (ci := 1) (q0 := 1) hI rfl (wdX_o1 a cA _) rfl hN hw) rfl rfl hl.1 rfl (lv_room (Nat.le_of_ble_eq_true rfl)) d_T_walk_6 ⟨Nat.zero_le _, Nat.zero_le _⟩) (fun r6 u6 H locs hw hI => ?_)
  refine lv_if_eq (tgt := 28) hx hb d_T_walk_9 (by decide) (fun hc => ?_) (fun hc => ?_)
  · have hw := hw.1 hc
    refine lv_bipush (v := (-2)) hx hb d_T_walk_28 (by decide) ?_
    exact tr_iret hx hb hr hlocks hI hw d_T_walk_30
  · have hw := hw.2 hc
    refine lv_iload_n hx hb d_T_walk_12 rfl (lv_at hl 1 rfl) ?_
    refine lv_iload_n hx hb d_T_walk_13 rfl (lv_at hl 2 rfl) ?_
    refine lv_icmp_eq (tgt := 28) hx hb d_T_walk_14 (by decide) (fun hc => ?_) (fun hc => ?_)
    · have hw := hw.1 hc
      refine lv_bipush (v := (-2)) hx hb d_T_walk_28 (by decide) ?_
      exact tr_iret hx hb hr hlocks hI hw d_T_walk_30
    · have hw := hw.2 hc
      refine lv_iload_n hx hb d_T_walk_17 rfl (lv_at hl 3 rfl) ?_
      refine lv_iconst (v := 1) hx hb d_T_walk_18 (by decide) ?_
      refine lv_sipush (v := 600) hx hb d_T_walk_19 (by decide) ?_
      refine tr_goi (w := wdX a cA) hI hA (va_runS (As := [.int x3, .int 1, .int 600]) (rest := []) ⟨hx, hb, hml, hown, hts⟩ (c_T_within l dC dI cA a _ _ _ _ _ _) ⟨callB_of 3 hts (wsA_good wA_301) rfl rfl rfl (hts _ wA_30) (hts _ wA_299) (by decide +kernel) ⟨Nat.le_of_ble_eq_true rfl, Nat.le_of_ble_eq_true rfl⟩, hts _ wA_300⟩ (tr_preS hI hN hw) rfl rfl hl.1 rfl (lv_room (Nat.le_of_ble_eq_true rfl)) d_T_walk_22 ⟨Nat.zero_le _, Nat.zero_le _⟩) (fun r22 u22 H locs hw hI => ?_)
      refine lv_if_ne (tgt := 31) hx hb d_T_walk_25 (by decide) (fun hc => ?_) (fun hc => ?_)
      · have hw := hw.2 hc
        refine lv_aload_n hx hb d_T_walk_31 rfl (lv_at hl 0 rfl) ?_
        refine va_get (D := (dC, dI)) (C := R_T) (T := F_T) (N := 6) hx hb hts in_T hown hI.1 hI.2.1 0 (wdX_o0 a cA _) rfl 0 (by decide) (hts _ wA_264) (fun _ h9 => h9) rfl d_T_walk_32 ?_
        refine va_get (D := (dC, dI)) (C := R_Ne) (T := F_Ne) (N := 5) hx hb hts in_Ne hown hI.1 hI.2.1 1 (wdX_o1 a cA _) rfl 4 (by decide) (hts _ wA_179) (fun _ h9 => h9) rfl d_T_walk_35 ?_
        refine va_get (D := (dC, dI)) (C := R_Wa) (T := F_Wa) (N := 5) hx hb hts in_Wa hown hI.1 hI.2.1 4 (wdX_o4 a cA _) rfl 0 (by decide) (hts _ wA_138) (fun _ h9 => h9) rfl d_T_walk_38 ?_
        refine lv_bipush (v := 30) hx hb d_T_walk_41 (by decide) ?_
        refine lv_icmp_lt (tgt := 49) hx hb d_T_walk_43 (by decide) (fun hc => ?_) (fun hc => ?_)
        · have hw := hw.1 hc
          refine lv_aload_n hx hb d_T_walk_49 rfl (lv_at hl 0 rfl) ?_
          refine va_get (D := (dC, dI)) (C := R_T) (T := F_T) (N := 6) hx hb hts in_T hown hI.1 hI.2.1 0 (wdX_o0 a cA _) rfl 0 (by decide) (hts _ wA_264) (fun _ h9 => h9) rfl d_T_walk_50 ?_
          refine va_get (D := (dC, dI)) (C := R_Ne) (T := F_Ne) (N := 5) hx hb hts in_Ne hown hI.1 hI.2.1 1 (wdX_o1 a cA _) rfl 4 (by decide) (hts _ wA_179) (fun _ h9 => h9) rfl d_T_walk_53 ?_
          refine lv_iload_n hx hb d_T_walk_56 rfl (lv_at hl 1 rfl) ?_
          refine lv_iload_n hx hb d_T_walk_57 rfl (lv_at hl 2 rfl) ?_
          refine lv_iload_n hx hb d_T_walk_58 rfl (lv_at hl 3 rfl) ?_
          refine tr_goi (w := wdX a cA) hI hA (va_runV (As := [.int x1, .int x2, .int x3]) (rest := []) ⟨hx, hb, hml, hown, hts⟩ (c_Wa_add l dC dI cA a _ _ _ _ _ _) (cwV 3 hts (wsA_goodV wA_352 wA_353 wA_354 wA_34 wA_355) rfl rfl rfl (by decide +kernel) ⟨Nat.le_of_ble_eq_true rfl, Nat.le_of_ble_eq_true rfl⟩) (tr_preV (ci := 4) (q0 := 4) hI rfl (wdX_o4 a cA _) rfl hN hw) rfl rfl hl.1 rfl (lv_room (Nat.le_of_ble_eq_true rfl)) d_T_walk_59 ⟨Nat.zero_le _, Nat.zero_le _⟩) (fun r59 u59 H locs hw hI => ?_)
          exact tr_iret hx hb hr hlocks hI hw d_T_walk_62
        · have hw := hw.2 hc
          refine lv_bipush (v := (-3)) hx hb d_T_walk_46 (by decide) ?_
          exact tr_iret hx hb hr hlocks hI hw d_T_walk_48
      · have hw := hw.1 hc
        refine lv_bipush (v := (-2)) hx hb d_T_walk_28 (by decide) ?_
        exact tr_iret hx hb hr hlocks hI hw d_T_walk_30
def w_Ri_has (post : Int32 → tS → Prop) (x1 : Int32) (u : tS) : Prop := (w_T_within (fun r8 u8 => (narrow .boolean (.int r8) = .int r8 ∧ post r8 u8)) x1 0 ((u.1 1) - 1) u)
set_option maxRecDepth 100000 in
set_option maxHeartbeats 4000000 in
theorem c_Ri_has (l : Launch) (dC : Nat → ClassId) (dI : Nat → Nat → Nat) (cA : ClassId) (a : Nat → Nat) (u : tS) (x1 : Int32) (post : Int32 → tS → Prop) (sz : Nat) : Met l y_Ri_has ws_Ri_has ({ frames := 1, cells := 0, slots := 0, locals := 22 }) (va_Pc [.ref (a 2), .int x1] (tP (dC, dI) twCl [(cA, .int)] (wdX a cA) u sz (w_Ri_has post x1 u))) (va_Qi post (tB (dC, dI) twCl [(cA, .int)] (va_A (wdX a cA u) sz) (wdX a cA)) (va_A (wdX a cA u) sz)) 0 0 (va_A (wdX a cA u) sz) := by
  refine Met.ofW (cc := b_Ri_has) (maxL := 2) (ret := (some .boolean)) (by decide) rfl ?_
  intro p e s m args below meth c s₁ B hml hv
  obtain ⟨rfl, hsz, hP, hK, hD0, hN, hw⟩ := hv
  have hx := B.exec
  have hb := B.bytes
  have hr := B.returns
  have hts : ∀ w ∈ wsA, w.before _ s = true := fun w h => atoms_spec (ws := ws_Ri_has) B.pre w (List.mem_cons_of_mem _ h)
  have hown : s.vm.findClass R_Ri = some m.cls := findClass_of_methodNamed B.named
  have hlocks := B.notSynchronized
  subst hsz
  have hD := hD0.self (sz := s.heap.size)
  generalize hAe : va_A (wdX a cA u) s.heap.size = A at hD ⊢
  have hA : ∀ q : Nat, s.heap.size ≤ q → A q := fun q h => by rw [← hAe]; exact Or.inr h
  have hS : va_S A s.heap s.heap [] := va_S.rf
  have hI : tX (dC, dI) twCl [(cA, .int)] A s s.heap [] (wdX a cA u) := ⟨hK, hP, hD, hS⟩
  have hC : tC p s m meth c ([.ref (a 2), .int x1] : List Value).toArray b_Ri_has 2 (some .boolean) wsA R_Ri A := ⟨hx, hb, hr, hml, hown, hts, hlocks, hA, hN⟩
  have hl := lv_entry ([.ref (a 2), .int x1]) (n := 2) (Nat.le_of_ble_eq_true rfl)
  rw [lg_entry_eq]
  generalize (lg_sl ([.ref (a 2), .int x1]) ++ List.replicate (2 - (lg_sl ([.ref (a 2), .int x1])).length) Slot.unset).toArray = ls at hl ⊢
  have hl : lv_has ls 2 [(0, .ref (a 2)), (1, .int x1)] := hl
  have hw : (w_T_within (fun r8 u8 => (narrow .boolean (.int r8) = .int r8 ∧ post r8 u8)) x1 0 ((u.1 1) - 1) u) := hw
  refine lv_iload_n hx hb d_Ri_has_0 rfl (lv_at hl 1 rfl) ?_
  refine lv_iconst (v := 0) hx hb d_Ri_has_1 (by decide) ?_
  refine lv_aload_n hx hb d_Ri_has_2 rfl (lv_at hl 0 rfl) ?_
  refine va_get (D := (dC, dI)) (C := R_Ri) (T := F_Ri) (N := 7) hx hb hts in_Ri hown hI.1 hI.2.1 2 (wdX_o2 a cA _) rfl 0 (by decide) (hts _ wA_63) (fun _ h9 => h9) rfl d_Ri_has_3 ?_
  refine lv_iconst (v := 1) hx hb d_Ri_has_6 (by decide) ?_
  refine lv_isub hx hb d_Ri_has_7 ?_
  refine tr_goi (w := wdX a cA) hI hA (va_runSN (As := [.int x1, .int 0, .int ((u.1 1) - 1)]) (rest := []) ⟨hx, hb, hml, hown, hts⟩ (c_T_within l dC dI cA a _ _ _ _ _ _) ⟨va_cnB 3 hts (wsA_good wA_301) rfl rfl rfl hN.2 (hts _ wA_30) (by decide +kernel) ⟨Nat.le_of_ble_eq_true rfl, Nat.le_of_ble_eq_true rfl⟩, hts _ wA_300, trivial⟩ (tr_preS hI hN hw) rfl rfl hl.1 rfl (lv_room (Nat.le_of_ble_eq_true rfl)) d_Ri_has_8 ⟨Nat.zero_le _, Nat.zero_le _⟩) (fun r8 u8 H locs hw hI => ?_)
  obtain ⟨hn, hw⟩ := hw
  exact tr_zret hx hb hr hlocks hI hn hw d_Ri_has_11
def w_Bo_takeOut_4 (post : tS → Prop) : Nat → Int32 → Int32 → Int32 → tS → Prop
  | 0 => fun _ _ _ _ => False
  | n + 1 => fun x1 x2 x3 u => (((u.1 2) ≤ x3 → (post (tI u 2 x2))) ∧ (¬ (u.1 2) ≤ x3 → (vp_in x3 280 ∧ (((u.2 7 x3.toNatClampNeg) = x1 → (w_Bo_takeOut_4 post n x1 x2 (x3 + 1) u)) ∧ (¬ (u.2 7 x3.toNatClampNeg) = x1 → (vp_in x3 280 ∧ (vp_in x2 280 ∧ (vp_in x3 280 ∧ (vp_in x2 280 ∧ (w_Bo_takeOut_4 post n x1 (x2 + 1) (x3 + 1) (tA (tA u 7 x2 (u.2 7 x3.toNatClampNeg)) 8 x2 ((tA u 7 x2 (u.2 7 x3.toNatClampNeg)).2 8 x3.toNatClampNeg))))))))))))
def w_Bo_takeOut (post : tS → Prop) (x1 : Int32) (u : tS) : Prop := (∃ k, w_Bo_takeOut_4 post k x1 0 0 u)
set_option maxRecDepth 100000 in
set_option maxHeartbeats 4000000 in
theorem k_Bo_takeOut_4 {p : Program} {l : Launch} {e : Env} {s : State} {m : MethodId} {args : Array Value} {below : List Frame} {meth : Method} {c : Code} {dC : Nat → ClassId} {dI : Nat → Nat → Nat} {cA : ClassId} {a : Nat → Nat} {A : Nat → Prop} (hC : tC p s m meth c args b_Bo_takeOut 4 none wsA R_Bo A) (post : tS → Prop) : ∀ n : Nat, ∀ (x1 x2 x3 : Int32) (u : tS) (H : Heap) (locs : List Loc) (ls : Array Slot), w_Bo_takeOut_4 post n x1 x2 x3 u → tX (dC, dI) twCl [(cA, .int)] A s H locs (wdX a cA u) → lv_has ls 4 [(0, .ref (a 3)), (1, .int x1), (2, .int x2), (3, .int x3)] → W p l e ({ frames := 0, cells := 0, slots := 0, locals := 0 }) s m args below meth c H locs 0 0 (MQ below (va_Qv post (tB (dC, dI) twCl [(cA, .int)] A (wdX a cA)) A) args s 0 0 A) (F0 m 4 ls []) := by
  obtain ⟨hx, hb, hr, hml, hown, hts, hlocks, hA, hN⟩ := id hC
  intro n
  induction n with
  | zero => intro x1 x2 x3 u H locs ls hw; exact False.elim hw
  | succ n ih =>
    intro x1 x2 x3 u H locs ls hw hI hl
    refine lv_iload_n hx hb d_Bo_takeOut_4 rfl (lv_at hl 3 rfl) ?_
    refine lv_aload_n hx hb d_Bo_takeOut_5 rfl (lv_at hl 0 rfl) ?_
    refine va_get (D := (dC, dI)) (C := R_Bo) (T := F_Bo) (N := 3) hx hb hts in_Bo hown hI.1 hI.2.1 3 (wdX_o3 a cA _) rfl 0 (by decide) (hts _ wA_111) (fun _ h9 => h9) rfl d_Bo_takeOut_6 ?_
    refine lv_icmp_ge (tgt := 55) hx hb d_Bo_takeOut_9 (by decide) (fun hc => ?_) (fun hc => ?_)
    · have hw := hw.1 hc
      refine lv_aload_n hx hb d_Bo_takeOut_55 rfl (lv_at hl 0 rfl) ?_
      refine lv_iload_n hx hb d_Bo_takeOut_56 rfl (lv_at hl 2 rfl) ?_
      refine tr_put (C := R_Bo) (T := F_Bo) (N := 3) (w := wdX a cA) hx hb hts in_Bo ft_Bo ft_Bo_ok fn_Bo hown hI 3 2 (wdX_o3 a cA _) rfl 0 (by decide) (hts _ wA_111) rfl (by decide +kernel) (Nat.le_of_ble_eq_true rfl) (wdX_i2 a cA _ _) d_Bo_takeOut_57 (fun H locs hI => ?_)
      exact tr_vret hx hb hr hlocks hI hw d_Bo_takeOut_60
    · have hw := hw.2 hc
      refine lv_aload_n hx hb d_Bo_takeOut_12 rfl (lv_at hl 0 rfl) ?_
      refine va_get (D := (dC, dI)) (C := R_Bo) (T := F_Bo) (N := 3) hx hb hts in_Bo hown hI.1 hI.2.1 3 (wdX_o3 a cA _) rfl 1 (by decide) (hts _ wA_116) (fun _ h9 => h9) rfl d_Bo_takeOut_13 ?_
      refine lv_iload_n hx hb d_Bo_takeOut_16 rfl (lv_at hl 3 rfl) ?_
      obtain ⟨hi, hw⟩ := hw
      refine va_iald (D := (dC, dI)) hx hb hI.1 hI.2.1 17 0 (wdX_o17 a cA _) rfl hi d_Bo_takeOut_17 ?_
      refine lv_iload_n hx hb d_Bo_takeOut_18 rfl (lv_at hl 1 rfl) ?_
      refine lv_icmp_eq (tgt := 49) hx hb d_Bo_takeOut_19 (by decide) (fun hc => ?_) (fun hc => ?_)
      · have hw := hw.1 hc
        refine lv_iinc (v := (x3 + 1)) (lv' := [(3, .int (x3 + 1)), (0, .ref (a 3)), (1, .int x1), (2, .int x2)]) hx hb d_Bo_takeOut_49 hl (k := 3) rfl rfl (by decide) rfl (fun ls hl => ?_)
        refine lv_goto (tgt := 4) hx hb d_Bo_takeOut_52 (by decide) ?_
        exact ih _ _ _ _ _ _ ls hw hI (lv_sub hl [1, 2, 3, 0] rfl)
      · have hw := hw.2 hc
        refine lv_aload_n hx hb d_Bo_takeOut_22 rfl (lv_at hl 0 rfl) ?_
        refine va_get (D := (dC, dI)) (C := R_Bo) (T := F_Bo) (N := 3) hx hb hts in_Bo hown hI.1 hI.2.1 3 (wdX_o3 a cA _) rfl 1 (by decide) (hts _ wA_116) (fun _ h9 => h9) rfl d_Bo_takeOut_23 ?_
        refine lv_iload_n hx hb d_Bo_takeOut_26 rfl (lv_at hl 2 rfl) ?_
        refine lv_aload_n hx hb d_Bo_takeOut_27 rfl (lv_at hl 0 rfl) ?_
        refine va_get (D := (dC, dI)) (C := R_Bo) (T := F_Bo) (N := 3) hx hb hts in_Bo hown hI.1 hI.2.1 3 (wdX_o3 a cA _) rfl 1 (by decide) (hts _ wA_116) (fun _ h9 => h9) rfl d_Bo_takeOut_28 ?_
        refine lv_iload_n hx hb d_Bo_takeOut_31 rfl (lv_at hl 3 rfl) ?_
        obtain ⟨hi, hw⟩ := hw
        refine va_iald (D := (dC, dI)) hx hb hI.1 hI.2.1 17 0 (wdX_o17 a cA _) rfl hi d_Bo_takeOut_32 ?_
        obtain ⟨hi, hw⟩ := hw
        refine tr_iast (w := wdX a cA) hx hb hI 17 0 7 (wdX_o17 a cA _) rfl (wdX_a7 a cA _ _ _) hi d_Bo_takeOut_33 (fun H locs hI => ?_)
        refine lv_aload_n hx hb d_Bo_takeOut_34 rfl (lv_at hl 0 rfl) ?_
        refine va_get (D := (dC, dI)) (C := R_Bo) (T := F_Bo) (N := 3) hx hb hts in_Bo hown hI.1 hI.2.1 3 (wdX_o3 a cA _) rfl 2 (by decide) (hts _ wA_117) (fun _ h9 => h9) rfl d_Bo_takeOut_35 ?_
        refine lv_iload_n hx hb d_Bo_takeOut_38 rfl (lv_at hl 2 rfl) ?_
        refine lv_aload_n hx hb d_Bo_takeOut_39 rfl (lv_at hl 0 rfl) ?_
        refine va_get (D := (dC, dI)) (C := R_Bo) (T := F_Bo) (N := 3) hx hb hts in_Bo hown hI.1 hI.2.1 3 (wdX_o3 a cA _) rfl 2 (by decide) (hts _ wA_117) (fun _ h9 => h9) rfl d_Bo_takeOut_40 ?_
        refine lv_iload_n hx hb d_Bo_takeOut_43 rfl (lv_at hl 3 rfl) ?_
        obtain ⟨hi, hw⟩ := hw
        refine va_iald (D := (dC, dI)) hx hb hI.1 hI.2.1 18 0 (wdX_o18 a cA _) rfl hi d_Bo_takeOut_44 ?_
        obtain ⟨hi, hw⟩ := hw
        refine tr_iast (w := wdX a cA) hx hb hI 18 0 8 (wdX_o18 a cA _) rfl (wdX_a8 a cA _ _ _) hi d_Bo_takeOut_45 (fun H locs hI => ?_)
        refine lv_iinc (v := (x2 + 1)) (lv' := [(2, .int (x2 + 1)), (0, .ref (a 3)), (1, .int x1), (3, .int x3)]) hx hb d_Bo_takeOut_46 hl (k := 2) rfl rfl (by decide) rfl (fun ls hl => ?_)
        refine lv_iinc (v := (x3 + 1)) (lv' := [(3, .int (x3 + 1)), (2, .int (x2 + 1)), (0, .ref (a 3)), (1, .int x1)]) hx hb d_Bo_takeOut_49 hl (k := 3) rfl rfl (by decide) rfl (fun ls hl => ?_)
        refine lv_goto (tgt := 4) hx hb d_Bo_takeOut_52 (by decide) ?_
        exact ih _ _ _ _ _ _ ls hw hI (lv_sub hl [2, 3, 1, 0] rfl)
set_option maxRecDepth 100000 in
set_option maxHeartbeats 4000000 in
theorem c_Bo_takeOut (l : Launch) (dC : Nat → ClassId) (dI : Nat → Nat → Nat) (cA : ClassId) (a : Nat → Nat) (u : tS) (x1 : Int32) (post : tS → Prop) (sz : Nat) : Met l y_Bo_takeOut ws_Bo_takeOut ({ frames := 0, cells := 0, slots := 0, locals := 0 }) (va_Pc [.ref (a 3), .int x1] (tP (dC, dI) twCl [(cA, .int)] (wdX a cA) u sz (w_Bo_takeOut post x1 u))) (va_Qv post (tB (dC, dI) twCl [(cA, .int)] (va_A (wdX a cA u) sz) (wdX a cA)) (va_A (wdX a cA u) sz)) 0 0 (va_A (wdX a cA u) sz) := by
  refine Met.ofW (cc := b_Bo_takeOut) (maxL := 4) (ret := none) (by decide) rfl ?_
  intro p e s m args below meth c s₁ B hml hv
  obtain ⟨rfl, hsz, hP, hK, hD0, hN, hw⟩ := hv
  have hx := B.exec
  have hb := B.bytes
  have hr := B.returns
  have hts : ∀ w ∈ wsA, w.before _ s = true := fun w h => atoms_spec (ws := ws_Bo_takeOut) B.pre w (List.mem_cons_of_mem _ h)
  have hown : s.vm.findClass R_Bo = some m.cls := findClass_of_methodNamed B.named
  have hlocks := B.notSynchronized
  subst hsz
  have hD := hD0.self (sz := s.heap.size)
  generalize hAe : va_A (wdX a cA u) s.heap.size = A at hD ⊢
  have hA : ∀ q : Nat, s.heap.size ≤ q → A q := fun q h => by rw [← hAe]; exact Or.inr h
  have hS : va_S A s.heap s.heap [] := va_S.rf
  have hI : tX (dC, dI) twCl [(cA, .int)] A s s.heap [] (wdX a cA u) := ⟨hK, hP, hD, hS⟩
  have hC : tC p s m meth c ([.ref (a 3), .int x1] : List Value).toArray b_Bo_takeOut 4 none wsA R_Bo A := ⟨hx, hb, hr, hml, hown, hts, hlocks, hA, hN⟩
  have hl := lv_entry ([.ref (a 3), .int x1]) (n := 4) (Nat.le_of_ble_eq_true rfl)
  rw [lg_entry_eq]
  generalize (lg_sl ([.ref (a 3), .int x1]) ++ List.replicate (4 - (lg_sl ([.ref (a 3), .int x1])).length) Slot.unset).toArray = ls at hl ⊢
  have hl : lv_has ls 4 [(0, .ref (a 3)), (1, .int x1)] := hl
  have hw : (∃ k, w_Bo_takeOut_4 post k x1 0 0 u) := hw
  refine lv_iconst (v := 0) hx hb d_Bo_takeOut_0 (by decide) ?_
  refine lv_istore_n (lv' := [(2, .int 0), (0, .ref (a 3)), (1, .int x1)]) hx hb d_Bo_takeOut_1 rfl hl (by decide) rfl (fun ls hl => ?_)
  refine lv_iconst (v := 0) hx hb d_Bo_takeOut_2 (by decide) ?_
  refine lv_istore_n (lv' := [(3, .int 0), (2, .int 0), (0, .ref (a 3)), (1, .int x1)]) hx hb d_Bo_takeOut_3 rfl hl (by decide) rfl (fun ls hl => ?_)
  obtain ⟨k, hw⟩ := hw
  exact k_Bo_takeOut_4 hC post k _ _ _ _ _ _ ls hw hI (lv_sub hl [2, 3, 1, 0] rfl)
def w_T_late (post : Int32 → tS → Prop) (x1 : Int32) (x2 : Int32) (x3 : Int32) (u : tS) : Prop := (w_Ri_has (fun r8 u8 => ((r8 = 0 → (post (-2) u8)) ∧ (¬ r8 = 0 → (w_T_within (fun r18 u18 => ((r18 = 0 → (post (-2) u18)) ∧ (¬ r18 = 0 → (w_T_within (fun r29 u29 => ((r29 = 0 → (post (-2) u29)) ∧ (¬ r29 = 0 → (w_Ri_isOnDay (fun r47 u47 => ((r47 = 0 → (post (-2) u47)) ∧ (¬ r47 = 0 → (vp_in ((x1 * 7) + x2) 280 ∧ (w_Bo_takeOut (fun u88 => (vp_in ((x1 * 7) + x2) 280 ∧ (w_Bo_putIn (fun u121 => (post (u47.2 6 ((x1 * 7) + x2).toNatClampNeg) u121)) ((x1 * 7) + x2) (tA u88 6 ((x1 * 7) + x2) x3)))) ((x1 * 7) + x2) u47))))) x1 x2 u29)))) x3 (-1) 300 u18)))) x2 0 6 u8)))) x1 u)
set_option maxRecDepth 100000 in
set_option maxHeartbeats 4000000 in
theorem c_T_late (l : Launch) (dC : Nat → ClassId) (dI : Nat → Nat → Nat) (cA : ClassId) (a : Nat → Nat) (u : tS) (x1 : Int32) (x2 : Int32) (x3 : Int32) (post : Int32 → tS → Prop) (sz : Nat) : Met l y_T_late ws_T_late ({ frames := 2, cells := 0, slots := 0, locals := 47 }) (va_Pc [.ref (a 0), .int x1, .int x2, .int x3] (tP (dC, dI) twCl [(cA, .int)] (wdX a cA) u sz (w_T_late post x1 x2 x3 u))) (va_Qi post (tB (dC, dI) twCl [(cA, .int)] (va_A (wdX a cA u) sz) (wdX a cA)) (va_A (wdX a cA u) sz)) 0 0 (va_A (wdX a cA u) sz) := by
  refine Met.ofW (cc := b_T_late) (maxL := 6) (ret := (some .int)) (by decide) rfl ?_
  intro p e s m args below meth c s₁ B hml hv
  obtain ⟨rfl, hsz, hP, hK, hD0, hN, hw⟩ := hv
  have hx := B.exec
  have hb := B.bytes
  have hr := B.returns
  have hts : ∀ w ∈ wsA, w.before _ s = true := fun w h => atoms_spec (ws := ws_T_late) B.pre w (List.mem_cons_of_mem _ h)
  have hown : s.vm.findClass R_T = some m.cls := findClass_of_methodNamed B.named
  have hlocks := B.notSynchronized
  subst hsz
  have hD := hD0.self (sz := s.heap.size)
  generalize hAe : va_A (wdX a cA u) s.heap.size = A at hD ⊢
  have hA : ∀ q : Nat, s.heap.size ≤ q → A q := fun q h => by rw [← hAe]; exact Or.inr h
  have hS : va_S A s.heap s.heap [] := va_S.rf
  have hI : tX (dC, dI) twCl [(cA, .int)] A s s.heap [] (wdX a cA u) := ⟨hK, hP, hD, hS⟩
  have hC : tC p s m meth c ([.ref (a 0), .int x1, .int x2, .int x3] : List Value).toArray b_T_late 6 (some .int) wsA R_T A := ⟨hx, hb, hr, hml, hown, hts, hlocks, hA, hN⟩
  have hl := lv_entry ([.ref (a 0), .int x1, .int x2, .int x3]) (n := 6) (Nat.le_of_ble_eq_true rfl)
  rw [lg_entry_eq]
  generalize (lg_sl ([.ref (a 0), .int x1, .int x2, .int x3]) ++ List.replicate (6 - (lg_sl ([.ref (a 0), .int x1, .int x2, .int x3])).length) Slot.unset).toArray = ls at hl ⊢
  have hl : lv_has ls 6 [(0, .ref (a 0)), (1, .int x1), (2, .int x2), (3, .int x3)] := hl
  have hw : (w_Ri_has (fun r8 u8 => ((r8 = 0 → (post (-2) u8)) ∧ (¬ r8 = 0 → (w_T_within (fun r18 u18 => ((r18 = 0 → (post (-2) u18)) ∧ (¬ r18 = 0 → (w_T_within (fun r29 u29 => ((r29 = 0 → (post (-2) u29)) ∧ (¬ r29 = 0 → (w_Ri_isOnDay (fun r47 u47 => ((r47 = 0 → (post (-2) u47)) ∧ (¬ r47 = 0 → (vp_in ((x1 * 7) + x2) 280 ∧ (w_Bo_takeOut (fun u88 => (vp_in ((x1 * 7) + x2) 280 ∧ (w_Bo_putIn (fun u121 => (post (u47.2 6 ((x1 * 7) + x2).toNatClampNeg) u121)) ((x1 * 7) + x2) (tA u88 6 ((x1 * 7) + x2) x3)))) ((x1 * 7) + x2) u47))))) x1 x2 u29)))) x3 (-1) 300 u18)))) x2 0 6 u8)))) x1 u) := hw
  refine lv_aload_n hx hb d_T_late_0 rfl (lv_at hl 0 rfl) ?_
  refine va_get (D := (dC, dI)) (C := R_T) (T := F_T) (N := 6) hx hb hts in_T hown hI.1 hI.2.1 0 (wdX_o0 a cA _) rfl 0 (by decide) (hts _ wA_264) (fun _ h9 => h9) rfl d_T_late_1 ?_
  refine va_get (D := (dC, dI)) (C := R_Ne) (T := F_Ne) (N := 5) hx hb hts in_Ne hown hI.1 hI.2.1 1 (wdX_o1 a cA _) rfl 2 (by decide) (hts _ wA_167) (fun _ h9 => h9) rfl d_T_late_4 ?_
  refine lv_iload_n hx hb d_T_late_7 rfl (lv_at hl 1 rfl) ?_
  refine tr_goi (w := wdX a cA) hI hA (va_runV (As := [.int x1]) (rest := []) ⟨hx, hb, hml, hown, hts⟩ (c_Ri_has l dC dI cA a _ _ _ _) (cwV 1 hts (wsA_goodV wA_375 wA_376 wA_377 wA_32 wA_378) rfl rfl rfl (by decide +kernel) ⟨Nat.le_of_ble_eq_true rfl, Nat.le_of_ble_eq_true rfl⟩) (tr_preV (ci := 2) (q0 := 2) hI rfl (wdX_o2 a cA _) rfl hN hw) rfl rfl hl.1 rfl (lv_room (Nat.le_of_ble_eq_true rfl)) d_T_late_8 ⟨Nat.zero_le _, Nat.zero_le _⟩) (fun r8 u8 H locs hw hI => ?_)
  refine lv_if_eq (tgt := 35) hx hb d_T_late_11 (by decide) (fun hc => ?_) (fun hc => ?_)
  · have hw := hw.1 hc
    refine lv_bipush (v := (-2)) hx hb d_T_late_35 (by decide) ?_
    exact tr_iret hx hb hr hlocks hI hw d_T_late_37
  · have hw := hw.2 hc
    refine lv_iload_n hx hb d_T_late_14 rfl (lv_at hl 2 rfl) ?_
    refine lv_iconst (v := 0) hx hb d_T_late_15 (by decide) ?_
    refine lv_bipush (v := 6) hx hb d_T_late_16 (by decide) ?_
    refine tr_goi (w := wdX a cA) hI hA (va_runS (As := [.int x2, .int 0, .int 6]) (rest := []) ⟨hx, hb, hml, hown, hts⟩ (c_T_within l dC dI cA a _ _ _ _ _ _) ⟨callB_of 3 hts (wsA_good wA_301) rfl rfl rfl (hts _ wA_30) (hts _ wA_299) (by decide +kernel) ⟨Nat.le_of_ble_eq_true rfl, Nat.le_of_ble_eq_true rfl⟩, hts _ wA_300⟩ (tr_preS hI hN hw) rfl rfl hl.1 rfl (lv_room (Nat.le_of_ble_eq_true rfl)) d_T_late_18 ⟨Nat.zero_le _, Nat.zero_le _⟩) (fun r18 u18 H locs hw hI => ?_)
    refine lv_if_eq (tgt := 35) hx hb d_T_late_21 (by decide) (fun hc => ?_) (fun hc => ?_)
    · have hw := hw.1 hc
      refine lv_bipush (v := (-2)) hx hb d_T_late_35 (by decide) ?_
      exact tr_iret hx hb hr hlocks hI hw d_T_late_37
    · have hw := hw.2 hc
      refine lv_iload_n hx hb d_T_late_24 rfl (lv_at hl 3 rfl) ?_
      refine lv_iconst (v := (-1)) hx hb d_T_late_25 (by decide) ?_
      refine lv_sipush (v := 300) hx hb d_T_late_26 (by decide) ?_
      refine tr_goi (w := wdX a cA) hI hA (va_runS (As := [.int x3, .int (-1), .int 300]) (rest := []) ⟨hx, hb, hml, hown, hts⟩ (c_T_within l dC dI cA a _ _ _ _ _ _) ⟨callB_of 3 hts (wsA_good wA_301) rfl rfl rfl (hts _ wA_30) (hts _ wA_299) (by decide +kernel) ⟨Nat.le_of_ble_eq_true rfl, Nat.le_of_ble_eq_true rfl⟩, hts _ wA_300⟩ (tr_preS hI hN hw) rfl rfl hl.1 rfl (lv_room (Nat.le_of_ble_eq_true rfl)) d_T_late_29 ⟨Nat.zero_le _, Nat.zero_le _⟩) (fun r29 u29 H locs hw hI => ?_)
      refine lv_if_ne (tgt := 38) hx hb d_T_late_32 (by decide) (fun hc => ?_) (fun hc => ?_)
      · have hw := hw.2 hc
        refine lv_aload_n hx hb d_T_late_38 rfl (lv_at hl 0 rfl) ?_
        refine va_get (D := (dC, dI)) (C := R_T) (T := F_T) (N := 6) hx hb hts in_T hown hI.1 hI.2.1 0 (wdX_o0 a cA _) rfl 0 (by decide) (hts _ wA_264) (fun _ h9 => h9) rfl d_T_late_39 ?_
        refine va_get (D := (dC, dI)) (C := R_Ne) (T := F_Ne) (N := 5) hx hb hts in_Ne hown hI.1 hI.2.1 1 (wdX_o1 a cA _) rfl 2 (by decide) (hts _ wA_167) (fun _ h9 => h9) rfl d_T_late_42 ?_
        refine lv_iload_n hx hb d_T_late_45 rfl (lv_at hl 1 rfl) ?_
        refine lv_iload_n hx hb d_T_late_46 rfl (lv_at hl 2 rfl) ?_
        refine tr_goi (w := wdX a cA) hI hA (va_runV (As := [.int x1, .int x2]) (rest := []) ⟨hx, hb, hml, hown, hts⟩ (c_Ri_isOnDay l dC dI cA a _ _ _ _ _) (cwV 2 hts (wsA_goodV wA_380 wA_325 wA_326 wA_32 wA_327) rfl rfl rfl (by decide +kernel) ⟨Nat.le_of_ble_eq_true rfl, Nat.le_of_ble_eq_true rfl⟩) (tr_preV (ci := 2) (q0 := 2) hI rfl (wdX_o2 a cA _) rfl hN hw) rfl rfl hl.1 rfl (lv_room (Nat.le_of_ble_eq_true rfl)) d_T_late_47 ⟨Nat.zero_le _, Nat.zero_le _⟩) (fun r47 u47 H locs hw hI => ?_)
        refine lv_if_ne (tgt := 56) hx hb d_T_late_50 (by decide) (fun hc => ?_) (fun hc => ?_)
        · have hw := hw.2 hc
          refine lv_iload_n hx hb d_T_late_56 rfl (lv_at hl 1 rfl) ?_
          refine lv_bipush (v := 7) hx hb d_T_late_57 (by decide) ?_
          refine lv_imul hx hb d_T_late_59 ?_
          refine lv_iload_n hx hb d_T_late_60 rfl (lv_at hl 2 rfl) ?_
          refine lv_iadd hx hb d_T_late_61 ?_
          refine lv_istore (lv' := [(4, .int ((x1 * 7) + x2)), (0, .ref (a 0)), (1, .int x1), (2, .int x2), (3, .int x3)]) hx hb d_T_late_62 hl (by decide) rfl (fun ls hl => ?_)
          refine lv_aload_n hx hb d_T_late_64 rfl (lv_at hl 1 rfl) ?_
          refine va_get (D := (dC, dI)) (C := R_T) (T := F_T) (N := 6) hx hb hts in_T hown hI.1 hI.2.1 0 (wdX_o0 a cA _) rfl 0 (by decide) (hts _ wA_264) (fun _ h9 => h9) rfl d_T_late_65 ?_
          refine va_get (D := (dC, dI)) (C := R_Ne) (T := F_Ne) (N := 5) hx hb hts in_Ne hown hI.1 hI.2.1 1 (wdX_o1 a cA _) rfl 2 (by decide) (hts _ wA_167) (fun _ h9 => h9) rfl d_T_late_68 ?_
          refine va_get (D := (dC, dI)) (C := R_Ri) (T := F_Ri) (N := 7) hx hb hts in_Ri hown hI.1 hI.2.1 2 (wdX_o2 a cA _) rfl 6 (by decide) (hts _ wA_87) (fun _ h9 => h9) rfl d_T_late_71 ?_
          refine lv_iload hx hb d_T_late_74 (lv_at hl 0 rfl) ?_
          obtain ⟨hi, hw⟩ := hw
          refine va_iald (D := (dC, dI)) hx hb hI.1 hI.2.1 16 0 (wdX_o16 a cA _) rfl hi d_T_late_76 ?_
          refine lv_istore (lv' := [(5, .int (u47.2 6 ((x1 * 7) + x2).toNatClampNeg)), (4, .int ((x1 * 7) + x2)), (0, .ref (a 0)), (1, .int x1), (2, .int x2), (3, .int x3)]) hx hb d_T_late_77 hl (by decide) rfl (fun ls hl => ?_)
          refine lv_aload_n hx hb d_T_late_79 rfl (lv_at hl 2 rfl) ?_
          refine va_get (D := (dC, dI)) (C := R_T) (T := F_T) (N := 6) hx hb hts in_T hown hI.1 hI.2.1 0 (wdX_o0 a cA _) rfl 0 (by decide) (hts _ wA_264) (fun _ h9 => h9) rfl d_T_late_80 ?_
          refine va_get (D := (dC, dI)) (C := R_Ne) (T := F_Ne) (N := 5) hx hb hts in_Ne hown hI.1 hI.2.1 1 (wdX_o1 a cA _) rfl 3 (by decide) (hts _ wA_173) (fun _ h9 => h9) rfl d_T_late_83 ?_
          refine lv_iload hx hb d_T_late_86 (lv_at hl 1 rfl) ?_
          refine tr_gov (w := wdX a cA) hI hA (va_runV (As := [.int ((x1 * 7) + x2)]) (rest := []) ⟨hx, hb, hml, hown, hts⟩ (c_Bo_takeOut l dC dI cA a _ _ _ _) (cwV 1 hts (wsA_goodV wA_381 wA_382 wA_383 wA_33 wA_384) rfl rfl rfl (by decide +kernel) ⟨Nat.le_of_ble_eq_true rfl, Nat.le_of_ble_eq_true rfl⟩) (tr_preV (ci := 3) (q0 := 3) hI rfl (wdX_o3 a cA _) rfl hN hw) rfl rfl hl.1 rfl (lv_room (Nat.le_of_ble_eq_true rfl)) d_T_late_88 ⟨Nat.zero_le _, Nat.zero_le _⟩) (fun u88 H locs hw hI => ?_)
          refine lv_aload_n hx hb d_T_late_91 rfl (lv_at hl 2 rfl) ?_
          refine va_get (D := (dC, dI)) (C := R_T) (T := F_T) (N := 6) hx hb hts in_T hown hI.1 hI.2.1 0 (wdX_o0 a cA _) rfl 0 (by decide) (hts _ wA_264) (fun _ h9 => h9) rfl d_T_late_92 ?_
          refine va_get (D := (dC, dI)) (C := R_Ne) (T := F_Ne) (N := 5) hx hb hts in_Ne hown hI.1 hI.2.1 1 (wdX_o1 a cA _) rfl 2 (by decide) (hts _ wA_167) (fun _ h9 => h9) rfl d_T_late_95 ?_
          refine va_get (D := (dC, dI)) (C := R_Ri) (T := F_Ri) (N := 7) hx hb hts in_Ri hown hI.1 hI.2.1 2 (wdX_o2 a cA _) rfl 6 (by decide) (hts _ wA_87) (fun _ h9 => h9) rfl d_T_late_98 ?_
          refine lv_iload hx hb d_T_late_101 (lv_at hl 1 rfl) ?_
          refine lv_iload_n hx hb d_T_late_103 rfl (lv_at hl 5 rfl) ?_
          obtain ⟨hi, hw⟩ := hw
          refine tr_iast (w := wdX a cA) hx hb hI 16 0 6 (wdX_o16 a cA _) rfl (wdX_a6 a cA _ _ _) hi d_T_late_104 (fun H locs hI => ?_)
          refine lv_aload_n hx hb d_T_late_105 rfl (lv_at hl 2 rfl) ?_
          refine va_get (D := (dC, dI)) (C := R_T) (T := F_T) (N := 6) hx hb hts in_T hown hI.1 hI.2.1 0 (wdX_o0 a cA _) rfl 0 (by decide) (hts _ wA_264) (fun _ h9 => h9) rfl d_T_late_106 ?_
          refine va_get (D := (dC, dI)) (C := R_Ne) (T := F_Ne) (N := 5) hx hb hts in_Ne hown hI.1 hI.2.1 1 (wdX_o1 a cA _) rfl 3 (by decide) (hts _ wA_173) (fun _ h9 => h9) rfl d_T_late_109 ?_
          refine lv_aload_n hx hb d_T_late_112 rfl (lv_at hl 2 rfl) ?_
          refine va_get (D := (dC, dI)) (C := R_T) (T := F_T) (N := 6) hx hb hts in_T hown hI.1 hI.2.1 0 (wdX_o0 a cA _) rfl 0 (by decide) (hts _ wA_264) (fun _ h9 => h9) rfl d_T_late_113 ?_
          refine va_get (D := (dC, dI)) (C := R_Ne) (T := F_Ne) (N := 5) hx hb hts in_Ne hown hI.1 hI.2.1 1 (wdX_o1 a cA _) rfl 2 (by decide) (hts _ wA_167) (fun _ h9 => h9) rfl d_T_late_116 ?_
          refine lv_iload hx hb d_T_late_119 (lv_at hl 1 rfl) ?_
          refine tr_gov (w := wdX a cA) hI hA (va_runV (As := [.ref (a 2), .int ((x1 * 7) + x2)]) (rest := []) ⟨hx, hb, hml, hown, hts⟩ (c_Bo_putIn l dC dI cA a _ _ _ _) (cwV 2 hts (wsA_goodV wA_385 wA_333 wA_334 wA_33 wA_335) rfl rfl rfl (by decide +kernel) ⟨Nat.le_of_ble_eq_true rfl, Nat.le_of_ble_eq_true rfl⟩) (tr_preV (ci := 3) (q0 := 3) hI rfl (wdX_o3 a cA _) rfl hN hw) rfl rfl hl.1 rfl (lv_room (Nat.le_of_ble_eq_true rfl)) d_T_late_121 ⟨Nat.zero_le _, Nat.zero_le _⟩) (fun u121 H locs hw hI => ?_)
          refine lv_iload hx hb d_T_late_124 (lv_at hl 0 rfl) ?_
          exact tr_iret hx hb hr hlocks hI hw d_T_late_126
        · have hw := hw.1 hc
          refine lv_bipush (v := (-2)) hx hb d_T_late_53 (by decide) ?_
          exact tr_iret hx hb hr hlocks hI hw d_T_late_55
      · have hw := hw.1 hc
        refine lv_bipush (v := (-2)) hx hb d_T_late_35 (by decide) ?_
        exact tr_iret hx hb hr hlocks hI hw d_T_late_37
def w_T_isTime (post : Int32 → tS → Prop) (x0 : Int32) (u : tS) : Prop := (w_T_within (fun r5 u5 => (narrow .boolean (.int r5) = .int r5 ∧ post r5 u5)) x0 0 10079 u)
set_option maxRecDepth 100000 in
set_option maxHeartbeats 4000000 in
theorem c_T_isTime (l : Launch) (dC : Nat → ClassId) (dI : Nat → Nat → Nat) (cA : ClassId) (a : Nat → Nat) (u : tS) (x0 : Int32) (post : Int32 → tS → Prop) (sz : Nat) : Met l y_T_isTime ws_T_isTime ({ frames := 1, cells := 0, slots := 0, locals := 22 }) (va_Pc [.int x0] (tP (dC, dI) twCl [(cA, .int)] (wdX a cA) u sz (w_T_isTime post x0 u))) (va_Qi post (tB (dC, dI) twCl [(cA, .int)] (va_A (wdX a cA u) sz) (wdX a cA)) (va_A (wdX a cA u) sz)) 0 0 (va_A (wdX a cA u) sz) := by
  refine Met.ofW (cc := b_T_isTime) (maxL := 1) (ret := (some .boolean)) (by decide) rfl ?_
  intro p e s m args below meth c s₁ B hml hv
  obtain ⟨rfl, hsz, hP, hK, hD0, hN, hw⟩ := hv
  have hx := B.exec
  have hb := B.bytes
  have hr := B.returns
  have hts : ∀ w ∈ wsA, w.before _ s = true := fun w h => atoms_spec (ws := ws_T_isTime) B.pre w (List.mem_cons_of_mem _ h)
  have hown : s.vm.findClass R_T = some m.cls := findClass_of_methodNamed B.named
  have hlocks := B.notSynchronized
  subst hsz
  have hD := hD0.self (sz := s.heap.size)
  generalize hAe : va_A (wdX a cA u) s.heap.size = A at hD ⊢
  have hA : ∀ q : Nat, s.heap.size ≤ q → A q := fun q h => by rw [← hAe]; exact Or.inr h
  have hS : va_S A s.heap s.heap [] := va_S.rf
  have hI : tX (dC, dI) twCl [(cA, .int)] A s s.heap [] (wdX a cA u) := ⟨hK, hP, hD, hS⟩
  have hC : tC p s m meth c ([.int x0] : List Value).toArray b_T_isTime 1 (some .boolean) wsA R_T A := ⟨hx, hb, hr, hml, hown, hts, hlocks, hA, hN⟩
  have hl := lv_entry ([.int x0]) (n := 1) (Nat.le_of_ble_eq_true rfl)
  rw [lg_entry_eq]
  generalize (lg_sl ([.int x0]) ++ List.replicate (1 - (lg_sl ([.int x0])).length) Slot.unset).toArray = ls at hl ⊢
  have hl : lv_has ls 1 [(0, .int x0)] := hl
  have hw : (w_T_within (fun r5 u5 => (narrow .boolean (.int r5) = .int r5 ∧ post r5 u5)) x0 0 10079 u) := hw
  refine lv_iload_n hx hb d_T_isTime_0 rfl (lv_at hl 0 rfl) ?_
  refine lv_iconst (v := 0) hx hb d_T_isTime_1 (by decide) ?_
  refine lv_sipush (v := 10079) hx hb d_T_isTime_2 (by decide) ?_
  refine tr_goi (w := wdX a cA) hI hA (va_runS (As := [.int x0, .int 0, .int 10079]) (rest := []) ⟨hx, hb, hml, hown, hts⟩ (c_T_within l dC dI cA a _ _ _ _ _ _) ⟨callB_of 3 hts (wsA_good wA_301) rfl rfl rfl (hts _ wA_30) (hts _ wA_299) (by decide +kernel) ⟨Nat.le_of_ble_eq_true rfl, Nat.le_of_ble_eq_true rfl⟩, hts _ wA_300⟩ (tr_preS hI hN hw) rfl rfl hl.1 rfl (lv_room (Nat.le_of_ble_eq_true rfl)) d_T_isTime_5 ⟨Nat.zero_le _, Nat.zero_le _⟩) (fun r5 u5 H locs hw hI => ?_)
  obtain ⟨hn, hw⟩ := hw
  exact tr_zret hx hb hr hlocks hI hn hw d_T_isTime_8
def w_Ar_begin_3 (post : tS → Prop) : Nat → Int32 → Int32 → Int32 → tS → Prop
  | 0 => fun _ _ _ _ => False
  | n + 1 => fun x2 x3 x4 u => ((12 ≤ x4 → (post u)) ∧ (¬ 12 ≤ x4 → (vp_in x4 12 ∧ (w_Wa_anyNumber (fun r35 u35 => (vp_in x4 12 ∧ (w_Ar_begin_3 post n x2 x3 (x4 + 1) (tA u35 14 x4 (if (x3 + r35) < 1000000 then (x3 + r35) else 1000000))))) x2 x4 (tA u 13 x4 1000000)))))
def w_Ar_begin (post : tS → Prop) (x2 : Int32) (x3 : Int32) (u : tS) : Prop := (∃ k, w_Ar_begin_3 post k x2 x3 0 u)
set_option maxRecDepth 100000 in
set_option maxHeartbeats 4000000 in
theorem k_Ar_begin_3 {p : Program} {l : Launch} {e : Env} {s : State} {m : MethodId} {args : Array Value} {below : List Frame} {meth : Method} {c : Code} {dC : Nat → ClassId} {dI : Nat → Nat → Nat} {cA : ClassId} {a : Nat → Nat} {A : Nat → Prop} (hC : tC p s m meth c args b_Ar_begin 5 none wsA R_Ar A) (post : tS → Prop) : ∀ n : Nat, ∀ (x2 x3 x4 : Int32) (u : tS) (H : Heap) (locs : List Loc) (ls : Array Slot), w_Ar_begin_3 post n x2 x3 x4 u → tX (dC, dI) twCl [(cA, .int)] A s H locs (wdX a cA u) → lv_has ls 5 [(0, .ref (a 5)), (1, .ref (a 1)), (2, .int x2), (3, .int x3), (4, .int x4)] → W p l e ({ frames := 2, cells := 0, slots := 0, locals := 44 }) s m args below meth c H locs 0 0 (MQ below (va_Qv post (tB (dC, dI) twCl [(cA, .int)] A (wdX a cA)) A) args s 0 0 A) (F0 m 3 ls []) := by
  obtain ⟨hx, hb, hr, hml, hown, hts, hlocks, hA, hN⟩ := id hC
  intro n
  induction n with
  | zero => intro x2 x3 x4 u H locs ls hw; exact False.elim hw
  | succ n ih =>
    intro x2 x3 x4 u H locs ls hw hI hl
    refine lv_iload hx hb d_Ar_begin_3 (lv_at hl 4 rfl) ?_
    refine lv_bipush (v := 12) hx hb d_Ar_begin_5 (by decide) ?_
    refine lv_icmp_ge (tgt := 49) hx hb d_Ar_begin_7 (by decide) (fun hc => ?_) (fun hc => ?_)
    · have hw := hw.1 hc
      exact tr_vret hx hb hr hlocks hI hw d_Ar_begin_49
    · have hw := hw.2 hc
      refine lv_aload_n hx hb d_Ar_begin_10 rfl (lv_at hl 0 rfl) ?_
      refine va_get (D := (dC, dI)) (C := R_Ar) (T := F_Ar) (N := 2) hx hb hts in_Ar hown hI.1 hI.2.1 5 (wdX_o5 a cA _) rfl 0 (by decide) (hts _ wA_197) (fun _ h9 => h9) rfl d_Ar_begin_11 ?_
      refine lv_iload hx hb d_Ar_begin_14 (lv_at hl 4 rfl) ?_
      refine lv_ldc (v := 1000000) hx hb hown (hts _ wA_401) d_Ar_begin_16 ?_
      obtain ⟨hi, hw⟩ := hw
      refine tr_iast (w := wdX a cA) hx hb hI 23 0 13 (wdX_o23 a cA _) rfl (wdX_a13 a cA _ _ _) hi d_Ar_begin_18 (fun H locs hI => ?_)
      refine lv_aload_n hx hb d_Ar_begin_19 rfl (lv_at hl 0 rfl) ?_
      refine va_get (D := (dC, dI)) (C := R_Ar) (T := F_Ar) (N := 2) hx hb hts in_Ar hown hI.1 hI.2.1 5 (wdX_o5 a cA _) rfl 1 (by decide) (hts _ wA_198) (fun _ h9 => h9) rfl d_Ar_begin_20 ?_
      refine lv_iload hx hb d_Ar_begin_23 (lv_at hl 4 rfl) ?_
      refine lv_ldc (v := 1000000) hx hb hown (hts _ wA_401) d_Ar_begin_25 ?_
      refine lv_iload_n hx hb d_Ar_begin_27 rfl (lv_at hl 3 rfl) ?_
      refine lv_aload_n hx hb d_Ar_begin_28 rfl (lv_at hl 1 rfl) ?_
      refine va_get (D := (dC, dI)) (C := R_Ne) (T := F_Ne) (N := 5) hx hb hts in_Ne hown hI.1 hI.2.1 1 (wdX_o1 a cA _) rfl 4 (by decide) (hts _ wA_178) (fun _ h9 => h9) rfl d_Ar_begin_29 ?_
      refine lv_iload_n hx hb d_Ar_begin_32 rfl (lv_at hl 2 rfl) ?_
      refine lv_iload hx hb d_Ar_begin_33 (lv_at hl 4 rfl) ?_
      refine tr_goi (w := wdX a cA) hI hA (va_runV (As := [.int x2, .int x4]) (rest := [.int x3, .int 1000000, .int x4, .ref (a 24)]) ⟨hx, hb, hml, hown, hts⟩ (c_Wa_anyNumber l dC dI cA a _ _ _ _ _) (cwV 2 hts (wsA_goodV wA_402 wA_361 wA_362 wA_34 wA_363) rfl rfl rfl (by decide +kernel) ⟨Nat.le_of_ble_eq_true rfl, Nat.le_of_ble_eq_true rfl⟩) (tr_preV (ci := 4) (q0 := 4) hI rfl (wdX_o4 a cA _) rfl hN hw) rfl rfl hl.1 rfl (lv_room (Nat.le_of_ble_eq_true rfl)) d_Ar_begin_35 ⟨Nat.zero_le _, Nat.zero_le _⟩) (fun r35 u35 H locs hw hI => ?_)
      refine lv_iadd hx hb d_Ar_begin_38 ?_
      refine va_mmin hx hb (by rw [hml]; exact hl.1.symm) hown (hts _ wA_403) (hts _ wA_369) (hts _ wA_41) (hts _ wA_370) (Nat.le_of_ble_eq_true rfl) (Nat.le_of_ble_eq_true rfl) (Nat.zero_le _) (Nat.zero_le _) d_Ar_begin_39 ?_
      obtain ⟨hi, hw⟩ := hw
      refine tr_iast (w := wdX a cA) hx hb hI 24 0 14 (wdX_o24 a cA _) rfl (wdX_a14 a cA _ _ _) hi d_Ar_begin_42 (fun H locs hI => ?_)
      refine lv_iinc (v := (x4 + 1)) (lv' := [(4, .int (x4 + 1)), (0, .ref (a 5)), (1, .ref (a 1)), (2, .int x2), (3, .int x3)]) hx hb d_Ar_begin_43 hl (k := 4) rfl rfl (by decide) rfl (fun ls hl => ?_)
      refine lv_goto (tgt := 3) hx hb d_Ar_begin_46 (by decide) ?_
      exact ih _ _ _ _ _ _ ls hw hI (lv_sub hl [1, 2, 3, 4, 0] rfl)
set_option maxRecDepth 100000 in
set_option maxHeartbeats 4000000 in
theorem c_Ar_begin (l : Launch) (dC : Nat → ClassId) (dI : Nat → Nat → Nat) (cA : ClassId) (a : Nat → Nat) (u : tS) (x2 : Int32) (x3 : Int32) (post : tS → Prop) (sz : Nat) : Met l y_Ar_begin ws_Ar_begin ({ frames := 2, cells := 0, slots := 0, locals := 44 }) (va_Pc [.ref (a 5), .ref (a 1), .int x2, .int x3] (tP (dC, dI) twCl [(cA, .int)] (wdX a cA) u sz (w_Ar_begin post x2 x3 u))) (va_Qv post (tB (dC, dI) twCl [(cA, .int)] (va_A (wdX a cA u) sz) (wdX a cA)) (va_A (wdX a cA u) sz)) 0 0 (va_A (wdX a cA u) sz) := by
  refine Met.ofW (cc := b_Ar_begin) (maxL := 5) (ret := none) (by decide) rfl ?_
  intro p e s m args below meth c s₁ B hml hv
  obtain ⟨rfl, hsz, hP, hK, hD0, hN, hw⟩ := hv
  have hx := B.exec
  have hb := B.bytes
  have hr := B.returns
  have hts : ∀ w ∈ wsA, w.before _ s = true := fun w h => atoms_spec (ws := ws_Ar_begin) B.pre w (List.mem_cons_of_mem _ h)
  have hown : s.vm.findClass R_Ar = some m.cls := findClass_of_methodNamed B.named
  have hlocks := B.notSynchronized
  subst hsz
  have hD := hD0.self (sz := s.heap.size)
  generalize hAe : va_A (wdX a cA u) s.heap.size = A at hD ⊢
  have hA : ∀ q : Nat, s.heap.size ≤ q → A q := fun q h => by rw [← hAe]; exact Or.inr h
  have hS : va_S A s.heap s.heap [] := va_S.rf
  have hI : tX (dC, dI) twCl [(cA, .int)] A s s.heap [] (wdX a cA u) := ⟨hK, hP, hD, hS⟩
  have hC : tC p s m meth c ([.ref (a 5), .ref (a 1), .int x2, .int x3] : List Value).toArray b_Ar_begin 5 none wsA R_Ar A := ⟨hx, hb, hr, hml, hown, hts, hlocks, hA, hN⟩
  have hl := lv_entry ([.ref (a 5), .ref (a 1), .int x2, .int x3]) (n := 5) (Nat.le_of_ble_eq_true rfl)
  rw [lg_entry_eq]
  generalize (lg_sl ([.ref (a 5), .ref (a 1), .int x2, .int x3]) ++ List.replicate (5 - (lg_sl ([.ref (a 5), .ref (a 1), .int x2, .int x3])).length) Slot.unset).toArray = ls at hl ⊢
  have hl : lv_has ls 5 [(0, .ref (a 5)), (1, .ref (a 1)), (2, .int x2), (3, .int x3)] := hl
  have hw : (∃ k, w_Ar_begin_3 post k x2 x3 0 u) := hw
  refine lv_iconst (v := 0) hx hb d_Ar_begin_0 (by decide) ?_
  refine lv_istore (lv' := [(4, .int 0), (0, .ref (a 5)), (1, .ref (a 1)), (2, .int x2), (3, .int x3)]) hx hb d_Ar_begin_1 hl (by decide) rfl (fun ls hl => ?_)
  obtain ⟨k, hw⟩ := hw
  exact k_Ar_begin_3 hC post k _ _ _ _ _ _ ls hw hI (lv_sub hl [1, 2, 3, 4, 0] rfl)
