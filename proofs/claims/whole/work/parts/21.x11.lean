def w_Bo_firstFrom_3 (post : Int32 → tS → Prop) : Nat → Int32 → Int32 → Int32 → tS → Prop
  | 0 => fun _ _ _ _ => False
  | n + 1 => fun x2 x3 x4 u => (((u.1 2) ≤ x4 → (post (-1) u)) ∧ (¬ (u.1 2) ≤ x4 → (vp_in x4 280 ∧ (((u.2 8 x4.toNatClampNeg) < x3 → (w_Bo_firstFrom_3 post n x2 x3 (x4 + 1) u)) ∧ (¬ (u.2 8 x4.toNatClampNeg) < x3 → (w_Bo_rideAt (fun r30 u30 => (vp_in r30 40 ∧ (((u30.2 1 r30.toNatClampNeg) = x2 → (vp_in x4 280 ∧ (post (u30.2 7 x4.toNatClampNeg) u30))) ∧ (¬ (u30.2 1 r30.toNatClampNeg) = x2 → (w_Bo_firstFrom_3 post n x2 x3 (x4 + 1) u30))))) x4 u))))))
def w_Bo_firstFrom (post : Int32 → tS → Prop) (x2 : Int32) (x3 : Int32) (u : tS) : Prop := (∃ k, w_Bo_firstFrom_3 post k x2 x3 0 u)
set_option maxRecDepth 100000 in
set_option maxHeartbeats 4000000 in
theorem k_Bo_firstFrom_3 {p : Program} {l : Launch} {e : Env} {s : State} {m : MethodId} {args : Array Value} {below : List Frame} {meth : Method} {c : Code} {dC : Nat → ClassId} {dI : Nat → Nat → Nat} {cA : ClassId} {a : Nat → Nat} {A : Nat → Prop} (hC : tC p s m meth c args b_Bo_firstFrom 5 (some .int) wsA R_Bo A) (post : Int32 → tS → Prop) : ∀ n : Nat, ∀ (x2 x3 x4 : Int32) (u : tS) (H : Heap) (locs : List Loc) (ls : Array Slot), w_Bo_firstFrom_3 post n x2 x3 x4 u → tX (dC, dI) twCl [(cA, .int)] A s H locs (wdX a cA u) → lv_has ls 5 [(0, .ref (a 3)), (1, .ref (a 2)), (2, .int x2), (3, .int x3), (4, .int x4)] → W p l e ({ frames := 1, cells := 0, slots := 0, locals := 21 }) s m args below meth c H locs 0 0 (MQ below (va_Qi post (tB (dC, dI) twCl [(cA, .int)] A (wdX a cA)) A) args s 0 0 A) (F0 m 3 ls []) := by
  obtain ⟨hx, hb, hr, hml, hown, hts, hlocks, hA, hN⟩ := id hC
  intro n
  induction n with
  | zero => intro x2 x3 x4 u H locs ls hw; exact False.elim hw
  | succ n ih =>
    intro x2 x3 x4 u H locs ls hw hI hl
    refine lv_iload hx hb d_Bo_firstFrom_3 (lv_at hl 4 rfl) ?_
    refine lv_aload_n hx hb d_Bo_firstFrom_5 rfl (lv_at hl 0 rfl) ?_
    refine va_get (D := (dC, dI)) (C := R_Bo) (T := F_Bo) (N := 3) hx hb hts in_Bo hown hI.1 hI.2.1 3 (wdX_o3 a cA _) rfl 0 (by decide) (hts _ wA_111) (fun _ h9 => h9) rfl d_Bo_firstFrom_6 ?_
    refine lv_icmp_ge (tgt := 52) hx hb d_Bo_firstFrom_9 (by decide) (fun hc => ?_) (fun hc => ?_)
    · have hw := hw.1 hc
      refine lv_iconst (v := (-1)) hx hb d_Bo_firstFrom_52 (by decide) ?_
      exact tr_iret hx hb hr hlocks hI hw d_Bo_firstFrom_53
    · have hw := hw.2 hc
      refine lv_aload_n hx hb d_Bo_firstFrom_12 rfl (lv_at hl 0 rfl) ?_
      refine va_get (D := (dC, dI)) (C := R_Bo) (T := F_Bo) (N := 3) hx hb hts in_Bo hown hI.1 hI.2.1 3 (wdX_o3 a cA _) rfl 2 (by decide) (hts _ wA_117) (fun _ h9 => h9) rfl d_Bo_firstFrom_13 ?_
      refine lv_iload hx hb d_Bo_firstFrom_16 (lv_at hl 4 rfl) ?_
      obtain ⟨hi, hw⟩ := hw
      refine va_iald (D := (dC, dI)) hx hb hI.1 hI.2.1 18 0 (wdX_o18 a cA _) rfl hi d_Bo_firstFrom_18 ?_
      refine lv_iload_n hx hb d_Bo_firstFrom_19 rfl (lv_at hl 3 rfl) ?_
      refine lv_icmp_lt (tgt := 46) hx hb d_Bo_firstFrom_20 (by decide) (fun hc => ?_) (fun hc => ?_)
      · have hw := hw.1 hc
        refine lv_iinc (v := (x4 + 1)) (lv' := [(4, .int (x4 + 1)), (0, .ref (a 3)), (1, .ref (a 2)), (2, .int x2), (3, .int x3)]) hx hb d_Bo_firstFrom_46 hl (k := 4) rfl rfl (by decide) rfl (fun ls hl => ?_)
        refine lv_goto (tgt := 3) hx hb d_Bo_firstFrom_49 (by decide) ?_
        exact ih _ _ _ _ _ _ ls hw hI (lv_sub hl [1, 2, 3, 4, 0] rfl)
      · have hw := hw.2 hc
        refine lv_aload_n hx hb d_Bo_firstFrom_23 rfl (lv_at hl 1 rfl) ?_
        refine va_get (D := (dC, dI)) (C := R_Ri) (T := F_Ri) (N := 7) hx hb hts in_Ri hown hI.1 hI.2.1 2 (wdX_o2 a cA _) rfl 1 (by decide) (hts _ wA_70) (fun _ h9 => h9) rfl d_Bo_firstFrom_24 ?_
        refine lv_aload_n hx hb d_Bo_firstFrom_27 rfl (lv_at hl 0 rfl) ?_
        refine lv_iload hx hb d_Bo_firstFrom_28 (lv_at hl 4 rfl) ?_
        refine tr_goi (w := wdX a cA) hI hA (va_runV (As := [.int x4]) (rest := [.ref (a 11)]) ⟨hx, hb, hml, hown, hts⟩ (c_Bo_rideAt l dC dI cA a _ _ _ _) (cwV 1 hts (wsA_goodV wA_565 wA_409 wA_410 wA_33 wA_411) rfl rfl rfl (by decide +kernel) ⟨Nat.le_of_ble_eq_true rfl, Nat.le_of_ble_eq_true rfl⟩) (tr_preV (ci := 3) (q0 := 3) hI rfl (wdX_o3 a cA _) rfl hN hw) rfl rfl hl.1 rfl (lv_room (Nat.le_of_ble_eq_true rfl)) d_Bo_firstFrom_30 ⟨Nat.zero_le _, Nat.zero_le _⟩) (fun r30 u30 H locs hw hI => ?_)
        obtain ⟨hi, hw⟩ := hw
        refine va_iald (D := (dC, dI)) hx hb hI.1 hI.2.1 11 0 (wdX_o11 a cA _) rfl hi d_Bo_firstFrom_33 ?_
        refine lv_iload_n hx hb d_Bo_firstFrom_34 rfl (lv_at hl 2 rfl) ?_
        refine lv_icmp_ne (tgt := 46) hx hb d_Bo_firstFrom_35 (by decide) (fun hc => ?_) (fun hc => ?_)
        · have hw := hw.2 hc
          refine lv_iinc (v := (x4 + 1)) (lv' := [(4, .int (x4 + 1)), (0, .ref (a 3)), (1, .ref (a 2)), (2, .int x2), (3, .int x3)]) hx hb d_Bo_firstFrom_46 hl (k := 4) rfl rfl (by decide) rfl (fun ls hl => ?_)
          refine lv_goto (tgt := 3) hx hb d_Bo_firstFrom_49 (by decide) ?_
          exact ih _ _ _ _ _ _ ls hw hI (lv_sub hl [1, 2, 3, 4, 0] rfl)
        · have hw := hw.1 hc
          refine lv_aload_n hx hb d_Bo_firstFrom_38 rfl (lv_at hl 0 rfl) ?_
          refine va_get (D := (dC, dI)) (C := R_Bo) (T := F_Bo) (N := 3) hx hb hts in_Bo hown hI.1 hI.2.1 3 (wdX_o3 a cA _) rfl 1 (by decide) (hts _ wA_116) (fun _ h9 => h9) rfl d_Bo_firstFrom_39 ?_
          refine lv_iload hx hb d_Bo_firstFrom_42 (lv_at hl 4 rfl) ?_
          obtain ⟨hi, hw⟩ := hw
          refine va_iald (D := (dC, dI)) hx hb hI.1 hI.2.1 17 0 (wdX_o17 a cA _) rfl hi d_Bo_firstFrom_44 ?_
          exact tr_iret hx hb hr hlocks hI hw d_Bo_firstFrom_45
set_option maxRecDepth 100000 in
set_option maxHeartbeats 4000000 in
theorem c_Bo_firstFrom (l : Launch) (dC : Nat → ClassId) (dI : Nat → Nat → Nat) (cA : ClassId) (a : Nat → Nat) (u : tS) (x2 : Int32) (x3 : Int32) (post : Int32 → tS → Prop) (sz : Nat) : Met l y_Bo_firstFrom ws_Bo_firstFrom ({ frames := 1, cells := 0, slots := 0, locals := 21 }) (va_Pc [.ref (a 3), .ref (a 2), .int x2, .int x3] (tP (dC, dI) twCl [(cA, .int)] (wdX a cA) u sz (w_Bo_firstFrom post x2 x3 u))) (va_Qi post (tB (dC, dI) twCl [(cA, .int)] (va_A (wdX a cA u) sz) (wdX a cA)) (va_A (wdX a cA u) sz)) 0 0 (va_A (wdX a cA u) sz) := by
  refine Met.ofW (cc := b_Bo_firstFrom) (maxL := 5) (ret := (some .int)) (by decide) rfl ?_
  intro p e s m args below meth c s₁ B hml hv
  obtain ⟨rfl, hsz, hP, hK, hD0, hN, hw⟩ := hv
  have hx := B.exec
  have hb := B.bytes
  have hr := B.returns
  have hts : ∀ w ∈ wsA, w.before _ s = true := fun w h => atoms_spec (ws := ws_Bo_firstFrom) B.pre w (List.mem_cons_of_mem _ h)
  have hown : s.vm.findClass R_Bo = some m.cls := findClass_of_methodNamed B.named
  have hlocks := B.notSynchronized
  subst hsz
  have hD := hD0.self (sz := s.heap.size)
  generalize hAe : va_A (wdX a cA u) s.heap.size = A at hD ⊢
  have hA : ∀ q : Nat, s.heap.size ≤ q → A q := fun q h => by rw [← hAe]; exact Or.inr h
  have hS : va_S A s.heap s.heap [] := va_S.rf
  have hI : tX (dC, dI) twCl [(cA, .int)] A s s.heap [] (wdX a cA u) := ⟨hK, hP, hD, hS⟩
  have hC : tC p s m meth c ([.ref (a 3), .ref (a 2), .int x2, .int x3] : List Value).toArray b_Bo_firstFrom 5 (some .int) wsA R_Bo A := ⟨hx, hb, hr, hml, hown, hts, hlocks, hA, hN⟩
  have hl := lv_entry ([.ref (a 3), .ref (a 2), .int x2, .int x3]) (n := 5) (Nat.le_of_ble_eq_true rfl)
  rw [lg_entry_eq]
  generalize (lg_sl ([.ref (a 3), .ref (a 2), .int x2, .int x3]) ++ List.replicate (5 - (lg_sl ([.ref (a 3), .ref (a 2), .int x2, .int x3])).length) Slot.unset).toArray = ls at hl ⊢
  have hl : lv_has ls 5 [(0, .ref (a 3)), (1, .ref (a 2)), (2, .int x2), (3, .int x3)] := hl
  have hw : (∃ k, w_Bo_firstFrom_3 post k x2 x3 0 u) := hw
  refine lv_iconst (v := 0) hx hb d_Bo_firstFrom_0 (by decide) ?_
  refine lv_istore (lv' := [(4, .int 0), (0, .ref (a 3)), (1, .ref (a 2)), (2, .int x2), (3, .int x3)]) hx hb d_Bo_firstFrom_1 hl (by decide) rfl (fun ls hl => ?_)
  obtain ⟨k, hw⟩ := hw
  exact k_Bo_firstFrom_3 hC post k _ _ _ _ _ _ ls hw hI (lv_sub hl [1, 2, 3, 4, 0] rfl)
def w_T_next (post : Int32 → tS → Prop) (x1 : Int32) (x2 : Int32) (u : tS) : Prop := (w_Ne_hasStop (fun r5 u5 => ((r5 = 0 → (post (-2) u5)) ∧ (¬ r5 = 0 → (w_T_isTime (fun r12 u12 => ((r12 = 0 → (post (-2) u12)) ∧ (¬ r12 = 0 → (w_Bo_firstFrom (fun r37 u37 => (post r37 u37)) x1 x2 u12)))) x2 u5)))) x1 u)
set_option maxRecDepth 100000 in
set_option maxHeartbeats 4000000 in
theorem c_T_next (l : Launch) (dC : Nat → ClassId) (dI : Nat → Nat → Nat) (cA : ClassId) (a : Nat → Nat) (u : tS) (x1 : Int32) (x2 : Int32) (post : Int32 → tS → Prop) (sz : Nat) : Met l y_T_next ws_T_next ({ frames := 2, cells := 0, slots := 0, locals := 45 }) (va_Pc [.ref (a 0), .int x1, .int x2] (tP (dC, dI) twCl [(cA, .int)] (wdX a cA) u sz (w_T_next post x1 x2 u))) (va_Qi post (tB (dC, dI) twCl [(cA, .int)] (va_A (wdX a cA u) sz) (wdX a cA)) (va_A (wdX a cA u) sz)) 0 0 (va_A (wdX a cA u) sz) := by
  refine Met.ofW (cc := b_T_next) (maxL := 3) (ret := (some .int)) (by decide) rfl ?_
  intro p e s m args below meth c s₁ B hml hv
  obtain ⟨rfl, hsz, hP, hK, hD0, hN, hw⟩ := hv
  have hx := B.exec
  have hb := B.bytes
  have hr := B.returns
  have hts : ∀ w ∈ wsA, w.before _ s = true := fun w h => atoms_spec (ws := ws_T_next) B.pre w (List.mem_cons_of_mem _ h)
  have hown : s.vm.findClass R_T = some m.cls := findClass_of_methodNamed B.named
  have hlocks := B.notSynchronized
  subst hsz
  have hD := hD0.self (sz := s.heap.size)
  generalize hAe : va_A (wdX a cA u) s.heap.size = A at hD ⊢
  have hA : ∀ q : Nat, s.heap.size ≤ q → A q := fun q h => by rw [← hAe]; exact Or.inr h
  have hS : va_S A s.heap s.heap [] := va_S.rf
  have hI : tX (dC, dI) twCl [(cA, .int)] A s s.heap [] (wdX a cA u) := ⟨hK, hP, hD, hS⟩
  have hC : tC p s m meth c ([.ref (a 0), .int x1, .int x2] : List Value).toArray b_T_next 3 (some .int) wsA R_T A := ⟨hx, hb, hr, hml, hown, hts, hlocks, hA, hN⟩
  have hl := lv_entry ([.ref (a 0), .int x1, .int x2]) (n := 3) (Nat.le_of_ble_eq_true rfl)
  rw [lg_entry_eq]
  generalize (lg_sl ([.ref (a 0), .int x1, .int x2]) ++ List.replicate (3 - (lg_sl ([.ref (a 0), .int x1, .int x2])).length) Slot.unset).toArray = ls at hl ⊢
  have hl : lv_has ls 3 [(0, .ref (a 0)), (1, .int x1), (2, .int x2)] := hl
  have hw : (w_Ne_hasStop (fun r5 u5 => ((r5 = 0 → (post (-2) u5)) ∧ (¬ r5 = 0 → (w_T_isTime (fun r12 u12 => ((r12 = 0 → (post (-2) u12)) ∧ (¬ r12 = 0 → (w_Bo_firstFrom (fun r37 u37 => (post r37 u37)) x1 x2 u12)))) x2 u5)))) x1 u) := hw
  refine lv_aload_n hx hb d_T_next_0 rfl (lv_at hl 0 rfl) ?_
  refine va_get (D := (dC, dI)) (C := R_T) (T := F_T) (N := 6) hx hb hts in_T hown hI.1 hI.2.1 0 (wdX_o0 a cA _) rfl 0 (by decide) (hts _ wA_264) (fun _ h9 => h9) rfl d_T_next_1 ?_
  refine lv_iload_n hx hb d_T_next_4 rfl (lv_at hl 1 rfl) ?_
  refine tr_goi (w := wdX a cA) hI hA (va_runV (As := [.int x1]) (rest := []) ⟨hx, hb, hml, hown, hts⟩ (c_Ne_hasStop l dC dI cA a _ _ _ _) (cwV 1 hts (wsA_goodV wA_306 wA_307 wA_308 wA_31 wA_309) rfl rfl rfl (by decide +kernel) ⟨Nat.le_of_ble_eq_true rfl, Nat.le_of_ble_eq_true rfl⟩) (tr_preV (ci := 1) (q0 := 1) hI rfl (wdX_o1 a cA _) rfl hN hw) rfl rfl hl.1 rfl (lv_room (Nat.le_of_ble_eq_true rfl)) d_T_next_5 ⟨Nat.zero_le _, Nat.zero_le _⟩) (fun r5 u5 H locs hw hI => ?_)
  refine lv_if_eq (tgt := 18) hx hb d_T_next_8 (by decide) (fun hc => ?_) (fun hc => ?_)
  · have hw := hw.1 hc
    refine lv_bipush (v := (-2)) hx hb d_T_next_18 (by decide) ?_
    exact tr_iret hx hb hr hlocks hI hw d_T_next_20
  · have hw := hw.2 hc
    refine lv_iload_n hx hb d_T_next_11 rfl (lv_at hl 2 rfl) ?_
    refine tr_goi (w := wdX a cA) hI hA (va_runS (As := [.int x2]) (rest := []) ⟨hx, hb, hml, hown, hts⟩ (c_T_isTime l dC dI cA a _ _ _ _) ⟨callB_of 1 hts (wsA_good wA_392) rfl rfl rfl (hts _ wA_30) (hts _ wA_390) (by decide +kernel) ⟨Nat.le_of_ble_eq_true rfl, Nat.le_of_ble_eq_true rfl⟩, hts _ wA_391⟩ (tr_preS hI hN hw) rfl rfl hl.1 rfl (lv_room (Nat.le_of_ble_eq_true rfl)) d_T_next_12 ⟨Nat.zero_le _, Nat.zero_le _⟩) (fun r12 u12 H locs hw hI => ?_)
    refine lv_if_ne (tgt := 21) hx hb d_T_next_15 (by decide) (fun hc => ?_) (fun hc => ?_)
    · have hw := hw.2 hc
      refine lv_aload_n hx hb d_T_next_21 rfl (lv_at hl 0 rfl) ?_
      refine va_get (D := (dC, dI)) (C := R_T) (T := F_T) (N := 6) hx hb hts in_T hown hI.1 hI.2.1 0 (wdX_o0 a cA _) rfl 0 (by decide) (hts _ wA_264) (fun _ h9 => h9) rfl d_T_next_22 ?_
      refine va_get (D := (dC, dI)) (C := R_Ne) (T := F_Ne) (N := 5) hx hb hts in_Ne hown hI.1 hI.2.1 1 (wdX_o1 a cA _) rfl 3 (by decide) (hts _ wA_173) (fun _ h9 => h9) rfl d_T_next_25 ?_
      refine lv_aload_n hx hb d_T_next_28 rfl (lv_at hl 0 rfl) ?_
      refine va_get (D := (dC, dI)) (C := R_T) (T := F_T) (N := 6) hx hb hts in_T hown hI.1 hI.2.1 0 (wdX_o0 a cA _) rfl 0 (by decide) (hts _ wA_264) (fun _ h9 => h9) rfl d_T_next_29 ?_
      refine va_get (D := (dC, dI)) (C := R_Ne) (T := F_Ne) (N := 5) hx hb hts in_Ne hown hI.1 hI.2.1 1 (wdX_o1 a cA _) rfl 2 (by decide) (hts _ wA_167) (fun _ h9 => h9) rfl d_T_next_32 ?_
      refine lv_iload_n hx hb d_T_next_35 rfl (lv_at hl 1 rfl) ?_
      refine lv_iload_n hx hb d_T_next_36 rfl (lv_at hl 2 rfl) ?_
      refine tr_goi (w := wdX a cA) hI hA (va_runV (As := [.ref (a 2), .int x1, .int x2]) (rest := []) ⟨hx, hb, hml, hown, hts⟩ (c_Bo_firstFrom l dC dI cA a _ _ _ _ _) (cwV 3 hts (wsA_goodV wA_561 wA_562 wA_563 wA_33 wA_564) rfl rfl rfl (by decide +kernel) ⟨Nat.le_of_ble_eq_true rfl, Nat.le_of_ble_eq_true rfl⟩) (tr_preV (ci := 3) (q0 := 3) hI rfl (wdX_o3 a cA _) rfl hN hw) rfl rfl hl.1 rfl (lv_room (Nat.le_of_ble_eq_true rfl)) d_T_next_37 ⟨Nat.zero_le _, Nat.zero_le _⟩) (fun r37 u37 H locs hw hI => ?_)
      exact tr_iret hx hb hr hlocks hI hw d_T_next_40
    · have hw := hw.1 hc
      refine lv_bipush (v := (-2)) hx hb d_T_next_18 (by decide) ?_
      exact tr_iret hx hb hr hlocks hI hw d_T_next_20
def w_Ri_goingDays_4 (post : Int32 → tS → Prop) : Nat → Int32 → Int32 → Int32 → tS → Prop
  | 0 => fun _ _ _ _ => False
  | n + 1 => fun x1 x2 x3 u => ((7 ≤ x3 → (post x2 u)) ∧ (¬ 7 ≤ x3 → (w_Ri_goes (fun r17 u17 => ((r17 = 0 → (w_Ri_goingDays_4 post n x1 x2 (x3 + 1) u17)) ∧ (¬ r17 = 0 → (w_Ri_goingDays_4 post n x1 (x2 ||| (1 <<< (x3 &&& 31))) (x3 + 1) u17)))) ((x1 * 7) + x3) u)))
def w_Ri_goingDays (post : Int32 → tS → Prop) (x1 : Int32) (u : tS) : Prop := (∃ k, w_Ri_goingDays_4 post k x1 0 0 u)
set_option maxRecDepth 100000 in
set_option maxHeartbeats 4000000 in
theorem k_Ri_goingDays_4 {p : Program} {l : Launch} {e : Env} {s : State} {m : MethodId} {args : Array Value} {below : List Frame} {meth : Method} {c : Code} {dC : Nat → ClassId} {dI : Nat → Nat → Nat} {cA : ClassId} {a : Nat → Nat} {A : Nat → Prop} (hC : tC p s m meth c args b_Ri_goingDays 4 (some .int) wsA R_Ri A) (post : Int32 → tS → Prop) : ∀ n : Nat, ∀ (x1 x2 x3 : Int32) (u : tS) (H : Heap) (locs : List Loc) (ls : Array Slot), w_Ri_goingDays_4 post n x1 x2 x3 u → tX (dC, dI) twCl [(cA, .int)] A s H locs (wdX a cA u) → lv_has ls 4 [(0, .ref (a 2)), (1, .int x1), (2, .int x2), (3, .int x3)] → W p l e ({ frames := 1, cells := 0, slots := 0, locals := 21 }) s m args below meth c H locs 0 0 (MQ below (va_Qi post (tB (dC, dI) twCl [(cA, .int)] A (wdX a cA)) A) args s 0 0 A) (F0 m 4 ls []) := by
  obtain ⟨hx, hb, hr, hml, hown, hts, hlocks, hA, hN⟩ := id hC
  intro n
  induction n with
  | zero => intro x1 x2 x3 u H locs ls hw; exact False.elim hw
  | succ n ih =>
    intro x1 x2 x3 u H locs ls hw hI hl
    refine lv_iload_n hx hb d_Ri_goingDays_4 rfl (lv_at hl 3 rfl) ?_
    refine lv_bipush (v := 7) hx hb d_Ri_goingDays_5 (by decide) ?_
    refine lv_icmp_ge (tgt := 35) hx hb d_Ri_goingDays_7 (by decide) (fun hc => ?_) (fun hc => ?_)
    · have hw := hw.1 hc
      refine lv_iload_n hx hb d_Ri_goingDays_35 rfl (lv_at hl 2 rfl) ?_
      exact tr_iret hx hb hr hlocks hI hw d_Ri_goingDays_36
    · have hw := hw.2 hc
      refine lv_aload_n hx hb d_Ri_goingDays_10 rfl (lv_at hl 0 rfl) ?_
      refine lv_iload_n hx hb d_Ri_goingDays_11 rfl (lv_at hl 1 rfl) ?_
      refine lv_bipush (v := 7) hx hb d_Ri_goingDays_12 (by decide) ?_
      refine lv_imul hx hb d_Ri_goingDays_14 ?_
      refine lv_iload_n hx hb d_Ri_goingDays_15 rfl (lv_at hl 3 rfl) ?_
      refine lv_iadd hx hb d_Ri_goingDays_16 ?_
      refine tr_goi (w := wdX a cA) hI hA (va_runV (As := [.int ((x1 * 7) + x3)]) (rest := []) ⟨hx, hb, hml, hown, hts⟩ (c_Ri_goes l dC dI cA a _ _ _ _) (cwV 1 hts (wsA_goodV wA_574 wA_337 wA_338 wA_32 wA_339) rfl rfl rfl (by decide +kernel) ⟨Nat.le_of_ble_eq_true rfl, Nat.le_of_ble_eq_true rfl⟩) (tr_preV (ci := 2) (q0 := 2) hI rfl (wdX_o2 a cA _) rfl hN hw) rfl rfl hl.1 rfl (lv_room (Nat.le_of_ble_eq_true rfl)) d_Ri_goingDays_17 ⟨Nat.zero_le _, Nat.zero_le _⟩) (fun r17 u17 H locs hw hI => ?_)
      refine lv_if_eq (tgt := 29) hx hb d_Ri_goingDays_20 (by decide) (fun hc => ?_) (fun hc => ?_)
      · have hw := hw.1 hc
        refine lv_iinc (v := (x3 + 1)) (lv' := [(3, .int (x3 + 1)), (0, .ref (a 2)), (1, .int x1), (2, .int x2)]) hx hb d_Ri_goingDays_29 hl (k := 3) rfl rfl (by decide) rfl (fun ls hl => ?_)
        refine lv_goto (tgt := 4) hx hb d_Ri_goingDays_32 (by decide) ?_
        exact ih _ _ _ _ _ _ ls hw hI (lv_sub hl [1, 2, 3, 0] rfl)
      · have hw := hw.2 hc
        refine lv_iload_n hx hb d_Ri_goingDays_23 rfl (lv_at hl 2 rfl) ?_
        refine lv_iconst (v := 1) hx hb d_Ri_goingDays_24 (by decide) ?_
        refine lv_iload_n hx hb d_Ri_goingDays_25 rfl (lv_at hl 3 rfl) ?_
        refine lv_ishl hx hb d_Ri_goingDays_26 ?_
        refine lv_ior hx hb d_Ri_goingDays_27 ?_
        refine lv_istore_n (lv' := [(2, .int (x2 ||| (1 <<< (x3 &&& 31)))), (0, .ref (a 2)), (1, .int x1), (3, .int x3)]) hx hb d_Ri_goingDays_28 rfl hl (by decide) rfl (fun ls hl => ?_)
        refine lv_iinc (v := (x3 + 1)) (lv' := [(3, .int (x3 + 1)), (2, .int (x2 ||| (1 <<< (x3 &&& 31)))), (0, .ref (a 2)), (1, .int x1)]) hx hb d_Ri_goingDays_29 hl (k := 3) rfl rfl (by decide) rfl (fun ls hl => ?_)
        refine lv_goto (tgt := 4) hx hb d_Ri_goingDays_32 (by decide) ?_
        exact ih _ _ _ _ _ _ ls hw hI (lv_sub hl [2, 3, 1, 0] rfl)
set_option maxRecDepth 100000 in
set_option maxHeartbeats 4000000 in
theorem c_Ri_goingDays (l : Launch) (dC : Nat → ClassId) (dI : Nat → Nat → Nat) (cA : ClassId) (a : Nat → Nat) (u : tS) (x1 : Int32) (post : Int32 → tS → Prop) (sz : Nat) : Met l y_Ri_goingDays ws_Ri_goingDays ({ frames := 1, cells := 0, slots := 0, locals := 21 }) (va_Pc [.ref (a 2), .int x1] (tP (dC, dI) twCl [(cA, .int)] (wdX a cA) u sz (w_Ri_goingDays post x1 u))) (va_Qi post (tB (dC, dI) twCl [(cA, .int)] (va_A (wdX a cA u) sz) (wdX a cA)) (va_A (wdX a cA u) sz)) 0 0 (va_A (wdX a cA u) sz) := by
  refine Met.ofW (cc := b_Ri_goingDays) (maxL := 4) (ret := (some .int)) (by decide) rfl ?_
  intro p e s m args below meth c s₁ B hml hv
  obtain ⟨rfl, hsz, hP, hK, hD0, hN, hw⟩ := hv
  have hx := B.exec
  have hb := B.bytes
  have hr := B.returns
  have hts : ∀ w ∈ wsA, w.before _ s = true := fun w h => atoms_spec (ws := ws_Ri_goingDays) B.pre w (List.mem_cons_of_mem _ h)
  have hown : s.vm.findClass R_Ri = some m.cls := findClass_of_methodNamed B.named
  have hlocks := B.notSynchronized
  subst hsz
  have hD := hD0.self (sz := s.heap.size)
  generalize hAe : va_A (wdX a cA u) s.heap.size = A at hD ⊢
  have hA : ∀ q : Nat, s.heap.size ≤ q → A q := fun q h => by rw [← hAe]; exact Or.inr h
  have hS : va_S A s.heap s.heap [] := va_S.rf
  have hI : tX (dC, dI) twCl [(cA, .int)] A s s.heap [] (wdX a cA u) := ⟨hK, hP, hD, hS⟩
  have hC : tC p s m meth c ([.ref (a 2), .int x1] : List Value).toArray b_Ri_goingDays 4 (some .int) wsA R_Ri A := ⟨hx, hb, hr, hml, hown, hts, hlocks, hA, hN⟩
  have hl := lv_entry ([.ref (a 2), .int x1]) (n := 4) (Nat.le_of_ble_eq_true rfl)
  rw [lg_entry_eq]
  generalize (lg_sl ([.ref (a 2), .int x1]) ++ List.replicate (4 - (lg_sl ([.ref (a 2), .int x1])).length) Slot.unset).toArray = ls at hl ⊢
  have hl : lv_has ls 4 [(0, .ref (a 2)), (1, .int x1)] := hl
  have hw : (∃ k, w_Ri_goingDays_4 post k x1 0 0 u) := hw
  refine lv_iconst (v := 0) hx hb d_Ri_goingDays_0 (by decide) ?_
  refine lv_istore_n (lv' := [(2, .int 0), (0, .ref (a 2)), (1, .int x1)]) hx hb d_Ri_goingDays_1 rfl hl (by decide) rfl (fun ls hl => ?_)
  refine lv_iconst (v := 0) hx hb d_Ri_goingDays_2 (by decide) ?_
  refine lv_istore_n (lv' := [(3, .int 0), (2, .int 0), (0, .ref (a 2)), (1, .int x1)]) hx hb d_Ri_goingDays_3 rfl hl (by decide) rfl (fun ls hl => ?_)
  obtain ⟨k, hw⟩ := hw
  exact k_Ri_goingDays_4 hC post k _ _ _ _ _ _ ls hw hI (lv_sub hl [2, 3, 1, 0] rfl)
def w_T_told (post : Int32 → tS → Prop) (x1 : Int32) (x2 : Int32) (u : tS) : Prop := (w_Ri_has (fun r8 u8 => ((r8 = 0 → (post (-2) u8)) ∧ (¬ r8 = 0 → ((x2 = 0 → (vp_in x1 40 ∧ (post (u8.2 1 x1.toNatClampNeg) u8))) ∧ (¬ x2 = 0 → ((x2 = 1 → (vp_in x1 40 ∧ (post (u8.2 2 x1.toNatClampNeg) u8))) ∧ (¬ x2 = 1 → ((x2 = 2 → (vp_in x1 40 ∧ (post (u8.2 3 x1.toNatClampNeg) u8))) ∧ (¬ x2 = 2 → ((x2 = 3 → (vp_in x1 40 ∧ (post (u8.2 4 x1.toNatClampNeg) u8))) ∧ (¬ x2 = 3 → ((x2 = 4 → (vp_in x1 40 ∧ (post (u8.2 5 x1.toNatClampNeg) u8))) ∧ (¬ x2 = 4 → ((x2 = 5 → (w_Ri_goingDays (fun r129 u129 => (post r129 u129)) x1 u8)) ∧ (¬ x2 = 5 → (post (-2) u8)))))))))))))))) x1 u)
set_option maxRecDepth 100000 in
set_option maxHeartbeats 4000000 in
theorem c_T_told (l : Launch) (dC : Nat → ClassId) (dI : Nat → Nat → Nat) (cA : ClassId) (a : Nat → Nat) (u : tS) (x1 : Int32) (x2 : Int32) (post : Int32 → tS → Prop) (sz : Nat) : Met l y_T_told ws_T_told ({ frames := 2, cells := 0, slots := 0, locals := 44 }) (va_Pc [.ref (a 0), .int x1, .int x2] (tP (dC, dI) twCl [(cA, .int)] (wdX a cA) u sz (w_T_told post x1 x2 u))) (va_Qi post (tB (dC, dI) twCl [(cA, .int)] (va_A (wdX a cA u) sz) (wdX a cA)) (va_A (wdX a cA u) sz)) 0 0 (va_A (wdX a cA u) sz) := by
  refine Met.ofW (cc := b_T_told) (maxL := 3) (ret := (some .int)) (by decide) rfl ?_
  intro p e s m args below meth c s₁ B hml hv
  obtain ⟨rfl, hsz, hP, hK, hD0, hN, hw⟩ := hv
  have hx := B.exec
  have hb := B.bytes
  have hr := B.returns
  have hts : ∀ w ∈ wsA, w.before _ s = true := fun w h => atoms_spec (ws := ws_T_told) B.pre w (List.mem_cons_of_mem _ h)
  have hown : s.vm.findClass R_T = some m.cls := findClass_of_methodNamed B.named
  have hlocks := B.notSynchronized
  subst hsz
  have hD := hD0.self (sz := s.heap.size)
  generalize hAe : va_A (wdX a cA u) s.heap.size = A at hD ⊢
  have hA : ∀ q : Nat, s.heap.size ≤ q → A q := fun q h => by rw [← hAe]; exact Or.inr h
  have hS : va_S A s.heap s.heap [] := va_S.rf
  have hI : tX (dC, dI) twCl [(cA, .int)] A s s.heap [] (wdX a cA u) := ⟨hK, hP, hD, hS⟩
  have hC : tC p s m meth c ([.ref (a 0), .int x1, .int x2] : List Value).toArray b_T_told 3 (some .int) wsA R_T A := ⟨hx, hb, hr, hml, hown, hts, hlocks, hA, hN⟩
  have hl := lv_entry ([.ref (a 0), .int x1, .int x2]) (n := 3) (Nat.le_of_ble_eq_true rfl)
  rw [lg_entry_eq]
  generalize (lg_sl ([.ref (a 0), .int x1, .int x2]) ++ List.replicate (3 - (lg_sl ([.ref (a 0), .int x1, .int x2])).length) Slot.unset).toArray = ls at hl ⊢
  have hl : lv_has ls 3 [(0, .ref (a 0)), (1, .int x1), (2, .int x2)] := hl
  have hw : (w_Ri_has (fun r8 u8 => ((r8 = 0 → (post (-2) u8)) ∧ (¬ r8 = 0 → ((x2 = 0 → (vp_in x1 40 ∧ (post (u8.2 1 x1.toNatClampNeg) u8))) ∧ (¬ x2 = 0 → ((x2 = 1 → (vp_in x1 40 ∧ (post (u8.2 2 x1.toNatClampNeg) u8))) ∧ (¬ x2 = 1 → ((x2 = 2 → (vp_in x1 40 ∧ (post (u8.2 3 x1.toNatClampNeg) u8))) ∧ (¬ x2 = 2 → ((x2 = 3 → (vp_in x1 40 ∧ (post (u8.2 4 x1.toNatClampNeg) u8))) ∧ (¬ x2 = 3 → ((x2 = 4 → (vp_in x1 40 ∧ (post (u8.2 5 x1.toNatClampNeg) u8))) ∧ (¬ x2 = 4 → ((x2 = 5 → (w_Ri_goingDays (fun r129 u129 => (post r129 u129)) x1 u8)) ∧ (¬ x2 = 5 → (post (-2) u8)))))))))))))))) x1 u) := hw
  refine lv_aload_n hx hb d_T_told_0 rfl (lv_at hl 0 rfl) ?_
  refine va_get (D := (dC, dI)) (C := R_T) (T := F_T) (N := 6) hx hb hts in_T hown hI.1 hI.2.1 0 (wdX_o0 a cA _) rfl 0 (by decide) (hts _ wA_264) (fun _ h9 => h9) rfl d_T_told_1 ?_
  refine va_get (D := (dC, dI)) (C := R_Ne) (T := F_Ne) (N := 5) hx hb hts in_Ne hown hI.1 hI.2.1 1 (wdX_o1 a cA _) rfl 2 (by decide) (hts _ wA_167) (fun _ h9 => h9) rfl d_T_told_4 ?_
  refine lv_iload_n hx hb d_T_told_7 rfl (lv_at hl 1 rfl) ?_
  refine tr_goi (w := wdX a cA) hI hA (va_runV (As := [.int x1]) (rest := []) ⟨hx, hb, hml, hown, hts⟩ (c_Ri_has l dC dI cA a _ _ _ _) (cwV 1 hts (wsA_goodV wA_375 wA_376 wA_377 wA_32 wA_378) rfl rfl rfl (by decide +kernel) ⟨Nat.le_of_ble_eq_true rfl, Nat.le_of_ble_eq_true rfl⟩) (tr_preV (ci := 2) (q0 := 2) hI rfl (wdX_o2 a cA _) rfl hN hw) rfl rfl hl.1 rfl (lv_room (Nat.le_of_ble_eq_true rfl)) d_T_told_8 ⟨Nat.zero_le _, Nat.zero_le _⟩) (fun r8 u8 H locs hw hI => ?_)
  refine lv_if_ne (tgt := 17) hx hb d_T_told_11 (by decide) (fun hc => ?_) (fun hc => ?_)
  · have hw := hw.2 hc
    refine lv_iload_n hx hb d_T_told_17 rfl (lv_at hl 2 rfl) ?_
    by_cases hc0 : x2 = 0
    · have hw := hw.1 hc0
      refine lv_tableIn (tgt := 56) hx hb d_T_told_18 (by rw [hc0]; decide) (by rw [hc0]; decide) (by rw [hc0]; rfl) (by decide) ?_
      refine lv_aload_n hx hb d_T_told_56 rfl (lv_at hl 0 rfl) ?_
      refine va_get (D := (dC, dI)) (C := R_T) (T := F_T) (N := 6) hx hb hts in_T hown hI.1 hI.2.1 0 (wdX_o0 a cA _) rfl 0 (by decide) (hts _ wA_264) (fun _ h9 => h9) rfl d_T_told_57 ?_
      refine va_get (D := (dC, dI)) (C := R_Ne) (T := F_Ne) (N := 5) hx hb hts in_Ne hown hI.1 hI.2.1 1 (wdX_o1 a cA _) rfl 2 (by decide) (hts _ wA_167) (fun _ h9 => h9) rfl d_T_told_60 ?_
      refine va_get (D := (dC, dI)) (C := R_Ri) (T := F_Ri) (N := 7) hx hb hts in_Ri hown hI.1 hI.2.1 2 (wdX_o2 a cA _) rfl 1 (by decide) (hts _ wA_72) (fun _ h9 => h9) rfl d_T_told_63 ?_
      refine lv_iload_n hx hb d_T_told_66 rfl (lv_at hl 1 rfl) ?_
      obtain ⟨hi, hw⟩ := hw
      refine va_iald (D := (dC, dI)) hx hb hI.1 hI.2.1 11 0 (wdX_o11 a cA _) rfl hi d_T_told_67 ?_
      exact tr_iret hx hb hr hlocks hI hw d_T_told_68
    · have hw := hw.2 hc0
      by_cases hc1 : x2 = 1
      · have hw := hw.1 hc1
        refine lv_tableIn (tgt := 69) hx hb d_T_told_18 (by rw [hc1]; decide) (by rw [hc1]; decide) (by rw [hc1]; rfl) (by decide) ?_
        refine lv_aload_n hx hb d_T_told_69 rfl (lv_at hl 0 rfl) ?_
        refine va_get (D := (dC, dI)) (C := R_T) (T := F_T) (N := 6) hx hb hts in_T hown hI.1 hI.2.1 0 (wdX_o0 a cA _) rfl 0 (by decide) (hts _ wA_264) (fun _ h9 => h9) rfl d_T_told_70 ?_
        refine va_get (D := (dC, dI)) (C := R_Ne) (T := F_Ne) (N := 5) hx hb hts in_Ne hown hI.1 hI.2.1 1 (wdX_o1 a cA _) rfl 2 (by decide) (hts _ wA_167) (fun _ h9 => h9) rfl d_T_told_73 ?_
        refine va_get (D := (dC, dI)) (C := R_Ri) (T := F_Ri) (N := 7) hx hb hts in_Ri hown hI.1 hI.2.1 2 (wdX_o2 a cA _) rfl 2 (by decide) (hts _ wA_76) (fun _ h9 => h9) rfl d_T_told_76 ?_
        refine lv_iload_n hx hb d_T_told_79 rfl (lv_at hl 1 rfl) ?_
        obtain ⟨hi, hw⟩ := hw
        refine va_iald (D := (dC, dI)) hx hb hI.1 hI.2.1 12 0 (wdX_o12 a cA _) rfl hi d_T_told_80 ?_
        exact tr_iret hx hb hr hlocks hI hw d_T_told_81
      · have hw := hw.2 hc1
        by_cases hc2 : x2 = 2
        · have hw := hw.1 hc2
          refine lv_tableIn (tgt := 82) hx hb d_T_told_18 (by rw [hc2]; decide) (by rw [hc2]; decide) (by rw [hc2]; rfl) (by decide) ?_
          refine lv_aload_n hx hb d_T_told_82 rfl (lv_at hl 0 rfl) ?_
          refine va_get (D := (dC, dI)) (C := R_T) (T := F_T) (N := 6) hx hb hts in_T hown hI.1 hI.2.1 0 (wdX_o0 a cA _) rfl 0 (by decide) (hts _ wA_264) (fun _ h9 => h9) rfl d_T_told_83 ?_
          refine va_get (D := (dC, dI)) (C := R_Ne) (T := F_Ne) (N := 5) hx hb hts in_Ne hown hI.1 hI.2.1 1 (wdX_o1 a cA _) rfl 2 (by decide) (hts _ wA_167) (fun _ h9 => h9) rfl d_T_told_86 ?_
          refine va_get (D := (dC, dI)) (C := R_Ri) (T := F_Ri) (N := 7) hx hb hts in_Ri hown hI.1 hI.2.1 2 (wdX_o2 a cA _) rfl 3 (by decide) (hts _ wA_78) (fun _ h9 => h9) rfl d_T_told_89 ?_
          refine lv_iload_n hx hb d_T_told_92 rfl (lv_at hl 1 rfl) ?_
          obtain ⟨hi, hw⟩ := hw
          refine va_iald (D := (dC, dI)) hx hb hI.1 hI.2.1 13 0 (wdX_o13 a cA _) rfl hi d_T_told_93 ?_
          exact tr_iret hx hb hr hlocks hI hw d_T_told_94
        · have hw := hw.2 hc2
          by_cases hc3 : x2 = 3
          · have hw := hw.1 hc3
            refine lv_tableIn (tgt := 95) hx hb d_T_told_18 (by rw [hc3]; decide) (by rw [hc3]; decide) (by rw [hc3]; rfl) (by decide) ?_
            refine lv_aload_n hx hb d_T_told_95 rfl (lv_at hl 0 rfl) ?_
            refine va_get (D := (dC, dI)) (C := R_T) (T := F_T) (N := 6) hx hb hts in_T hown hI.1 hI.2.1 0 (wdX_o0 a cA _) rfl 0 (by decide) (hts _ wA_264) (fun _ h9 => h9) rfl d_T_told_96 ?_
            refine va_get (D := (dC, dI)) (C := R_Ne) (T := F_Ne) (N := 5) hx hb hts in_Ne hown hI.1 hI.2.1 1 (wdX_o1 a cA _) rfl 2 (by decide) (hts _ wA_167) (fun _ h9 => h9) rfl d_T_told_99 ?_
            refine va_get (D := (dC, dI)) (C := R_Ri) (T := F_Ri) (N := 7) hx hb hts in_Ri hown hI.1 hI.2.1 2 (wdX_o2 a cA _) rfl 4 (by decide) (hts _ wA_83) (fun _ h9 => h9) rfl d_T_told_102 ?_
            refine lv_iload_n hx hb d_T_told_105 rfl (lv_at hl 1 rfl) ?_
            obtain ⟨hi, hw⟩ := hw
            refine va_iald (D := (dC, dI)) hx hb hI.1 hI.2.1 14 0 (wdX_o14 a cA _) rfl hi d_T_told_106 ?_
            exact tr_iret hx hb hr hlocks hI hw d_T_told_107
          · have hw := hw.2 hc3
            by_cases hc4 : x2 = 4
            · have hw := hw.1 hc4
              refine lv_tableIn (tgt := 108) hx hb d_T_told_18 (by rw [hc4]; decide) (by rw [hc4]; decide) (by rw [hc4]; rfl) (by decide) ?_
              refine lv_aload_n hx hb d_T_told_108 rfl (lv_at hl 0 rfl) ?_
              refine va_get (D := (dC, dI)) (C := R_T) (T := F_T) (N := 6) hx hb hts in_T hown hI.1 hI.2.1 0 (wdX_o0 a cA _) rfl 0 (by decide) (hts _ wA_264) (fun _ h9 => h9) rfl d_T_told_109 ?_
              refine va_get (D := (dC, dI)) (C := R_Ne) (T := F_Ne) (N := 5) hx hb hts in_Ne hown hI.1 hI.2.1 1 (wdX_o1 a cA _) rfl 2 (by decide) (hts _ wA_167) (fun _ h9 => h9) rfl d_T_told_112 ?_
              refine va_get (D := (dC, dI)) (C := R_Ri) (T := F_Ri) (N := 7) hx hb hts in_Ri hown hI.1 hI.2.1 2 (wdX_o2 a cA _) rfl 5 (by decide) (hts _ wA_85) (fun _ h9 => h9) rfl d_T_told_115 ?_
              refine lv_iload_n hx hb d_T_told_118 rfl (lv_at hl 1 rfl) ?_
              obtain ⟨hi, hw⟩ := hw
              refine va_iald (D := (dC, dI)) hx hb hI.1 hI.2.1 15 0 (wdX_o15 a cA _) rfl hi d_T_told_119 ?_
              exact tr_iret hx hb hr hlocks hI hw d_T_told_120
            · have hw := hw.2 hc4
              by_cases hc5 : x2 = 5
              · have hw := hw.1 hc5
                refine lv_tableIn (tgt := 121) hx hb d_T_told_18 (by rw [hc5]; decide) (by rw [hc5]; decide) (by rw [hc5]; rfl) (by decide) ?_
                refine lv_aload_n hx hb d_T_told_121 rfl (lv_at hl 0 rfl) ?_
                refine va_get (D := (dC, dI)) (C := R_T) (T := F_T) (N := 6) hx hb hts in_T hown hI.1 hI.2.1 0 (wdX_o0 a cA _) rfl 0 (by decide) (hts _ wA_264) (fun _ h9 => h9) rfl d_T_told_122 ?_
                refine va_get (D := (dC, dI)) (C := R_Ne) (T := F_Ne) (N := 5) hx hb hts in_Ne hown hI.1 hI.2.1 1 (wdX_o1 a cA _) rfl 2 (by decide) (hts _ wA_167) (fun _ h9 => h9) rfl d_T_told_125 ?_
                refine lv_iload_n hx hb d_T_told_128 rfl (lv_at hl 1 rfl) ?_
                refine tr_goi (w := wdX a cA) hI hA (va_runV (As := [.int x1]) (rest := []) ⟨hx, hb, hml, hown, hts⟩ (c_Ri_goingDays l dC dI cA a _ _ _ _) (cwV 1 hts (wsA_goodV wA_570 wA_571 wA_572 wA_32 wA_573) rfl rfl rfl (by decide +kernel) ⟨Nat.le_of_ble_eq_true rfl, Nat.le_of_ble_eq_true rfl⟩) (tr_preV (ci := 2) (q0 := 2) hI rfl (wdX_o2 a cA _) rfl hN hw) rfl rfl hl.1 rfl (lv_room (Nat.le_of_ble_eq_true rfl)) d_T_told_129 ⟨Nat.zero_le _, Nat.zero_le _⟩) (fun r129 u129 H locs hw hI => ?_)
                exact tr_iret hx hb hr hlocks hI hw d_T_told_132
              · have hw := hw.2 hc5
                refine lv_tableOut (tgt := 133) hx hb d_T_told_18 (tab_out6 hc0 hc1 hc2 hc3 hc4 hc5) (by decide) ?_
                refine lv_bipush (v := (-2)) hx hb d_T_told_133 (by decide) ?_
                exact tr_iret hx hb hr hlocks hI hw d_T_told_135
  · have hw := hw.1 hc
    refine lv_bipush (v := (-2)) hx hb d_T_told_14 (by decide) ?_
    exact tr_iret hx hb hr hlocks hI hw d_T_told_16
def w_Bo_countLate_4 (post : Int32 → tS → Prop) : Nat → Int32 → Int32 → tS → Prop
  | 0 => fun _ _ _ => False
  | n + 1 => fun x2 x3 u => (((u.1 2) ≤ x3 → (post x2 u)) ∧ (¬ (u.1 2) ≤ x3 → (vp_in x3 280 ∧ (vp_in (u.2 7 x3.toNatClampNeg) 280 ∧ (((u.2 6 (u.2 7 x3.toNatClampNeg).toNatClampNeg) ≤ 0 → (w_Bo_countLate_4 post n x2 (x3 + 1) u)) ∧ (¬ (u.2 6 (u.2 7 x3.toNatClampNeg).toNatClampNeg) ≤ 0 → (w_Bo_countLate_4 post n (x2 + 1) (x3 + 1) u)))))))
def w_Bo_countLate (post : Int32 → tS → Prop) (u : tS) : Prop := (∃ k, w_Bo_countLate_4 post k 0 0 u)
set_option maxRecDepth 100000 in
set_option maxHeartbeats 4000000 in
theorem k_Bo_countLate_4 {p : Program} {l : Launch} {e : Env} {s : State} {m : MethodId} {args : Array Value} {below : List Frame} {meth : Method} {c : Code} {dC : Nat → ClassId} {dI : Nat → Nat → Nat} {cA : ClassId} {a : Nat → Nat} {A : Nat → Prop} (hC : tC p s m meth c args b_Bo_countLate 4 (some .int) wsA R_Bo A) (post : Int32 → tS → Prop) : ∀ n : Nat, ∀ (x2 x3 : Int32) (u : tS) (H : Heap) (locs : List Loc) (ls : Array Slot), w_Bo_countLate_4 post n x2 x3 u → tX (dC, dI) twCl [(cA, .int)] A s H locs (wdX a cA u) → lv_has ls 4 [(0, .ref (a 3)), (1, .ref (a 2)), (2, .int x2), (3, .int x3)] → W p l e ({ frames := 0, cells := 0, slots := 0, locals := 0 }) s m args below meth c H locs 0 0 (MQ below (va_Qi post (tB (dC, dI) twCl [(cA, .int)] A (wdX a cA)) A) args s 0 0 A) (F0 m 4 ls []) := by
  obtain ⟨hx, hb, hr, hml, hown, hts, hlocks, hA, hN⟩ := id hC
  intro n
  induction n with
  | zero => intro x2 x3 u H locs ls hw; exact False.elim hw
  | succ n ih =>
    intro x2 x3 u H locs ls hw hI hl
    refine lv_iload_n hx hb d_Bo_countLate_4 rfl (lv_at hl 3 rfl) ?_
    refine lv_aload_n hx hb d_Bo_countLate_5 rfl (lv_at hl 0 rfl) ?_
    refine va_get (D := (dC, dI)) (C := R_Bo) (T := F_Bo) (N := 3) hx hb hts in_Bo hown hI.1 hI.2.1 3 (wdX_o3 a cA _) rfl 0 (by decide) (hts _ wA_111) (fun _ h9 => h9) rfl d_Bo_countLate_6 ?_
    refine lv_icmp_ge (tgt := 35) hx hb d_Bo_countLate_9 (by decide) (fun hc => ?_) (fun hc => ?_)
    · have hw := hw.1 hc
      refine lv_iload_n hx hb d_Bo_countLate_35 rfl (lv_at hl 2 rfl) ?_
      exact tr_iret hx hb hr hlocks hI hw d_Bo_countLate_36
    · have hw := hw.2 hc
      refine lv_aload_n hx hb d_Bo_countLate_12 rfl (lv_at hl 1 rfl) ?_
      refine va_get (D := (dC, dI)) (C := R_Ri) (T := F_Ri) (N := 7) hx hb hts in_Ri hown hI.1 hI.2.1 2 (wdX_o2 a cA _) rfl 6 (by decide) (hts _ wA_88) (fun _ h9 => h9) rfl d_Bo_countLate_13 ?_
      refine lv_aload_n hx hb d_Bo_countLate_16 rfl (lv_at hl 0 rfl) ?_
      refine va_get (D := (dC, dI)) (C := R_Bo) (T := F_Bo) (N := 3) hx hb hts in_Bo hown hI.1 hI.2.1 3 (wdX_o3 a cA _) rfl 1 (by decide) (hts _ wA_116) (fun _ h9 => h9) rfl d_Bo_countLate_17 ?_
      refine lv_iload_n hx hb d_Bo_countLate_20 rfl (lv_at hl 3 rfl) ?_
      obtain ⟨hi, hw⟩ := hw
      refine va_iald (D := (dC, dI)) hx hb hI.1 hI.2.1 17 0 (wdX_o17 a cA _) rfl hi d_Bo_countLate_21 ?_
      obtain ⟨hi, hw⟩ := hw
      refine va_iald (D := (dC, dI)) hx hb hI.1 hI.2.1 16 0 (wdX_o16 a cA _) rfl hi d_Bo_countLate_22 ?_
      refine lv_if_le (tgt := 29) hx hb d_Bo_countLate_23 (by decide) (fun hc => ?_) (fun hc => ?_)
      · have hw := hw.1 hc
        refine lv_iinc (v := (x3 + 1)) (lv' := [(3, .int (x3 + 1)), (0, .ref (a 3)), (1, .ref (a 2)), (2, .int x2)]) hx hb d_Bo_countLate_29 hl (k := 3) rfl rfl (by decide) rfl (fun ls hl => ?_)
        refine lv_goto (tgt := 4) hx hb d_Bo_countLate_32 (by decide) ?_
        exact ih _ _ _ _ _ ls hw hI (lv_sub hl [1, 2, 3, 0] rfl)
      · have hw := hw.2 hc
        refine lv_iinc (v := (x2 + 1)) (lv' := [(2, .int (x2 + 1)), (0, .ref (a 3)), (1, .ref (a 2)), (3, .int x3)]) hx hb d_Bo_countLate_26 hl (k := 2) rfl rfl (by decide) rfl (fun ls hl => ?_)
        refine lv_iinc (v := (x3 + 1)) (lv' := [(3, .int (x3 + 1)), (2, .int (x2 + 1)), (0, .ref (a 3)), (1, .ref (a 2))]) hx hb d_Bo_countLate_29 hl (k := 3) rfl rfl (by decide) rfl (fun ls hl => ?_)
        refine lv_goto (tgt := 4) hx hb d_Bo_countLate_32 (by decide) ?_
        exact ih _ _ _ _ _ ls hw hI (lv_sub hl [2, 3, 1, 0] rfl)
set_option maxRecDepth 100000 in
set_option maxHeartbeats 4000000 in
theorem c_Bo_countLate (l : Launch) (dC : Nat → ClassId) (dI : Nat → Nat → Nat) (cA : ClassId) (a : Nat → Nat) (u : tS) (post : Int32 → tS → Prop) (sz : Nat) : Met l y_Bo_countLate ws_Bo_countLate ({ frames := 0, cells := 0, slots := 0, locals := 0 }) (va_Pc [.ref (a 3), .ref (a 2)] (tP (dC, dI) twCl [(cA, .int)] (wdX a cA) u sz (w_Bo_countLate post u))) (va_Qi post (tB (dC, dI) twCl [(cA, .int)] (va_A (wdX a cA u) sz) (wdX a cA)) (va_A (wdX a cA u) sz)) 0 0 (va_A (wdX a cA u) sz) := by
  refine Met.ofW (cc := b_Bo_countLate) (maxL := 4) (ret := (some .int)) (by decide) rfl ?_
  intro p e s m args below meth c s₁ B hml hv
  obtain ⟨rfl, hsz, hP, hK, hD0, hN, hw⟩ := hv
  have hx := B.exec
  have hb := B.bytes
  have hr := B.returns
  have hts : ∀ w ∈ wsA, w.before _ s = true := fun w h => atoms_spec (ws := ws_Bo_countLate) B.pre w (List.mem_cons_of_mem _ h)
  have hown : s.vm.findClass R_Bo = some m.cls := findClass_of_methodNamed B.named
  have hlocks := B.notSynchronized
  subst hsz
  have hD := hD0.self (sz := s.heap.size)
  generalize hAe : va_A (wdX a cA u) s.heap.size = A at hD ⊢
  have hA : ∀ q : Nat, s.heap.size ≤ q → A q := fun q h => by rw [← hAe]; exact Or.inr h
  have hS : va_S A s.heap s.heap [] := va_S.rf
  have hI : tX (dC, dI) twCl [(cA, .int)] A s s.heap [] (wdX a cA u) := ⟨hK, hP, hD, hS⟩
  have hC : tC p s m meth c ([.ref (a 3), .ref (a 2)] : List Value).toArray b_Bo_countLate 4 (some .int) wsA R_Bo A := ⟨hx, hb, hr, hml, hown, hts, hlocks, hA, hN⟩
  have hl := lv_entry ([.ref (a 3), .ref (a 2)]) (n := 4) (Nat.le_of_ble_eq_true rfl)
  rw [lg_entry_eq]
  generalize (lg_sl ([.ref (a 3), .ref (a 2)]) ++ List.replicate (4 - (lg_sl ([.ref (a 3), .ref (a 2)])).length) Slot.unset).toArray = ls at hl ⊢
  have hl : lv_has ls 4 [(0, .ref (a 3)), (1, .ref (a 2))] := hl
  have hw : (∃ k, w_Bo_countLate_4 post k 0 0 u) := hw
  refine lv_iconst (v := 0) hx hb d_Bo_countLate_0 (by decide) ?_
  refine lv_istore_n (lv' := [(2, .int 0), (0, .ref (a 3)), (1, .ref (a 2))]) hx hb d_Bo_countLate_1 rfl hl (by decide) rfl (fun ls hl => ?_)
  refine lv_iconst (v := 0) hx hb d_Bo_countLate_2 (by decide) ?_
  refine lv_istore_n (lv' := [(3, .int 0), (2, .int 0), (0, .ref (a 3)), (1, .ref (a 2))]) hx hb d_Bo_countLate_3 rfl hl (by decide) rfl (fun ls hl => ?_)
  obtain ⟨k, hw⟩ := hw
  exact k_Bo_countLate_4 hC post k _ _ _ _ _ ls hw hI (lv_sub hl [2, 3, 1, 0] rfl)
