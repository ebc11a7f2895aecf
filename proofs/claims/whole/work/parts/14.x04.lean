def w_Bo_rideAt (post : Int32 → tS → Prop) (x1 : Int32) (u : tS) : Prop := (vp_in x1 280 ∧ (post ((u.2 7 x1.toNatClampNeg) / 7) u))
set_option maxRecDepth 100000 in
set_option maxHeartbeats 4000000 in
theorem c_Bo_rideAt (l : Launch) (dC : Nat → ClassId) (dI : Nat → Nat → Nat) (cA : ClassId) (a : Nat → Nat) (u : tS) (x1 : Int32) (post : Int32 → tS → Prop) (sz : Nat) : Met l y_Bo_rideAt ws_Bo_rideAt ({ frames := 0, cells := 0, slots := 0, locals := 0 }) (va_Pc [.ref (a 3), .int x1] (tP (dC, dI) twCl [(cA, .int)] (wdX a cA) u sz (w_Bo_rideAt post x1 u))) (va_Qi post (tB (dC, dI) twCl [(cA, .int)] (va_A (wdX a cA u) sz) (wdX a cA)) (va_A (wdX a cA u) sz)) 0 0 (va_A (wdX a cA u) sz) := by
  refine Met.ofW (cc := b_Bo_rideAt) (maxL := 2) (ret := (some .int)) (by decide) rfl ?_
  intro p e s m args below meth c s₁ B hml hv
  obtain ⟨rfl, hsz, hP, hK, hD0, hN, hw⟩ := hv
  have hx := B.exec
  have hb := B.bytes
  have hr := B.returns
  have hts : ∀ w ∈ wsA, w.before _ s = true := fun w h => atoms_spec (ws := ws_Bo_rideAt) B.pre w (List.mem_cons_of_mem _ h)
  have hown : s.vm.findClass R_Bo = some m.cls := findClass_of_methodNamed B.named
  have hlocks := B.notSynchronized
  subst hsz
  have hD := hD0.self (sz := s.heap.size)
  generalize hAe : va_A (wdX a cA u) s.heap.size = A at hD ⊢
  have hA : ∀ q : Nat, s.heap.size ≤ q → A q := fun q h => by rw [← hAe]; exact Or.inr h
  have hS : va_S A s.heap s.heap [] := va_S.rf
  have hI : tX (dC, dI) twCl [(cA, .int)] A s s.heap [] (wdX a cA u) := ⟨hK, hP, hD, hS⟩
  have hC : tC p s m meth c ([.ref (a 3), .int x1] : List Value).toArray b_Bo_rideAt 2 (some .int) wsA R_Bo A := ⟨hx, hb, hr, hml, hown, hts, hlocks, hA, hN⟩
  have hl := lv_entry ([.ref (a 3), .int x1]) (n := 2) (Nat.le_of_ble_eq_true rfl)
  rw [lg_entry_eq]
  generalize (lg_sl ([.ref (a 3), .int x1]) ++ List.replicate (2 - (lg_sl ([.ref (a 3), .int x1])).length) Slot.unset).toArray = ls at hl ⊢
  have hl : lv_has ls 2 [(0, .ref (a 3)), (1, .int x1)] := hl
  have hw : (vp_in x1 280 ∧ (post ((u.2 7 x1.toNatClampNeg) / 7) u)) := hw
  refine lv_aload_n hx hb d_Bo_rideAt_0 rfl (lv_at hl 0 rfl) ?_
  refine va_get (D := (dC, dI)) (C := R_Bo) (T := F_Bo) (N := 3) hx hb hts in_Bo hown hI.1 hI.2.1 3 (wdX_o3 a cA _) rfl 1 (by decide) (hts _ wA_116) (fun _ h9 => h9) rfl d_Bo_rideAt_1 ?_
  refine lv_iload_n hx hb d_Bo_rideAt_4 rfl (lv_at hl 1 rfl) ?_
  obtain ⟨hi, hw⟩ := hw
  refine va_iald (D := (dC, dI)) hx hb hI.1 hI.2.1 17 0 (wdX_o17 a cA _) rfl hi d_Bo_rideAt_5 ?_
  refine lv_bipush (v := 7) hx hb d_Bo_rideAt_6 (by decide) ?_
  refine lv_idiv hx hb d_Bo_rideAt_8 (by decide) ?_
  exact tr_iret hx hb hr hlocks hI hw d_Bo_rideAt_9
def w_Ar_mayTake (post : Int32 → tS → Prop) (x2 : Int32) (x3 : Int32) (u : tS) : Prop := (vp_in x2 12 ∧ (((u.2 14 x2.toNatClampNeg) ≤ x3 → (post 1 u)) ∧ (¬ (u.2 14 x2.toNatClampNeg) ≤ x3 → (vp_in x2 12 ∧ (vp_in x2 12 ∧ ((x3 < ((u.2 13 x2.toNatClampNeg) + (u.2 0 x2.toNatClampNeg)) → (post 0 u)) ∧ (¬ x3 < ((u.2 13 x2.toNatClampNeg) + (u.2 0 x2.toNatClampNeg)) → (post 1 u))))))))
set_option maxRecDepth 100000 in
set_option maxHeartbeats 4000000 in
theorem c_Ar_mayTake (l : Launch) (dC : Nat → ClassId) (dI : Nat → Nat → Nat) (cA : ClassId) (a : Nat → Nat) (u : tS) (x2 : Int32) (x3 : Int32) (post : Int32 → tS → Prop) (sz : Nat) : Met l y_Ar_mayTake ws_Ar_mayTake ({ frames := 0, cells := 0, slots := 0, locals := 0 }) (va_Pc [.ref (a 5), .ref (a 1), .int x2, .int x3] (tP (dC, dI) twCl [(cA, .int)] (wdX a cA) u sz (w_Ar_mayTake post x2 x3 u))) (va_Qi post (tB (dC, dI) twCl [(cA, .int)] (va_A (wdX a cA u) sz) (wdX a cA)) (va_A (wdX a cA u) sz)) 0 0 (va_A (wdX a cA u) sz) := by
  refine Met.ofW (cc := b_Ar_mayTake) (maxL := 4) (ret := (some .boolean)) (by decide) rfl ?_
  intro p e s m args below meth c s₁ B hml hv
  obtain ⟨rfl, hsz, hP, hK, hD0, hN, hw⟩ := hv
  have hx := B.exec
  have hb := B.bytes
  have hr := B.returns
  have hts : ∀ w ∈ wsA, w.before _ s = true := fun w h => atoms_spec (ws := ws_Ar_mayTake) B.pre w (List.mem_cons_of_mem _ h)
  have hown : s.vm.findClass R_Ar = some m.cls := findClass_of_methodNamed B.named
  have hlocks := B.notSynchronized
  subst hsz
  have hD := hD0.self (sz := s.heap.size)
  generalize hAe : va_A (wdX a cA u) s.heap.size = A at hD ⊢
  have hA : ∀ q : Nat, s.heap.size ≤ q → A q := fun q h => by rw [← hAe]; exact Or.inr h
  have hS : va_S A s.heap s.heap [] := va_S.rf
  have hI : tX (dC, dI) twCl [(cA, .int)] A s s.heap [] (wdX a cA u) := ⟨hK, hP, hD, hS⟩
  have hC : tC p s m meth c ([.ref (a 5), .ref (a 1), .int x2, .int x3] : List Value).toArray b_Ar_mayTake 4 (some .boolean) wsA R_Ar A := ⟨hx, hb, hr, hml, hown, hts, hlocks, hA, hN⟩
  have hl := lv_entry ([.ref (a 5), .ref (a 1), .int x2, .int x3]) (n := 4) (Nat.le_of_ble_eq_true rfl)
  rw [lg_entry_eq]
  generalize (lg_sl ([.ref (a 5), .ref (a 1), .int x2, .int x3]) ++ List.replicate (4 - (lg_sl ([.ref (a 5), .ref (a 1), .int x2, .int x3])).length) Slot.unset).toArray = ls at hl ⊢
  have hl : lv_has ls 4 [(0, .ref (a 5)), (1, .ref (a 1)), (2, .int x2), (3, .int x3)] := hl
  have hw : (vp_in x2 12 ∧ (((u.2 14 x2.toNatClampNeg) ≤ x3 → (post 1 u)) ∧ (¬ (u.2 14 x2.toNatClampNeg) ≤ x3 → (vp_in x2 12 ∧ (vp_in x2 12 ∧ ((x3 < ((u.2 13 x2.toNatClampNeg) + (u.2 0 x2.toNatClampNeg)) → (post 0 u)) ∧ (¬ x3 < ((u.2 13 x2.toNatClampNeg) + (u.2 0 x2.toNatClampNeg)) → (post 1 u)))))))) := hw
  refine lv_iload_n hx hb d_Ar_mayTake_0 rfl (lv_at hl 3 rfl) ?_
  refine lv_aload_n hx hb d_Ar_mayTake_1 rfl (lv_at hl 0 rfl) ?_
  refine va_get (D := (dC, dI)) (C := R_Ar) (T := F_Ar) (N := 2) hx hb hts in_Ar hown hI.1 hI.2.1 5 (wdX_o5 a cA _) rfl 1 (by decide) (hts _ wA_198) (fun _ h9 => h9) rfl d_Ar_mayTake_2 ?_
  refine lv_iload_n hx hb d_Ar_mayTake_5 rfl (lv_at hl 2 rfl) ?_
  obtain ⟨hi, hw⟩ := hw
  refine va_iald (D := (dC, dI)) hx hb hI.1 hI.2.1 24 0 (wdX_o24 a cA _) rfl hi d_Ar_mayTake_6 ?_
  refine lv_icmp_ge (tgt := 27) hx hb d_Ar_mayTake_7 (by decide) (fun hc => ?_) (fun hc => ?_)
  · have hw := hw.1 hc
    refine lv_iconst (v := 1) hx hb d_Ar_mayTake_27 (by decide) ?_
    refine lv_goto (tgt := 32) hx hb d_Ar_mayTake_28 (by decide) ?_
    exact tr_zret hx hb hr hlocks hI rfl hw d_Ar_mayTake_32
  · have hw := hw.2 hc
    refine lv_iload_n hx hb d_Ar_mayTake_10 rfl (lv_at hl 3 rfl) ?_
    refine lv_aload_n hx hb d_Ar_mayTake_11 rfl (lv_at hl 0 rfl) ?_
    refine va_get (D := (dC, dI)) (C := R_Ar) (T := F_Ar) (N := 2) hx hb hts in_Ar hown hI.1 hI.2.1 5 (wdX_o5 a cA _) rfl 0 (by decide) (hts _ wA_197) (fun _ h9 => h9) rfl d_Ar_mayTake_12 ?_
    refine lv_iload_n hx hb d_Ar_mayTake_15 rfl (lv_at hl 2 rfl) ?_
    obtain ⟨hi, hw⟩ := hw
    refine va_iald (D := (dC, dI)) hx hb hI.1 hI.2.1 23 0 (wdX_o23 a cA _) rfl hi d_Ar_mayTake_16 ?_
    refine lv_aload_n hx hb d_Ar_mayTake_17 rfl (lv_at hl 1 rfl) ?_
    refine va_get (D := (dC, dI)) (C := R_Ne) (T := F_Ne) (N := 5) hx hb hts in_Ne hown hI.1 hI.2.1 1 (wdX_o1 a cA _) rfl 1 (by decide) (hts _ wA_165) (fun _ h9 => h9) rfl d_Ar_mayTake_18 ?_
    refine lv_iload_n hx hb d_Ar_mayTake_21 rfl (lv_at hl 2 rfl) ?_
    obtain ⟨hi, hw⟩ := hw
    refine va_iald (D := (dC, dI)) hx hb hI.1 hI.2.1 10 0 (wdX_o10 a cA _) rfl hi d_Ar_mayTake_22 ?_
    refine lv_iadd hx hb d_Ar_mayTake_23 ?_
    refine lv_icmp_lt (tgt := 31) hx hb d_Ar_mayTake_24 (by decide) (fun hc => ?_) (fun hc => ?_)
    · have hw := hw.1 hc
      refine lv_iconst (v := 0) hx hb d_Ar_mayTake_31 (by decide) ?_
      exact tr_zret hx hb hr hlocks hI rfl hw d_Ar_mayTake_32
    · have hw := hw.2 hc
      refine lv_iconst (v := 1) hx hb d_Ar_mayTake_27 (by decide) ?_
      refine lv_goto (tgt := 32) hx hb d_Ar_mayTake_28 (by decide) ?_
      exact tr_zret hx hb hr hlocks hI rfl hw d_Ar_mayTake_32
def w_Ar_arrive_21 (post : tS → Prop) : Nat → Int32 → Int32 → Int32 → tS → Prop
  | 0 => fun _ _ _ _ => False
  | n + 1 => fun x2 x3 x4 u => (((u.1 0) ≤ x4 → (post u)) ∧ (¬ (u.1 0) ≤ x4 → (vp_in x4 12 ∧ (w_Wa_atLeastOne (fun r51 u51 => (vp_in x4 12 ∧ (w_Ar_arrive_21 post n x2 x3 (x4 + 1) (tA u51 14 x4 (if (x3 + r51) < (u.2 14 x4.toNatClampNeg) then (x3 + r51) else (u.2 14 x4.toNatClampNeg)))))) x2 x4 u))))
def w_Ar_arrive (post : tS → Prop) (x2 : Int32) (x3 : Int32) (u : tS) : Prop := (vp_in x2 12 ∧ ((x3 < (u.2 13 x2.toNatClampNeg) → (vp_in x2 12 ∧ (∃ k, w_Ar_arrive_21 post k x2 x3 0 (tA u 13 x2 x3)))) ∧ (¬ x3 < (u.2 13 x2.toNatClampNeg) → (post u))))
set_option maxRecDepth 100000 in
set_option maxHeartbeats 4000000 in
theorem k_Ar_arrive_21 {p : Program} {l : Launch} {e : Env} {s : State} {m : MethodId} {args : Array Value} {below : List Frame} {meth : Method} {c : Code} {dC : Nat → ClassId} {dI : Nat → Nat → Nat} {cA : ClassId} {a : Nat → Nat} {A : Nat → Prop} (hC : tC p s m meth c args b_Ar_arrive 5 none wsA R_Ar A) (post : tS → Prop) : ∀ n : Nat, ∀ (x2 x3 x4 : Int32) (u : tS) (H : Heap) (locs : List Loc) (ls : Array Slot), w_Ar_arrive_21 post n x2 x3 x4 u → tX (dC, dI) twCl [(cA, .int)] A s H locs (wdX a cA u) → lv_has ls 5 [(0, .ref (a 5)), (1, .ref (a 1)), (2, .int x2), (3, .int x3), (4, .int x4)] → W p l e ({ frames := 1, cells := 0, slots := 0, locals := 22 }) s m args below meth c H locs 0 0 (MQ below (va_Qv post (tB (dC, dI) twCl [(cA, .int)] A (wdX a cA)) A) args s 0 0 A) (F0 m 21 ls []) := by
  obtain ⟨hx, hb, hr, hml, hown, hts, hlocks, hA, hN⟩ := id hC
  intro n
  induction n with
  | zero => intro x2 x3 x4 u H locs ls hw; exact False.elim hw
  | succ n ih =>
    intro x2 x3 x4 u H locs ls hw hI hl
    refine lv_iload hx hb d_Ar_arrive_21 (lv_at hl 4 rfl) ?_
    refine lv_aload_n hx hb d_Ar_arrive_23 rfl (lv_at hl 1 rfl) ?_
    refine va_get (D := (dC, dI)) (C := R_Ne) (T := F_Ne) (N := 5) hx hb hts in_Ne hown hI.1 hI.2.1 1 (wdX_o1 a cA _) rfl 0 (by decide) (hts _ wA_162) (fun _ h9 => h9) rfl d_Ar_arrive_24 ?_
    refine lv_icmp_ge (tgt := 65) hx hb d_Ar_arrive_27 (by decide) (fun hc => ?_) (fun hc => ?_)
    · have hw := hw.1 hc
      exact tr_vret hx hb hr hlocks hI hw d_Ar_arrive_65
    · have hw := hw.2 hc
      refine lv_aload_n hx hb d_Ar_arrive_30 rfl (lv_at hl 0 rfl) ?_
      refine va_get (D := (dC, dI)) (C := R_Ar) (T := F_Ar) (N := 2) hx hb hts in_Ar hown hI.1 hI.2.1 5 (wdX_o5 a cA _) rfl 1 (by decide) (hts _ wA_198) (fun _ h9 => h9) rfl d_Ar_arrive_31 ?_
      refine lv_iload hx hb d_Ar_arrive_34 (lv_at hl 4 rfl) ?_
      refine lv_aload_n hx hb d_Ar_arrive_36 rfl (lv_at hl 0 rfl) ?_
      refine va_get (D := (dC, dI)) (C := R_Ar) (T := F_Ar) (N := 2) hx hb hts in_Ar hown hI.1 hI.2.1 5 (wdX_o5 a cA _) rfl 1 (by decide) (hts _ wA_198) (fun _ h9 => h9) rfl d_Ar_arrive_37 ?_
      refine lv_iload hx hb d_Ar_arrive_40 (lv_at hl 4 rfl) ?_
      obtain ⟨hi, hw⟩ := hw
      refine va_iald (D := (dC, dI)) hx hb hI.1 hI.2.1 24 0 (wdX_o24 a cA _) rfl hi d_Ar_arrive_42 ?_
      refine lv_iload_n hx hb d_Ar_arrive_43 rfl (lv_at hl 3 rfl) ?_
      refine lv_aload_n hx hb d_Ar_arrive_44 rfl (lv_at hl 1 rfl) ?_
      refine va_get (D := (dC, dI)) (C := R_Ne) (T := F_Ne) (N := 5) hx hb hts in_Ne hown hI.1 hI.2.1 1 (wdX_o1 a cA _) rfl 4 (by decide) (hts _ wA_178) (fun _ h9 => h9) rfl d_Ar_arrive_45 ?_
      refine lv_iload_n hx hb d_Ar_arrive_48 rfl (lv_at hl 2 rfl) ?_
      refine lv_iload hx hb d_Ar_arrive_49 (lv_at hl 4 rfl) ?_
      refine tr_goi (w := wdX a cA) hI hA (va_runV (As := [.int x2, .int x4]) (rest := [.int x3, .int (u.2 14 x4.toNatClampNeg), .int x4, .ref (a 24)]) ⟨hx, hb, hml, hown, hts⟩ (c_Wa_atLeastOne l dC dI cA a _ _ _ _ _) (cwV 2 hts (wsA_goodV wA_420 wA_365 wA_366 wA_34 wA_367) rfl rfl rfl (by decide +kernel) ⟨Nat.le_of_ble_eq_true rfl, Nat.le_of_ble_eq_true rfl⟩) (tr_preV (ci := 4) (q0 := 4) hI rfl (wdX_o4 a cA _) rfl hN hw) rfl rfl hl.1 rfl (lv_room (Nat.le_of_ble_eq_true rfl)) d_Ar_arrive_51 ⟨Nat.zero_le _, Nat.zero_le _⟩) (fun r51 u51 H locs hw hI => ?_)
      refine lv_iadd hx hb d_Ar_arrive_54 ?_
      refine va_mmin hx hb (by rw [hml]; exact hl.1.symm) hown (hts _ wA_403) (hts _ wA_369) (hts _ wA_41) (hts _ wA_370) (Nat.le_of_ble_eq_true rfl) (Nat.le_of_ble_eq_true rfl) (Nat.zero_le _) (Nat.zero_le _) d_Ar_arrive_55 ?_
      obtain ⟨hi, hw⟩ := hw
      refine tr_iast (w := wdX a cA) hx hb hI 24 0 14 (wdX_o24 a cA _) rfl (wdX_a14 a cA _ _ _) hi d_Ar_arrive_58 (fun H locs hI => ?_)
      refine lv_iinc (v := (x4 + 1)) (lv' := [(4, .int (x4 + 1)), (0, .ref (a 5)), (1, .ref (a 1)), (2, .int x2), (3, .int x3)]) hx hb d_Ar_arrive_59 hl (k := 4) rfl rfl (by decide) rfl (fun ls hl => ?_)
      refine lv_goto (tgt := 21) hx hb d_Ar_arrive_62 (by decide) ?_
      exact ih _ _ _ _ _ _ ls hw hI (lv_sub hl [1, 2, 3, 4, 0] rfl)
set_option maxRecDepth 100000 in
set_option maxHeartbeats 4000000 in
theorem c_Ar_arrive (l : Launch) (dC : Nat → ClassId) (dI : Nat → Nat → Nat) (cA : ClassId) (a : Nat → Nat) (u : tS) (x2 : Int32) (x3 : Int32) (post : tS → Prop) (sz : Nat) : Met l y_Ar_arrive ws_Ar_arrive ({ frames := 1, cells := 0, slots := 0, locals := 22 }) (va_Pc [.ref (a 5), .ref (a 1), .int x2, .int x3] (tP (dC, dI) twCl [(cA, .int)] (wdX a cA) u sz (w_Ar_arrive post x2 x3 u))) (va_Qv post (tB (dC, dI) twCl [(cA, .int)] (va_A (wdX a cA u) sz) (wdX a cA)) (va_A (wdX a cA u) sz)) 0 0 (va_A (wdX a cA u) sz) := by
  refine Met.ofW (cc := b_Ar_arrive) (maxL := 5) (ret := none) (by decide) rfl ?_
  intro p e s m args below meth c s₁ B hml hv
  obtain ⟨rfl, hsz, hP, hK, hD0, hN, hw⟩ := hv
  have hx := B.exec
  have hb := B.bytes
  have hr := B.returns
  have hts : ∀ w ∈ wsA, w.before _ s = true := fun w h => atoms_spec (ws := ws_Ar_arrive) B.pre w (List.mem_cons_of_mem _ h)
  have hown : s.vm.findClass R_Ar = some m.cls := findClass_of_methodNamed B.named
  have hlocks := B.notSynchronized
  subst hsz
  have hD := hD0.self (sz := s.heap.size)
  generalize hAe : va_A (wdX a cA u) s.heap.size = A at hD ⊢
  have hA : ∀ q : Nat, s.heap.size ≤ q → A q := fun q h => by rw [← hAe]; exact Or.inr h
  have hS : va_S A s.heap s.heap [] := va_S.rf
  have hI : tX (dC, dI) twCl [(cA, .int)] A s s.heap [] (wdX a cA u) := ⟨hK, hP, hD, hS⟩
  have hC : tC p s m meth c ([.ref (a 5), .ref (a 1), .int x2, .int x3] : List Value).toArray b_Ar_arrive 5 none wsA R_Ar A := ⟨hx, hb, hr, hml, hown, hts, hlocks, hA, hN⟩
  have hl := lv_entry ([.ref (a 5), .ref (a 1), .int x2, .int x3]) (n := 5) (Nat.le_of_ble_eq_true rfl)
  rw [lg_entry_eq]
  generalize (lg_sl ([.ref (a 5), .ref (a 1), .int x2, .int x3]) ++ List.replicate (5 - (lg_sl ([.ref (a 5), .ref (a 1), .int x2, .int x3])).length) Slot.unset).toArray = ls at hl ⊢
  have hl : lv_has ls 5 [(0, .ref (a 5)), (1, .ref (a 1)), (2, .int x2), (3, .int x3)] := hl
  have hw : (vp_in x2 12 ∧ ((x3 < (u.2 13 x2.toNatClampNeg) → (vp_in x2 12 ∧ (∃ k, w_Ar_arrive_21 post k x2 x3 0 (tA u 13 x2 x3)))) ∧ (¬ x3 < (u.2 13 x2.toNatClampNeg) → (post u)))) := hw
  refine lv_iload_n hx hb d_Ar_arrive_0 rfl (lv_at hl 3 rfl) ?_
  refine lv_aload_n hx hb d_Ar_arrive_1 rfl (lv_at hl 0 rfl) ?_
  refine va_get (D := (dC, dI)) (C := R_Ar) (T := F_Ar) (N := 2) hx hb hts in_Ar hown hI.1 hI.2.1 5 (wdX_o5 a cA _) rfl 0 (by decide) (hts _ wA_197) (fun _ h9 => h9) rfl d_Ar_arrive_2 ?_
  refine lv_iload_n hx hb d_Ar_arrive_5 rfl (lv_at hl 2 rfl) ?_
  obtain ⟨hi, hw⟩ := hw
  refine va_iald (D := (dC, dI)) hx hb hI.1 hI.2.1 23 0 (wdX_o23 a cA _) rfl hi d_Ar_arrive_6 ?_
  refine lv_icmp_lt (tgt := 11) hx hb d_Ar_arrive_7 (by decide) (fun hc => ?_) (fun hc => ?_)
  · have hw := hw.1 hc
    refine lv_aload_n hx hb d_Ar_arrive_11 rfl (lv_at hl 0 rfl) ?_
    refine va_get (D := (dC, dI)) (C := R_Ar) (T := F_Ar) (N := 2) hx hb hts in_Ar hown hI.1 hI.2.1 5 (wdX_o5 a cA _) rfl 0 (by decide) (hts _ wA_197) (fun _ h9 => h9) rfl d_Ar_arrive_12 ?_
    refine lv_iload_n hx hb d_Ar_arrive_15 rfl (lv_at hl 2 rfl) ?_
    refine lv_iload_n hx hb d_Ar_arrive_16 rfl (lv_at hl 3 rfl) ?_
    obtain ⟨hi, hw⟩ := hw
    refine tr_iast (w := wdX a cA) hx hb hI 23 0 13 (wdX_o23 a cA _) rfl (wdX_a13 a cA _ _ _) hi d_Ar_arrive_17 (fun H locs hI => ?_)
    refine lv_iconst (v := 0) hx hb d_Ar_arrive_18 (by decide) ?_
    refine lv_istore (lv' := [(4, .int 0), (0, .ref (a 5)), (1, .ref (a 1)), (2, .int x2), (3, .int x3)]) hx hb d_Ar_arrive_19 hl (by decide) rfl (fun ls hl => ?_)
    obtain ⟨k, hw⟩ := hw
    exact k_Ar_arrive_21 hC post k _ _ _ _ _ _ ls hw hI (lv_sub hl [1, 2, 3, 4, 0] rfl)
  · have hw := hw.2 hc
    exact tr_vret hx hb hr hlocks hI hw d_Ar_arrive_10
def w_Ar_addOneDeparture_2 (post : tS → Prop) : Nat → Int32 → tS → Prop
  | 0 => fun _ _ => False
  | n + 1 => fun x3 u => (((u.1 2) ≤ x3 → (post u)) ∧ (¬ (u.1 2) ≤ x3 → (w_Bo_rideAt (fun r18 u18 => (vp_in x3 280 ∧ (vp_in r18 40 ∧ (w_Ar_mayTake (fun r48 u48 => ((r48 = 0 → (w_Ar_addOneDeparture_2 post n (x3 + 1) u48)) ∧ (¬ r48 = 0 → (vp_in r18 40 ∧ (vp_in r18 40 ∧ (w_Ar_arrive (fun u79 => (w_Ar_addOneDeparture_2 post n (x3 + 1) u79)) (u48.2 2 r18.toNatClampNeg) ((u18.2 8 x3.toNatClampNeg) + (u48.2 4 r18.toNatClampNeg)) u48)))))) (u18.2 1 r18.toNatClampNeg) (u18.2 8 x3.toNatClampNeg) u18)))) x3 u)))
def w_Ar_addOneDeparture (post : tS → Prop) (u : tS) : Prop := (∃ k, w_Ar_addOneDeparture_2 post k 0 u)
set_option maxRecDepth 100000 in
set_option maxHeartbeats 4000000 in
theorem k_Ar_addOneDeparture_2 {p : Program} {l : Launch} {e : Env} {s : State} {m : MethodId} {args : Array Value} {below : List Frame} {meth : Method} {c : Code} {dC : Nat → ClassId} {dI : Nat → Nat → Nat} {cA : ClassId} {a : Nat → Nat} {A : Nat → Prop} (hC : tC p s m meth c args b_Ar_addOneDeparture 6 none wsA R_Ar A) (post : tS → Prop) : ∀ n : Nat, ∀ (x3 : Int32) (u : tS) (H : Heap) (locs : List Loc) (ls : Array Slot), w_Ar_addOneDeparture_2 post n x3 u → tX (dC, dI) twCl [(cA, .int)] A s H locs (wdX a cA u) → lv_has ls 6 [(0, .ref (a 5)), (1, .ref (a 1)), (2, .ref (a 5)), (3, .int x3)] → W p l e ({ frames := 2, cells := 0, slots := 0, locals := 46 }) s m args below meth c H locs 0 0 (MQ below (va_Qv post (tB (dC, dI) twCl [(cA, .int)] A (wdX a cA)) A) args s 0 0 A) (F0 m 2 ls []) := by
  obtain ⟨hx, hb, hr, hml, hown, hts, hlocks, hA, hN⟩ := id hC
  intro n
  induction n with
  | zero => intro x3 u H locs ls hw; exact False.elim hw
  | succ n ih =>
    intro x3 u H locs ls hw hI hl
    refine lv_iload_n hx hb d_Ar_addOneDeparture_2 rfl (lv_at hl 3 rfl) ?_
    refine lv_aload_n hx hb d_Ar_addOneDeparture_3 rfl (lv_at hl 1 rfl) ?_
    refine va_get (D := (dC, dI)) (C := R_Ne) (T := F_Ne) (N := 5) hx hb hts in_Ne hown hI.1 hI.2.1 1 (wdX_o1 a cA _) rfl 3 (by decide) (hts _ wA_174) (fun _ h9 => h9) rfl d_Ar_addOneDeparture_4 ?_
    refine va_get (D := (dC, dI)) (C := R_Bo) (T := F_Bo) (N := 3) hx hb hts in_Bo hown hI.1 hI.2.1 3 (wdX_o3 a cA _) rfl 0 (by decide) (hts _ wA_114) (fun _ h9 => h9) rfl d_Ar_addOneDeparture_7 ?_
    refine lv_icmp_ge (tgt := 88) hx hb d_Ar_addOneDeparture_10 (by decide) (fun hc => ?_) (fun hc => ?_)
    · have hw := hw.1 hc
      exact tr_vret hx hb hr hlocks hI hw d_Ar_addOneDeparture_88
    · have hw := hw.2 hc
      refine lv_aload_n hx hb d_Ar_addOneDeparture_13 rfl (lv_at hl 1 rfl) ?_
      refine va_get (D := (dC, dI)) (C := R_Ne) (T := F_Ne) (N := 5) hx hb hts in_Ne hown hI.1 hI.2.1 1 (wdX_o1 a cA _) rfl 3 (by decide) (hts _ wA_174) (fun _ h9 => h9) rfl d_Ar_addOneDeparture_14 ?_
      refine lv_iload_n hx hb d_Ar_addOneDeparture_17 rfl (lv_at hl 3 rfl) ?_
      refine tr_goi (w := wdX a cA) hI hA (va_runV (As := [.int x3]) (rest := []) ⟨hx, hb, hml, hown, hts⟩ (c_Bo_rideAt l dC dI cA a _ _ _ _) (cwV 1 hts (wsA_goodV wA_408 wA_409 wA_410 wA_33 wA_411) rfl rfl rfl (by decide +kernel) ⟨Nat.le_of_ble_eq_true rfl, Nat.le_of_ble_eq_true rfl⟩) (tr_preV (ci := 3) (q0 := 3) hI rfl (wdX_o3 a cA _) rfl hN hw) rfl rfl hl.1 rfl (lv_room (Nat.le_of_ble_eq_true rfl)) d_Ar_addOneDeparture_18 ⟨Nat.zero_le _, Nat.zero_le _⟩) (fun r18 u18 H locs hw hI => ?_)
      refine lv_istore (lv' := [(4, .int r18), (0, .ref (a 5)), (1, .ref (a 1)), (2, .ref (a 5)), (3, .int x3)]) hx hb d_Ar_addOneDeparture_21 hl (by decide) rfl (fun ls hl => ?_)
      refine lv_aload_n hx hb d_Ar_addOneDeparture_23 rfl (lv_at hl 2 rfl) ?_
      refine va_get (D := (dC, dI)) (C := R_Ne) (T := F_Ne) (N := 5) hx hb hts in_Ne hown hI.1 hI.2.1 1 (wdX_o1 a cA _) rfl 3 (by decide) (hts _ wA_174) (fun _ h9 => h9) rfl d_Ar_addOneDeparture_24 ?_
      refine va_get (D := (dC, dI)) (C := R_Bo) (T := F_Bo) (N := 3) hx hb hts in_Bo hown hI.1 hI.2.1 3 (wdX_o3 a cA _) rfl 2 (by decide) (hts _ wA_119) (fun _ h9 => h9) rfl d_Ar_addOneDeparture_27 ?_
      refine lv_iload_n hx hb d_Ar_addOneDeparture_30 rfl (lv_at hl 4 rfl) ?_
      obtain ⟨hi, hw⟩ := hw
      refine va_iald (D := (dC, dI)) hx hb hI.1 hI.2.1 18 0 (wdX_o18 a cA _) rfl hi d_Ar_addOneDeparture_31 ?_
      refine lv_istore (lv' := [(5, .int (u18.2 8 x3.toNatClampNeg)), (4, .int r18), (0, .ref (a 5)), (1, .ref (a 1)), (2, .ref (a 5)), (3, .int x3)]) hx hb d_Ar_addOneDeparture_32 hl (by decide) rfl (fun ls hl => ?_)
      refine lv_aload_n hx hb d_Ar_addOneDeparture_34 rfl (lv_at hl 4 rfl) ?_
      refine lv_aload_n hx hb d_Ar_addOneDeparture_35 rfl (lv_at hl 3 rfl) ?_
      refine lv_aload_n hx hb d_Ar_addOneDeparture_36 rfl (lv_at hl 3 rfl) ?_
      refine va_get (D := (dC, dI)) (C := R_Ne) (T := F_Ne) (N := 5) hx hb hts in_Ne hown hI.1 hI.2.1 1 (wdX_o1 a cA _) rfl 2 (by decide) (hts _ wA_170) (fun _ h9 => h9) rfl d_Ar_addOneDeparture_37 ?_
      refine va_get (D := (dC, dI)) (C := R_Ri) (T := F_Ri) (N := 7) hx hb hts in_Ri hown hI.1 hI.2.1 2 (wdX_o2 a cA _) rfl 1 (by decide) (hts _ wA_71) (fun _ h9 => h9) rfl d_Ar_addOneDeparture_40 ?_
      refine lv_iload hx hb d_Ar_addOneDeparture_43 (lv_at hl 1 rfl) ?_
      obtain ⟨hi, hw⟩ := hw
      refine va_iald (D := (dC, dI)) hx hb hI.1 hI.2.1 11 0 (wdX_o11 a cA _) rfl hi d_Ar_addOneDeparture_45 ?_
      refine lv_iload hx hb d_Ar_addOneDeparture_46 (lv_at hl 0 rfl) ?_
      refine tr_goi (w := wdX a cA) hI hA (va_runV (As := [.ref (a 1), .int (u18.2 1 r18.toNatClampNeg), .int (u18.2 8 x3.toNatClampNeg)]) (rest := []) ⟨hx, hb, hml, hown, hts⟩ (c_Ar_mayTake l dC dI cA a _ _ _ _ _) (cwV 3 hts (wsA_goodV wA_412 wA_413 wA_414 wA_36 wA_415) rfl rfl rfl (by decide +kernel) ⟨Nat.le_of_ble_eq_true rfl, Nat.le_of_ble_eq_true rfl⟩) (tr_preV (ci := 5) (q0 := 5) hI rfl (wdX_o5 a cA _) rfl hN hw) rfl rfl hl.1 rfl (lv_room (Nat.le_of_ble_eq_true rfl)) d_Ar_addOneDeparture_48 ⟨Nat.zero_le _, Nat.zero_le _⟩) (fun r48 u48 H locs hw hI => ?_)
      refine lv_if_eq (tgt := 82) hx hb d_Ar_addOneDeparture_51 (by decide) (fun hc => ?_) (fun hc => ?_)
      · have hw := hw.1 hc
        refine lv_iinc (v := (x3 + 1)) (lv' := [(3, .int (x3 + 1)), (5, .int (u18.2 8 x3.toNatClampNeg)), (4, .int r18), (0, .ref (a 5)), (1, .ref (a 1)), (2, .ref (a 5))]) hx hb d_Ar_addOneDeparture_82 hl (k := 5) rfl rfl (by decide) rfl (fun ls hl => ?_)
        refine lv_goto (tgt := 2) hx hb d_Ar_addOneDeparture_85 (by decide) ?_
        exact ih _ _ _ _ ls hw hI (lv_sub hl [3, 4, 5, 0] rfl)
      · have hw := hw.2 hc
        refine lv_aload_n hx hb d_Ar_addOneDeparture_54 rfl (lv_at hl 2 rfl) ?_
        refine lv_aload_n hx hb d_Ar_addOneDeparture_55 rfl (lv_at hl 3 rfl) ?_
        refine lv_aload_n hx hb d_Ar_addOneDeparture_56 rfl (lv_at hl 3 rfl) ?_
        refine va_get (D := (dC, dI)) (C := R_Ne) (T := F_Ne) (N := 5) hx hb hts in_Ne hown hI.1 hI.2.1 1 (wdX_o1 a cA _) rfl 2 (by decide) (hts _ wA_170) (fun _ h9 => h9) rfl d_Ar_addOneDeparture_57 ?_
        refine va_get (D := (dC, dI)) (C := R_Ri) (T := F_Ri) (N := 7) hx hb hts in_Ri hown hI.1 hI.2.1 2 (wdX_o2 a cA _) rfl 2 (by decide) (hts _ wA_75) (fun _ h9 => h9) rfl d_Ar_addOneDeparture_60 ?_
        refine lv_iload hx hb d_Ar_addOneDeparture_63 (lv_at hl 1 rfl) ?_
        obtain ⟨hi, hw⟩ := hw
        refine va_iald (D := (dC, dI)) hx hb hI.1 hI.2.1 12 0 (wdX_o12 a cA _) rfl hi d_Ar_addOneDeparture_65 ?_
        refine lv_iload hx hb d_Ar_addOneDeparture_66 (lv_at hl 0 rfl) ?_
        refine lv_aload_n hx hb d_Ar_addOneDeparture_68 rfl (lv_at hl 3 rfl) ?_
        refine va_get (D := (dC, dI)) (C := R_Ne) (T := F_Ne) (N := 5) hx hb hts in_Ne hown hI.1 hI.2.1 1 (wdX_o1 a cA _) rfl 2 (by decide) (hts _ wA_170) (fun _ h9 => h9) rfl d_Ar_addOneDeparture_69 ?_
        refine va_get (D := (dC, dI)) (C := R_Ri) (T := F_Ri) (N := 7) hx hb hts in_Ri hown hI.1 hI.2.1 2 (wdX_o2 a cA _) rfl 4 (by decide) (hts _ wA_82) (fun _ h9 => h9) rfl d_Ar_addOneDeparture_72 ?_
        refine lv_iload hx hb d_Ar_addOneDeparture_75 (lv_at hl 1 rfl) ?_
        obtain ⟨hi, hw⟩ := hw
        refine va_iald (D := (dC, dI)) hx hb hI.1 hI.2.1 14 0 (wdX_o14 a cA _) rfl hi d_Ar_addOneDeparture_77 ?_
        refine lv_iadd hx hb d_Ar_addOneDeparture_78 ?_
        refine tr_gov (w := wdX a cA) hI hA (va_runV (As := [.ref (a 1), .int (u48.2 2 r18.toNatClampNeg), .int ((u18.2 8 x3.toNatClampNeg) + (u48.2 4 r18.toNatClampNeg))]) (rest := []) ⟨hx, hb, hml, hown, hts⟩ (c_Ar_arrive l dC dI cA a _ _ _ _ _) (cwV 3 hts (wsA_goodV wA_416 wA_418 wA_2 wA_36 wA_419) rfl rfl rfl (by decide +kernel) ⟨Nat.le_of_ble_eq_true rfl, Nat.le_of_ble_eq_true rfl⟩) (tr_preV (ci := 5) (q0 := 5) hI rfl (wdX_o5 a cA _) rfl hN hw) rfl rfl hl.1 rfl (lv_room (Nat.le_of_ble_eq_true rfl)) d_Ar_addOneDeparture_79 ⟨Nat.zero_le _, Nat.zero_le _⟩) (fun u79 H locs hw hI => ?_)
        refine lv_iinc (v := (x3 + 1)) (lv' := [(3, .int (x3 + 1)), (5, .int (u18.2 8 x3.toNatClampNeg)), (4, .int r18), (0, .ref (a 5)), (1, .ref (a 1)), (2, .ref (a 5))]) hx hb d_Ar_addOneDeparture_82 hl (k := 5) rfl rfl (by decide) rfl (fun ls hl => ?_)
        refine lv_goto (tgt := 2) hx hb d_Ar_addOneDeparture_85 (by decide) ?_
        exact ih _ _ _ _ ls hw hI (lv_sub hl [3, 4, 5, 0] rfl)
set_option maxRecDepth 100000 in
set_option maxHeartbeats 4000000 in
theorem c_Ar_addOneDeparture (l : Launch) (dC : Nat → ClassId) (dI : Nat → Nat → Nat) (cA : ClassId) (a : Nat → Nat) (u : tS) (post : tS → Prop) (sz : Nat) : Met l y_Ar_addOneDeparture ws_Ar_addOneDeparture ({ frames := 2, cells := 0, slots := 0, locals := 46 }) (va_Pc [.ref (a 5), .ref (a 1), .ref (a 5)] (tP (dC, dI) twCl [(cA, .int)] (wdX a cA) u sz (w_Ar_addOneDeparture post u))) (va_Qv post (tB (dC, dI) twCl [(cA, .int)] (va_A (wdX a cA u) sz) (wdX a cA)) (va_A (wdX a cA u) sz)) 0 0 (va_A (wdX a cA u) sz) := by
  refine Met.ofW (cc := b_Ar_addOneDeparture) (maxL := 6) (ret := none) (by decide) rfl ?_
  intro p e s m args below meth c s₁ B hml hv
  obtain ⟨rfl, hsz, hP, hK, hD0, hN, hw⟩ := hv
  have hx := B.exec
  have hb := B.bytes
  have hr := B.returns
  have hts : ∀ w ∈ wsA, w.before _ s = true := fun w h => atoms_spec (ws := ws_Ar_addOneDeparture) B.pre w (List.mem_cons_of_mem _ h)
  have hown : s.vm.findClass R_Ar = some m.cls := findClass_of_methodNamed B.named
  have hlocks := B.notSynchronized
  subst hsz
  have hD := hD0.self (sz := s.heap.size)
  generalize hAe : va_A (wdX a cA u) s.heap.size = A at hD ⊢
  have hA : ∀ q : Nat, s.heap.size ≤ q → A q := fun q h => by rw [← hAe]; exact Or.inr h
  have hS : va_S A s.heap s.heap [] := va_S.rf
  have hI : tX (dC, dI) twCl [(cA, .int)] A s s.heap [] (wdX a cA u) := ⟨hK, hP, hD, hS⟩
  have hC : tC p s m meth c ([.ref (a 5), .ref (a 1), .ref (a 5)] : List Value).toArray b_Ar_addOneDeparture 6 none wsA R_Ar A := ⟨hx, hb, hr, hml, hown, hts, hlocks, hA, hN⟩
  have hl := lv_entry ([.ref (a 5), .ref (a 1), .ref (a 5)]) (n := 6) (Nat.le_of_ble_eq_true rfl)
  rw [lg_entry_eq]
  generalize (lg_sl ([.ref (a 5), .ref (a 1), .ref (a 5)]) ++ List.replicate (6 - (lg_sl ([.ref (a 5), .ref (a 1), .ref (a 5)])).length) Slot.unset).toArray = ls at hl ⊢
  have hl : lv_has ls 6 [(0, .ref (a 5)), (1, .ref (a 1)), (2, .ref (a 5))] := hl
  have hw : (∃ k, w_Ar_addOneDeparture_2 post k 0 u) := hw
  refine lv_iconst (v := 0) hx hb d_Ar_addOneDeparture_0 (by decide) ?_
  refine lv_istore_n (lv' := [(3, .int 0), (0, .ref (a 5)), (1, .ref (a 1)), (2, .ref (a 5))]) hx hb d_Ar_addOneDeparture_1 rfl hl (by decide) rfl (fun ls hl => ?_)
  obtain ⟨k, hw⟩ := hw
  exact k_Ar_addOneDeparture_2 hC post k _ _ _ _ ls hw hI (lv_sub hl [1, 2, 3, 0] rfl)
def w_Ar_find (post : tS → Prop) (x2 : Int32) (x3 : Int32) (u : tS) : Prop := (w_Ar_begin (fun u4 => (w_Ar_addOneDeparture (fun u10 => (post u10)) u4)) x2 x3 u)
set_option maxRecDepth 100000 in
set_option maxHeartbeats 4000000 in
theorem c_Ar_find (l : Launch) (dC : Nat → ClassId) (dI : Nat → Nat → Nat) (cA : ClassId) (a : Nat → Nat) (u : tS) (x2 : Int32) (x3 : Int32) (post : tS → Prop) (sz : Nat) : Met l y_Ar_find ws_Ar_find ({ frames := 3, cells := 0, slots := 0, locals := 71 }) (va_Pc [.ref (a 5), .ref (a 1), .int x2, .int x3] (tP (dC, dI) twCl [(cA, .int)] (wdX a cA) u sz (w_Ar_find post x2 x3 u))) (va_Qv post (tB (dC, dI) twCl [(cA, .int)] (va_A (wdX a cA u) sz) (wdX a cA)) (va_A (wdX a cA u) sz)) 0 0 (va_A (wdX a cA u) sz) := by
  refine Met.ofW (cc := b_Ar_find) (maxL := 4) (ret := none) (by decide) rfl ?_
  intro p e s m args below meth c s₁ B hml hv
  obtain ⟨rfl, hsz, hP, hK, hD0, hN, hw⟩ := hv
  have hx := B.exec
  have hb := B.bytes
  have hr := B.returns
  have hts : ∀ w ∈ wsA, w.before _ s = true := fun w h => atoms_spec (ws := ws_Ar_find) B.pre w (List.mem_cons_of_mem _ h)
  have hown : s.vm.findClass R_Ar = some m.cls := findClass_of_methodNamed B.named
  have hlocks := B.notSynchronized
  subst hsz
  have hD := hD0.self (sz := s.heap.size)
  generalize hAe : va_A (wdX a cA u) s.heap.size = A at hD ⊢
  have hA : ∀ q : Nat, s.heap.size ≤ q → A q := fun q h => by rw [← hAe]; exact Or.inr h
  have hS : va_S A s.heap s.heap [] := va_S.rf
  have hI : tX (dC, dI) twCl [(cA, .int)] A s s.heap [] (wdX a cA u) := ⟨hK, hP, hD, hS⟩
  have hC : tC p s m meth c ([.ref (a 5), .ref (a 1), .int x2, .int x3] : List Value).toArray b_Ar_find 4 none wsA R_Ar A := ⟨hx, hb, hr, hml, hown, hts, hlocks, hA, hN⟩
  have hl := lv_entry ([.ref (a 5), .ref (a 1), .int x2, .int x3]) (n := 4) (Nat.le_of_ble_eq_true rfl)
  rw [lg_entry_eq]
  generalize (lg_sl ([.ref (a 5), .ref (a 1), .int x2, .int x3]) ++ List.replicate (4 - (lg_sl ([.ref (a 5), .ref (a 1), .int x2, .int x3])).length) Slot.unset).toArray = ls at hl ⊢
  have hl : lv_has ls 4 [(0, .ref (a 5)), (1, .ref (a 1)), (2, .int x2), (3, .int x3)] := hl
  have hw : (w_Ar_begin (fun u4 => (w_Ar_addOneDeparture (fun u10 => (post u10)) u4)) x2 x3 u) := hw
  refine lv_aload_n hx hb d_Ar_find_0 rfl (lv_at hl 0 rfl) ?_
  refine lv_aload_n hx hb d_Ar_find_1 rfl (lv_at hl 1 rfl) ?_
  refine lv_iload_n hx hb d_Ar_find_2 rfl (lv_at hl 2 rfl) ?_
  refine lv_iload_n hx hb d_Ar_find_3 rfl (lv_at hl 3 rfl) ?_
  refine tr_gov (w := wdX a cA) hI hA (va_runV (As := [.ref (a 1), .int x2, .int x3]) (rest := []) ⟨hx, hb, hml, hown, hts⟩ (c_Ar_begin l dC dI cA a _ _ _ _ _) (cwV 3 hts (wsA_goodV wA_397 wA_398 wA_399 wA_36 wA_400) rfl rfl rfl (by decide +kernel) ⟨Nat.le_of_ble_eq_true rfl, Nat.le_of_ble_eq_true rfl⟩) (tr_preV (ci := 5) (q0 := 5) hI rfl (wdX_o5 a cA _) rfl hN hw) rfl rfl hl.1 rfl (lv_room (Nat.le_of_ble_eq_true rfl)) d_Ar_find_4 ⟨Nat.zero_le _, Nat.zero_le _⟩) (fun u4 H locs hw hI => ?_)
  refine lv_aload_n hx hb d_Ar_find_7 rfl (lv_at hl 0 rfl) ?_
  refine lv_aload_n hx hb d_Ar_find_8 rfl (lv_at hl 1 rfl) ?_
  refine lv_aload_n hx hb d_Ar_find_9 rfl (lv_at hl 0 rfl) ?_
  refine tr_gov (w := wdX a cA) hI hA (va_runV (As := [.ref (a 1), .ref (a 5)]) (rest := []) ⟨hx, hb, hml, hown, hts⟩ (c_Ar_addOneDeparture l dC dI cA a _ _ _) (cwV 2 hts (wsA_goodV wA_404 wA_405 wA_406 wA_36 wA_407) rfl rfl rfl (by decide +kernel) ⟨Nat.le_of_ble_eq_true rfl, Nat.le_of_ble_eq_true rfl⟩) (tr_preV (ci := 5) (q0 := 5) hI rfl (wdX_o5 a cA _) rfl hN hw) rfl rfl hl.1 rfl (lv_room (Nat.le_of_ble_eq_true rfl)) d_Ar_find_10 ⟨Nat.zero_le _, Nat.zero_le _⟩) (fun u10 H locs hw hI => ?_)
  exact tr_vret hx hb hr hlocks hI hw d_Ar_find_13
def w_Ar_first (post : Int32 → tS → Prop) (x1 : Int32) (u : tS) : Prop := (vp_in x1 12 ∧ (vp_in x1 12 ∧ (post (if (u.2 14 x1.toNatClampNeg) < (u.2 13 x1.toNatClampNeg) then (u.2 14 x1.toNatClampNeg) else (u.2 13 x1.toNatClampNeg)) u)))
set_option maxRecDepth 100000 in
set_option maxHeartbeats 4000000 in
theorem c_Ar_first (l : Launch) (dC : Nat → ClassId) (dI : Nat → Nat → Nat) (cA : ClassId) (a : Nat → Nat) (u : tS) (x1 : Int32) (post : Int32 → tS → Prop) (sz : Nat) : Met l y_Ar_first ws_Ar_first ({ frames := 1, cells := 0, slots := 0, locals := 13 }) (va_Pc [.ref (a 5), .int x1] (tP (dC, dI) twCl [(cA, .int)] (wdX a cA) u sz (w_Ar_first post x1 u))) (va_Qi post (tB (dC, dI) twCl [(cA, .int)] (va_A (wdX a cA u) sz) (wdX a cA)) (va_A (wdX a cA u) sz)) 0 0 (va_A (wdX a cA u) sz) := by
  refine Met.ofW (cc := b_Ar_first) (maxL := 2) (ret := (some .int)) (by decide) rfl ?_
  intro p e s m args below meth c s₁ B hml hv
  obtain ⟨rfl, hsz, hP, hK, hD0, hN, hw⟩ := hv
  have hx := B.exec
  have hb := B.bytes
  have hr := B.returns
  have hts : ∀ w ∈ wsA, w.before _ s = true := fun w h => atoms_spec (ws := ws_Ar_first) B.pre w (List.mem_cons_of_mem _ h)
  have hown : s.vm.findClass R_Ar = some m.cls := findClass_of_methodNamed B.named
  have hlocks := B.notSynchronized
  subst hsz
  have hD := hD0.self (sz := s.heap.size)
  generalize hAe : va_A (wdX a cA u) s.heap.size = A at hD ⊢
  have hA : ∀ q : Nat, s.heap.size ≤ q → A q := fun q h => by rw [← hAe]; exact Or.inr h
  have hS : va_S A s.heap s.heap [] := va_S.rf
  have hI : tX (dC, dI) twCl [(cA, .int)] A s s.heap [] (wdX a cA u) := ⟨hK, hP, hD, hS⟩
  have hC : tC p s m meth c ([.ref (a 5), .int x1] : List Value).toArray b_Ar_first 2 (some .int) wsA R_Ar A := ⟨hx, hb, hr, hml, hown, hts, hlocks, hA, hN⟩
  have hl := lv_entry ([.ref (a 5), .int x1]) (n := 2) (Nat.le_of_ble_eq_true rfl)
  rw [lg_entry_eq]
  generalize (lg_sl ([.ref (a 5), .int x1]) ++ List.replicate (2 - (lg_sl ([.ref (a 5), .int x1])).length) Slot.unset).toArray = ls at hl ⊢
  have hl : lv_has ls 2 [(0, .ref (a 5)), (1, .int x1)] := hl
  have hw : (vp_in x1 12 ∧ (vp_in x1 12 ∧ (post (if (u.2 14 x1.toNatClampNeg) < (u.2 13 x1.toNatClampNeg) then (u.2 14 x1.toNatClampNeg) else (u.2 13 x1.toNatClampNeg)) u))) := hw
  refine lv_aload_n hx hb d_Ar_first_0 rfl (lv_at hl 0 rfl) ?_
  refine va_get (D := (dC, dI)) (C := R_Ar) (T := F_Ar) (N := 2) hx hb hts in_Ar hown hI.1 hI.2.1 5 (wdX_o5 a cA _) rfl 0 (by decide) (hts _ wA_197) (fun _ h9 => h9) rfl d_Ar_first_1 ?_
  refine lv_iload_n hx hb d_Ar_first_4 rfl (lv_at hl 1 rfl) ?_
  obtain ⟨hi, hw⟩ := hw
  refine va_iald (D := (dC, dI)) hx hb hI.1 hI.2.1 23 0 (wdX_o23 a cA _) rfl hi d_Ar_first_5 ?_
  refine lv_aload_n hx hb d_Ar_first_6 rfl (lv_at hl 0 rfl) ?_
  refine va_get (D := (dC, dI)) (C := R_Ar) (T := F_Ar) (N := 2) hx hb hts in_Ar hown hI.1 hI.2.1 5 (wdX_o5 a cA _) rfl 1 (by decide) (hts _ wA_198) (fun _ h9 => h9) rfl d_Ar_first_7 ?_
  refine lv_iload_n hx hb d_Ar_first_10 rfl (lv_at hl 1 rfl) ?_
  obtain ⟨hi, hw⟩ := hw
  refine va_iald (D := (dC, dI)) hx hb hI.1 hI.2.1 24 0 (wdX_o24 a cA _) rfl hi d_Ar_first_11 ?_
  refine va_mmin hx hb (by rw [hml]; exact hl.1.symm) hown (hts _ wA_403) (hts _ wA_369) (hts _ wA_41) (hts _ wA_370) (Nat.le_of_ble_eq_true rfl) (Nat.le_of_ble_eq_true rfl) (Nat.zero_le _) (Nat.zero_le _) d_Ar_first_12 ?_
  exact tr_iret hx hb hr hlocks hI hw d_Ar_first_15
def w_T_orNone (post : Int32 → tS → Prop) (x0 : Int32) (u : tS) : Prop := ((x0 < 1000000 → (post x0 u)) ∧ (¬ x0 < 1000000 → (post (-1) u)))
set_option maxRecDepth 100000 in
set_option maxHeartbeats 4000000 in
theorem c_T_orNone (l : Launch) (dC : Nat → ClassId) (dI : Nat → Nat → Nat) (cA : ClassId) (a : Nat → Nat) (u : tS) (x0 : Int32) (post : Int32 → tS → Prop) (sz : Nat) : Met l y_T_orNone ws_T_orNone ({ frames := 0, cells := 0, slots := 0, locals := 0 }) (va_Pc [.int x0] (tP (dC, dI) twCl [(cA, .int)] (wdX a cA) u sz (w_T_orNone post x0 u))) (va_Qi post (tB (dC, dI) twCl [(cA, .int)] (va_A (wdX a cA u) sz) (wdX a cA)) (va_A (wdX a cA u) sz)) 0 0 (va_A (wdX a cA u) sz) := by
  refine Met.ofW (cc := b_T_orNone) (maxL := 1) (ret := (some .int)) (by decide) rfl ?_
  intro p e s m args below meth c s₁ B hml hv
  obtain ⟨rfl, hsz, hP, hK, hD0, hN, hw⟩ := hv
  have hx := B.exec
  have hb := B.bytes
  have hr := B.returns
  have hts : ∀ w ∈ wsA, w.before _ s = true := fun w h => atoms_spec (ws := ws_T_orNone) B.pre w (List.mem_cons_of_mem _ h)
  have hown : s.vm.findClass R_T = some m.cls := findClass_of_methodNamed B.named
  have hlocks := B.notSynchronized
  subst hsz
  have hD := hD0.self (sz := s.heap.size)
  generalize hAe : va_A (wdX a cA u) s.heap.size = A at hD ⊢
  have hA : ∀ q : Nat, s.heap.size ≤ q → A q := fun q h => by rw [← hAe]; exact Or.inr h
  have hS : va_S A s.heap s.heap [] := va_S.rf
  have hI : tX (dC, dI) twCl [(cA, .int)] A s s.heap [] (wdX a cA u) := ⟨hK, hP, hD, hS⟩
  have hC : tC p s m meth c ([.int x0] : List Value).toArray b_T_orNone 1 (some .int) wsA R_T A := ⟨hx, hb, hr, hml, hown, hts, hlocks, hA, hN⟩
  have hl := lv_entry ([.int x0]) (n := 1) (Nat.le_of_ble_eq_true rfl)
  rw [lg_entry_eq]
  generalize (lg_sl ([.int x0]) ++ List.replicate (1 - (lg_sl ([.int x0])).length) Slot.unset).toArray = ls at hl ⊢
  have hl : lv_has ls 1 [(0, .int x0)] := hl
  have hw : ((x0 < 1000000 → (post x0 u)) ∧ (¬ x0 < 1000000 → (post (-1) u))) := hw
  refine lv_iload_n hx hb d_T_orNone_0 rfl (lv_at hl 0 rfl) ?_
  refine lv_ldc (v := 1000000) hx hb hown (hts _ wA_428) d_T_orNone_1 ?_
  refine lv_icmp_lt (tgt := 10) hx hb d_T_orNone_3 (by decide) (fun hc => ?_) (fun hc => ?_)
  · have hw := hw.1 hc
    refine lv_iload_n hx hb d_T_orNone_10 rfl (lv_at hl 0 rfl) ?_
    exact tr_iret hx hb hr hlocks hI hw d_T_orNone_11
  · have hw := hw.2 hc
    refine lv_iconst (v := (-1)) hx hb d_T_orNone_6 (by decide) ?_
    refine lv_goto (tgt := 11) hx hb d_T_orNone_7 (by decide) ?_
    exact tr_iret hx hb hr hlocks hI hw d_T_orNone_11
