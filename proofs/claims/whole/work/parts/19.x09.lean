def w_Ar_isByWalk (post : Int32 → tS → Prop) (x1 : Int32) (x2 : Int32) (u : tS) : Prop := (vp_in x1 12 ∧ ((x2 < (u.2 14 x1.toNatClampNeg) → (post 0 u)) ∧ (¬ x2 < (u.2 14 x1.toNatClampNeg) → (post 1 u))))
set_option maxRecDepth 100000 in
set_option maxHeartbeats 4000000 in
theorem c_Ar_isByWalk (l : Launch) (dC : Nat → ClassId) (dI : Nat → Nat → Nat) (cA : ClassId) (a : Nat → Nat) (u : tS) (x1 : Int32) (x2 : Int32) (post : Int32 → tS → Prop) (sz : Nat) : Met l y_Ar_isByWalk ws_Ar_isByWalk ({ frames := 0, cells := 0, slots := 0, locals := 0 }) (va_Pc [.ref (a 5), .int x1, .int x2] (tP (dC, dI) twCl [(cA, .int)] (wdX a cA) u sz (w_Ar_isByWalk post x1 x2 u))) (va_Qi post (tB (dC, dI) twCl [(cA, .int)] (va_A (wdX a cA u) sz) (wdX a cA)) (va_A (wdX a cA u) sz)) 0 0 (va_A (wdX a cA u) sz) := by
  refine Met.ofW (cc := b_Ar_isByWalk) (maxL := 3) (ret := (some .boolean)) (by decide) rfl ?_
  intro p e s m args below meth c s₁ B hml hv
  obtain ⟨rfl, hsz, hP, hK, hD0, hN, hw⟩ := hv
  have hx := B.exec
  have hb := B.bytes
  have hr := B.returns
  have hts : ∀ w ∈ wsA, w.before _ s = true := fun w h => atoms_spec (ws := ws_Ar_isByWalk) B.pre w (List.mem_cons_of_mem _ h)
  have hown : s.vm.findClass R_Ar = some m.cls := findClass_of_methodNamed B.named
  have hlocks := B.notSynchronized
  subst hsz
  have hD := hD0.self (sz := s.heap.size)
  generalize hAe : va_A (wdX a cA u) s.heap.size = A at hD ⊢
  have hA : ∀ q : Nat, s.heap.size ≤ q → A q := fun q h => by rw [← hAe]; exact Or.inr h
  have hS : va_S A s.heap s.heap [] := va_S.rf
  have hI : tX (dC, dI) twCl [(cA, .int)] A s s.heap [] (wdX a cA u) := ⟨hK, hP, hD, hS⟩
  have hC : tC p s m meth c ([.ref (a 5), .int x1, .int x2] : List Value).toArray b_Ar_isByWalk 3 (some .boolean) wsA R_Ar A := ⟨hx, hb, hr, hml, hown, hts, hlocks, hA, hN⟩
  have hl := lv_entry ([.ref (a 5), .int x1, .int x2]) (n := 3) (Nat.le_of_ble_eq_true rfl)
  rw [lg_entry_eq]
  generalize (lg_sl ([.ref (a 5), .int x1, .int x2]) ++ List.replicate (3 - (lg_sl ([.ref (a 5), .int x1, .int x2])).length) Slot.unset).toArray = ls at hl ⊢
  have hl : lv_has ls 3 [(0, .ref (a 5)), (1, .int x1), (2, .int x2)] := hl
  have hw : (vp_in x1 12 ∧ ((x2 < (u.2 14 x1.toNatClampNeg) → (post 0 u)) ∧ (¬ x2 < (u.2 14 x1.toNatClampNeg) → (post 1 u)))) := hw
  refine lv_iload_n hx hb d_Ar_isByWalk_0 rfl (lv_at hl 2 rfl) ?_
  refine lv_aload_n hx hb d_Ar_isByWalk_1 rfl (lv_at hl 0 rfl) ?_
  refine va_get (D := (dC, dI)) (C := R_Ar) (T := F_Ar) (N := 2) hx hb hts in_Ar hown hI.1 hI.2.1 5 (wdX_o5 a cA _) rfl 1 (by decide) (hts _ wA_198) (fun _ h9 => h9) rfl d_Ar_isByWalk_2 ?_
  refine lv_iload_n hx hb d_Ar_isByWalk_5 rfl (lv_at hl 1 rfl) ?_
  obtain ⟨hi, hw⟩ := hw
  refine va_iald (D := (dC, dI)) hx hb hI.1 hI.2.1 24 0 (wdX_o24 a cA _) rfl hi d_Ar_isByWalk_6 ?_
  refine lv_icmp_lt (tgt := 14) hx hb d_Ar_isByWalk_7 (by decide) (fun hc => ?_) (fun hc => ?_)
  · have hw := hw.1 hc
    refine lv_iconst (v := 0) hx hb d_Ar_isByWalk_14 (by decide) ?_
    exact tr_zret hx hb hr hlocks hI rfl hw d_Ar_isByWalk_15
  · have hw := hw.2 hc
    refine lv_iconst (v := 1) hx hb d_Ar_isByWalk_10 (by decide) ?_
    refine lv_goto (tgt := 15) hx hb d_Ar_isByWalk_11 (by decide) ?_
    exact tr_zret hx hb hr hlocks hI rfl hw d_Ar_isByWalk_15
def w_Ar_endsByRide (post : Int32 → tS → Prop) (x2 : Int32) (x3 : Int32) (u : tS) : Prop := (w_Ri_goes (fun r14 u14 => ((r14 = 0 → (post 0 u14)) ∧ (¬ r14 = 0 → (w_Ri_leaves (fun r28 u28 => (vp_in x2 40 ∧ (vp_in x2 40 ∧ (vp_in (u28.2 2 x2.toNatClampNeg) 12 ∧ (((r28 + (u28.2 4 x2.toNatClampNeg)) = (u28.2 13 (u28.2 2 x2.toNatClampNeg).toNatClampNeg) → (vp_in x2 40 ∧ (w_Ar_mayTake (fun r75 u75 => ((r75 = 0 → (post 0 u75)) ∧ (¬ r75 = 0 → (post 1 u75)))) (u28.2 1 x2.toNatClampNeg) r28 u28))) ∧ (¬ (r28 + (u28.2 4 x2.toNatClampNeg)) = (u28.2 13 (u28.2 2 x2.toNatClampNeg).toNatClampNeg) → (post 0 u28))))))) ((x2 * 7) + x3) u14)))) ((x2 * 7) + x3) u)
set_option maxRecDepth 100000 in
set_option maxHeartbeats 4000000 in
theorem c_Ar_endsByRide (l : Launch) (dC : Nat → ClassId) (dI : Nat → Nat → Nat) (cA : ClassId) (a : Nat → Nat) (u : tS) (x2 : Int32) (x3 : Int32) (post : Int32 → tS → Prop) (sz : Nat) : Met l y_Ar_endsByRide ws_Ar_endsByRide ({ frames := 1, cells := 0, slots := 0, locals := 23 }) (va_Pc [.ref (a 5), .ref (a 1), .int x2, .int x3] (tP (dC, dI) twCl [(cA, .int)] (wdX a cA) u sz (w_Ar_endsByRide post x2 x3 u))) (va_Qi post (tB (dC, dI) twCl [(cA, .int)] (va_A (wdX a cA u) sz) (wdX a cA)) (va_A (wdX a cA u) sz)) 0 0 (va_A (wdX a cA u) sz) := by
  refine Met.ofW (cc := b_Ar_endsByRide) (maxL := 6) (ret := (some .boolean)) (by decide) rfl ?_
  intro p e s m args below meth c s₁ B hml hv
  obtain ⟨rfl, hsz, hP, hK, hD0, hN, hw⟩ := hv
  have hx := B.exec
  have hb := B.bytes
  have hr := B.returns
  have hts : ∀ w ∈ wsA, w.before _ s = true := fun w h => atoms_spec (ws := ws_Ar_endsByRide) B.pre w (List.mem_cons_of_mem _ h)
  have hown : s.vm.findClass R_Ar = some m.cls := findClass_of_methodNamed B.named
  have hlocks := B.notSynchronized
  subst hsz
  have hD := hD0.self (sz := s.heap.size)
  generalize hAe : va_A (wdX a cA u) s.heap.size = A at hD ⊢
  have hA : ∀ q : Nat, s.heap.size ≤ q → A q := fun q h => by rw [← hAe]; exact Or.inr h
  have hS : va_S A s.heap s.heap [] := va_S.rf
  have hI : tX (dC, dI) twCl [(cA, .int)] A s s.heap [] (wdX a cA u) := ⟨hK, hP, hD, hS⟩
  have hC : tC p s m meth c ([.ref (a 5), .ref (a 1), .int x2, .int x3] : List Value).toArray b_Ar_endsByRide 6 (some .boolean) wsA R_Ar A := ⟨hx, hb, hr, hml, hown, hts, hlocks, hA, hN⟩
  have hl := lv_entry ([.ref (a 5), .ref (a 1), .int x2, .int x3]) (n := 6) (Nat.le_of_ble_eq_true rfl)
  rw [lg_entry_eq]
  generalize (lg_sl ([.ref (a 5), .ref (a 1), .int x2, .int x3]) ++ List.replicate (6 - (lg_sl ([.ref (a 5), .ref (a 1), .int x2, .int x3])).length) Slot.unset).toArray = ls at hl ⊢
  have hl : lv_has ls 6 [(0, .ref (a 5)), (1, .ref (a 1)), (2, .int x2), (3, .int x3)] := hl
  have hw : (w_Ri_goes (fun r14 u14 => ((r14 = 0 → (post 0 u14)) ∧ (¬ r14 = 0 → (w_Ri_leaves (fun r28 u28 => (vp_in x2 40 ∧ (vp_in x2 40 ∧ (vp_in (u28.2 2 x2.toNatClampNeg) 12 ∧ (((r28 + (u28.2 4 x2.toNatClampNeg)) = (u28.2 13 (u28.2 2 x2.toNatClampNeg).toNatClampNeg) → (vp_in x2 40 ∧ (w_Ar_mayTake (fun r75 u75 => ((r75 = 0 → (post 0 u75)) ∧ (¬ r75 = 0 → (post 1 u75)))) (u28.2 1 x2.toNatClampNeg) r28 u28))) ∧ (¬ (r28 + (u28.2 4 x2.toNatClampNeg)) = (u28.2 13 (u28.2 2 x2.toNatClampNeg).toNatClampNeg) → (post 0 u28))))))) ((x2 * 7) + x3) u14)))) ((x2 * 7) + x3) u) := hw
  refine lv_iload_n hx hb d_Ar_endsByRide_0 rfl (lv_at hl 2 rfl) ?_
  refine lv_bipush (v := 7) hx hb d_Ar_endsByRide_1 (by decide) ?_
  refine lv_imul hx hb d_Ar_endsByRide_3 ?_
  refine lv_iload_n hx hb d_Ar_endsByRide_4 rfl (lv_at hl 3 rfl) ?_
  refine lv_iadd hx hb d_Ar_endsByRide_5 ?_
  refine lv_istore (lv' := [(4, .int ((x2 * 7) + x3)), (0, .ref (a 5)), (1, .ref (a 1)), (2, .int x2), (3, .int x3)]) hx hb d_Ar_endsByRide_6 hl (by decide) rfl (fun ls hl => ?_)
  refine lv_aload_n hx hb d_Ar_endsByRide_8 rfl (lv_at hl 2 rfl) ?_
  refine va_get (D := (dC, dI)) (C := R_Ne) (T := F_Ne) (N := 5) hx hb hts in_Ne hown hI.1 hI.2.1 1 (wdX_o1 a cA _) rfl 2 (by decide) (hts _ wA_170) (fun _ h9 => h9) rfl d_Ar_endsByRide_9 ?_
  refine lv_iload hx hb d_Ar_endsByRide_12 (lv_at hl 0 rfl) ?_
  refine tr_goi (w := wdX a cA) hI hA (va_runV (As := [.int ((x2 * 7) + x3)]) (rest := []) ⟨hx, hb, hml, hown, hts⟩ (c_Ri_goes l dC dI cA a _ _ _ _) (cwV 1 hts (wsA_goodV wA_550 wA_337 wA_338 wA_32 wA_339) rfl rfl rfl (by decide +kernel) ⟨Nat.le_of_ble_eq_true rfl, Nat.le_of_ble_eq_true rfl⟩) (tr_preV (ci := 2) (q0 := 2) hI rfl (wdX_o2 a cA _) rfl hN hw) rfl rfl hl.1 rfl (lv_room (Nat.le_of_ble_eq_true rfl)) d_Ar_endsByRide_14 ⟨Nat.zero_le _, Nat.zero_le _⟩) (fun r14 u14 H locs hw hI => ?_)
  refine lv_if_ne (tgt := 22) hx hb d_Ar_endsByRide_17 (by decide) (fun hc => ?_) (fun hc => ?_)
  · have hw := hw.2 hc
    refine lv_aload_n hx hb d_Ar_endsByRide_22 rfl (lv_at hl 2 rfl) ?_
    refine va_get (D := (dC, dI)) (C := R_Ne) (T := F_Ne) (N := 5) hx hb hts in_Ne hown hI.1 hI.2.1 1 (wdX_o1 a cA _) rfl 2 (by decide) (hts _ wA_170) (fun _ h9 => h9) rfl d_Ar_endsByRide_23 ?_
    refine lv_iload hx hb d_Ar_endsByRide_26 (lv_at hl 0 rfl) ?_
    refine tr_goi (w := wdX a cA) hI hA (va_runV (As := [.int ((x2 * 7) + x3)]) (rest := []) ⟨hx, hb, hml, hown, hts⟩ (c_Ri_leaves l dC dI cA a _ _ _ _) (cwV 1 hts (wsA_goodV wA_551 wA_341 wA_342 wA_32 wA_343) rfl rfl rfl (by decide +kernel) ⟨Nat.le_of_ble_eq_true rfl, Nat.le_of_ble_eq_true rfl⟩) (tr_preV (ci := 2) (q0 := 2) hI rfl (wdX_o2 a cA _) rfl hN hw) rfl rfl hl.1 rfl (lv_room (Nat.le_of_ble_eq_true rfl)) d_Ar_endsByRide_28 ⟨Nat.zero_le _, Nat.zero_le _⟩) (fun r28 u28 H locs hw hI => ?_)
    refine lv_istore (lv' := [(5, .int r28), (4, .int ((x2 * 7) + x3)), (0, .ref (a 5)), (1, .ref (a 1)), (2, .int x2), (3, .int x3)]) hx hb d_Ar_endsByRide_31 hl (by decide) rfl (fun ls hl => ?_)
    refine lv_iload hx hb d_Ar_endsByRide_33 (lv_at hl 0 rfl) ?_
    refine lv_aload_n hx hb d_Ar_endsByRide_35 rfl (lv_at hl 3 rfl) ?_
    refine va_get (D := (dC, dI)) (C := R_Ne) (T := F_Ne) (N := 5) hx hb hts in_Ne hown hI.1 hI.2.1 1 (wdX_o1 a cA _) rfl 2 (by decide) (hts _ wA_170) (fun _ h9 => h9) rfl d_Ar_endsByRide_36 ?_
    refine va_get (D := (dC, dI)) (C := R_Ri) (T := F_Ri) (N := 7) hx hb hts in_Ri hown hI.1 hI.2.1 2 (wdX_o2 a cA _) rfl 4 (by decide) (hts _ wA_82) (fun _ h9 => h9) rfl d_Ar_endsByRide_39 ?_
    refine lv_iload_n hx hb d_Ar_endsByRide_42 rfl (lv_at hl 4 rfl) ?_
    obtain ⟨hi, hw⟩ := hw
    refine va_iald (D := (dC, dI)) hx hb hI.1 hI.2.1 14 0 (wdX_o14 a cA _) rfl hi d_Ar_endsByRide_43 ?_
    refine lv_iadd hx hb d_Ar_endsByRide_44 ?_
    refine lv_aload_n hx hb d_Ar_endsByRide_45 rfl (lv_at hl 2 rfl) ?_
    refine va_get (D := (dC, dI)) (C := R_Ar) (T := F_Ar) (N := 2) hx hb hts in_Ar hown hI.1 hI.2.1 5 (wdX_o5 a cA _) rfl 0 (by decide) (hts _ wA_197) (fun _ h9 => h9) rfl d_Ar_endsByRide_46 ?_
    refine lv_aload_n hx hb d_Ar_endsByRide_49 rfl (lv_at hl 3 rfl) ?_
    refine va_get (D := (dC, dI)) (C := R_Ne) (T := F_Ne) (N := 5) hx hb hts in_Ne hown hI.1 hI.2.1 1 (wdX_o1 a cA _) rfl 2 (by decide) (hts _ wA_170) (fun _ h9 => h9) rfl d_Ar_endsByRide_50 ?_
    refine va_get (D := (dC, dI)) (C := R_Ri) (T := F_Ri) (N := 7) hx hb hts in_Ri hown hI.1 hI.2.1 2 (wdX_o2 a cA _) rfl 2 (by decide) (hts _ wA_75) (fun _ h9 => h9) rfl d_Ar_endsByRide_53 ?_
    refine lv_iload_n hx hb d_Ar_endsByRide_56 rfl (lv_at hl 4 rfl) ?_
    obtain ⟨hi, hw⟩ := hw
    refine va_iald (D := (dC, dI)) hx hb hI.1 hI.2.1 12 0 (wdX_o12 a cA _) rfl hi d_Ar_endsByRide_57 ?_
    obtain ⟨hi, hw⟩ := hw
    refine va_iald (D := (dC, dI)) hx hb hI.1 hI.2.1 23 0 (wdX_o23 a cA _) rfl hi d_Ar_endsByRide_58 ?_
    refine lv_icmp_ne (tgt := 85) hx hb d_Ar_endsByRide_59 (by decide) (fun hc => ?_) (fun hc => ?_)
    · have hw := hw.2 hc
      refine lv_iconst (v := 0) hx hb d_Ar_endsByRide_85 (by decide) ?_
      exact tr_zret hx hb hr hlocks hI rfl hw d_Ar_endsByRide_86
    · have hw := hw.1 hc
      refine lv_aload_n hx hb d_Ar_endsByRide_62 rfl (lv_at hl 2 rfl) ?_
      refine lv_aload_n hx hb d_Ar_endsByRide_63 rfl (lv_at hl 3 rfl) ?_
      refine lv_aload_n hx hb d_Ar_endsByRide_64 rfl (lv_at hl 3 rfl) ?_
      refine va_get (D := (dC, dI)) (C := R_Ne) (T := F_Ne) (N := 5) hx hb hts in_Ne hown hI.1 hI.2.1 1 (wdX_o1 a cA _) rfl 2 (by decide) (hts _ wA_170) (fun _ h9 => h9) rfl d_Ar_endsByRide_65 ?_
      refine va_get (D := (dC, dI)) (C := R_Ri) (T := F_Ri) (N := 7) hx hb hts in_Ri hown hI.1 hI.2.1 2 (wdX_o2 a cA _) rfl 1 (by decide) (hts _ wA_71) (fun _ h9 => h9) rfl d_Ar_endsByRide_68 ?_
      refine lv_iload_n hx hb d_Ar_endsByRide_71 rfl (lv_at hl 4 rfl) ?_
      obtain ⟨hi, hw⟩ := hw
      refine va_iald (D := (dC, dI)) hx hb hI.1 hI.2.1 11 0 (wdX_o11 a cA _) rfl hi d_Ar_endsByRide_72 ?_
      refine lv_iload hx hb d_Ar_endsByRide_73 (lv_at hl 0 rfl) ?_
      refine tr_goi (w := wdX a cA) hI hA (va_runV (As := [.ref (a 1), .int (u28.2 1 x2.toNatClampNeg), .int r28]) (rest := []) ⟨hx, hb, hml, hown, hts⟩ (c_Ar_mayTake l dC dI cA a _ _ _ _ _) (cwV 3 hts (wsA_goodV wA_412 wA_413 wA_414 wA_36 wA_415) rfl rfl rfl (by decide +kernel) ⟨Nat.le_of_ble_eq_true rfl, Nat.le_of_ble_eq_true rfl⟩) (tr_preV (ci := 5) (q0 := 5) hI rfl (wdX_o5 a cA _) rfl hN hw) rfl rfl hl.1 rfl (lv_room (Nat.le_of_ble_eq_true rfl)) d_Ar_endsByRide_75 ⟨Nat.zero_le _, Nat.zero_le _⟩) (fun r75 u75 H locs hw hI => ?_)
      refine lv_if_eq (tgt := 85) hx hb d_Ar_endsByRide_78 (by decide) (fun hc => ?_) (fun hc => ?_)
      · have hw := hw.1 hc
        refine lv_iconst (v := 0) hx hb d_Ar_endsByRide_85 (by decide) ?_
        exact tr_zret hx hb hr hlocks hI rfl hw d_Ar_endsByRide_86
      · have hw := hw.2 hc
        refine lv_iconst (v := 1) hx hb d_Ar_endsByRide_81 (by decide) ?_
        refine lv_goto (tgt := 86) hx hb d_Ar_endsByRide_82 (by decide) ?_
        exact tr_zret hx hb hr hlocks hI rfl hw d_Ar_endsByRide_86
  · have hw := hw.1 hc
    refine lv_iconst (v := 0) hx hb d_Ar_endsByRide_20 (by decide) ?_
    exact tr_zret hx hb hr hlocks hI rfl hw d_Ar_endsByRide_21
def w_Ar_lastDeparture_32 (post : Int32 → tS → Prop) (K2 : Int32 → Int32 → tS → Prop) : Nat → Int32 → Int32 → Int32 → tS → Prop
  | 0 => fun _ _ _ _ => False
  | n + 1 => fun x2 x3 x4 u => ((7 ≤ x4 → (K2 x2 (x3 + 1) u)) ∧ (¬ 7 ≤ x4 → (w_Ar_endsByRide (fun r44 u44 => ((r44 = 0 → (w_Ar_lastDeparture_32 post K2 n x2 x3 (x4 + 1) u44)) ∧ (¬ r44 = 0 → (post ((x3 * 7) + x4) u44)))) x3 x4 u)))
def w_Ar_lastDeparture_2 (post : Int32 → tS → Prop) : Nat → Int32 → Int32 → tS → Prop
  | 0 => fun _ _ _ => False
  | n + 1 => fun x2 x3 u => (((u.1 1) ≤ x3 → (post (-1) u)) ∧ (¬ (u.1 1) ≤ x3 → (vp_in x3 40 ∧ (((u.2 2 x3.toNatClampNeg) = x2 → (∃ k, w_Ar_lastDeparture_32 post (w_Ar_lastDeparture_2 post n) k x2 x3 0 u)) ∧ (¬ (u.2 2 x3.toNatClampNeg) = x2 → (w_Ar_lastDeparture_2 post n x2 (x3 + 1) u))))))
def w_Ar_lastDeparture (post : Int32 → tS → Prop) (x2 : Int32) (u : tS) : Prop := (∃ k, w_Ar_lastDeparture_2 post k x2 0 u)
set_option maxRecDepth 100000 in
set_option maxHeartbeats 4000000 in
theorem k_Ar_lastDeparture_32 {p : Program} {l : Launch} {e : Env} {s : State} {m : MethodId} {args : Array Value} {below : List Frame} {meth : Method} {c : Code} {dC : Nat → ClassId} {dI : Nat → Nat → Nat} {cA : ClassId} {a : Nat → Nat} {A : Nat → Prop} (hC : tC p s m meth c args b_Ar_lastDeparture 5 (some .int) wsA R_Ar A) (post : Int32 → tS → Prop) (K2 : Int32 → Int32 → tS → Prop) (hK2 : ∀ (x2 x3 : Int32) (u : tS) (H : Heap) (locs : List Loc) (ls : Array Slot), K2 x2 x3 u → tX (dC, dI) twCl [(cA, .int)] A s H locs (wdX a cA u) → lv_has ls 5 [(0, .ref (a 5)), (1, .ref (a 1)), (2, .int x2), (3, .int x3)] → W p l e ({ frames := 2, cells := 0, slots := 0, locals := 48 }) s m args below meth c H locs 0 0 (MQ below (va_Qi post (tB (dC, dI) twCl [(cA, .int)] A (wdX a cA)) A) args s 0 0 A) (F0 m 2 ls [])) : ∀ n : Nat, ∀ (x2 x3 x4 : Int32) (u : tS) (H : Heap) (locs : List Loc) (ls : Array Slot), w_Ar_lastDeparture_32 post K2 n x2 x3 x4 u → tX (dC, dI) twCl [(cA, .int)] A s H locs (wdX a cA u) → lv_has ls 5 [(0, .ref (a 5)), (1, .ref (a 1)), (2, .int x2), (3, .int x3), (4, .int x4)] → W p l e ({ frames := 2, cells := 0, slots := 0, locals := 48 }) s m args below meth c H locs 0 0 (MQ below (va_Qi post (tB (dC, dI) twCl [(cA, .int)] A (wdX a cA)) A) args s 0 0 A) (F0 m 32 ls []) := by
  obtain ⟨hx, hb, hr, hml, hown, hts, hlocks, hA, hN⟩ := id hC
  intro n
  induction n with
  | zero => intro x2 x3 x4 u H locs ls hw; exact False.elim hw
  | succ n ih =>
    intro x2 x3 x4 u H locs ls hw hI hl
    refine lv_iload hx hb d_Ar_lastDeparture_32 (lv_at hl 4 rfl) ?_
    refine lv_bipush (v := 7) hx hb d_Ar_lastDeparture_34 (by decide) ?_
    refine lv_icmp_ge (tgt := 64) hx hb d_Ar_lastDeparture_36 (by decide) (fun hc => ?_) (fun hc => ?_)
    · have hw := hw.1 hc
      refine lv_iinc (v := (x3 + 1)) (lv' := [(3, .int (x3 + 1)), (0, .ref (a 5)), (1, .ref (a 1)), (2, .int x2), (4, .int x4)]) hx hb d_Ar_lastDeparture_64 hl (k := 3) rfl rfl (by decide) rfl (fun ls hl => ?_)
      refine lv_goto (tgt := 2) hx hb d_Ar_lastDeparture_67 (by decide) ?_
      exact hK2 _ _ _ _ _ ls hw hI (lv_sub hl [1, 2, 3, 0] rfl)
    · have hw := hw.2 hc
      refine lv_aload_n hx hb d_Ar_lastDeparture_39 rfl (lv_at hl 0 rfl) ?_
      refine lv_aload_n hx hb d_Ar_lastDeparture_40 rfl (lv_at hl 1 rfl) ?_
      refine lv_iload_n hx hb d_Ar_lastDeparture_41 rfl (lv_at hl 3 rfl) ?_
      refine lv_iload hx hb d_Ar_lastDeparture_42 (lv_at hl 4 rfl) ?_
      refine tr_goi (w := wdX a cA) hI hA (va_runV (As := [.ref (a 1), .int x3, .int x4]) (rest := []) ⟨hx, hb, hml, hown, hts⟩ (c_Ar_endsByRide l dC dI cA a _ _ _ _ _) (cwV 3 hts (wsA_goodV wA_546 wA_548 wA_8 wA_36 wA_549) rfl rfl rfl (by decide +kernel) ⟨Nat.le_of_ble_eq_true rfl, Nat.le_of_ble_eq_true rfl⟩) (tr_preV (ci := 5) (q0 := 5) hI rfl (wdX_o5 a cA _) rfl hN hw) rfl rfl hl.1 rfl (lv_room (Nat.le_of_ble_eq_true rfl)) d_Ar_lastDeparture_44 ⟨Nat.zero_le _, Nat.zero_le _⟩) (fun r44 u44 H locs hw hI => ?_)
      refine lv_if_eq (tgt := 58) hx hb d_Ar_lastDeparture_47 (by decide) (fun hc => ?_) (fun hc => ?_)
      · have hw := hw.1 hc
        refine lv_iinc (v := (x4 + 1)) (lv' := [(4, .int (x4 + 1)), (0, .ref (a 5)), (1, .ref (a 1)), (2, .int x2), (3, .int x3)]) hx hb d_Ar_lastDeparture_58 hl (k := 4) rfl rfl (by decide) rfl (fun ls hl => ?_)
        refine lv_goto (tgt := 32) hx hb d_Ar_lastDeparture_61 (by decide) ?_
        exact ih _ _ _ _ _ _ ls hw hI (lv_sub hl [1, 2, 3, 4, 0] rfl)
      · have hw := hw.2 hc
        refine lv_iload_n hx hb d_Ar_lastDeparture_50 rfl (lv_at hl 3 rfl) ?_
        refine lv_bipush (v := 7) hx hb d_Ar_lastDeparture_51 (by decide) ?_
        refine lv_imul hx hb d_Ar_lastDeparture_53 ?_
        refine lv_iload hx hb d_Ar_lastDeparture_54 (lv_at hl 4 rfl) ?_
        refine lv_iadd hx hb d_Ar_lastDeparture_56 ?_
        exact tr_iret hx hb hr hlocks hI hw d_Ar_lastDeparture_57
set_option maxRecDepth 100000 in
set_option maxHeartbeats 4000000 in
theorem k_Ar_lastDeparture_2 {p : Program} {l : Launch} {e : Env} {s : State} {m : MethodId} {args : Array Value} {below : List Frame} {meth : Method} {c : Code} {dC : Nat → ClassId} {dI : Nat → Nat → Nat} {cA : ClassId} {a : Nat → Nat} {A : Nat → Prop} (hC : tC p s m meth c args b_Ar_lastDeparture 5 (some .int) wsA R_Ar A) (post : Int32 → tS → Prop) : ∀ n : Nat, ∀ (x2 x3 : Int32) (u : tS) (H : Heap) (locs : List Loc) (ls : Array Slot), w_Ar_lastDeparture_2 post n x2 x3 u → tX (dC, dI) twCl [(cA, .int)] A s H locs (wdX a cA u) → lv_has ls 5 [(0, .ref (a 5)), (1, .ref (a 1)), (2, .int x2), (3, .int x3)] → W p l e ({ frames := 2, cells := 0, slots := 0, locals := 48 }) s m args below meth c H locs 0 0 (MQ below (va_Qi post (tB (dC, dI) twCl [(cA, .int)] A (wdX a cA)) A) args s 0 0 A) (F0 m 2 ls []) := by
  obtain ⟨hx, hb, hr, hml, hown, hts, hlocks, hA, hN⟩ := id hC
  intro n
  induction n with
  | zero => intro x2 x3 u H locs ls hw; exact False.elim hw
  | succ n ih =>
    intro x2 x3 u H locs ls hw hI hl
    refine lv_iload_n hx hb d_Ar_lastDeparture_2 rfl (lv_at hl 3 rfl) ?_
    refine lv_aload_n hx hb d_Ar_lastDeparture_3 rfl (lv_at hl 1 rfl) ?_
    refine va_get (D := (dC, dI)) (C := R_Ne) (T := F_Ne) (N := 5) hx hb hts in_Ne hown hI.1 hI.2.1 1 (wdX_o1 a cA _) rfl 2 (by decide) (hts _ wA_170) (fun _ h9 => h9) rfl d_Ar_lastDeparture_4 ?_
    refine va_get (D := (dC, dI)) (C := R_Ri) (T := F_Ri) (N := 7) hx hb hts in_Ri hown hI.1 hI.2.1 2 (wdX_o2 a cA _) rfl 0 (by decide) (hts _ wA_66) (fun _ h9 => h9) rfl d_Ar_lastDeparture_7 ?_
    refine lv_icmp_ge (tgt := 70) hx hb d_Ar_lastDeparture_10 (by decide) (fun hc => ?_) (fun hc => ?_)
    · have hw := hw.1 hc
      refine lv_iconst (v := (-1)) hx hb d_Ar_lastDeparture_70 (by decide) ?_
      exact tr_iret hx hb hr hlocks hI hw d_Ar_lastDeparture_71
    · have hw := hw.2 hc
      refine lv_aload_n hx hb d_Ar_lastDeparture_13 rfl (lv_at hl 1 rfl) ?_
      refine va_get (D := (dC, dI)) (C := R_Ne) (T := F_Ne) (N := 5) hx hb hts in_Ne hown hI.1 hI.2.1 1 (wdX_o1 a cA _) rfl 2 (by decide) (hts _ wA_170) (fun _ h9 => h9) rfl d_Ar_lastDeparture_14 ?_
      refine va_get (D := (dC, dI)) (C := R_Ri) (T := F_Ri) (N := 7) hx hb hts in_Ri hown hI.1 hI.2.1 2 (wdX_o2 a cA _) rfl 2 (by decide) (hts _ wA_75) (fun _ h9 => h9) rfl d_Ar_lastDeparture_17 ?_
      refine lv_iload_n hx hb d_Ar_lastDeparture_20 rfl (lv_at hl 3 rfl) ?_
      obtain ⟨hi, hw⟩ := hw
      refine va_iald (D := (dC, dI)) hx hb hI.1 hI.2.1 12 0 (wdX_o12 a cA _) rfl hi d_Ar_lastDeparture_21 ?_
      refine lv_iload_n hx hb d_Ar_lastDeparture_22 rfl (lv_at hl 2 rfl) ?_
      refine lv_icmp_eq (tgt := 29) hx hb d_Ar_lastDeparture_23 (by decide) (fun hc => ?_) (fun hc => ?_)
      · have hw := hw.1 hc
        refine lv_iconst (v := 0) hx hb d_Ar_lastDeparture_29 (by decide) ?_
        refine lv_istore (lv' := [(4, .int 0), (0, .ref (a 5)), (1, .ref (a 1)), (2, .int x2), (3, .int x3)]) hx hb d_Ar_lastDeparture_30 hl (by decide) rfl (fun ls hl => ?_)
        obtain ⟨k, hw⟩ := hw
        exact k_Ar_lastDeparture_32 hC post _ ih k _ _ _ _ _ _ ls hw hI (lv_sub hl [1, 2, 3, 4, 0] rfl)
      · have hw := hw.2 hc
        refine lv_goto (tgt := 64) hx hb d_Ar_lastDeparture_26 (by decide) ?_
        refine lv_iinc (v := (x3 + 1)) (lv' := [(3, .int (x3 + 1)), (0, .ref (a 5)), (1, .ref (a 1)), (2, .int x2)]) hx hb d_Ar_lastDeparture_64 hl (k := 3) rfl rfl (by decide) rfl (fun ls hl => ?_)
        refine lv_goto (tgt := 2) hx hb d_Ar_lastDeparture_67 (by decide) ?_
        exact ih _ _ _ _ _ ls hw hI (lv_sub hl [1, 2, 3, 0] rfl)
set_option maxRecDepth 100000 in
set_option maxHeartbeats 4000000 in
theorem c_Ar_lastDeparture (l : Launch) (dC : Nat → ClassId) (dI : Nat → Nat → Nat) (cA : ClassId) (a : Nat → Nat) (u : tS) (x2 : Int32) (post : Int32 → tS → Prop) (sz : Nat) : Met l y_Ar_lastDeparture ws_Ar_lastDeparture ({ frames := 2, cells := 0, slots := 0, locals := 48 }) (va_Pc [.ref (a 5), .ref (a 1), .int x2] (tP (dC, dI) twCl [(cA, .int)] (wdX a cA) u sz (w_Ar_lastDeparture post x2 u))) (va_Qi post (tB (dC, dI) twCl [(cA, .int)] (va_A (wdX a cA u) sz) (wdX a cA)) (va_A (wdX a cA u) sz)) 0 0 (va_A (wdX a cA u) sz) := by
  refine Met.ofW (cc := b_Ar_lastDeparture) (maxL := 5) (ret := (some .int)) (by decide) rfl ?_
  intro p e s m args below meth c s₁ B hml hv
  obtain ⟨rfl, hsz, hP, hK, hD0, hN, hw⟩ := hv
  have hx := B.exec
  have hb := B.bytes
  have hr := B.returns
  have hts : ∀ w ∈ wsA, w.before _ s = true := fun w h => atoms_spec (ws := ws_Ar_lastDeparture) B.pre w (List.mem_cons_of_mem _ h)
  have hown : s.vm.findClass R_Ar = some m.cls := findClass_of_methodNamed B.named
  have hlocks := B.notSynchronized
  subst hsz
  have hD := hD0.self (sz := s.heap.size)
  generalize hAe : va_A (wdX a cA u) s.heap.size = A at hD ⊢
  have hA : ∀ q : Nat, s.heap.size ≤ q → A q := fun q h => by rw [← hAe]; exact Or.inr h
  have hS : va_S A s.heap s.heap [] := va_S.rf
  have hI : tX (dC, dI) twCl [(cA, .int)] A s s.heap [] (wdX a cA u) := ⟨hK, hP, hD, hS⟩
  have hC : tC p s m meth c ([.ref (a 5), .ref (a 1), .int x2] : List Value).toArray b_Ar_lastDeparture 5 (some .int) wsA R_Ar A := ⟨hx, hb, hr, hml, hown, hts, hlocks, hA, hN⟩
  have hl := lv_entry ([.ref (a 5), .ref (a 1), .int x2]) (n := 5) (Nat.le_of_ble_eq_true rfl)
  rw [lg_entry_eq]
  generalize (lg_sl ([.ref (a 5), .ref (a 1), .int x2]) ++ List.replicate (5 - (lg_sl ([.ref (a 5), .ref (a 1), .int x2])).length) Slot.unset).toArray = ls at hl ⊢
  have hl : lv_has ls 5 [(0, .ref (a 5)), (1, .ref (a 1)), (2, .int x2)] := hl
  have hw : (∃ k, w_Ar_lastDeparture_2 post k x2 0 u) := hw
  refine lv_iconst (v := 0) hx hb d_Ar_lastDeparture_0 (by decide) ?_
  refine lv_istore_n (lv' := [(3, .int 0), (0, .ref (a 5)), (1, .ref (a 1)), (2, .int x2)]) hx hb d_Ar_lastDeparture_1 rfl hl (by decide) rfl (fun ls hl => ?_)
  obtain ⟨k, hw⟩ := hw
  exact k_Ar_lastDeparture_2 hC post k _ _ _ _ _ ls hw hI (lv_sub hl [1, 2, 3, 0] rfl)
def w_Ac_put (post : tS → Prop) (x1 : Int32) (x2 : Int32) (x3 : Int32) (x4 : Int32) (u : tS) : Prop := (vp_in (u.1 5) 24 ∧ (vp_in ((tA u 21 (u.1 5) x1).1 5) 24 ∧ (vp_in ((tA (tA u 21 (u.1 5) x1) 22 ((tA u 21 (u.1 5) x1).1 5) x2).1 5) 24 ∧ (vp_in ((tA (tA (tA u 21 (u.1 5) x1) 22 ((tA u 21 (u.1 5) x1).1 5) x2) 23 ((tA (tA u 21 (u.1 5) x1) 22 ((tA u 21 (u.1 5) x1).1 5) x2).1 5) x3).1 5) 24 ∧ (post (tI (tA (tA (tA (tA u 21 (u.1 5) x1) 22 ((tA u 21 (u.1 5) x1).1 5) x2) 23 ((tA (tA u 21 (u.1 5) x1) 22 ((tA u 21 (u.1 5) x1).1 5) x2).1 5) x3) 24 ((tA (tA (tA u 21 (u.1 5) x1) 22 ((tA u 21 (u.1 5) x1).1 5) x2) 23 ((tA (tA u 21 (u.1 5) x1) 22 ((tA u 21 (u.1 5) x1).1 5) x2).1 5) x3).1 5) (x3 + x4)) 5 (((tA (tA (tA (tA u 21 (u.1 5) x1) 22 ((tA u 21 (u.1 5) x1).1 5) x2) 23 ((tA (tA u 21 (u.1 5) x1) 22 ((tA u 21 (u.1 5) x1).1 5) x2).1 5) x3) 24 ((tA (tA (tA u 21 (u.1 5) x1) 22 ((tA u 21 (u.1 5) x1).1 5) x2) 23 ((tA (tA u 21 (u.1 5) x1) 22 ((tA u 21 (u.1 5) x1).1 5) x2).1 5) x3).1 5) (x3 + x4)).1 5) + 1)))))))
set_option maxRecDepth 100000 in
set_option maxHeartbeats 4000000 in
theorem c_Ac_put (l : Launch) (dC : Nat → ClassId) (dI : Nat → Nat → Nat) (cA : ClassId) (a : Nat → Nat) (u : tS) (x1 : Int32) (x2 : Int32) (x3 : Int32) (x4 : Int32) (post : tS → Prop) (sz : Nat) : Met l y_Ac_put ws_Ac_put ({ frames := 0, cells := 0, slots := 0, locals := 0 }) (va_Pc [.ref (a 9), .int x1, .int x2, .int x3, .int x4] (tP (dC, dI) twCl [(cA, .int)] (wdX a cA) u sz (w_Ac_put post x1 x2 x3 x4 u))) (va_Qv post (tB (dC, dI) twCl [(cA, .int)] (va_A (wdX a cA u) sz) (wdX a cA)) (va_A (wdX a cA u) sz)) 0 0 (va_A (wdX a cA u) sz) := by
  refine Met.ofW (cc := b_Ac_put) (maxL := 5) (ret := none) (by decide) rfl ?_
  intro p e s m args below meth c s₁ B hml hv
  obtain ⟨rfl, hsz, hP, hK, hD0, hN, hw⟩ := hv
  have hx := B.exec
  have hb := B.bytes
  have hr := B.returns
  have hts : ∀ w ∈ wsA, w.before _ s = true := fun w h => atoms_spec (ws := ws_Ac_put) B.pre w (List.mem_cons_of_mem _ h)
  have hown : s.vm.findClass R_Ac = some m.cls := findClass_of_methodNamed B.named
  have hlocks := B.notSynchronized
  subst hsz
  have hD := hD0.self (sz := s.heap.size)
  generalize hAe : va_A (wdX a cA u) s.heap.size = A at hD ⊢
  have hA : ∀ q : Nat, s.heap.size ≤ q → A q := fun q h => by rw [← hAe]; exact Or.inr h
  have hS : va_S A s.heap s.heap [] := va_S.rf
  have hI : tX (dC, dI) twCl [(cA, .int)] A s s.heap [] (wdX a cA u) := ⟨hK, hP, hD, hS⟩
  have hC : tC p s m meth c ([.ref (a 9), .int x1, .int x2, .int x3, .int x4] : List Value).toArray b_Ac_put 5 none wsA R_Ac A := ⟨hx, hb, hr, hml, hown, hts, hlocks, hA, hN⟩
  have hl := lv_entry ([.ref (a 9), .int x1, .int x2, .int x3, .int x4]) (n := 5) (Nat.le_of_ble_eq_true rfl)
  rw [lg_entry_eq]
  generalize (lg_sl ([.ref (a 9), .int x1, .int x2, .int x3, .int x4]) ++ List.replicate (5 - (lg_sl ([.ref (a 9), .int x1, .int x2, .int x3, .int x4])).length) Slot.unset).toArray = ls at hl ⊢
  have hl : lv_has ls 5 [(0, .ref (a 9)), (1, .int x1), (2, .int x2), (3, .int x3), (4, .int x4)] := hl
  have hw : (vp_in (u.1 5) 24 ∧ (vp_in ((tA u 21 (u.1 5) x1).1 5) 24 ∧ (vp_in ((tA (tA u 21 (u.1 5) x1) 22 ((tA u 21 (u.1 5) x1).1 5) x2).1 5) 24 ∧ (vp_in ((tA (tA (tA u 21 (u.1 5) x1) 22 ((tA u 21 (u.1 5) x1).1 5) x2) 23 ((tA (tA u 21 (u.1 5) x1) 22 ((tA u 21 (u.1 5) x1).1 5) x2).1 5) x3).1 5) 24 ∧ (post (tI (tA (tA (tA (tA u 21 (u.1 5) x1) 22 ((tA u 21 (u.1 5) x1).1 5) x2) 23 ((tA (tA u 21 (u.1 5) x1) 22 ((tA u 21 (u.1 5) x1).1 5) x2).1 5) x3) 24 ((tA (tA (tA u 21 (u.1 5) x1) 22 ((tA u 21 (u.1 5) x1).1 5) x2) 23 ((tA (tA u 21 (u.1 5) x1) 22 ((tA u 21 (u.1 5) x1).1 5) x2).1 5) x3).1 5) (x3 + x4)) 5 (((tA (tA (tA (tA u 21 (u.1 5) x1) 22 ((tA u 21 (u.1 5) x1).1 5) x2) 23 ((tA (tA u 21 (u.1 5) x1) 22 ((tA u 21 (u.1 5) x1).1 5) x2).1 5) x3) 24 ((tA (tA (tA u 21 (u.1 5) x1) 22 ((tA u 21 (u.1 5) x1).1 5) x2) 23 ((tA (tA u 21 (u.1 5) x1) 22 ((tA u 21 (u.1 5) x1).1 5) x2).1 5) x3).1 5) (x3 + x4)).1 5) + 1))))))) := hw
  refine lv_aload_n hx hb d_Ac_put_0 rfl (lv_at hl 0 rfl) ?_
  refine va_get (D := (dC, dI)) (C := R_Ac) (T := F_Ac) (N := 5) hx hb hts in_Ac hown hI.1 hI.2.1 9 (wdX_o9 a cA _) rfl 1 (by decide) (hts _ wA_245) (fun _ h9 => h9) rfl d_Ac_put_1 ?_
  refine lv_aload_n hx hb d_Ac_put_4 rfl (lv_at hl 0 rfl) ?_
  refine va_get (D := (dC, dI)) (C := R_Ac) (T := F_Ac) (N := 5) hx hb hts in_Ac hown hI.1 hI.2.1 9 (wdX_o9 a cA _) rfl 0 (by decide) (hts _ wA_243) (fun _ h9 => h9) rfl d_Ac_put_5 ?_
  refine lv_iload_n hx hb d_Ac_put_8 rfl (lv_at hl 1 rfl) ?_
  obtain ⟨hi, hw⟩ := hw
  refine tr_iast (w := wdX a cA) hx hb hI 31 0 21 (wdX_o31 a cA _) rfl (wdX_a21 a cA _ _ _) hi d_Ac_put_9 (fun H locs hI => ?_)
  refine lv_aload_n hx hb d_Ac_put_10 rfl (lv_at hl 0 rfl) ?_
  refine va_get (D := (dC, dI)) (C := R_Ac) (T := F_Ac) (N := 5) hx hb hts in_Ac hown hI.1 hI.2.1 9 (wdX_o9 a cA _) rfl 2 (by decide) (hts _ wA_247) (fun _ h9 => h9) rfl d_Ac_put_11 ?_
  refine lv_aload_n hx hb d_Ac_put_14 rfl (lv_at hl 0 rfl) ?_
  refine va_get (D := (dC, dI)) (C := R_Ac) (T := F_Ac) (N := 5) hx hb hts in_Ac hown hI.1 hI.2.1 9 (wdX_o9 a cA _) rfl 0 (by decide) (hts _ wA_243) (fun _ h9 => h9) rfl d_Ac_put_15 ?_
  refine lv_iload_n hx hb d_Ac_put_18 rfl (lv_at hl 2 rfl) ?_
  obtain ⟨hi, hw⟩ := hw
  refine tr_iast (w := wdX a cA) hx hb hI 32 0 22 (wdX_o32 a cA _) rfl (wdX_a22 a cA _ _ _) hi d_Ac_put_19 (fun H locs hI => ?_)
  refine lv_aload_n hx hb d_Ac_put_20 rfl (lv_at hl 0 rfl) ?_
  refine va_get (D := (dC, dI)) (C := R_Ac) (T := F_Ac) (N := 5) hx hb hts in_Ac hown hI.1 hI.2.1 9 (wdX_o9 a cA _) rfl 3 (by decide) (hts _ wA_249) (fun _ h9 => h9) rfl d_Ac_put_21 ?_
  refine lv_aload_n hx hb d_Ac_put_24 rfl (lv_at hl 0 rfl) ?_
  refine va_get (D := (dC, dI)) (C := R_Ac) (T := F_Ac) (N := 5) hx hb hts in_Ac hown hI.1 hI.2.1 9 (wdX_o9 a cA _) rfl 0 (by decide) (hts _ wA_243) (fun _ h9 => h9) rfl d_Ac_put_25 ?_
  refine lv_iload_n hx hb d_Ac_put_28 rfl (lv_at hl 3 rfl) ?_
  obtain ⟨hi, hw⟩ := hw
  refine tr_iast (w := wdX a cA) hx hb hI 33 0 23 (wdX_o33 a cA _) rfl (wdX_a23 a cA _ _ _) hi d_Ac_put_29 (fun H locs hI => ?_)
  refine lv_aload_n hx hb d_Ac_put_30 rfl (lv_at hl 0 rfl) ?_
  refine va_get (D := (dC, dI)) (C := R_Ac) (T := F_Ac) (N := 5) hx hb hts in_Ac hown hI.1 hI.2.1 9 (wdX_o9 a cA _) rfl 4 (by decide) (hts _ wA_251) (fun _ h9 => h9) rfl d_Ac_put_31 ?_
  refine lv_aload_n hx hb d_Ac_put_34 rfl (lv_at hl 0 rfl) ?_
  refine va_get (D := (dC, dI)) (C := R_Ac) (T := F_Ac) (N := 5) hx hb hts in_Ac hown hI.1 hI.2.1 9 (wdX_o9 a cA _) rfl 0 (by decide) (hts _ wA_243) (fun _ h9 => h9) rfl d_Ac_put_35 ?_
  refine lv_iload_n hx hb d_Ac_put_38 rfl (lv_at hl 3 rfl) ?_
  refine lv_iload hx hb d_Ac_put_39 (lv_at hl 4 rfl) ?_
  refine lv_iadd hx hb d_Ac_put_41 ?_
  obtain ⟨hi, hw⟩ := hw
  refine tr_iast (w := wdX a cA) hx hb hI 34 0 24 (wdX_o34 a cA _) rfl (wdX_a24 a cA _ _ _) hi d_Ac_put_42 (fun H locs hI => ?_)
  refine lv_aload_n hx hb d_Ac_put_43 rfl (lv_at hl 0 rfl) ?_
  refine lv_dup hx hb d_Ac_put_44 rfl ?_
  refine va_get (D := (dC, dI)) (C := R_Ac) (T := F_Ac) (N := 5) hx hb hts in_Ac hown hI.1 hI.2.1 9 (wdX_o9 a cA _) rfl 0 (by decide) (hts _ wA_243) (fun _ h9 => h9) rfl d_Ac_put_45 ?_
  refine lv_iconst (v := 1) hx hb d_Ac_put_48 (by decide) ?_
  refine lv_iadd hx hb d_Ac_put_49 ?_
  refine tr_put (C := R_Ac) (T := F_Ac) (N := 5) (w := wdX a cA) hx hb hts in_Ac ft_Ac ft_Ac_ok fn_Ac hown hI 9 5 (wdX_o9 a cA _) rfl 0 (by decide) (hts _ wA_243) rfl (by decide +kernel) (Nat.le_of_ble_eq_true rfl) (wdX_i5 a cA _ _) d_Ac_put_50 (fun H locs hI => ?_)
  exact tr_vret hx hb hr hlocks hI hw d_Ac_put_53
def w_Ac_addDeparture (post : Int32 → tS → Prop) (x3 : Int32) (u : tS) : Prop := (w_Ar_lastDeparture (fun r3 u3 => ((r3 = (-1) → (post (-1) u3)) ∧ (¬ r3 = (-1) → (w_Ri_leaves (fun r37 u37 => (vp_in (r3 / 7) 40 ∧ (w_Ac_put (fun u50 => (vp_in (r3 / 7) 40 ∧ (post (u50.2 1 (r3 / 7).toNatClampNeg) u50))) (r3 / 7) (r3 - r3 / 7 * 7) r37 (u37.2 4 (r3 / 7).toNatClampNeg) u37))) r3 u3)))) x3 u)
set_option maxRecDepth 100000 in
set_option maxHeartbeats 4000000 in
theorem c_Ac_addDeparture (l : Launch) (dC : Nat → ClassId) (dI : Nat → Nat → Nat) (cA : ClassId) (a : Nat → Nat) (u : tS) (x3 : Int32) (post : Int32 → tS → Prop) (sz : Nat) : Met l y_Ac_addDeparture ws_Ac_addDeparture ({ frames := 3, cells := 0, slots := 0, locals := 72 }) (va_Pc [.ref (a 9), .ref (a 1), .ref (a 5), .int x3] (tP (dC, dI) twCl [(cA, .int)] (wdX a cA) u sz (w_Ac_addDeparture post x3 u))) (va_Qi post (tB (dC, dI) twCl [(cA, .int)] (va_A (wdX a cA u) sz) (wdX a cA)) (va_A (wdX a cA u) sz)) 0 0 (va_A (wdX a cA u) sz) := by
  refine Met.ofW (cc := b_Ac_addDeparture) (maxL := 6) (ret := (some .int)) (by decide) rfl ?_
  intro p e s m args below meth c s₁ B hml hv
  obtain ⟨rfl, hsz, hP, hK, hD0, hN, hw⟩ := hv
  have hx := B.exec
  have hb := B.bytes
  have hr := B.returns
  have hts : ∀ w ∈ wsA, w.before _ s = true := fun w h => atoms_spec (ws := ws_Ac_addDeparture) B.pre w (List.mem_cons_of_mem _ h)
  have hown : s.vm.findClass R_Ac = some m.cls := findClass_of_methodNamed B.named
  have hlocks := B.notSynchronized
  subst hsz
  have hD := hD0.self (sz := s.heap.size)
  generalize hAe : va_A (wdX a cA u) s.heap.size = A at hD ⊢
  have hA : ∀ q : Nat, s.heap.size ≤ q → A q := fun q h => by rw [← hAe]; exact Or.inr h
  have hS : va_S A s.heap s.heap [] := va_S.rf
  have hI : tX (dC, dI) twCl [(cA, .int)] A s s.heap [] (wdX a cA u) := ⟨hK, hP, hD, hS⟩
  have hC : tC p s m meth c ([.ref (a 9), .ref (a 1), .ref (a 5), .int x3] : List Value).toArray b_Ac_addDeparture 6 (some .int) wsA R_Ac A := ⟨hx, hb, hr, hml, hown, hts, hlocks, hA, hN⟩
  have hl := lv_entry ([.ref (a 9), .ref (a 1), .ref (a 5), .int x3]) (n := 6) (Nat.le_of_ble_eq_true rfl)
  rw [lg_entry_eq]
  generalize (lg_sl ([.ref (a 9), .ref (a 1), .ref (a 5), .int x3]) ++ List.replicate (6 - (lg_sl ([.ref (a 9), .ref (a 1), .ref (a 5), .int x3])).length) Slot.unset).toArray = ls at hl ⊢
  have hl : lv_has ls 6 [(0, .ref (a 9)), (1, .ref (a 1)), (2, .ref (a 5)), (3, .int x3)] := hl
  have hw : (w_Ar_lastDeparture (fun r3 u3 => ((r3 = (-1) → (post (-1) u3)) ∧ (¬ r3 = (-1) → (w_Ri_leaves (fun r37 u37 => (vp_in (r3 / 7) 40 ∧ (w_Ac_put (fun u50 => (vp_in (r3 / 7) 40 ∧ (post (u50.2 1 (r3 / 7).toNatClampNeg) u50))) (r3 / 7) (r3 - r3 / 7 * 7) r37 (u37.2 4 (r3 / 7).toNatClampNeg) u37))) r3 u3)))) x3 u) := hw
  refine lv_aload_n hx hb d_Ac_addDeparture_0 rfl (lv_at hl 2 rfl) ?_
  refine lv_aload_n hx hb d_Ac_addDeparture_1 rfl (lv_at hl 1 rfl) ?_
  refine lv_iload_n hx hb d_Ac_addDeparture_2 rfl (lv_at hl 3 rfl) ?_
  refine tr_goi (w := wdX a cA) hI hA (va_runV (As := [.ref (a 1), .int x3]) (rest := []) ⟨hx, hb, hml, hown, hts⟩ (c_Ar_lastDeparture l dC dI cA a _ _ _ _) (cwV 2 hts (wsA_goodV wA_542 wA_543 wA_544 wA_36 wA_545) rfl rfl rfl (by decide +kernel) ⟨Nat.le_of_ble_eq_true rfl, Nat.le_of_ble_eq_true rfl⟩) (tr_preV (ci := 5) (q0 := 5) hI rfl (wdX_o5 a cA _) rfl hN hw) rfl rfl hl.1 rfl (lv_room (Nat.le_of_ble_eq_true rfl)) d_Ac_addDeparture_3 ⟨Nat.zero_le _, Nat.zero_le _⟩) (fun r3 u3 H locs hw hI => ?_)
  refine lv_istore (lv' := [(4, .int r3), (0, .ref (a 9)), (1, .ref (a 1)), (2, .ref (a 5)), (3, .int x3)]) hx hb d_Ac_addDeparture_6 hl (by decide) rfl (fun ls hl => ?_)
  refine lv_iload hx hb d_Ac_addDeparture_8 (lv_at hl 0 rfl) ?_
  refine lv_iconst (v := (-1)) hx hb d_Ac_addDeparture_10 (by decide) ?_
  refine lv_icmp_ne (tgt := 16) hx hb d_Ac_addDeparture_11 (by decide) (fun hc => ?_) (fun hc => ?_)
  · have hw := hw.2 hc
    refine lv_iload hx hb d_Ac_addDeparture_16 (lv_at hl 0 rfl) ?_
    refine lv_bipush (v := 7) hx hb d_Ac_addDeparture_18 (by decide) ?_
    refine lv_idiv hx hb d_Ac_addDeparture_20 (by decide) ?_
    refine lv_istore (lv' := [(5, .int (r3 / 7)), (4, .int r3), (0, .ref (a 9)), (1, .ref (a 1)), (2, .ref (a 5)), (3, .int x3)]) hx hb d_Ac_addDeparture_21 hl (by decide) rfl (fun ls hl => ?_)
    refine lv_aload_n hx hb d_Ac_addDeparture_23 rfl (lv_at hl 2 rfl) ?_
    refine lv_iload hx hb d_Ac_addDeparture_24 (lv_at hl 0 rfl) ?_
    refine lv_iload hx hb d_Ac_addDeparture_26 (lv_at hl 1 rfl) ?_
    refine lv_bipush (v := 7) hx hb d_Ac_addDeparture_28 (by decide) ?_
    refine lv_irem hx hb d_Ac_addDeparture_30 (by decide) ?_
    refine lv_aload_n hx hb d_Ac_addDeparture_31 rfl (lv_at hl 3 rfl) ?_
    refine va_get (D := (dC, dI)) (C := R_Ne) (T := F_Ne) (N := 5) hx hb hts in_Ne hown hI.1 hI.2.1 1 (wdX_o1 a cA _) rfl 2 (by decide) (hts _ wA_168) (fun _ h9 => h9) rfl d_Ac_addDeparture_32 ?_
    refine lv_iload hx hb d_Ac_addDeparture_35 (lv_at hl 1 rfl) ?_
    refine tr_goi (w := wdX a cA) hI hA (va_runV (As := [.int r3]) (rest := [.int (r3 - r3 / 7 * 7), .int (r3 / 7), .ref (a 9)]) ⟨hx, hb, hml, hown, hts⟩ (c_Ri_leaves l dC dI cA a _ _ _ _) (cwV 1 hts (wsA_goodV wA_552 wA_341 wA_342 wA_32 wA_343) rfl rfl rfl (by decide +kernel) ⟨Nat.le_of_ble_eq_true rfl, Nat.le_of_ble_eq_true rfl⟩) (tr_preV (ci := 2) (q0 := 2) hI rfl (wdX_o2 a cA _) rfl hN hw) rfl rfl hl.1 rfl (lv_room (Nat.le_of_ble_eq_true rfl)) d_Ac_addDeparture_37 ⟨Nat.zero_le _, Nat.zero_le _⟩) (fun r37 u37 H locs hw hI => ?_)
    refine lv_aload_n hx hb d_Ac_addDeparture_40 rfl (lv_at hl 3 rfl) ?_
    refine va_get (D := (dC, dI)) (C := R_Ne) (T := F_Ne) (N := 5) hx hb hts in_Ne hown hI.1 hI.2.1 1 (wdX_o1 a cA _) rfl 2 (by decide) (hts _ wA_168) (fun _ h9 => h9) rfl d_Ac_addDeparture_41 ?_
    refine va_get (D := (dC, dI)) (C := R_Ri) (T := F_Ri) (N := 7) hx hb hts in_Ri hown hI.1 hI.2.1 2 (wdX_o2 a cA _) rfl 4 (by decide) (hts _ wA_80) (fun _ h9 => h9) rfl d_Ac_addDeparture_44 ?_
    refine lv_iload hx hb d_Ac_addDeparture_47 (lv_at hl 0 rfl) ?_
    obtain ⟨hi, hw⟩ := hw
    refine va_iald (D := (dC, dI)) hx hb hI.1 hI.2.1 14 0 (wdX_o14 a cA _) rfl hi d_Ac_addDeparture_49 ?_
    refine tr_gov (w := wdX a cA) hI hA (va_runV (As := [.int (r3 / 7), .int (r3 - r3 / 7 * 7), .int r37, .int (u37.2 4 (r3 / 7).toNatClampNeg)]) (rest := []) ⟨hx, hb, hml, hown, hts⟩ (c_Ac_put l dC dI cA a _ _ _ _ _ _ _) (cwV 4 hts (wsA_goodV wA_534 wA_536 wA_6 wA_39 wA_537) rfl rfl rfl (by decide +kernel) ⟨Nat.le_of_ble_eq_true rfl, Nat.le_of_ble_eq_true rfl⟩) (tr_preV (ci := 8) (q0 := 9) hI rfl (wdX_o9 a cA _) rfl hN hw) rfl rfl hl.1 rfl (lv_room (Nat.le_of_ble_eq_true rfl)) d_Ac_addDeparture_50 ⟨Nat.zero_le _, Nat.zero_le _⟩) (fun u50 H locs hw hI => ?_)
    refine lv_aload_n hx hb d_Ac_addDeparture_53 rfl (lv_at hl 3 rfl) ?_
    refine va_get (D := (dC, dI)) (C := R_Ne) (T := F_Ne) (N := 5) hx hb hts in_Ne hown hI.1 hI.2.1 1 (wdX_o1 a cA _) rfl 2 (by decide) (hts _ wA_168) (fun _ h9 => h9) rfl d_Ac_addDeparture_54 ?_
    refine va_get (D := (dC, dI)) (C := R_Ri) (T := F_Ri) (N := 7) hx hb hts in_Ri hown hI.1 hI.2.1 2 (wdX_o2 a cA _) rfl 1 (by decide) (hts _ wA_68) (fun _ h9 => h9) rfl d_Ac_addDeparture_57 ?_
    refine lv_iload hx hb d_Ac_addDeparture_60 (lv_at hl 0 rfl) ?_
    obtain ⟨hi, hw⟩ := hw
    refine va_iald (D := (dC, dI)) hx hb hI.1 hI.2.1 11 0 (wdX_o11 a cA _) rfl hi d_Ac_addDeparture_62 ?_
    exact tr_iret hx hb hr hlocks hI hw d_Ac_addDeparture_63
  · have hw := hw.1 hc
    refine lv_iconst (v := (-1)) hx hb d_Ac_addDeparture_14 (by decide) ?_
    exact tr_iret hx hb hr hlocks hI hw d_Ac_addDeparture_15
