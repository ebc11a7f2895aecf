def w_T_fastest (post : Int32 → tS → Prop) (x1 : Int32) (x2 : Int32) (x3 : Int32) (x4 : Int32) (u : tS) : Prop := (w_Ne_hasStops (fun r6 u6 => ((r6 = 0 → (post (-2) u6)) ∧ (¬ r6 = 0 → (w_T_isSpan (fun r15 u15 => ((r15 = 0 → (post (-2) u15)) ∧ (¬ r15 = 0 → (w_Sp_find (fun u37 => (w_Sp_leastMinutes (fun r47 u47 => (w_T_orNone (fun r50 u50 => (post r50 u50)) r47 u47)) x3 x4 u37)) x1 x2 x3 x4 u15)))) x3 x4 u6)))) x1 x2 u)
set_option maxRecDepth 100000 in
set_option maxHeartbeats 4000000 in
theorem c_T_fastest (l : Launch) (dC : Nat → ClassId) (dI : Nat → Nat → Nat) (cA : ClassId) (a : Nat → Nat) (u : tS) (x1 : Int32) (x2 : Int32) (x3 : Int32) (x4 : Int32) (post : Int32 → tS → Prop) (sz : Nat) : Met l y_T_fastest ws_T_fastest ({ frames := 5, cells := 0, slots := 0, locals := 124 }) (va_Pc [.ref (a 0), .int x1, .int x2, .int x3, .int x4] (tP (dC, dI) twCl [(cA, .int)] (wdX a cA) u sz (w_T_fastest post x1 x2 x3 x4 u))) (va_Qi post (tB (dC, dI) twCl [(cA, .int)] (va_A (wdX a cA u) sz) (wdX a cA)) (va_A (wdX a cA u) sz)) 0 0 (va_A (wdX a cA u) sz) := by
  refine Met.ofW (cc := b_T_fastest) (maxL := 5) (ret := (some .int)) (by decide) rfl ?_
  intro p e s m args below meth c s₁ B hml hv
  obtain ⟨rfl, hsz, hP, hK, hD0, hN, hw⟩ := hv
  have hx := B.exec
  have hb := B.bytes
  have hr := B.returns
  have hts : ∀ w ∈ wsA, w.before _ s = true := fun w h => atoms_spec (ws := ws_T_fastest) B.pre w (List.mem_cons_of_mem _ h)
  have hown : s.vm.findClass R_T = some m.cls := findClass_of_methodNamed B.named
  have hlocks := B.notSynchronized
  subst hsz
  have hD := hD0.self (sz := s.heap.size)
  generalize hAe : va_A (wdX a cA u) s.heap.size = A at hD ⊢
  have hA : ∀ q : Nat, s.heap.size ≤ q → A q := fun q h => by rw [← hAe]; exact Or.inr h
  have hS : va_S A s.heap s.heap [] := va_S.rf
  have hI : tX (dC, dI) twCl [(cA, .int)] A s s.heap [] (wdX a cA u) := ⟨hK, hP, hD, hS⟩
  have hC : tC p s m meth c ([.ref (a 0), .int x1, .int x2, .int x3, .int x4] : List Value).toArray b_T_fastest 5 (some .int) wsA R_T A := ⟨hx, hb, hr, hml, hown, hts, hlocks, hA, hN⟩
  have hl := lv_entry ([.ref (a 0), .int x1, .int x2, .int x3, .int x4]) (n := 5) (Nat.le_of_ble_eq_true rfl)
  rw [lg_entry_eq]
  generalize (lg_sl ([.ref (a 0), .int x1, .int x2, .int x3, .int x4]) ++ List.replicate (5 - (lg_sl ([.ref (a 0), .int x1, .int x2, .int x3, .int x4])).length) Slot.unset).toArray = ls at hl ⊢
  have hl : lv_has ls 5 [(0, .ref (a 0)), (1, .int x1), (2, .int x2), (3, .int x3), (4, .int x4)] := hl
  have hw : (w_Ne_hasStops (fun r6 u6 => ((r6 = 0 → (post (-2) u6)) ∧ (¬ r6 = 0 → (w_T_isSpan (fun r15 u15 => ((r15 = 0 → (post (-2) u15)) ∧ (¬ r15 = 0 → (w_Sp_find (fun u37 => (w_Sp_leastMinutes (fun r47 u47 => (w_T_orNone (fun r50 u50 => (post r50 u50)) r47 u47)) x3 x4 u37)) x1 x2 x3 x4 u15)))) x3 x4 u6)))) x1 x2 u) := hw
  refine lv_aload_n hx hb d_T_fastest_0 rfl (lv_at hl 0 rfl) ?_
  refine va_get (D := (dC, dI)) (C := R_T) (T := F_T) (N := 6) hx hb hts in_T hown hI.1 hI.2.1 0 (wdX_o0 a cA _) rfl 0 (by decide) (hts _ wA_264) (fun _ h9 => h9) rfl d_T_fastest_1 ?_
  refine lv_iload_n hx hb d_T_fastest_4 rfl (lv_at hl 1 rfl) ?_
  refine lv_iload_n hx hb d_T_fastest_5 rfl (lv_at hl 2 rfl) ?_
  refine tr_goi (w := wdX a cA) hI hA (va_runV (As := [.int x1, .int x2]) (rest := []) ⟨hx, hb, hml, hown, hts⟩ (c_Ne_hasStops l dC dI cA a _ _ _ _ _) (cwV 2 hts (wsA_goodV wA_315 wA_316 wA_317 wA_31 wA_318) rfl rfl rfl (by decide +kernel) ⟨Nat.le_of_ble_eq_true rfl, Nat.le_of_ble_eq_true rfl⟩) (tr_preV (ci := 1) (q0 := 1) hI rfl (wdX_o1 a cA _) rfl hN hw) rfl rfl hl.1 rfl (lv_room (Nat.le_of_ble_eq_true rfl)) d_T_fastest_6 ⟨Nat.zero_le _, Nat.zero_le _⟩) (fun r6 u6 H locs hw hI => ?_)
  refine lv_if_eq (tgt := 21) hx hb d_T_fastest_9 (by decide) (fun hc => ?_) (fun hc => ?_)
  · have hw := hw.1 hc
    refine lv_bipush (v := (-2)) hx hb d_T_fastest_21 (by decide) ?_
    exact tr_iret hx hb hr hlocks hI hw d_T_fastest_23
  · have hw := hw.2 hc
    refine lv_iload_n hx hb d_T_fastest_12 rfl (lv_at hl 3 rfl) ?_
    refine lv_iload hx hb d_T_fastest_13 (lv_at hl 4 rfl) ?_
    refine tr_goi (w := wdX a cA) hI hA (va_runS (As := [.int x3, .int x4]) (rest := []) ⟨hx, hb, hml, hown, hts⟩ (c_T_isSpan l dC dI cA a _ _ _ _ _) ⟨callB_of 2 hts (wsA_good wA_482) rfl rfl rfl (hts _ wA_30) (hts _ wA_480) (by decide +kernel) ⟨Nat.le_of_ble_eq_true rfl, Nat.le_of_ble_eq_true rfl⟩, hts _ wA_481⟩ (tr_preS hI hN hw) rfl rfl hl.1 rfl (lv_room (Nat.le_of_ble_eq_true rfl)) d_T_fastest_15 ⟨Nat.zero_le _, Nat.zero_le _⟩) (fun r15 u15 H locs hw hI => ?_)
    refine lv_if_ne (tgt := 24) hx hb d_T_fastest_18 (by decide) (fun hc => ?_) (fun hc => ?_)
    · have hw := hw.2 hc
      refine lv_aload_n hx hb d_T_fastest_24 rfl (lv_at hl 0 rfl) ?_
      refine va_get (D := (dC, dI)) (C := R_T) (T := F_T) (N := 6) hx hb hts in_T hown hI.1 hI.2.1 0 (wdX_o0 a cA _) rfl 3 (by decide) (hts _ wA_267) (fun _ h9 => h9) rfl d_T_fastest_25 ?_
      refine lv_aload_n hx hb d_T_fastest_28 rfl (lv_at hl 0 rfl) ?_
      refine va_get (D := (dC, dI)) (C := R_T) (T := F_T) (N := 6) hx hb hts in_T hown hI.1 hI.2.1 0 (wdX_o0 a cA _) rfl 0 (by decide) (hts _ wA_264) (fun _ h9 => h9) rfl d_T_fastest_29 ?_
      refine lv_iload_n hx hb d_T_fastest_32 rfl (lv_at hl 1 rfl) ?_
      refine lv_iload_n hx hb d_T_fastest_33 rfl (lv_at hl 2 rfl) ?_
      refine lv_iload_n hx hb d_T_fastest_34 rfl (lv_at hl 3 rfl) ?_
      refine lv_iload hx hb d_T_fastest_35 (lv_at hl 4 rfl) ?_
      refine tr_gov (w := wdX a cA) hI hA (va_runV (As := [.ref (a 1), .int x1, .int x2, .int x3, .int x4]) (rest := []) ⟨hx, hb, hml, hown, hts⟩ (c_Sp_find l dC dI cA a _ _ _ _ _ _ _) (cwV 5 hts (wsA_goodV wA_483 wA_484 wA_485 wA_37 wA_486) rfl rfl rfl (by decide +kernel) ⟨Nat.le_of_ble_eq_true rfl, Nat.le_of_ble_eq_true rfl⟩) (tr_preV (ci := 6) (q0 := 7) hI rfl (wdX_o7 a cA _) rfl hN hw) rfl rfl hl.1 rfl (lv_room (Nat.le_of_ble_eq_true rfl)) d_T_fastest_37 ⟨Nat.zero_le _, Nat.zero_le _⟩) (fun u37 H locs hw hI => ?_)
      refine lv_aload_n hx hb d_T_fastest_40 rfl (lv_at hl 0 rfl) ?_
      refine va_get (D := (dC, dI)) (C := R_T) (T := F_T) (N := 6) hx hb hts in_T hown hI.1 hI.2.1 0 (wdX_o0 a cA _) rfl 3 (by decide) (hts _ wA_267) (fun _ h9 => h9) rfl d_T_fastest_41 ?_
      refine lv_iload_n hx hb d_T_fastest_44 rfl (lv_at hl 3 rfl) ?_
      refine lv_iload hx hb d_T_fastest_45 (lv_at hl 4 rfl) ?_
      refine tr_goi (w := wdX a cA) hI hA (va_runV (As := [.int x3, .int x4]) (rest := []) ⟨hx, hb, hml, hown, hts⟩ (c_Sp_leastMinutes l dC dI cA a _ _ _ _ _) (cwV 2 hts (wsA_goodV wA_492 wA_493 wA_494 wA_37 wA_495) rfl rfl rfl (by decide +kernel) ⟨Nat.le_of_ble_eq_true rfl, Nat.le_of_ble_eq_true rfl⟩) (tr_preV (ci := 6) (q0 := 7) hI rfl (wdX_o7 a cA _) rfl hN hw) rfl rfl hl.1 rfl (lv_room (Nat.le_of_ble_eq_true rfl)) d_T_fastest_47 ⟨Nat.zero_le _, Nat.zero_le _⟩) (fun r47 u47 H locs hw hI => ?_)
      refine tr_goi (w := wdX a cA) hI hA (va_runS (As := [.int r47]) (rest := []) ⟨hx, hb, hml, hown, hts⟩ (c_T_orNone l dC dI cA a _ _ _ _) ⟨callB_of 1 hts (wsA_good wA_427) rfl rfl rfl (hts _ wA_30) (hts _ wA_425) (by decide +kernel) ⟨Nat.le_of_ble_eq_true rfl, Nat.le_of_ble_eq_true rfl⟩, hts _ wA_426⟩ (tr_preS hI hN hw) rfl rfl hl.1 rfl (lv_room (Nat.le_of_ble_eq_true rfl)) d_T_fastest_50 ⟨Nat.zero_le _, Nat.zero_le _⟩) (fun r50 u50 H locs hw hI => ?_)
      exact tr_iret hx hb hr hlocks hI hw d_T_fastest_53
    · have hw := hw.1 hc
      refine lv_bipush (v := (-2)) hx hb d_T_fastest_21 (by decide) ?_
      exact tr_iret hx hb hr hlocks hI hw d_T_fastest_23
def w_St_take_40 (post : tS → Prop) (K8 : Int32 → Int32 → Int32 → tS → Prop) (x2 : Int32) (x3 : Int32) (x4 : Int32) (u : tS) : Prop := (vp_in (u.1 4) 601 ∧ (vp_in x4 601 ∧ (vp_in ((tA u 19 (u.1 4) (x2 + x4)).1 4) 601 ∧ (K8 x2 x3 (x4 + 1) (tI (tA (tA u 19 (u.1 4) (x2 + x4)) 20 ((tA u 19 (u.1 4) (x2 + x4)).1 4) ((tA u 19 (u.1 4) (x2 + x4)).2 18 x4.toNatClampNeg)) 4 (((tA (tA u 19 (u.1 4) (x2 + x4)) 20 ((tA u 19 (u.1 4) (x2 + x4)).1 4) ((tA u 19 (u.1 4) (x2 + x4)).2 18 x4.toNatClampNeg)).1 4) + 1))))))
def w_St_take_8 (post : tS → Prop) : Nat → Int32 → Int32 → Int32 → tS → Prop
  | 0 => fun _ _ _ _ => False
  | n + 1 => fun x2 x3 x4 u => (((x3 - x2) < x4 → (post u)) ∧ (¬ (x3 - x2) < x4 → ((x4 = 0 → (w_St_take_40 post (w_St_take_8 post n) x2 x3 x4 u)) ∧ (¬ x4 = 0 → (vp_in x4 601 ∧ (vp_in (x4 - 1) 601 ∧ (((u.2 18 x4.toNatClampNeg) = (u.2 18 (x4 - 1).toNatClampNeg) → (w_St_take_8 post n x2 x3 (x4 + 1) u)) ∧ (¬ (u.2 18 x4.toNatClampNeg) = (u.2 18 (x4 - 1).toNatClampNeg) → (w_St_take_40 post (w_St_take_8 post n) x2 x3 x4 u)))))))))
def w_St_take (post : tS → Prop) (x2 : Int32) (x3 : Int32) (u : tS) : Prop := (∃ k, w_St_take_8 post k x2 x3 0 (tI u 4 0))
set_option maxRecDepth 100000 in
set_option maxHeartbeats 4000000 in
theorem k_St_take_40 {p : Program} {l : Launch} {e : Env} {s : State} {m : MethodId} {args : Array Value} {below : List Frame} {meth : Method} {c : Code} {dC : Nat → ClassId} {dI : Nat → Nat → Nat} {cA : ClassId} {a : Nat → Nat} {A : Nat → Prop} (hC : tC p s m meth c args b_St_take 5 none wsA R_St A) (post : tS → Prop) (K8 : Int32 → Int32 → Int32 → tS → Prop) (hK8 : ∀ (x2 x3 x4 : Int32) (u : tS) (H : Heap) (locs : List Loc) (ls : Array Slot), K8 x2 x3 x4 u → tX (dC, dI) twCl [(cA, .int)] A s H locs (wdX a cA u) → lv_has ls 5 [(0, .ref (a 8)), (1, .ref (a 7)), (2, .int x2), (3, .int x3), (4, .int x4)] → W p l e ({ frames := 0, cells := 0, slots := 0, locals := 0 }) s m args below meth c H locs 0 0 (MQ below (va_Qv post (tB (dC, dI) twCl [(cA, .int)] A (wdX a cA)) A) args s 0 0 A) (F0 m 8 ls [])) : ∀ (x2 x3 x4 : Int32) (u : tS) (H : Heap) (locs : List Loc) (ls : Array Slot), w_St_take_40 post K8 x2 x3 x4 u → tX (dC, dI) twCl [(cA, .int)] A s H locs (wdX a cA u) → lv_has ls 5 [(0, .ref (a 8)), (1, .ref (a 7)), (2, .int x2), (3, .int x3), (4, .int x4)] → W p l e ({ frames := 0, cells := 0, slots := 0, locals := 0 }) s m args below meth c H locs 0 0 (MQ below (va_Qv post (tB (dC, dI) twCl [(cA, .int)] A (wdX a cA)) A) args s 0 0 A) (F0 m 40 ls []) := by
  obtain ⟨hx, hb, hr, hml, hown, hts, hlocks, hA, hN⟩ := id hC
  intro x2 x3 x4 u H locs ls hw hI hl
  refine lv_aload_n hx hb d_St_take_40 rfl (lv_at hl 0 rfl) ?_
  refine va_get (D := (dC, dI)) (C := R_St) (T := F_St) (N := 3) hx hb hts in_St hown hI.1 hI.2.1 8 (wdX_o8 a cA _) rfl 1 (by decide) (hts _ wA_226) (fun _ h9 => h9) rfl d_St_take_41 ?_
  refine lv_aload_n hx hb d_St_take_44 rfl (lv_at hl 0 rfl) ?_
  refine va_get (D := (dC, dI)) (C := R_St) (T := F_St) (N := 3) hx hb hts in_St hown hI.1 hI.2.1 8 (wdX_o8 a cA _) rfl 0 (by decide) (hts _ wA_224) (fun _ h9 => h9) rfl d_St_take_45 ?_
  refine lv_iload_n hx hb d_St_take_48 rfl (lv_at hl 2 rfl) ?_
  refine lv_iload hx hb d_St_take_49 (lv_at hl 4 rfl) ?_
  refine lv_iadd hx hb d_St_take_51 ?_
  obtain ⟨hi, hw⟩ := hw
  refine tr_iast (w := wdX a cA) hx hb hI 29 0 19 (wdX_o29 a cA _) rfl (wdX_a19 a cA _ _ _) hi d_St_take_52 (fun H locs hI => ?_)
  refine lv_aload_n hx hb d_St_take_53 rfl (lv_at hl 0 rfl) ?_
  refine va_get (D := (dC, dI)) (C := R_St) (T := F_St) (N := 3) hx hb hts in_St hown hI.1 hI.2.1 8 (wdX_o8 a cA _) rfl 2 (by decide) (hts _ wA_228) (fun _ h9 => h9) rfl d_St_take_54 ?_
  refine lv_aload_n hx hb d_St_take_57 rfl (lv_at hl 0 rfl) ?_
  refine va_get (D := (dC, dI)) (C := R_St) (T := F_St) (N := 3) hx hb hts in_St hown hI.1 hI.2.1 8 (wdX_o8 a cA _) rfl 0 (by decide) (hts _ wA_224) (fun _ h9 => h9) rfl d_St_take_58 ?_
  refine lv_aload_n hx hb d_St_take_61 rfl (lv_at hl 1 rfl) ?_
  refine va_get (D := (dC, dI)) (C := R_Sp) (T := F_Sp) (N := 2) hx hb hts in_Sp hown hI.1 hI.2.1 7 (wdX_o7 a cA _) rfl 1 (by decide) (hts _ wA_212) (fun _ h9 => h9) rfl d_St_take_62 ?_
  refine lv_iload hx hb d_St_take_65 (lv_at hl 4 rfl) ?_
  obtain ⟨hi, hw⟩ := hw
  refine va_iald (D := (dC, dI)) hx hb hI.1 hI.2.1 28 0 (wdX_o28 a cA _) rfl hi d_St_take_67 ?_
  obtain ⟨hi, hw⟩ := hw
  refine tr_iast (w := wdX a cA) hx hb hI 30 0 20 (wdX_o30 a cA _) rfl (wdX_a20 a cA _ _ _) hi d_St_take_68 (fun H locs hI => ?_)
  refine lv_aload_n hx hb d_St_take_69 rfl (lv_at hl 0 rfl) ?_
  refine lv_dup hx hb d_St_take_70 rfl ?_
  refine va_get (D := (dC, dI)) (C := R_St) (T := F_St) (N := 3) hx hb hts in_St hown hI.1 hI.2.1 8 (wdX_o8 a cA _) rfl 0 (by decide) (hts _ wA_224) (fun _ h9 => h9) rfl d_St_take_71 ?_
  refine lv_iconst (v := 1) hx hb d_St_take_74 (by decide) ?_
  refine lv_iadd hx hb d_St_take_75 ?_
  refine tr_put (C := R_St) (T := F_St) (N := 3) (w := wdX a cA) hx hb hts in_St ft_St ft_St_ok fn_St hown hI 8 4 (wdX_o8 a cA _) rfl 0 (by decide) (hts _ wA_224) rfl (by decide +kernel) (Nat.le_of_ble_eq_true rfl) (wdX_i4 a cA _ _) d_St_take_76 (fun H locs hI => ?_)
  refine lv_iinc (v := (x4 + 1)) (lv' := [(4, .int (x4 + 1)), (0, .ref (a 8)), (1, .ref (a 7)), (2, .int x2), (3, .int x3)]) hx hb d_St_take_79 hl (k := 4) rfl rfl (by decide) rfl (fun ls hl => ?_)
  refine lv_goto (tgt := 8) hx hb d_St_take_82 (by decide) ?_
  exact hK8 _ _ _ _ _ _ ls hw hI (lv_sub hl [1, 2, 3, 4, 0] rfl)
set_option maxRecDepth 100000 in
set_option maxHeartbeats 4000000 in
theorem k_St_take_8 {p : Program} {l : Launch} {e : Env} {s : State} {m : MethodId} {args : Array Value} {below : List Frame} {meth : Method} {c : Code} {dC : Nat → ClassId} {dI : Nat → Nat → Nat} {cA : ClassId} {a : Nat → Nat} {A : Nat → Prop} (hC : tC p s m meth c args b_St_take 5 none wsA R_St A) (post : tS → Prop) : ∀ n : Nat, ∀ (x2 x3 x4 : Int32) (u : tS) (H : Heap) (locs : List Loc) (ls : Array Slot), w_St_take_8 post n x2 x3 x4 u → tX (dC, dI) twCl [(cA, .int)] A s H locs (wdX a cA u) → lv_has ls 5 [(0, .ref (a 8)), (1, .ref (a 7)), (2, .int x2), (3, .int x3), (4, .int x4)] → W p l e ({ frames := 0, cells := 0, slots := 0, locals := 0 }) s m args below meth c H locs 0 0 (MQ below (va_Qv post (tB (dC, dI) twCl [(cA, .int)] A (wdX a cA)) A) args s 0 0 A) (F0 m 8 ls []) := by
  obtain ⟨hx, hb, hr, hml, hown, hts, hlocks, hA, hN⟩ := id hC
  intro n
  induction n with
  | zero => intro x2 x3 x4 u H locs ls hw; exact False.elim hw
  | succ n ih =>
    intro x2 x3 x4 u H locs ls hw hI hl
    refine lv_iload hx hb d_St_take_8 (lv_at hl 4 rfl) ?_
    refine lv_iload_n hx hb d_St_take_10 rfl (lv_at hl 3 rfl) ?_
    refine lv_iload_n hx hb d_St_take_11 rfl (lv_at hl 2 rfl) ?_
    refine lv_isub hx hb d_St_take_12 ?_
    refine lv_icmp_gt (tgt := 85) hx hb d_St_take_13 (by decide) (fun hc => ?_) (fun hc => ?_)
    · have hw := hw.1 hc
      exact tr_vret hx hb hr hlocks hI hw d_St_take_85
    · have hw := hw.2 hc
      refine lv_iload hx hb d_St_take_16 (lv_at hl 4 rfl) ?_
      refine lv_if_eq (tgt := 40) hx hb d_St_take_18 (by decide) (fun hc => ?_) (fun hc => ?_)
      · have hw := hw.1 hc
        exact k_St_take_40 hC post _ ih _ _ _ _ _ _ ls hw hI (lv_sub hl [0, 1, 2, 3, 4] rfl)
      · have hw := hw.2 hc
        refine lv_aload_n hx hb d_St_take_21 rfl (lv_at hl 1 rfl) ?_
        refine va_get (D := (dC, dI)) (C := R_Sp) (T := F_Sp) (N := 2) hx hb hts in_Sp hown hI.1 hI.2.1 7 (wdX_o7 a cA _) rfl 1 (by decide) (hts _ wA_212) (fun _ h9 => h9) rfl d_St_take_22 ?_
        refine lv_iload hx hb d_St_take_25 (lv_at hl 4 rfl) ?_
        obtain ⟨hi, hw⟩ := hw
        refine va_iald (D := (dC, dI)) hx hb hI.1 hI.2.1 28 0 (wdX_o28 a cA _) rfl hi d_St_take_27 ?_
        refine lv_aload_n hx hb d_St_take_28 rfl (lv_at hl 1 rfl) ?_
        refine va_get (D := (dC, dI)) (C := R_Sp) (T := F_Sp) (N := 2) hx hb hts in_Sp hown hI.1 hI.2.1 7 (wdX_o7 a cA _) rfl 1 (by decide) (hts _ wA_212) (fun _ h9 => h9) rfl d_St_take_29 ?_
        refine lv_iload hx hb d_St_take_32 (lv_at hl 4 rfl) ?_
        refine lv_iconst (v := 1) hx hb d_St_take_34 (by decide) ?_
        refine lv_isub hx hb d_St_take_35 ?_
        obtain ⟨hi, hw⟩ := hw
        refine va_iald (D := (dC, dI)) hx hb hI.1 hI.2.1 28 0 (wdX_o28 a cA _) rfl hi d_St_take_36 ?_
        refine lv_icmp_eq (tgt := 79) hx hb d_St_take_37 (by decide) (fun hc => ?_) (fun hc => ?_)
        · have hw := hw.1 hc
          refine lv_iinc (v := (x4 + 1)) (lv' := [(4, .int (x4 + 1)), (0, .ref (a 8)), (1, .ref (a 7)), (2, .int x2), (3, .int x3)]) hx hb d_St_take_79 hl (k := 4) rfl rfl (by decide) rfl (fun ls hl => ?_)
          refine lv_goto (tgt := 8) hx hb d_St_take_82 (by decide) ?_
          exact ih _ _ _ _ _ _ ls hw hI (lv_sub hl [1, 2, 3, 4, 0] rfl)
        · have hw := hw.2 hc
          exact k_St_take_40 hC post _ ih _ _ _ _ _ _ ls hw hI (lv_sub hl [0, 1, 2, 3, 4] rfl)
set_option maxRecDepth 100000 in
set_option maxHeartbeats 4000000 in
theorem c_St_take (l : Launch) (dC : Nat → ClassId) (dI : Nat → Nat → Nat) (cA : ClassId) (a : Nat → Nat) (u : tS) (x2 : Int32) (x3 : Int32) (post : tS → Prop) (sz : Nat) : Met l y_St_take ws_St_take ({ frames := 0, cells := 0, slots := 0, locals := 0 }) (va_Pc [.ref (a 8), .ref (a 7), .int x2, .int x3] (tP (dC, dI) twCl [(cA, .int)] (wdX a cA) u sz (w_St_take post x2 x3 u))) (va_Qv post (tB (dC, dI) twCl [(cA, .int)] (va_A (wdX a cA u) sz) (wdX a cA)) (va_A (wdX a cA u) sz)) 0 0 (va_A (wdX a cA u) sz) := by
  refine Met.ofW (cc := b_St_take) (maxL := 5) (ret := none) (by decide) rfl ?_
  intro p e s m args below meth c s₁ B hml hv
  obtain ⟨rfl, hsz, hP, hK, hD0, hN, hw⟩ := hv
  have hx := B.exec
  have hb := B.bytes
  have hr := B.returns
  have hts : ∀ w ∈ wsA, w.before _ s = true := fun w h => atoms_spec (ws := ws_St_take) B.pre w (List.mem_cons_of_mem _ h)
  have hown : s.vm.findClass R_St = some m.cls := findClass_of_methodNamed B.named
  have hlocks := B.notSynchronized
  subst hsz
  have hD := hD0.self (sz := s.heap.size)
  generalize hAe : va_A (wdX a cA u) s.heap.size = A at hD ⊢
  have hA : ∀ q : Nat, s.heap.size ≤ q → A q := fun q h => by rw [← hAe]; exact Or.inr h
  have hS : va_S A s.heap s.heap [] := va_S.rf
  have hI : tX (dC, dI) twCl [(cA, .int)] A s s.heap [] (wdX a cA u) := ⟨hK, hP, hD, hS⟩
  have hC : tC p s m meth c ([.ref (a 8), .ref (a 7), .int x2, .int x3] : List Value).toArray b_St_take 5 none wsA R_St A := ⟨hx, hb, hr, hml, hown, hts, hlocks, hA, hN⟩
  have hl := lv_entry ([.ref (a 8), .ref (a 7), .int x2, .int x3]) (n := 5) (Nat.le_of_ble_eq_true rfl)
  rw [lg_entry_eq]
  generalize (lg_sl ([.ref (a 8), .ref (a 7), .int x2, .int x3]) ++ List.replicate (5 - (lg_sl ([.ref (a 8), .ref (a 7), .int x2, .int x3])).length) Slot.unset).toArray = ls at hl ⊢
  have hl : lv_has ls 5 [(0, .ref (a 8)), (1, .ref (a 7)), (2, .int x2), (3, .int x3)] := hl
  have hw : (∃ k, w_St_take_8 post k x2 x3 0 (tI u 4 0)) := hw
  refine lv_aload_n hx hb d_St_take_0 rfl (lv_at hl 0 rfl) ?_
  refine lv_iconst (v := 0) hx hb d_St_take_1 (by decide) ?_
  refine tr_put (C := R_St) (T := F_St) (N := 3) (w := wdX a cA) hx hb hts in_St ft_St ft_St_ok fn_St hown hI 8 4 (wdX_o8 a cA _) rfl 0 (by decide) (hts _ wA_224) rfl (by decide +kernel) (Nat.le_of_ble_eq_true rfl) (wdX_i4 a cA _ _) d_St_take_2 (fun H locs hI => ?_)
  refine lv_iconst (v := 0) hx hb d_St_take_5 (by decide) ?_
  refine lv_istore (lv' := [(4, .int 0), (0, .ref (a 8)), (1, .ref (a 7)), (2, .int x2), (3, .int x3)]) hx hb d_St_take_6 hl (by decide) rfl (fun ls hl => ?_)
  obtain ⟨k, hw⟩ := hw
  exact k_St_take_8 hC post k _ _ _ _ _ _ ls hw hI (lv_sub hl [1, 2, 3, 4, 0] rfl)
def w_T_profile (post : Int32 → tS → Prop) (x1 : Int32) (x2 : Int32) (x3 : Int32) (x4 : Int32) (u : tS) : Prop := (w_Ne_hasStops (fun r6 u6 => ((r6 = 0 → (post (-2) u6)) ∧ (¬ r6 = 0 → (w_T_isSpan (fun r15 u15 => ((r15 = 0 → (post (-2) u15)) ∧ (¬ r15 = 0 → (w_Sp_find (fun u37 => (w_St_take (fun u51 => (post (u51.1 4) u51)) x3 x4 u37)) x1 x2 x3 x4 u15)))) x3 x4 u6)))) x1 x2 u)
set_option maxRecDepth 100000 in
set_option maxHeartbeats 4000000 in
theorem c_T_profile (l : Launch) (dC : Nat → ClassId) (dI : Nat → Nat → Nat) (cA : ClassId) (a : Nat → Nat) (u : tS) (x1 : Int32) (x2 : Int32) (x3 : Int32) (x4 : Int32) (post : Int32 → tS → Prop) (sz : Nat) : Met l y_T_profile ws_T_profile ({ frames := 5, cells := 0, slots := 0, locals := 124 }) (va_Pc [.ref (a 0), .int x1, .int x2, .int x3, .int x4] (tP (dC, dI) twCl [(cA, .int)] (wdX a cA) u sz (w_T_profile post x1 x2 x3 x4 u))) (va_Qi post (tB (dC, dI) twCl [(cA, .int)] (va_A (wdX a cA u) sz) (wdX a cA)) (va_A (wdX a cA u) sz)) 0 0 (va_A (wdX a cA u) sz) := by
  refine Met.ofW (cc := b_T_profile) (maxL := 5) (ret := (some .int)) (by decide) rfl ?_
  intro p e s m args below meth c s₁ B hml hv
  obtain ⟨rfl, hsz, hP, hK, hD0, hN, hw⟩ := hv
  have hx := B.exec
  have hb := B.bytes
  have hr := B.returns
  have hts : ∀ w ∈ wsA, w.before _ s = true := fun w h => atoms_spec (ws := ws_T_profile) B.pre w (List.mem_cons_of_mem _ h)
  have hown : s.vm.findClass R_T = some m.cls := findClass_of_methodNamed B.named
  have hlocks := B.notSynchronized
  subst hsz
  have hD := hD0.self (sz := s.heap.size)
  generalize hAe : va_A (wdX a cA u) s.heap.size = A at hD ⊢
  have hA : ∀ q : Nat, s.heap.size ≤ q → A q := fun q h => by rw [← hAe]; exact Or.inr h
  have hS : va_S A s.heap s.heap [] := va_S.rf
  have hI : tX (dC, dI) twCl [(cA, .int)] A s s.heap [] (wdX a cA u) := ⟨hK, hP, hD, hS⟩
  have hC : tC p s m meth c ([.ref (a 0), .int x1, .int x2, .int x3, .int x4] : List Value).toArray b_T_profile 5 (some .int) wsA R_T A := ⟨hx, hb, hr, hml, hown, hts, hlocks, hA, hN⟩
  have hl := lv_entry ([.ref (a 0), .int x1, .int x2, .int x3, .int x4]) (n := 5) (Nat.le_of_ble_eq_true rfl)
  rw [lg_entry_eq]
  generalize (lg_sl ([.ref (a 0), .int x1, .int x2, .int x3, .int x4]) ++ List.replicate (5 - (lg_sl ([.ref (a 0), .int x1, .int x2, .int x3, .int x4])).length) Slot.unset).toArray = ls at hl ⊢
  have hl : lv_has ls 5 [(0, .ref (a 0)), (1, .int x1), (2, .int x2), (3, .int x3), (4, .int x4)] := hl
  have hw : (w_Ne_hasStops (fun r6 u6 => ((r6 = 0 → (post (-2) u6)) ∧ (¬ r6 = 0 → (w_T_isSpan (fun r15 u15 => ((r15 = 0 → (post (-2) u15)) ∧ (¬ r15 = 0 → (w_Sp_find (fun u37 => (w_St_take (fun u51 => (post (u51.1 4) u51)) x3 x4 u37)) x1 x2 x3 x4 u15)))) x3 x4 u6)))) x1 x2 u) := hw
  refine lv_aload_n hx hb d_T_profile_0 rfl (lv_at hl 0 rfl) ?_
  refine va_get (D := (dC, dI)) (C := R_T) (T := F_T) (N := 6) hx hb hts in_T hown hI.1 hI.2.1 0 (wdX_o0 a cA _) rfl 0 (by decide) (hts _ wA_264) (fun _ h9 => h9) rfl d_T_profile_1 ?_
  refine lv_iload_n hx hb d_T_profile_4 rfl (lv_at hl 1 rfl) ?_
  refine lv_iload_n hx hb d_T_profile_5 rfl (lv_at hl 2 rfl) ?_
  refine tr_goi (w := wdX a cA) hI hA (va_runV (As := [.int x1, .int x2]) (rest := []) ⟨hx, hb, hml, hown, hts⟩ (c_Ne_hasStops l dC dI cA a _ _ _ _ _) (cwV 2 hts (wsA_goodV wA_315 wA_316 wA_317 wA_31 wA_318) rfl rfl rfl (by decide +kernel) ⟨Nat.le_of_ble_eq_true rfl, Nat.le_of_ble_eq_true rfl⟩) (tr_preV (ci := 1) (q0 := 1) hI rfl (wdX_o1 a cA _) rfl hN hw) rfl rfl hl.1 rfl (lv_room (Nat.le_of_ble_eq_true rfl)) d_T_profile_6 ⟨Nat.zero_le _, Nat.zero_le _⟩) (fun r6 u6 H locs hw hI => ?_)
  refine lv_if_eq (tgt := 21) hx hb d_T_profile_9 (by decide) (fun hc => ?_) (fun hc => ?_)
  · have hw := hw.1 hc
    refine lv_bipush (v := (-2)) hx hb d_T_profile_21 (by decide) ?_
    exact tr_iret hx hb hr hlocks hI hw d_T_profile_23
  · have hw := hw.2 hc
    refine lv_iload_n hx hb d_T_profile_12 rfl (lv_at hl 3 rfl) ?_
    refine lv_iload hx hb d_T_profile_13 (lv_at hl 4 rfl) ?_
    refine tr_goi (w := wdX a cA) hI hA (va_runS (As := [.int x3, .int x4]) (rest := []) ⟨hx, hb, hml, hown, hts⟩ (c_T_isSpan l dC dI cA a _ _ _ _ _) ⟨callB_of 2 hts (wsA_good wA_482) rfl rfl rfl (hts _ wA_30) (hts _ wA_480) (by decide +kernel) ⟨Nat.le_of_ble_eq_true rfl, Nat.le_of_ble_eq_true rfl⟩, hts _ wA_481⟩ (tr_preS hI hN hw) rfl rfl hl.1 rfl (lv_room (Nat.le_of_ble_eq_true rfl)) d_T_profile_15 ⟨Nat.zero_le _, Nat.zero_le _⟩) (fun r15 u15 H locs hw hI => ?_)
    refine lv_if_ne (tgt := 24) hx hb d_T_profile_18 (by decide) (fun hc => ?_) (fun hc => ?_)
    · have hw := hw.2 hc
      refine lv_aload_n hx hb d_T_profile_24 rfl (lv_at hl 0 rfl) ?_
      refine va_get (D := (dC, dI)) (C := R_T) (T := F_T) (N := 6) hx hb hts in_T hown hI.1 hI.2.1 0 (wdX_o0 a cA _) rfl 3 (by decide) (hts _ wA_267) (fun _ h9 => h9) rfl d_T_profile_25 ?_
      refine lv_aload_n hx hb d_T_profile_28 rfl (lv_at hl 0 rfl) ?_
      refine va_get (D := (dC, dI)) (C := R_T) (T := F_T) (N := 6) hx hb hts in_T hown hI.1 hI.2.1 0 (wdX_o0 a cA _) rfl 0 (by decide) (hts _ wA_264) (fun _ h9 => h9) rfl d_T_profile_29 ?_
      refine lv_iload_n hx hb d_T_profile_32 rfl (lv_at hl 1 rfl) ?_
      refine lv_iload_n hx hb d_T_profile_33 rfl (lv_at hl 2 rfl) ?_
      refine lv_iload_n hx hb d_T_profile_34 rfl (lv_at hl 3 rfl) ?_
      refine lv_iload hx hb d_T_profile_35 (lv_at hl 4 rfl) ?_
      refine tr_gov (w := wdX a cA) hI hA (va_runV (As := [.ref (a 1), .int x1, .int x2, .int x3, .int x4]) (rest := []) ⟨hx, hb, hml, hown, hts⟩ (c_Sp_find l dC dI cA a _ _ _ _ _ _ _) (cwV 5 hts (wsA_goodV wA_483 wA_484 wA_485 wA_37 wA_486) rfl rfl rfl (by decide +kernel) ⟨Nat.le_of_ble_eq_true rfl, Nat.le_of_ble_eq_true rfl⟩) (tr_preV (ci := 6) (q0 := 7) hI rfl (wdX_o7 a cA _) rfl hN hw) rfl rfl hl.1 rfl (lv_room (Nat.le_of_ble_eq_true rfl)) d_T_profile_37 ⟨Nat.zero_le _, Nat.zero_le _⟩) (fun u37 H locs hw hI => ?_)
      refine lv_aload_n hx hb d_T_profile_40 rfl (lv_at hl 0 rfl) ?_
      refine va_get (D := (dC, dI)) (C := R_T) (T := F_T) (N := 6) hx hb hts in_T hown hI.1 hI.2.1 0 (wdX_o0 a cA _) rfl 4 (by decide) (hts _ wA_268) (fun _ h9 => h9) rfl d_T_profile_41 ?_
      refine lv_aload_n hx hb d_T_profile_44 rfl (lv_at hl 0 rfl) ?_
      refine va_get (D := (dC, dI)) (C := R_T) (T := F_T) (N := 6) hx hb hts in_T hown hI.1 hI.2.1 0 (wdX_o0 a cA _) rfl 3 (by decide) (hts _ wA_267) (fun _ h9 => h9) rfl d_T_profile_45 ?_
      refine lv_iload_n hx hb d_T_profile_48 rfl (lv_at hl 3 rfl) ?_
      refine lv_iload hx hb d_T_profile_49 (lv_at hl 4 rfl) ?_
      refine tr_gov (w := wdX a cA) hI hA (va_runV (As := [.ref (a 7), .int x3, .int x4]) (rest := []) ⟨hx, hb, hml, hown, hts⟩ (c_St_take l dC dI cA a _ _ _ _ _) (cwV 3 hts (wsA_goodV wA_500 wA_501 wA_502 wA_38 wA_503) rfl rfl rfl (by decide +kernel) ⟨Nat.le_of_ble_eq_true rfl, Nat.le_of_ble_eq_true rfl⟩) (tr_preV (ci := 7) (q0 := 8) hI rfl (wdX_o8 a cA _) rfl hN hw) rfl rfl hl.1 rfl (lv_room (Nat.le_of_ble_eq_true rfl)) d_T_profile_51 ⟨Nat.zero_le _, Nat.zero_le _⟩) (fun u51 H locs hw hI => ?_)
      refine lv_aload_n hx hb d_T_profile_54 rfl (lv_at hl 0 rfl) ?_
      refine va_get (D := (dC, dI)) (C := R_T) (T := F_T) (N := 6) hx hb hts in_T hown hI.1 hI.2.1 0 (wdX_o0 a cA _) rfl 4 (by decide) (hts _ wA_268) (fun _ h9 => h9) rfl d_T_profile_55 ?_
      refine va_get (D := (dC, dI)) (C := R_St) (T := F_St) (N := 3) hx hb hts in_St hown hI.1 hI.2.1 8 (wdX_o8 a cA _) rfl 0 (by decide) (hts _ wA_225) (fun _ h9 => h9) rfl d_T_profile_58 ?_
      exact tr_iret hx hb hr hlocks hI hw d_T_profile_61
    · have hw := hw.1 hc
      refine lv_bipush (v := (-2)) hx hb d_T_profile_21 (by decide) ?_
      exact tr_iret hx hb hr hlocks hI hw d_T_profile_23
def w_T_step (post : Int32 → tS → Prop) (x1 : Int32) (x2 : Int32) (u : tS) : Prop := (w_T_within (fun r11 u11 => ((r11 = 0 → (post (-2) u11)) ∧ (¬ r11 = 0 → ((x2 = 0 → (vp_in x1 601 ∧ (post (u11.2 19 x1.toNatClampNeg) u11))) ∧ (¬ x2 = 0 → ((x2 = 1 → (vp_in x1 601 ∧ (w_T_orNone (fun r67 u67 => (post r67 u67)) (u11.2 20 x1.toNatClampNeg) u11))) ∧ (¬ x2 = 1 → (post (-2) u11)))))))) x1 0 ((u.1 4) - 1) u)
set_option maxRecDepth 100000 in
set_option maxHeartbeats 4000000 in
theorem c_T_step (l : Launch) (dC : Nat → ClassId) (dI : Nat → Nat → Nat) (cA : ClassId) (a : Nat → Nat) (u : tS) (x1 : Int32) (x2 : Int32) (post : Int32 → tS → Prop) (sz : Nat) : Met l y_T_step ws_T_step ({ frames := 1, cells := 0, slots := 0, locals := 22 }) (va_Pc [.ref (a 0), .int x1, .int x2] (tP (dC, dI) twCl [(cA, .int)] (wdX a cA) u sz (w_T_step post x1 x2 u))) (va_Qi post (tB (dC, dI) twCl [(cA, .int)] (va_A (wdX a cA u) sz) (wdX a cA)) (va_A (wdX a cA u) sz)) 0 0 (va_A (wdX a cA u) sz) := by
  refine Met.ofW (cc := b_T_step) (maxL := 3) (ret := (some .int)) (by decide) rfl ?_
  intro p e s m args below meth c s₁ B hml hv
  obtain ⟨rfl, hsz, hP, hK, hD0, hN, hw⟩ := hv
  have hx := B.exec
  have hb := B.bytes
  have hr := B.returns
  have hts : ∀ w ∈ wsA, w.before _ s = true := fun w h => atoms_spec (ws := ws_T_step) B.pre w (List.mem_cons_of_mem _ h)
  have hown : s.vm.findClass R_T = some m.cls := findClass_of_methodNamed B.named
  have hlocks := B.notSynchronized
  subst hsz
  have hD := hD0.self (sz := s.heap.size)
  generalize hAe : va_A (wdX a cA u) s.heap.size = A at hD ⊢
  have hA : ∀ q : Nat, s.heap.size ≤ q → A q := fun q h => by rw [← hAe]; exact Or.inr h
  have hS : va_S A s.heap s.heap [] := va_S.rf
  have hI : tX (dC, dI) twCl [(cA, .int)] A s s.heap [] (wdX a cA u) := ⟨hK, hP, hD, hS⟩
  have hC : tC p s m meth c ([.ref (a 0), .int x1, .int x2] : List Value).toArray b_T_step 3 (some .int) wsA R_T A := ⟨hx, hb, hr, hml, hown, hts, hlocks, hA, hN⟩
  have hl := lv_entry ([.ref (a 0), .int x1, .int x2]) (n := 3) (Nat.le_of_ble_eq_true rfl)
  rw [lg_entry_eq]
  generalize (lg_sl ([.ref (a 0), .int x1, .int x2]) ++ List.replicate (3 - (lg_sl ([.ref (a 0), .int x1, .int x2])).length) Slot.unset).toArray = ls at hl ⊢
  have hl : lv_has ls 3 [(0, .ref (a 0)), (1, .int x1), (2, .int x2)] := hl
  have hw : (w_T_within (fun r11 u11 => ((r11 = 0 → (post (-2) u11)) ∧ (¬ r11 = 0 → ((x2 = 0 → (vp_in x1 601 ∧ (post (u11.2 19 x1.toNatClampNeg) u11))) ∧ (¬ x2 = 0 → ((x2 = 1 → (vp_in x1 601 ∧ (w_T_orNone (fun r67 u67 => (post r67 u67)) (u11.2 20 x1.toNatClampNeg) u11))) ∧ (¬ x2 = 1 → (post (-2) u11)))))))) x1 0 ((u.1 4) - 1) u) := hw
  refine lv_iload_n hx hb d_T_step_0 rfl (lv_at hl 1 rfl) ?_
  refine lv_iconst (v := 0) hx hb d_T_step_1 (by decide) ?_
  refine lv_aload_n hx hb d_T_step_2 rfl (lv_at hl 0 rfl) ?_
  refine va_get (D := (dC, dI)) (C := R_T) (T := F_T) (N := 6) hx hb hts in_T hown hI.1 hI.2.1 0 (wdX_o0 a cA _) rfl 4 (by decide) (hts _ wA_268) (fun _ h9 => h9) rfl d_T_step_3 ?_
  refine va_get (D := (dC, dI)) (C := R_St) (T := F_St) (N := 3) hx hb hts in_St hown hI.1 hI.2.1 8 (wdX_o8 a cA _) rfl 0 (by decide) (hts _ wA_225) (fun _ h9 => h9) rfl d_T_step_6 ?_
  refine lv_iconst (v := 1) hx hb d_T_step_9 (by decide) ?_
  refine lv_isub hx hb d_T_step_10 ?_
  refine tr_goi (w := wdX a cA) hI hA (va_runS (As := [.int x1, .int 0, .int ((u.1 4) - 1)]) (rest := []) ⟨hx, hb, hml, hown, hts⟩ (c_T_within l dC dI cA a _ _ _ _ _ _) ⟨callB_of 3 hts (wsA_good wA_301) rfl rfl rfl (hts _ wA_30) (hts _ wA_299) (by decide +kernel) ⟨Nat.le_of_ble_eq_true rfl, Nat.le_of_ble_eq_true rfl⟩, hts _ wA_300⟩ (tr_preS hI hN hw) rfl rfl hl.1 rfl (lv_room (Nat.le_of_ble_eq_true rfl)) d_T_step_11 ⟨Nat.zero_le _, Nat.zero_le _⟩) (fun r11 u11 H locs hw hI => ?_)
  refine lv_if_ne (tgt := 20) hx hb d_T_step_14 (by decide) (fun hc => ?_) (fun hc => ?_)
  · have hw := hw.2 hc
    refine lv_iload_n hx hb d_T_step_20 rfl (lv_at hl 2 rfl) ?_
    by_cases hc0 : x2 = 0
    · have hw := hw.1 hc0
      refine lv_lookup (off := 27) (tgt := 48) hx hb d_T_step_21 (by decide) (by rw [hc0]; first | done | rfl) (by decide) ?_
      refine lv_aload_n hx hb d_T_step_48 rfl (lv_at hl 0 rfl) ?_
      refine va_get (D := (dC, dI)) (C := R_T) (T := F_T) (N := 6) hx hb hts in_T hown hI.1 hI.2.1 0 (wdX_o0 a cA _) rfl 4 (by decide) (hts _ wA_268) (fun _ h9 => h9) rfl d_T_step_49 ?_
      refine va_get (D := (dC, dI)) (C := R_St) (T := F_St) (N := 3) hx hb hts in_St hown hI.1 hI.2.1 8 (wdX_o8 a cA _) rfl 1 (by decide) (hts _ wA_227) (fun _ h9 => h9) rfl d_T_step_52 ?_
      refine lv_iload_n hx hb d_T_step_55 rfl (lv_at hl 1 rfl) ?_
      obtain ⟨hi, hw⟩ := hw
      refine va_iald (D := (dC, dI)) hx hb hI.1 hI.2.1 29 0 (wdX_o29 a cA _) rfl hi d_T_step_56 ?_
      exact tr_iret hx hb hr hlocks hI hw d_T_step_57
    · have hw := hw.2 hc0
      by_cases hc1 : x2 = 1
      · have hw := hw.1 hc1
        refine lv_lookup (off := 37) (tgt := 58) hx hb d_T_step_21 (by decide) (by rw [hc1]; first | done | rfl) (by decide) ?_
        refine lv_aload_n hx hb d_T_step_58 rfl (lv_at hl 0 rfl) ?_
        refine va_get (D := (dC, dI)) (C := R_T) (T := F_T) (N := 6) hx hb hts in_T hown hI.1 hI.2.1 0 (wdX_o0 a cA _) rfl 4 (by decide) (hts _ wA_268) (fun _ h9 => h9) rfl d_T_step_59 ?_
        refine va_get (D := (dC, dI)) (C := R_St) (T := F_St) (N := 3) hx hb hts in_St hown hI.1 hI.2.1 8 (wdX_o8 a cA _) rfl 2 (by decide) (hts _ wA_229) (fun _ h9 => h9) rfl d_T_step_62 ?_
        refine lv_iload_n hx hb d_T_step_65 rfl (lv_at hl 1 rfl) ?_
        obtain ⟨hi, hw⟩ := hw
        refine va_iald (D := (dC, dI)) hx hb hI.1 hI.2.1 30 0 (wdX_o30 a cA _) rfl hi d_T_step_66 ?_
        refine tr_goi (w := wdX a cA) hI hA (va_runS (As := [.int (u11.2 20 x1.toNatClampNeg)]) (rest := []) ⟨hx, hb, hml, hown, hts⟩ (c_T_orNone l dC dI cA a _ _ _ _) ⟨callB_of 1 hts (wsA_good wA_427) rfl rfl rfl (hts _ wA_30) (hts _ wA_425) (by decide +kernel) ⟨Nat.le_of_ble_eq_true rfl, Nat.le_of_ble_eq_true rfl⟩, hts _ wA_426⟩ (tr_preS hI hN hw) rfl rfl hl.1 rfl (lv_room (Nat.le_of_ble_eq_true rfl)) d_T_step_67 ⟨Nat.zero_le _, Nat.zero_le _⟩) (fun r67 u67 H locs hw hI => ?_)
        exact tr_iret hx hb hr hlocks hI hw d_T_step_70
      · have hw := hw.2 hc1
        refine lv_lookup (off := 50) (tgt := 71) hx hb d_T_step_21 (by decide) ((lv_osw (a := 0) (o := 27) (r := [(1, 37)]) (d := 50) hc0 rfl).trans ((lv_osw (a := 1) (o := 37) (r := []) (d := 50) hc1 rfl).trans rfl)) (by decide) ?_
        refine lv_bipush (v := (-2)) hx hb d_T_step_71 (by decide) ?_
        exact tr_iret hx hb hr hlocks hI hw d_T_step_73
  · have hw := hw.1 hc
    refine lv_bipush (v := (-2)) hx hb d_T_step_17 (by decide) ?_
    exact tr_iret hx hb hr hlocks hI hw d_T_step_19
def w_T_reach_47 (post : Int32 → tS → Prop) : Nat → Int32 → Int32 → Int32 → tS → Prop
  | 0 => fun _ _ _ _ => False
  | n + 1 => fun x3 x4 x5 u => (((u.1 0) ≤ x5 → (post x4 u)) ∧ (¬ (u.1 0) ≤ x5 → (w_Ar_first (fun r65 u65 => ((x3 < r65 → (w_T_reach_47 post n x3 x4 (x5 + 1) u65)) ∧ (¬ x3 < r65 → (w_T_reach_47 post n x3 (x4 ||| (1 <<< (x5 &&& 31))) (x5 + 1) u65)))) x5 u)))
def w_T_reach (post : Int32 → tS → Prop) (x1 : Int32) (x2 : Int32) (x3 : Int32) (u : tS) : Prop := (w_Ne_hasStop (fun r5 u5 => ((r5 = 0 → (post (-2) u5)) ∧ (¬ r5 = 0 → (w_T_isTime (fun r12 u12 => ((r12 = 0 → (post (-2) u12)) ∧ (¬ r12 = 0 → (w_T_isBy (fun r19 u19 => ((r19 = 0 → (post (-2) u19)) ∧ (¬ r19 = 0 → (w_Ar_find (fun u38 => (∃ k, w_T_reach_47 post k x3 0 0 u38)) x1 x2 u19)))) x3 u12)))) x2 u5)))) x1 u)
set_option maxRecDepth 100000 in
set_option maxHeartbeats 4000000 in
theorem k_T_reach_47 {p : Program} {l : Launch} {e : Env} {s : State} {m : MethodId} {args : Array Value} {below : List Frame} {meth : Method} {c : Code} {dC : Nat → ClassId} {dI : Nat → Nat → Nat} {cA : ClassId} {a : Nat → Nat} {A : Nat → Prop} (hC : tC p s m meth c args b_T_reach 6 (some .int) wsA R_T A) (post : Int32 → tS → Prop) : ∀ n : Nat, ∀ (x3 x4 x5 : Int32) (u : tS) (H : Heap) (locs : List Loc) (ls : Array Slot), w_T_reach_47 post n x3 x4 x5 u → tX (dC, dI) twCl [(cA, .int)] A s H locs (wdX a cA u) → lv_has ls 6 [(0, .ref (a 0)), (3, .int x3), (4, .int x4), (5, .int x5)] → W p l e ({ frames := 4, cells := 0, slots := 0, locals := 94 }) s m args below meth c H locs 0 0 (MQ below (va_Qi post (tB (dC, dI) twCl [(cA, .int)] A (wdX a cA)) A) args s 0 0 A) (F0 m 47 ls []) := by
  obtain ⟨hx, hb, hr, hml, hown, hts, hlocks, hA, hN⟩ := id hC
  intro n
  induction n with
  | zero => intro x3 x4 x5 u H locs ls hw; exact False.elim hw
  | succ n ih =>
    intro x3 x4 x5 u H locs ls hw hI hl
    refine lv_iload hx hb d_T_reach_47 (lv_at hl 3 rfl) ?_
    refine lv_aload_n hx hb d_T_reach_49 rfl (lv_at hl 0 rfl) ?_
    refine va_get (D := (dC, dI)) (C := R_T) (T := F_T) (N := 6) hx hb hts in_T hown hI.1 hI.2.1 0 (wdX_o0 a cA _) rfl 0 (by decide) (hts _ wA_264) (fun _ h9 => h9) rfl d_T_reach_50 ?_
    refine va_get (D := (dC, dI)) (C := R_Ne) (T := F_Ne) (N := 5) hx hb hts in_Ne hown hI.1 hI.2.1 1 (wdX_o1 a cA _) rfl 0 (by decide) (hts _ wA_161) (fun _ h9 => h9) rfl d_T_reach_53 ?_
    refine lv_icmp_ge (tgt := 87) hx hb d_T_reach_56 (by decide) (fun hc => ?_) (fun hc => ?_)
    · have hw := hw.1 hc
      refine lv_iload hx hb d_T_reach_87 (lv_at hl 2 rfl) ?_
      exact tr_iret hx hb hr hlocks hI hw d_T_reach_89
    · have hw := hw.2 hc
      refine lv_aload_n hx hb d_T_reach_59 rfl (lv_at hl 0 rfl) ?_
      refine va_get (D := (dC, dI)) (C := R_T) (T := F_T) (N := 6) hx hb hts in_T hown hI.1 hI.2.1 0 (wdX_o0 a cA _) rfl 1 (by decide) (hts _ wA_265) (fun _ h9 => h9) rfl d_T_reach_60 ?_
      refine lv_iload hx hb d_T_reach_63 (lv_at hl 3 rfl) ?_
      refine tr_goi (w := wdX a cA) hI hA (va_runV (As := [.int x5]) (rest := []) ⟨hx, hb, hml, hown, hts⟩ (c_Ar_first l dC dI cA a _ _ _ _) (cwV 1 hts (wsA_goodV wA_421 wA_422 wA_423 wA_36 wA_424) rfl rfl rfl (by decide +kernel) ⟨Nat.le_of_ble_eq_true rfl, Nat.le_of_ble_eq_true rfl⟩) (tr_preV (ci := 5) (q0 := 5) hI rfl (wdX_o5 a cA _) rfl hN hw) rfl rfl hl.1 rfl (lv_room (Nat.le_of_ble_eq_true rfl)) d_T_reach_65 ⟨Nat.zero_le _, Nat.zero_le _⟩) (fun r65 u65 H locs hw hI => ?_)
      refine lv_iload_n hx hb d_T_reach_68 rfl (lv_at hl 1 rfl) ?_
      refine lv_icmp_gt (tgt := 81) hx hb d_T_reach_69 (by decide) (fun hc => ?_) (fun hc => ?_)
      · have hw := hw.1 hc
        refine lv_iinc (v := (x5 + 1)) (lv' := [(5, .int (x5 + 1)), (0, .ref (a 0)), (3, .int x3), (4, .int x4)]) hx hb d_T_reach_81 hl (k := 3) rfl rfl (by decide) rfl (fun ls hl => ?_)
        refine lv_goto (tgt := 47) hx hb d_T_reach_84 (by decide) ?_
        exact ih _ _ _ _ _ _ ls hw hI (lv_sub hl [1, 2, 3, 0] rfl)
      · have hw := hw.2 hc
        refine lv_iload hx hb d_T_reach_72 (lv_at hl 2 rfl) ?_
        refine lv_iconst (v := 1) hx hb d_T_reach_74 (by decide) ?_
        refine lv_iload hx hb d_T_reach_75 (lv_at hl 3 rfl) ?_
        refine lv_ishl hx hb d_T_reach_77 ?_
        refine lv_ior hx hb d_T_reach_78 ?_
        refine lv_istore (lv' := [(4, .int (x4 ||| (1 <<< (x5 &&& 31)))), (0, .ref (a 0)), (3, .int x3), (5, .int x5)]) hx hb d_T_reach_79 hl (by decide) rfl (fun ls hl => ?_)
        refine lv_iinc (v := (x5 + 1)) (lv' := [(5, .int (x5 + 1)), (4, .int (x4 ||| (1 <<< (x5 &&& 31)))), (0, .ref (a 0)), (3, .int x3)]) hx hb d_T_reach_81 hl (k := 3) rfl rfl (by decide) rfl (fun ls hl => ?_)
        refine lv_goto (tgt := 47) hx hb d_T_reach_84 (by decide) ?_
        exact ih _ _ _ _ _ _ ls hw hI (lv_sub hl [2, 3, 1, 0] rfl)
set_option maxRecDepth 100000 in
set_option maxHeartbeats 4000000 in
theorem c_T_reach (l : Launch) (dC : Nat → ClassId) (dI : Nat → Nat → Nat) (cA : ClassId) (a : Nat → Nat) (u : tS) (x1 : Int32) (x2 : Int32) (x3 : Int32) (post : Int32 → tS → Prop) (sz : Nat) : Met l y_T_reach ws_T_reach ({ frames := 4, cells := 0, slots := 0, locals := 94 }) (va_Pc [.ref (a 0), .int x1, .int x2, .int x3] (tP (dC, dI) twCl [(cA, .int)] (wdX a cA) u sz (w_T_reach post x1 x2 x3 u))) (va_Qi post (tB (dC, dI) twCl [(cA, .int)] (va_A (wdX a cA u) sz) (wdX a cA)) (va_A (wdX a cA u) sz)) 0 0 (va_A (wdX a cA u) sz) := by
  refine Met.ofW (cc := b_T_reach) (maxL := 6) (ret := (some .int)) (by decide) rfl ?_
  intro p e s m args below meth c s₁ B hml hv
  obtain ⟨rfl, hsz, hP, hK, hD0, hN, hw⟩ := hv
  have hx := B.exec
  have hb := B.bytes
  have hr := B.returns
  have hts : ∀ w ∈ wsA, w.before _ s = true := fun w h => atoms_spec (ws := ws_T_reach) B.pre w (List.mem_cons_of_mem _ h)
  have hown : s.vm.findClass R_T = some m.cls := findClass_of_methodNamed B.named
  have hlocks := B.notSynchronized
  subst hsz
  have hD := hD0.self (sz := s.heap.size)
  generalize hAe : va_A (wdX a cA u) s.heap.size = A at hD ⊢
  have hA : ∀ q : Nat, s.heap.size ≤ q → A q := fun q h => by rw [← hAe]; exact Or.inr h
  have hS : va_S A s.heap s.heap [] := va_S.rf
  have hI : tX (dC, dI) twCl [(cA, .int)] A s s.heap [] (wdX a cA u) := ⟨hK, hP, hD, hS⟩
  have hC : tC p s m meth c ([.ref (a 0), .int x1, .int x2, .int x3] : List Value).toArray b_T_reach 6 (some .int) wsA R_T A := ⟨hx, hb, hr, hml, hown, hts, hlocks, hA, hN⟩
  have hl := lv_entry ([.ref (a 0), .int x1, .int x2, .int x3]) (n := 6) (Nat.le_of_ble_eq_true rfl)
  rw [lg_entry_eq]
  generalize (lg_sl ([.ref (a 0), .int x1, .int x2, .int x3]) ++ List.replicate (6 - (lg_sl ([.ref (a 0), .int x1, .int x2, .int x3])).length) Slot.unset).toArray = ls at hl ⊢
  have hl : lv_has ls 6 [(0, .ref (a 0)), (1, .int x1), (2, .int x2), (3, .int x3)] := hl
  have hw : (w_Ne_hasStop (fun r5 u5 => ((r5 = 0 → (post (-2) u5)) ∧ (¬ r5 = 0 → (w_T_isTime (fun r12 u12 => ((r12 = 0 → (post (-2) u12)) ∧ (¬ r12 = 0 → (w_T_isBy (fun r19 u19 => ((r19 = 0 → (post (-2) u19)) ∧ (¬ r19 = 0 → (w_Ar_find (fun u38 => (∃ k, w_T_reach_47 post k x3 0 0 u38)) x1 x2 u19)))) x3 u12)))) x2 u5)))) x1 u) := hw
  refine lv_aload_n hx hb d_T_reach_0 rfl (lv_at hl 0 rfl) ?_
  refine va_get (D := (dC, dI)) (C := R_T) (T := F_T) (N := 6) hx hb hts in_T hown hI.1 hI.2.1 0 (wdX_o0 a cA _) rfl 0 (by decide) (hts _ wA_264) (fun _ h9 => h9) rfl d_T_reach_1 ?_
  refine lv_iload_n hx hb d_T_reach_4 rfl (lv_at hl 1 rfl) ?_
  refine tr_goi (w := wdX a cA) hI hA (va_runV (As := [.int x1]) (rest := []) ⟨hx, hb, hml, hown, hts⟩ (c_Ne_hasStop l dC dI cA a _ _ _ _) (cwV 1 hts (wsA_goodV wA_306 wA_307 wA_308 wA_31 wA_309) rfl rfl rfl (by decide +kernel) ⟨Nat.le_of_ble_eq_true rfl, Nat.le_of_ble_eq_true rfl⟩) (tr_preV (ci := 1) (q0 := 1) hI rfl (wdX_o1 a cA _) rfl hN hw) rfl rfl hl.1 rfl (lv_room (Nat.le_of_ble_eq_true rfl)) d_T_reach_5 ⟨Nat.zero_le _, Nat.zero_le _⟩) (fun r5 u5 H locs hw hI => ?_)
  refine lv_if_eq (tgt := 25) hx hb d_T_reach_8 (by decide) (fun hc => ?_) (fun hc => ?_)
  · have hw := hw.1 hc
    refine lv_bipush (v := (-2)) hx hb d_T_reach_25 (by decide) ?_
    exact tr_iret hx hb hr hlocks hI hw d_T_reach_27
  · have hw := hw.2 hc
    refine lv_iload_n hx hb d_T_reach_11 rfl (lv_at hl 2 rfl) ?_
    refine tr_goi (w := wdX a cA) hI hA (va_runS (As := [.int x2]) (rest := []) ⟨hx, hb, hml, hown, hts⟩ (c_T_isTime l dC dI cA a _ _ _ _) ⟨callB_of 1 hts (wsA_good wA_392) rfl rfl rfl (hts _ wA_30) (hts _ wA_390) (by decide +kernel) ⟨Nat.le_of_ble_eq_true rfl, Nat.le_of_ble_eq_true rfl⟩, hts _ wA_391⟩ (tr_preS hI hN hw) rfl rfl hl.1 rfl (lv_room (Nat.le_of_ble_eq_true rfl)) d_T_reach_12 ⟨Nat.zero_le _, Nat.zero_le _⟩) (fun r12 u12 H locs hw hI => ?_)
    refine lv_if_eq (tgt := 25) hx hb d_T_reach_15 (by decide) (fun hc => ?_) (fun hc => ?_)
    · have hw := hw.1 hc
      refine lv_bipush (v := (-2)) hx hb d_T_reach_25 (by decide) ?_
      exact tr_iret hx hb hr hlocks hI hw d_T_reach_27
    · have hw := hw.2 hc
      refine lv_iload_n hx hb d_T_reach_18 rfl (lv_at hl 3 rfl) ?_
      refine tr_goi (w := wdX a cA) hI hA (va_runS (As := [.int x3]) (rest := []) ⟨hx, hb, hml, hown, hts⟩ (c_T_isBy l dC dI cA a _ _ _ _) ⟨callB_of 1 hts (wsA_good wA_435) rfl rfl rfl (hts _ wA_30) (hts _ wA_433) (by decide +kernel) ⟨Nat.le_of_ble_eq_true rfl, Nat.le_of_ble_eq_true rfl⟩, hts _ wA_434⟩ (tr_preS hI hN hw) rfl rfl hl.1 rfl (lv_room (Nat.le_of_ble_eq_true rfl)) d_T_reach_19 ⟨Nat.zero_le _, Nat.zero_le _⟩) (fun r19 u19 H locs hw hI => ?_)
      refine lv_if_ne (tgt := 28) hx hb d_T_reach_22 (by decide) (fun hc => ?_) (fun hc => ?_)
      · have hw := hw.2 hc
        refine lv_aload_n hx hb d_T_reach_28 rfl (lv_at hl 0 rfl) ?_
        refine va_get (D := (dC, dI)) (C := R_T) (T := F_T) (N := 6) hx hb hts in_T hown hI.1 hI.2.1 0 (wdX_o0 a cA _) rfl 1 (by decide) (hts _ wA_265) (fun _ h9 => h9) rfl d_T_reach_29 ?_
        refine lv_aload_n hx hb d_T_reach_32 rfl (lv_at hl 0 rfl) ?_
        refine va_get (D := (dC, dI)) (C := R_T) (T := F_T) (N := 6) hx hb hts in_T hown hI.1 hI.2.1 0 (wdX_o0 a cA _) rfl 0 (by decide) (hts _ wA_264) (fun _ h9 => h9) rfl d_T_reach_33 ?_
        refine lv_iload_n hx hb d_T_reach_36 rfl (lv_at hl 1 rfl) ?_
        refine lv_iload_n hx hb d_T_reach_37 rfl (lv_at hl 2 rfl) ?_
        refine tr_gov (w := wdX a cA) hI hA (va_runV (As := [.ref (a 1), .int x1, .int x2]) (rest := []) ⟨hx, hb, hml, hown, hts⟩ (c_Ar_find l dC dI cA a _ _ _ _ _) (cwV 3 hts (wsA_goodV wA_393 wA_394 wA_395 wA_36 wA_396) rfl rfl rfl (by decide +kernel) ⟨Nat.le_of_ble_eq_true rfl, Nat.le_of_ble_eq_true rfl⟩) (tr_preV (ci := 5) (q0 := 5) hI rfl (wdX_o5 a cA _) rfl hN hw) rfl rfl hl.1 rfl (lv_room (Nat.le_of_ble_eq_true rfl)) d_T_reach_38 ⟨Nat.zero_le _, Nat.zero_le _⟩) (fun u38 H locs hw hI => ?_)
        refine lv_iconst (v := 0) hx hb d_T_reach_41 (by decide) ?_
        refine lv_istore (lv' := [(4, .int 0), (0, .ref (a 0)), (1, .int x1), (2, .int x2), (3, .int x3)]) hx hb d_T_reach_42 hl (by decide) rfl (fun ls hl => ?_)
        refine lv_iconst (v := 0) hx hb d_T_reach_44 (by decide) ?_
        refine lv_istore (lv' := [(5, .int 0), (4, .int 0), (0, .ref (a 0)), (1, .int x1), (2, .int x2), (3, .int x3)]) hx hb d_T_reach_45 hl (by decide) rfl (fun ls hl => ?_)
        obtain ⟨k, hw⟩ := hw
        exact k_T_reach_47 hC post k _ _ _ _ _ _ ls hw hI (lv_sub hl [2, 5, 1, 0] rfl)
      · have hw := hw.1 hc
        refine lv_bipush (v := (-2)) hx hb d_T_reach_25 (by decide) ?_
        exact tr_iret hx hb hr hlocks hI hw d_T_reach_27
