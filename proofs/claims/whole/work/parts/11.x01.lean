def w_Ne_hasStops (post : Int32 → tS → Prop) (x1 : Int32) (x2 : Int32) (u : tS) : Prop := (w_Ne_hasStop (fun r2 u2 => ((r2 = 0 → (post 0 u2)) ∧ (¬ r2 = 0 → (w_Ne_hasStop (fun r10 u10 => ((r10 = 0 → (post 0 u10)) ∧ (¬ r10 = 0 → (post 1 u10)))) x2 u2)))) x1 u)
set_option maxRecDepth 100000 in
set_option maxHeartbeats 4000000 in
theorem c_Ne_hasStops (l : Launch) (dC : Nat → ClassId) (dI : Nat → Nat → Nat) (cA : ClassId) (a : Nat → Nat) (u : tS) (x1 : Int32) (x2 : Int32) (post : Int32 → tS → Prop) (sz : Nat) : Met l y_Ne_hasStops ws_Ne_hasStops ({ frames := 2, cells := 0, slots := 0, locals := 43 }) (va_Pc [.ref (a 1), .int x1, .int x2] (tP (dC, dI) twCl [(cA, .int)] (wdX a cA) u sz (w_Ne_hasStops post x1 x2 u))) (va_Qi post (tB (dC, dI) twCl [(cA, .int)] (va_A (wdX a cA u) sz) (wdX a cA)) (va_A (wdX a cA u) sz)) 0 0 (va_A (wdX a cA u) sz) := by
  refine Met.ofW (cc := b_Ne_hasStops) (maxL := 3) (ret := (some .boolean)) (by decide) rfl ?_
  intro p e s m args below meth c s₁ B hml hv
  obtain ⟨rfl, hsz, hP, hK, hD0, hN, hw⟩ := hv
  have hx := B.exec
  have hb := B.bytes
  have hr := B.returns
  have hts : ∀ w ∈ wsA, w.before _ s = true := fun w h => atoms_spec (ws := ws_Ne_hasStops) B.pre w (List.mem_cons_of_mem _ h)
  have hown : s.vm.findClass R_Ne = some m.cls := findClass_of_methodNamed B.named
  have hlocks := B.notSynchronized
  subst hsz
  have hD := hD0.self (sz := s.heap.size)
  generalize hAe : va_A (wdX a cA u) s.heap.size = A at hD ⊢
  have hA : ∀ q : Nat, s.heap.size ≤ q → A q := fun q h => by rw [← hAe]; exact Or.inr h
  have hS : va_S A s.heap s.heap [] := va_S.rf
  have hI : tX (dC, dI) twCl [(cA, .int)] A s s.heap [] (wdX a cA u) := ⟨hK, hP, hD, hS⟩
  have hC : tC p s m meth c ([.ref (a 1), .int x1, .int x2] : List Value).toArray b_Ne_hasStops 3 (some .boolean) wsA R_Ne A := ⟨hx, hb, hr, hml, hown, hts, hlocks, hA, hN⟩
  have hl := lv_entry ([.ref (a 1), .int x1, .int x2]) (n := 3) (Nat.le_of_ble_eq_true rfl)
  rw [lg_entry_eq]
  generalize (lg_sl ([.ref (a 1), .int x1, .int x2]) ++ List.replicate (3 - (lg_sl ([.ref (a 1), .int x1, .int x2])).length) Slot.unset).toArray = ls at hl ⊢
  have hl : lv_has ls 3 [(0, .ref (a 1)), (1, .int x1), (2, .int x2)] := hl
  have hw : (w_Ne_hasStop (fun r2 u2 => ((r2 = 0 → (post 0 u2)) ∧ (¬ r2 = 0 → (w_Ne_hasStop (fun r10 u10 => ((r10 = 0 → (post 0 u10)) ∧ (¬ r10 = 0 → (post 1 u10)))) x2 u2)))) x1 u) := hw
  refine lv_aload_n hx hb d_Ne_hasStops_0 rfl (lv_at hl 0 rfl) ?_
  refine lv_iload_n hx hb d_Ne_hasStops_1 rfl (lv_at hl 1 rfl) ?_
  refine tr_goi (w := wdX a cA) hI hA (va_runV (As := [.int x1]) (rest := []) ⟨hx, hb, hml, hown, hts⟩ (c_Ne_hasStop l dC dI cA a _ _ _ _) (cwV 1 hts (wsA_goodV wA_319 wA_307 wA_308 wA_31 wA_309) rfl rfl rfl (by decide +kernel) ⟨Nat.le_of_ble_eq_true rfl, Nat.le_of_ble_eq_true rfl⟩) (tr_preV (ci := 1) (q0 := 1) hI rfl (wdX_o1 a cA _) rfl hN hw) rfl rfl hl.1 rfl (lv_room (Nat.le_of_ble_eq_true rfl)) d_Ne_hasStops_2 ⟨Nat.zero_le _, Nat.zero_le _⟩) (fun r2 u2 H locs hw hI => ?_)
  refine lv_if_eq (tgt := 20) hx hb d_Ne_hasStops_5 (by decide) (fun hc => ?_) (fun hc => ?_)
  · have hw := hw.1 hc
    refine lv_iconst (v := 0) hx hb d_Ne_hasStops_20 (by decide) ?_
    exact tr_zret hx hb hr hlocks hI rfl hw d_Ne_hasStops_21
  · have hw := hw.2 hc
    refine lv_aload_n hx hb d_Ne_hasStops_8 rfl (lv_at hl 0 rfl) ?_
    refine lv_iload_n hx hb d_Ne_hasStops_9 rfl (lv_at hl 2 rfl) ?_
    refine tr_goi (w := wdX a cA) hI hA (va_runV (As := [.int x2]) (rest := []) ⟨hx, hb, hml, hown, hts⟩ (c_Ne_hasStop l dC dI cA a _ _ _ _) (cwV 1 hts (wsA_goodV wA_319 wA_307 wA_308 wA_31 wA_309) rfl rfl rfl (by decide +kernel) ⟨Nat.le_of_ble_eq_true rfl, Nat.le_of_ble_eq_true rfl⟩) (tr_preV (ci := 1) (q0 := 1) hI rfl (wdX_o1 a cA _) rfl hN hw) rfl rfl hl.1 rfl (lv_room (Nat.le_of_ble_eq_true rfl)) d_Ne_hasStops_10 ⟨Nat.zero_le _, Nat.zero_le _⟩) (fun r10 u10 H locs hw hI => ?_)
    refine lv_if_eq (tgt := 20) hx hb d_Ne_hasStops_13 (by decide) (fun hc => ?_) (fun hc => ?_)
    · have hw := hw.1 hc
      refine lv_iconst (v := 0) hx hb d_Ne_hasStops_20 (by decide) ?_
      exact tr_zret hx hb hr hlocks hI rfl hw d_Ne_hasStops_21
    · have hw := hw.2 hc
      refine lv_iconst (v := 1) hx hb d_Ne_hasStops_16 (by decide) ?_
      refine lv_goto (tgt := 21) hx hb d_Ne_hasStops_17 (by decide) ?_
      exact tr_zret hx hb hr hlocks hI rfl hw d_Ne_hasStops_21
def w_Ri_isOnDay (post : Int32 → tS → Prop) (x1 : Int32) (x2 : Int32) (u : tS) : Prop := (vp_in x1 40 ∧ (((((u.2 5 x1.toNatClampNeg) >>> (x2 &&& 31)) &&& 1) = 1 → (post 1 u)) ∧ (¬ (((u.2 5 x1.toNatClampNeg) >>> (x2 &&& 31)) &&& 1) = 1 → (post 0 u))))
set_option maxRecDepth 100000 in
set_option maxHeartbeats 4000000 in
theorem c_Ri_isOnDay (l : Launch) (dC : Nat → ClassId) (dI : Nat → Nat → Nat) (cA : ClassId) (a : Nat → Nat) (u : tS) (x1 : Int32) (x2 : Int32) (post : Int32 → tS → Prop) (sz : Nat) : Met l y_Ri_isOnDay ws_Ri_isOnDay ({ frames := 0, cells := 0, slots := 0, locals := 0 }) (va_Pc [.ref (a 2), .int x1, .int x2] (tP (dC, dI) twCl [(cA, .int)] (wdX a cA) u sz (w_Ri_isOnDay post x1 x2 u))) (va_Qi post (tB (dC, dI) twCl [(cA, .int)] (va_A (wdX a cA u) sz) (wdX a cA)) (va_A (wdX a cA u) sz)) 0 0 (va_A (wdX a cA u) sz) := by
  refine Met.ofW (cc := b_Ri_isOnDay) (maxL := 3) (ret := (some .boolean)) (by decide) rfl ?_
  intro p e s m args below meth c s₁ B hml hv
  obtain ⟨rfl, hsz, hP, hK, hD0, hN, hw⟩ := hv
  have hx := B.exec
  have hb := B.bytes
  have hr := B.returns
  have hts : ∀ w ∈ wsA, w.before _ s = true := fun w h => atoms_spec (ws := ws_Ri_isOnDay) B.pre w (List.mem_cons_of_mem _ h)
  have hown : s.vm.findClass R_Ri = some m.cls := findClass_of_methodNamed B.named
  have hlocks := B.notSynchronized
  subst hsz
  have hD := hD0.self (sz := s.heap.size)
  generalize hAe : va_A (wdX a cA u) s.heap.size = A at hD ⊢
  have hA : ∀ q : Nat, s.heap.size ≤ q → A q := fun q h => by rw [← hAe]; exact Or.inr h
  have hS : va_S A s.heap s.heap [] := va_S.rf
  have hI : tX (dC, dI) twCl [(cA, .int)] A s s.heap [] (wdX a cA u) := ⟨hK, hP, hD, hS⟩
  have hC : tC p s m meth c ([.ref (a 2), .int x1, .int x2] : List Value).toArray b_Ri_isOnDay 3 (some .boolean) wsA R_Ri A := ⟨hx, hb, hr, hml, hown, hts, hlocks, hA, hN⟩
  have hl := lv_entry ([.ref (a 2), .int x1, .int x2]) (n := 3) (Nat.le_of_ble_eq_true rfl)
  rw [lg_entry_eq]
  generalize (lg_sl ([.ref (a 2), .int x1, .int x2]) ++ List.replicate (3 - (lg_sl ([.ref (a 2), .int x1, .int x2])).length) Slot.unset).toArray = ls at hl ⊢
  have hl : lv_has ls 3 [(0, .ref (a 2)), (1, .int x1), (2, .int x2)] := hl
  have hw : (vp_in x1 40 ∧ (((((u.2 5 x1.toNatClampNeg) >>> (x2 &&& 31)) &&& 1) = 1 → (post 1 u)) ∧ (¬ (((u.2 5 x1.toNatClampNeg) >>> (x2 &&& 31)) &&& 1) = 1 → (post 0 u)))) := hw
  refine lv_aload_n hx hb d_Ri_isOnDay_0 rfl (lv_at hl 0 rfl) ?_
  refine va_get (D := (dC, dI)) (C := R_Ri) (T := F_Ri) (N := 7) hx hb hts in_Ri hown hI.1 hI.2.1 2 (wdX_o2 a cA _) rfl 5 (by decide) (hts _ wA_84) (fun _ h9 => h9) rfl d_Ri_isOnDay_1 ?_
  refine lv_iload_n hx hb d_Ri_isOnDay_4 rfl (lv_at hl 1 rfl) ?_
  obtain ⟨hi, hw⟩ := hw
  refine va_iald (D := (dC, dI)) hx hb hI.1 hI.2.1 15 0 (wdX_o15 a cA _) rfl hi d_Ri_isOnDay_5 ?_
  refine lv_iload_n hx hb d_Ri_isOnDay_6 rfl (lv_at hl 2 rfl) ?_
  refine lv_ishr hx hb d_Ri_isOnDay_7 ?_
  refine lv_iconst (v := 1) hx hb d_Ri_isOnDay_8 (by decide) ?_
  refine lv_iand hx hb d_Ri_isOnDay_9 ?_
  refine lv_iconst (v := 1) hx hb d_Ri_isOnDay_10 (by decide) ?_
  refine lv_icmp_ne (tgt := 18) hx hb d_Ri_isOnDay_11 (by decide) (fun hc => ?_) (fun hc => ?_)
  · have hw := hw.2 hc
    refine lv_iconst (v := 0) hx hb d_Ri_isOnDay_18 (by decide) ?_
    exact tr_zret hx hb hr hlocks hI rfl hw d_Ri_isOnDay_19
  · have hw := hw.1 hc
    refine lv_iconst (v := 1) hx hb d_Ri_isOnDay_14 (by decide) ?_
    refine lv_goto (tgt := 19) hx hb d_Ri_isOnDay_15 (by decide) ?_
    exact tr_zret hx hb hr hlocks hI rfl hw d_Ri_isOnDay_19
def w_Ri_add_51 (post : Int32 → tS → Prop) : Nat → Int32 → Int32 → tS → Prop
  | 0 => fun _ _ _ => False
  | n + 1 => fun x6 x7 u => ((7 ≤ x7 → (post x6 (tI u 1 ((u.1 1) + 1)))) ∧ (¬ 7 ≤ x7 → (w_Ri_isOnDay (fun r75 u75 => ((r75 = 0 → (vp_in ((x6 * 7) + x7) 280 ∧ (w_Ri_add_51 post n x6 (x7 + 1) (tA u75 6 ((x6 * 7) + x7) (-1))))) ∧ (¬ r75 = 0 → (vp_in ((x6 * 7) + x7) 280 ∧ (w_Ri_add_51 post n x6 (x7 + 1) (tA u75 6 ((x6 * 7) + x7) 0)))))) x6 x7 u)))
def w_Ri_add (post : Int32 → tS → Prop) (x1 : Int32) (x2 : Int32) (x3 : Int32) (x4 : Int32) (x5 : Int32) (u : tS) : Prop := (vp_in (u.1 1) 40 ∧ (vp_in (u.1 1) 40 ∧ (vp_in (u.1 1) 40 ∧ (vp_in (u.1 1) 40 ∧ (vp_in (u.1 1) 40 ∧ (∃ k, w_Ri_add_51 post k (u.1 1) 0 (tA (tA (tA (tA (tA u 1 (u.1 1) x1) 2 (u.1 1) x2) 3 (u.1 1) x3) 4 (u.1 1) x4) 5 (u.1 1) x5)))))))
set_option maxRecDepth 100000 in
set_option maxHeartbeats 4000000 in
theorem k_Ri_add_51 {p : Program} {l : Launch} {e : Env} {s : State} {m : MethodId} {args : Array Value} {below : List Frame} {meth : Method} {c : Code} {dC : Nat → ClassId} {dI : Nat → Nat → Nat} {cA : ClassId} {a : Nat → Nat} {A : Nat → Prop} (hC : tC p s m meth c args b_Ri_add 8 (some .int) wsA R_Ri A) (post : Int32 → tS → Prop) : ∀ n : Nat, ∀ (x6 x7 : Int32) (u : tS) (H : Heap) (locs : List Loc) (ls : Array Slot), w_Ri_add_51 post n x6 x7 u → tX (dC, dI) twCl [(cA, .int)] A s H locs (wdX a cA u) → lv_has ls 8 [(0, .ref (a 2)), (6, .int x6), (7, .int x7)] → W p l e ({ frames := 1, cells := 0, slots := 0, locals := 22 }) s m args below meth c H locs 0 0 (MQ below (va_Qi post (tB (dC, dI) twCl [(cA, .int)] A (wdX a cA)) A) args s 0 0 A) (F0 m 51 ls []) := by
  obtain ⟨hx, hb, hr, hml, hown, hts, hlocks, hA, hN⟩ := id hC
  intro n
  induction n with
  | zero => intro x6 x7 u H locs ls hw; exact False.elim hw
  | succ n ih =>
    intro x6 x7 u H locs ls hw hI hl
    refine lv_iload hx hb d_Ri_add_51 (lv_at hl 2 rfl) ?_
    refine lv_bipush (v := 7) hx hb d_Ri_add_53 (by decide) ?_
    refine lv_icmp_ge (tgt := 93) hx hb d_Ri_add_55 (by decide) (fun hc => ?_) (fun hc => ?_)
    · have hw := hw.1 hc
      refine lv_aload_n hx hb d_Ri_add_93 rfl (lv_at hl 0 rfl) ?_
      refine lv_dup hx hb d_Ri_add_94 rfl ?_
      refine va_get (D := (dC, dI)) (C := R_Ri) (T := F_Ri) (N := 7) hx hb hts in_Ri hown hI.1 hI.2.1 2 (wdX_o2 a cA _) rfl 0 (by decide) (hts _ wA_63) (fun _ h9 => h9) rfl d_Ri_add_95 ?_
      refine lv_iconst (v := 1) hx hb d_Ri_add_98 (by decide) ?_
      refine lv_iadd hx hb d_Ri_add_99 ?_
      refine tr_put (C := R_Ri) (T := F_Ri) (N := 7) (w := wdX a cA) hx hb hts in_Ri ft_Ri ft_Ri_ok fn_Ri hown hI 2 1 (wdX_o2 a cA _) rfl 0 (by decide) (hts _ wA_63) rfl (by decide +kernel) (Nat.le_of_ble_eq_true rfl) (wdX_i1 a cA _ _) d_Ri_add_100 (fun H locs hI => ?_)
      refine lv_iload hx hb d_Ri_add_103 (lv_at hl 1 rfl) ?_
      exact tr_iret hx hb hr hlocks hI hw d_Ri_add_105
    · have hw := hw.2 hc
      refine lv_aload_n hx hb d_Ri_add_58 rfl (lv_at hl 0 rfl) ?_
      refine va_get (D := (dC, dI)) (C := R_Ri) (T := F_Ri) (N := 7) hx hb hts in_Ri hown hI.1 hI.2.1 2 (wdX_o2 a cA _) rfl 6 (by decide) (hts _ wA_86) (fun _ h9 => h9) rfl d_Ri_add_59 ?_
      refine lv_iload hx hb d_Ri_add_62 (lv_at hl 1 rfl) ?_
      refine lv_bipush (v := 7) hx hb d_Ri_add_64 (by decide) ?_
      refine lv_imul hx hb d_Ri_add_66 ?_
      refine lv_iload hx hb d_Ri_add_67 (lv_at hl 2 rfl) ?_
      refine lv_iadd hx hb d_Ri_add_69 ?_
      refine lv_aload_n hx hb d_Ri_add_70 rfl (lv_at hl 0 rfl) ?_
      refine lv_iload hx hb d_Ri_add_71 (lv_at hl 1 rfl) ?_
      refine lv_iload hx hb d_Ri_add_73 (lv_at hl 2 rfl) ?_
      refine tr_goi (w := wdX a cA) hI hA (va_runV (As := [.int x6, .int x7]) (rest := [.int ((x6 * 7) + x7), .ref (a 16)]) ⟨hx, hb, hml, hown, hts⟩ (c_Ri_isOnDay l dC dI cA a _ _ _ _ _) (cwV 2 hts (wsA_goodV wA_324 wA_325 wA_326 wA_32 wA_327) rfl rfl rfl (by decide +kernel) ⟨Nat.le_of_ble_eq_true rfl, Nat.le_of_ble_eq_true rfl⟩) (tr_preV (ci := 2) (q0 := 2) hI rfl (wdX_o2 a cA _) rfl hN hw) rfl rfl hl.1 rfl (lv_room (Nat.le_of_ble_eq_true rfl)) d_Ri_add_75 ⟨Nat.zero_le _, Nat.zero_le _⟩) (fun r75 u75 H locs hw hI => ?_)
      refine lv_if_eq (tgt := 85) hx hb d_Ri_add_78 (by decide) (fun hc => ?_) (fun hc => ?_)
      · have hw := hw.1 hc
        refine lv_iconst (v := (-1)) hx hb d_Ri_add_85 (by decide) ?_
        obtain ⟨hi, hw⟩ := hw
        refine tr_iast (w := wdX a cA) hx hb hI 16 0 6 (wdX_o16 a cA _) rfl (wdX_a6 a cA _ _ _) hi d_Ri_add_86 (fun H locs hI => ?_)
        refine lv_iinc (v := (x7 + 1)) (lv' := [(7, .int (x7 + 1)), (0, .ref (a 2)), (6, .int x6)]) hx hb d_Ri_add_87 hl (k := 2) rfl rfl (by decide) rfl (fun ls hl => ?_)
        refine lv_goto (tgt := 51) hx hb d_Ri_add_90 (by decide) ?_
        exact ih _ _ _ _ _ ls hw hI (lv_sub hl [1, 2, 0] rfl)
      · have hw := hw.2 hc
        refine lv_iconst (v := 0) hx hb d_Ri_add_81 (by decide) ?_
        refine lv_goto (tgt := 86) hx hb d_Ri_add_82 (by decide) ?_
        obtain ⟨hi, hw⟩ := hw
        refine tr_iast (w := wdX a cA) hx hb hI 16 0 6 (wdX_o16 a cA _) rfl (wdX_a6 a cA _ _ _) hi d_Ri_add_86 (fun H locs hI => ?_)
        refine lv_iinc (v := (x7 + 1)) (lv' := [(7, .int (x7 + 1)), (0, .ref (a 2)), (6, .int x6)]) hx hb d_Ri_add_87 hl (k := 2) rfl rfl (by decide) rfl (fun ls hl => ?_)
        refine lv_goto (tgt := 51) hx hb d_Ri_add_90 (by decide) ?_
        exact ih _ _ _ _ _ ls hw hI (lv_sub hl [1, 2, 0] rfl)
set_option maxRecDepth 100000 in
set_option maxHeartbeats 4000000 in
theorem c_Ri_add (l : Launch) (dC : Nat → ClassId) (dI : Nat → Nat → Nat) (cA : ClassId) (a : Nat → Nat) (u : tS) (x1 : Int32) (x2 : Int32) (x3 : Int32) (x4 : Int32) (x5 : Int32) (post : Int32 → tS → Prop) (sz : Nat) : Met l y_Ri_add ws_Ri_add ({ frames := 1, cells := 0, slots := 0, locals := 22 }) (va_Pc [.ref (a 2), .int x1, .int x2, .int x3, .int x4, .int x5] (tP (dC, dI) twCl [(cA, .int)] (wdX a cA) u sz (w_Ri_add post x1 x2 x3 x4 x5 u))) (va_Qi post (tB (dC, dI) twCl [(cA, .int)] (va_A (wdX a cA u) sz) (wdX a cA)) (va_A (wdX a cA u) sz)) 0 0 (va_A (wdX a cA u) sz) := by
  refine Met.ofW (cc := b_Ri_add) (maxL := 8) (ret := (some .int)) (by decide) rfl ?_
  intro p e s m args below meth c s₁ B hml hv
  obtain ⟨rfl, hsz, hP, hK, hD0, hN, hw⟩ := hv
  have hx := B.exec
  have hb := B.bytes
  have hr := B.returns
  have hts : ∀ w ∈ wsA, w.before _ s = true := fun w h => atoms_spec (ws := ws_Ri_add) B.pre w (List.mem_cons_of_mem _ h)
  have hown : s.vm.findClass R_Ri = some m.cls := findClass_of_methodNamed B.named
  have hlocks := B.notSynchronized
  subst hsz
  have hD := hD0.self (sz := s.heap.size)
  generalize hAe : va_A (wdX a cA u) s.heap.size = A at hD ⊢
  have hA : ∀ q : Nat, s.heap.size ≤ q → A q := fun q h => by rw [← hAe]; exact Or.inr h
  have hS : va_S A s.heap s.heap [] := va_S.rf
  have hI : tX (dC, dI) twCl [(cA, .int)] A s s.heap [] (wdX a cA u) := ⟨hK, hP, hD, hS⟩
  have hC : tC p s m meth c ([.ref (a 2), .int x1, .int x2, .int x3, .int x4, .int x5] : List Value).toArray b_Ri_add 8 (some .int) wsA R_Ri A := ⟨hx, hb, hr, hml, hown, hts, hlocks, hA, hN⟩
  have hl := lv_entry ([.ref (a 2), .int x1, .int x2, .int x3, .int x4, .int x5]) (n := 8) (Nat.le_of_ble_eq_true rfl)
  rw [lg_entry_eq]
  generalize (lg_sl ([.ref (a 2), .int x1, .int x2, .int x3, .int x4, .int x5]) ++ List.replicate (8 - (lg_sl ([.ref (a 2), .int x1, .int x2, .int x3, .int x4, .int x5])).length) Slot.unset).toArray = ls at hl ⊢
  have hl : lv_has ls 8 [(0, .ref (a 2)), (1, .int x1), (2, .int x2), (3, .int x3), (4, .int x4), (5, .int x5)] := hl
  have hw : (vp_in (u.1 1) 40 ∧ (vp_in (u.1 1) 40 ∧ (vp_in (u.1 1) 40 ∧ (vp_in (u.1 1) 40 ∧ (vp_in (u.1 1) 40 ∧ (∃ k, w_Ri_add_51 post k (u.1 1) 0 (tA (tA (tA (tA (tA u 1 (u.1 1) x1) 2 (u.1 1) x2) 3 (u.1 1) x3) 4 (u.1 1) x4) 5 (u.1 1) x5))))))) := hw
  refine lv_aload_n hx hb d_Ri_add_0 rfl (lv_at hl 0 rfl) ?_
  refine va_get (D := (dC, dI)) (C := R_Ri) (T := F_Ri) (N := 7) hx hb hts in_Ri hown hI.1 hI.2.1 2 (wdX_o2 a cA _) rfl 0 (by decide) (hts _ wA_63) (fun _ h9 => h9) rfl d_Ri_add_1 ?_
  refine lv_istore (lv' := [(6, .int (u.1 1)), (0, .ref (a 2)), (1, .int x1), (2, .int x2), (3, .int x3), (4, .int x4), (5, .int x5)]) hx hb d_Ri_add_4 hl (by decide) rfl (fun ls hl => ?_)
  refine lv_aload_n hx hb d_Ri_add_6 rfl (lv_at hl 1 rfl) ?_
  refine va_get (D := (dC, dI)) (C := R_Ri) (T := F_Ri) (N := 7) hx hb hts in_Ri hown hI.1 hI.2.1 2 (wdX_o2 a cA _) rfl 1 (by decide) (hts _ wA_67) (fun _ h9 => h9) rfl d_Ri_add_7 ?_
  refine lv_iload hx hb d_Ri_add_10 (lv_at hl 0 rfl) ?_
  refine lv_iload_n hx hb d_Ri_add_12 rfl (lv_at hl 2 rfl) ?_
  obtain ⟨hi, hw⟩ := hw
  refine tr_iast (w := wdX a cA) hx hb hI 11 0 1 (wdX_o11 a cA _) rfl (wdX_a1 a cA _ _ _) hi d_Ri_add_13 (fun H locs hI => ?_)
  refine lv_aload_n hx hb d_Ri_add_14 rfl (lv_at hl 1 rfl) ?_
  refine va_get (D := (dC, dI)) (C := R_Ri) (T := F_Ri) (N := 7) hx hb hts in_Ri hown hI.1 hI.2.1 2 (wdX_o2 a cA _) rfl 2 (by decide) (hts _ wA_73) (fun _ h9 => h9) rfl d_Ri_add_15 ?_
  refine lv_iload hx hb d_Ri_add_18 (lv_at hl 0 rfl) ?_
  refine lv_iload_n hx hb d_Ri_add_20 rfl (lv_at hl 3 rfl) ?_
  obtain ⟨hi, hw⟩ := hw
  refine tr_iast (w := wdX a cA) hx hb hI 12 0 2 (wdX_o12 a cA _) rfl (wdX_a2 a cA _ _ _) hi d_Ri_add_21 (fun H locs hI => ?_)
  refine lv_aload_n hx hb d_Ri_add_22 rfl (lv_at hl 1 rfl) ?_
  refine va_get (D := (dC, dI)) (C := R_Ri) (T := F_Ri) (N := 7) hx hb hts in_Ri hown hI.1 hI.2.1 2 (wdX_o2 a cA _) rfl 3 (by decide) (hts _ wA_77) (fun _ h9 => h9) rfl d_Ri_add_23 ?_
  refine lv_iload hx hb d_Ri_add_26 (lv_at hl 0 rfl) ?_
  refine lv_iload_n hx hb d_Ri_add_28 rfl (lv_at hl 4 rfl) ?_
  obtain ⟨hi, hw⟩ := hw
  refine tr_iast (w := wdX a cA) hx hb hI 13 0 3 (wdX_o13 a cA _) rfl (wdX_a3 a cA _ _ _) hi d_Ri_add_29 (fun H locs hI => ?_)
  refine lv_aload_n hx hb d_Ri_add_30 rfl (lv_at hl 1 rfl) ?_
  refine va_get (D := (dC, dI)) (C := R_Ri) (T := F_Ri) (N := 7) hx hb hts in_Ri hown hI.1 hI.2.1 2 (wdX_o2 a cA _) rfl 4 (by decide) (hts _ wA_79) (fun _ h9 => h9) rfl d_Ri_add_31 ?_
  refine lv_iload hx hb d_Ri_add_34 (lv_at hl 0 rfl) ?_
  refine lv_iload hx hb d_Ri_add_36 (lv_at hl 5 rfl) ?_
  obtain ⟨hi, hw⟩ := hw
  refine tr_iast (w := wdX a cA) hx hb hI 14 0 4 (wdX_o14 a cA _) rfl (wdX_a4 a cA _ _ _) hi d_Ri_add_38 (fun H locs hI => ?_)
  refine lv_aload_n hx hb d_Ri_add_39 rfl (lv_at hl 1 rfl) ?_
  refine va_get (D := (dC, dI)) (C := R_Ri) (T := F_Ri) (N := 7) hx hb hts in_Ri hown hI.1 hI.2.1 2 (wdX_o2 a cA _) rfl 5 (by decide) (hts _ wA_84) (fun _ h9 => h9) rfl d_Ri_add_40 ?_
  refine lv_iload hx hb d_Ri_add_43 (lv_at hl 0 rfl) ?_
  refine lv_iload hx hb d_Ri_add_45 (lv_at hl 6 rfl) ?_
  obtain ⟨hi, hw⟩ := hw
  refine tr_iast (w := wdX a cA) hx hb hI 15 0 5 (wdX_o15 a cA _) rfl (wdX_a5 a cA _ _ _) hi d_Ri_add_47 (fun H locs hI => ?_)
  refine lv_iconst (v := 0) hx hb d_Ri_add_48 (by decide) ?_
  refine lv_istore (lv' := [(7, .int 0), (6, .int (u.1 1)), (0, .ref (a 2)), (1, .int x1), (2, .int x2), (3, .int x3), (4, .int x4), (5, .int x5)]) hx hb d_Ri_add_49 hl (by decide) rfl (fun ls hl => ?_)
  obtain ⟨k, hw⟩ := hw
  exact k_Ri_add_51 hC post k _ _ _ _ _ ls hw hI (lv_sub hl [2, 1, 0] rfl)
def w_Ri_goes (post : Int32 → tS → Prop) (x1 : Int32) (u : tS) : Prop := (vp_in x1 280 ∧ (((u.2 6 x1.toNatClampNeg) = (-1) → (post 0 u)) ∧ (¬ (u.2 6 x1.toNatClampNeg) = (-1) → (post 1 u))))
set_option maxRecDepth 100000 in
set_option maxHeartbeats 4000000 in
theorem c_Ri_goes (l : Launch) (dC : Nat → ClassId) (dI : Nat → Nat → Nat) (cA : ClassId) (a : Nat → Nat) (u : tS) (x1 : Int32) (post : Int32 → tS → Prop) (sz : Nat) : Met l y_Ri_goes ws_Ri_goes ({ frames := 0, cells := 0, slots := 0, locals := 0 }) (va_Pc [.ref (a 2), .int x1] (tP (dC, dI) twCl [(cA, .int)] (wdX a cA) u sz (w_Ri_goes post x1 u))) (va_Qi post (tB (dC, dI) twCl [(cA, .int)] (va_A (wdX a cA u) sz) (wdX a cA)) (va_A (wdX a cA u) sz)) 0 0 (va_A (wdX a cA u) sz) := by
  refine Met.ofW (cc := b_Ri_goes) (maxL := 2) (ret := (some .boolean)) (by decide) rfl ?_
  intro p e s m args below meth c s₁ B hml hv
  obtain ⟨rfl, hsz, hP, hK, hD0, hN, hw⟩ := hv
  have hx := B.exec
  have hb := B.bytes
  have hr := B.returns
  have hts : ∀ w ∈ wsA, w.before _ s = true := fun w h => atoms_spec (ws := ws_Ri_goes) B.pre w (List.mem_cons_of_mem _ h)
  have hown : s.vm.findClass R_Ri = some m.cls := findClass_of_methodNamed B.named
  have hlocks := B.notSynchronized
  subst hsz
  have hD := hD0.self (sz := s.heap.size)
  generalize hAe : va_A (wdX a cA u) s.heap.size = A at hD ⊢
  have hA : ∀ q : Nat, s.heap.size ≤ q → A q := fun q h => by rw [← hAe]; exact Or.inr h
  have hS : va_S A s.heap s.heap [] := va_S.rf
  have hI : tX (dC, dI) twCl [(cA, .int)] A s s.heap [] (wdX a cA u) := ⟨hK, hP, hD, hS⟩
  have hC : tC p s m meth c ([.ref (a 2), .int x1] : List Value).toArray b_Ri_goes 2 (some .boolean) wsA R_Ri A := ⟨hx, hb, hr, hml, hown, hts, hlocks, hA, hN⟩
  have hl := lv_entry ([.ref (a 2), .int x1]) (n := 2) (Nat.le_of_ble_eq_true rfl)
  rw [lg_entry_eq]
  generalize (lg_sl ([.ref (a 2), .int x1]) ++ List.replicate (2 - (lg_sl ([.ref (a 2), .int x1])).length) Slot.unset).toArray = ls at hl ⊢
  have hl : lv_has ls 2 [(0, .ref (a 2)), (1, .int x1)] := hl
  have hw : (vp_in x1 280 ∧ (((u.2 6 x1.toNatClampNeg) = (-1) → (post 0 u)) ∧ (¬ (u.2 6 x1.toNatClampNeg) = (-1) → (post 1 u)))) := hw
  refine lv_aload_n hx hb d_Ri_goes_0 rfl (lv_at hl 0 rfl) ?_
  refine va_get (D := (dC, dI)) (C := R_Ri) (T := F_Ri) (N := 7) hx hb hts in_Ri hown hI.1 hI.2.1 2 (wdX_o2 a cA _) rfl 6 (by decide) (hts _ wA_86) (fun _ h9 => h9) rfl d_Ri_goes_1 ?_
  refine lv_iload_n hx hb d_Ri_goes_4 rfl (lv_at hl 1 rfl) ?_
  obtain ⟨hi, hw⟩ := hw
  refine va_iald (D := (dC, dI)) hx hb hI.1 hI.2.1 16 0 (wdX_o16 a cA _) rfl hi d_Ri_goes_5 ?_
  refine lv_iconst (v := (-1)) hx hb d_Ri_goes_6 (by decide) ?_
  refine lv_icmp_eq (tgt := 14) hx hb d_Ri_goes_7 (by decide) (fun hc => ?_) (fun hc => ?_)
  · have hw := hw.1 hc
    refine lv_iconst (v := 0) hx hb d_Ri_goes_14 (by decide) ?_
    exact tr_zret hx hb hr hlocks hI rfl hw d_Ri_goes_15
  · have hw := hw.2 hc
    refine lv_iconst (v := 1) hx hb d_Ri_goes_10 (by decide) ?_
    refine lv_goto (tgt := 15) hx hb d_Ri_goes_11 (by decide) ?_
    exact tr_zret hx hb hr hlocks hI rfl hw d_Ri_goes_15
def w_Ri_leaves (post : Int32 → tS → Prop) (x1 : Int32) (u : tS) : Prop := (vp_in (x1 / 7) 40 ∧ (vp_in x1 280 ∧ (post ((((x1 - x1 / 7 * 7) * 1440) + (u.2 3 (x1 / 7).toNatClampNeg)) + (u.2 6 x1.toNatClampNeg)) u)))
set_option maxRecDepth 100000 in
set_option maxHeartbeats 4000000 in
theorem c_Ri_leaves (l : Launch) (dC : Nat → ClassId) (dI : Nat → Nat → Nat) (cA : ClassId) (a : Nat → Nat) (u : tS) (x1 : Int32) (post : Int32 → tS → Prop) (sz : Nat) : Met l y_Ri_leaves ws_Ri_leaves ({ frames := 0, cells := 0, slots := 0, locals := 0 }) (va_Pc [.ref (a 2), .int x1] (tP (dC, dI) twCl [(cA, .int)] (wdX a cA) u sz (w_Ri_leaves post x1 u))) (va_Qi post (tB (dC, dI) twCl [(cA, .int)] (va_A (wdX a cA u) sz) (wdX a cA)) (va_A (wdX a cA u) sz)) 0 0 (va_A (wdX a cA u) sz) := by
  refine Met.ofW (cc := b_Ri_leaves) (maxL := 3) (ret := (some .int)) (by decide) rfl ?_
  intro p e s m args below meth c s₁ B hml hv
  obtain ⟨rfl, hsz, hP, hK, hD0, hN, hw⟩ := hv
  have hx := B.exec
  have hb := B.bytes
  have hr := B.returns
  have hts : ∀ w ∈ wsA, w.before _ s = true := fun w h => atoms_spec (ws := ws_Ri_leaves) B.pre w (List.mem_cons_of_mem _ h)
  have hown : s.vm.findClass R_Ri = some m.cls := findClass_of_methodNamed B.named
  have hlocks := B.notSynchronized
  subst hsz
  have hD := hD0.self (sz := s.heap.size)
  generalize hAe : va_A (wdX a cA u) s.heap.size = A at hD ⊢
  have hA : ∀ q : Nat, s.heap.size ≤ q → A q := fun q h => by rw [← hAe]; exact Or.inr h
  have hS : va_S A s.heap s.heap [] := va_S.rf
  have hI : tX (dC, dI) twCl [(cA, .int)] A s s.heap [] (wdX a cA u) := ⟨hK, hP, hD, hS⟩
  have hC : tC p s m meth c ([.ref (a 2), .int x1] : List Value).toArray b_Ri_leaves 3 (some .int) wsA R_Ri A := ⟨hx, hb, hr, hml, hown, hts, hlocks, hA, hN⟩
  have hl := lv_entry ([.ref (a 2), .int x1]) (n := 3) (Nat.le_of_ble_eq_true rfl)
  rw [lg_entry_eq]
  generalize (lg_sl ([.ref (a 2), .int x1]) ++ List.replicate (3 - (lg_sl ([.ref (a 2), .int x1])).length) Slot.unset).toArray = ls at hl ⊢
  have hl : lv_has ls 3 [(0, .ref (a 2)), (1, .int x1)] := hl
  have hw : (vp_in (x1 / 7) 40 ∧ (vp_in x1 280 ∧ (post ((((x1 - x1 / 7 * 7) * 1440) + (u.2 3 (x1 / 7).toNatClampNeg)) + (u.2 6 x1.toNatClampNeg)) u))) := hw
  refine lv_iload_n hx hb d_Ri_leaves_0 rfl (lv_at hl 1 rfl) ?_
  refine lv_bipush (v := 7) hx hb d_Ri_leaves_1 (by decide) ?_
  refine lv_irem hx hb d_Ri_leaves_3 (by decide) ?_
  refine lv_istore_n (lv' := [(2, .int (x1 - x1 / 7 * 7)), (0, .ref (a 2)), (1, .int x1)]) hx hb d_Ri_leaves_4 rfl hl (by decide) rfl (fun ls hl => ?_)
  refine lv_iload_n hx hb d_Ri_leaves_5 rfl (lv_at hl 0 rfl) ?_
  refine lv_sipush (v := 1440) hx hb d_Ri_leaves_6 (by decide) ?_
  refine lv_imul hx hb d_Ri_leaves_9 ?_
  refine lv_aload_n hx hb d_Ri_leaves_10 rfl (lv_at hl 1 rfl) ?_
  refine va_get (D := (dC, dI)) (C := R_Ri) (T := F_Ri) (N := 7) hx hb hts in_Ri hown hI.1 hI.2.1 2 (wdX_o2 a cA _) rfl 3 (by decide) (hts _ wA_77) (fun _ h9 => h9) rfl d_Ri_leaves_11 ?_
  refine lv_iload_n hx hb d_Ri_leaves_14 rfl (lv_at hl 2 rfl) ?_
  refine lv_bipush (v := 7) hx hb d_Ri_leaves_15 (by decide) ?_
  refine lv_idiv hx hb d_Ri_leaves_17 (by decide) ?_
  obtain ⟨hi, hw⟩ := hw
  refine va_iald (D := (dC, dI)) hx hb hI.1 hI.2.1 13 0 (wdX_o13 a cA _) rfl hi d_Ri_leaves_18 ?_
  refine lv_iadd hx hb d_Ri_leaves_19 ?_
  refine lv_aload_n hx hb d_Ri_leaves_20 rfl (lv_at hl 1 rfl) ?_
  refine va_get (D := (dC, dI)) (C := R_Ri) (T := F_Ri) (N := 7) hx hb hts in_Ri hown hI.1 hI.2.1 2 (wdX_o2 a cA _) rfl 6 (by decide) (hts _ wA_86) (fun _ h9 => h9) rfl d_Ri_leaves_21 ?_
  refine lv_iload_n hx hb d_Ri_leaves_24 rfl (lv_at hl 2 rfl) ?_
  obtain ⟨hi, hw⟩ := hw
  refine va_iald (D := (dC, dI)) hx hb hI.1 hI.2.1 16 0 (wdX_o16 a cA _) rfl hi d_Ri_leaves_25 ?_
  refine lv_iadd hx hb d_Ri_leaves_26 ?_
  exact tr_iret hx hb hr hlocks hI hw d_Ri_leaves_27
def w_Bo_isBehind (post : Int32 → tS → Prop) (x1 : Int32) (x2 : Int32) (x3 : Int32) (u : tS) : Prop := (vp_in x1 280 ∧ ((x2 < (u.2 8 x1.toNatClampNeg) → (post 1 u)) ∧ (¬ x2 < (u.2 8 x1.toNatClampNeg) → (vp_in x1 280 ∧ (((u.2 8 x1.toNatClampNeg) = x2 → (vp_in x1 280 ∧ (((u.2 7 x1.toNatClampNeg) ≤ x3 → (post 0 u)) ∧ (¬ (u.2 7 x1.toNatClampNeg) ≤ x3 → (post 1 u))))) ∧ (¬ (u.2 8 x1.toNatClampNeg) = x2 → (post 0 u)))))))
set_option maxRecDepth 100000 in
set_option maxHeartbeats 4000000 in
theorem c_Bo_isBehind (l : Launch) (dC : Nat → ClassId) (dI : Nat → Nat → Nat) (cA : ClassId) (a : Nat → Nat) (u : tS) (x1 : Int32) (x2 : Int32) (x3 : Int32) (post : Int32 → tS → Prop) (sz : Nat) : Met l y_Bo_isBehind ws_Bo_isBehind ({ frames := 0, cells := 0, slots := 0, locals := 0 }) (va_Pc [.ref (a 3), .int x1, .int x2, .int x3] (tP (dC, dI) twCl [(cA, .int)] (wdX a cA) u sz (w_Bo_isBehind post x1 x2 x3 u))) (va_Qi post (tB (dC, dI) twCl [(cA, .int)] (va_A (wdX a cA u) sz) (wdX a cA)) (va_A (wdX a cA u) sz)) 0 0 (va_A (wdX a cA u) sz) := by
  refine Met.ofW (cc := b_Bo_isBehind) (maxL := 4) (ret := (some .boolean)) (by decide) rfl ?_
  intro p e s m args below meth c s₁ B hml hv
  obtain ⟨rfl, hsz, hP, hK, hD0, hN, hw⟩ := hv
  have hx := B.exec
  have hb := B.bytes
  have hr := B.returns
  have hts : ∀ w ∈ wsA, w.before _ s = true := fun w h => atoms_spec (ws := ws_Bo_isBehind) B.pre w (List.mem_cons_of_mem _ h)
  have hown : s.vm.findClass R_Bo = some m.cls := findClass_of_methodNamed B.named
  have hlocks := B.notSynchronized
  subst hsz
  have hD := hD0.self (sz := s.heap.size)
  generalize hAe : va_A (wdX a cA u) s.heap.size = A at hD ⊢
  have hA : ∀ q : Nat, s.heap.size ≤ q → A q := fun q h => by rw [← hAe]; exact Or.inr h
  have hS : va_S A s.heap s.heap [] := va_S.rf
  have hI : tX (dC, dI) twCl [(cA, .int)] A s s.heap [] (wdX a cA u) := ⟨hK, hP, hD, hS⟩
  have hC : tC p s m meth c ([.ref (a 3), .int x1, .int x2, .int x3] : List Value).toArray b_Bo_isBehind 4 (some .boolean) wsA R_Bo A := ⟨hx, hb, hr, hml, hown, hts, hlocks, hA, hN⟩
  have hl := lv_entry ([.ref (a 3), .int x1, .int x2, .int x3]) (n := 4) (Nat.le_of_ble_eq_true rfl)
  rw [lg_entry_eq]
  generalize (lg_sl ([.ref (a 3), .int x1, .int x2, .int x3]) ++ List.replicate (4 - (lg_sl ([.ref (a 3), .int x1, .int x2, .int x3])).length) Slot.unset).toArray = ls at hl ⊢
  have hl : lv_has ls 4 [(0, .ref (a 3)), (1, .int x1), (2, .int x2), (3, .int x3)] := hl
  have hw : (vp_in x1 280 ∧ ((x2 < (u.2 8 x1.toNatClampNeg) → (post 1 u)) ∧ (¬ x2 < (u.2 8 x1.toNatClampNeg) → (vp_in x1 280 ∧ (((u.2 8 x1.toNatClampNeg) = x2 → (vp_in x1 280 ∧ (((u.2 7 x1.toNatClampNeg) ≤ x3 → (post 0 u)) ∧ (¬ (u.2 7 x1.toNatClampNeg) ≤ x3 → (post 1 u))))) ∧ (¬ (u.2 8 x1.toNatClampNeg) = x2 → (post 0 u))))))) := hw
  refine lv_aload_n hx hb d_Bo_isBehind_0 rfl (lv_at hl 0 rfl) ?_
  refine va_get (D := (dC, dI)) (C := R_Bo) (T := F_Bo) (N := 3) hx hb hts in_Bo hown hI.1 hI.2.1 3 (wdX_o3 a cA _) rfl 2 (by decide) (hts _ wA_117) (fun _ h9 => h9) rfl d_Bo_isBehind_1 ?_
  refine lv_iload_n hx hb d_Bo_isBehind_4 rfl (lv_at hl 1 rfl) ?_
  obtain ⟨hi, hw⟩ := hw
  refine va_iald (D := (dC, dI)) hx hb hI.1 hI.2.1 18 0 (wdX_o18 a cA _) rfl hi d_Bo_isBehind_5 ?_
  refine lv_iload_n hx hb d_Bo_isBehind_6 rfl (lv_at hl 2 rfl) ?_
  refine lv_icmp_gt (tgt := 30) hx hb d_Bo_isBehind_7 (by decide) (fun hc => ?_) (fun hc => ?_)
  · have hw := hw.1 hc
    refine lv_iconst (v := 1) hx hb d_Bo_isBehind_30 (by decide) ?_
    refine lv_goto (tgt := 35) hx hb d_Bo_isBehind_31 (by decide) ?_
    exact tr_zret hx hb hr hlocks hI rfl hw d_Bo_isBehind_35
  · have hw := hw.2 hc
    refine lv_aload_n hx hb d_Bo_isBehind_10 rfl (lv_at hl 0 rfl) ?_
    refine va_get (D := (dC, dI)) (C := R_Bo) (T := F_Bo) (N := 3) hx hb hts in_Bo hown hI.1 hI.2.1 3 (wdX_o3 a cA _) rfl 2 (by decide) (hts _ wA_117) (fun _ h9 => h9) rfl d_Bo_isBehind_11 ?_
    refine lv_iload_n hx hb d_Bo_isBehind_14 rfl (lv_at hl 1 rfl) ?_
    obtain ⟨hi, hw⟩ := hw
    refine va_iald (D := (dC, dI)) hx hb hI.1 hI.2.1 18 0 (wdX_o18 a cA _) rfl hi d_Bo_isBehind_15 ?_
    refine lv_iload_n hx hb d_Bo_isBehind_16 rfl (lv_at hl 2 rfl) ?_
    refine lv_icmp_ne (tgt := 34) hx hb d_Bo_isBehind_17 (by decide) (fun hc => ?_) (fun hc => ?_)
    · have hw := hw.2 hc
      refine lv_iconst (v := 0) hx hb d_Bo_isBehind_34 (by decide) ?_
      exact tr_zret hx hb hr hlocks hI rfl hw d_Bo_isBehind_35
    · have hw := hw.1 hc
      refine lv_aload_n hx hb d_Bo_isBehind_20 rfl (lv_at hl 0 rfl) ?_
      refine va_get (D := (dC, dI)) (C := R_Bo) (T := F_Bo) (N := 3) hx hb hts in_Bo hown hI.1 hI.2.1 3 (wdX_o3 a cA _) rfl 1 (by decide) (hts _ wA_116) (fun _ h9 => h9) rfl d_Bo_isBehind_21 ?_
      refine lv_iload_n hx hb d_Bo_isBehind_24 rfl (lv_at hl 1 rfl) ?_
      obtain ⟨hi, hw⟩ := hw
      refine va_iald (D := (dC, dI)) hx hb hI.1 hI.2.1 17 0 (wdX_o17 a cA _) rfl hi d_Bo_isBehind_25 ?_
      refine lv_iload_n hx hb d_Bo_isBehind_26 rfl (lv_at hl 3 rfl) ?_
      refine lv_icmp_le (tgt := 34) hx hb d_Bo_isBehind_27 (by decide) (fun hc => ?_) (fun hc => ?_)
      · have hw := hw.1 hc
        refine lv_iconst (v := 0) hx hb d_Bo_isBehind_34 (by decide) ?_
        exact tr_zret hx hb hr hlocks hI rfl hw d_Bo_isBehind_35
      · have hw := hw.2 hc
        refine lv_iconst (v := 1) hx hb d_Bo_isBehind_30 (by decide) ?_
        refine lv_goto (tgt := 35) hx hb d_Bo_isBehind_31 (by decide) ?_
        exact tr_zret hx hb hr hlocks hI rfl hw d_Bo_isBehind_35
def w_Bo_putIn_87 (post : tS → Prop) (x2 : Int32) (x3 : Int32) (x4 : Int32) (u : tS) : Prop := (vp_in x4 280 ∧ (vp_in x4 280 ∧ (post (tI (tA (tA u 7 x4 x2) 8 x4 x3) 2 (((tA (tA u 7 x4 x2) 8 x4 x3).1 2) + 1)))))
def w_Bo_putIn_31 (post : tS → Prop) : Nat → Int32 → Int32 → Int32 → tS → Prop
  | 0 => fun _ _ _ _ => False
  | n + 1 => fun x2 x3 x4 u => ((x4 ≤ 0 → (w_Bo_putIn_87 post x2 x3 x4 u)) ∧ (¬ x4 ≤ 0 → (w_Bo_isBehind (fun r43 u43 => ((r43 = 0 → (w_Bo_putIn_87 post x2 x3 x4 u43)) ∧ (¬ r43 = 0 → (vp_in (x4 - 1) 280 ∧ (vp_in x4 280 ∧ (vp_in (x4 - 1) 280 ∧ (vp_in x4 280 ∧ (w_Bo_putIn_31 post n x2 x3 (x4 + (-1)) (tA (tA u43 7 x4 (u43.2 7 (x4 - 1).toNatClampNeg)) 8 x4 ((tA u43 7 x4 (u43.2 7 (x4 - 1).toNatClampNeg)).2 8 (x4 - 1).toNatClampNeg)))))))))) (x4 - 1) x3 x2 u)))
def w_Bo_putIn (post : tS → Prop) (x2 : Int32) (u : tS) : Prop := (w_Ri_goes (fun r2 u2 => ((r2 = 0 → (post u2)) ∧ (¬ r2 = 0 → (((u2.1 2) < 280 → (w_Ri_leaves (fun r21 u21 => (∃ k, w_Bo_putIn_31 post k x2 r21 (u21.1 2) u21)) x2 u2)) ∧ (¬ (u2.1 2) < 280 → (post u2)))))) x2 u)
set_option maxRecDepth 100000 in
set_option maxHeartbeats 4000000 in
theorem k_Bo_putIn_87 {p : Program} {l : Launch} {e : Env} {s : State} {m : MethodId} {args : Array Value} {below : List Frame} {meth : Method} {c : Code} {dC : Nat → ClassId} {dI : Nat → Nat → Nat} {cA : ClassId} {a : Nat → Nat} {A : Nat → Prop} (hC : tC p s m meth c args b_Bo_putIn 5 none wsA R_Bo A) (post : tS → Prop) : ∀ (x2 x3 x4 : Int32) (u : tS) (H : Heap) (locs : List Loc) (ls : Array Slot), w_Bo_putIn_87 post x2 x3 x4 u → tX (dC, dI) twCl [(cA, .int)] A s H locs (wdX a cA u) → lv_has ls 5 [(0, .ref (a 3)), (2, .int x2), (3, .int x3), (4, .int x4)] → W p l e ({ frames := 1, cells := 0, slots := 0, locals := 23 }) s m args below meth c H locs 0 0 (MQ below (va_Qv post (tB (dC, dI) twCl [(cA, .int)] A (wdX a cA)) A) args s 0 0 A) (F0 m 87 ls []) := by
  obtain ⟨hx, hb, hr, hml, hown, hts, hlocks, hA, hN⟩ := id hC
  intro x2 x3 x4 u H locs ls hw hI hl
  refine lv_aload_n hx hb d_Bo_putIn_87 rfl (lv_at hl 0 rfl) ?_
  refine va_get (D := (dC, dI)) (C := R_Bo) (T := F_Bo) (N := 3) hx hb hts in_Bo hown hI.1 hI.2.1 3 (wdX_o3 a cA _) rfl 1 (by decide) (hts _ wA_116) (fun _ h9 => h9) rfl d_Bo_putIn_88 ?_
  refine lv_iload hx hb d_Bo_putIn_91 (lv_at hl 3 rfl) ?_
  refine lv_iload_n hx hb d_Bo_putIn_93 rfl (lv_at hl 1 rfl) ?_
  obtain ⟨hi, hw⟩ := hw
  refine tr_iast (w := wdX a cA) hx hb hI 17 0 7 (wdX_o17 a cA _) rfl (wdX_a7 a cA _ _ _) hi d_Bo_putIn_94 (fun H locs hI => ?_)
  refine lv_aload_n hx hb d_Bo_putIn_95 rfl (lv_at hl 0 rfl) ?_
  refine va_get (D := (dC, dI)) (C := R_Bo) (T := F_Bo) (N := 3) hx hb hts in_Bo hown hI.1 hI.2.1 3 (wdX_o3 a cA _) rfl 2 (by decide) (hts _ wA_117) (fun _ h9 => h9) rfl d_Bo_putIn_96 ?_
  refine lv_iload hx hb d_Bo_putIn_99 (lv_at hl 3 rfl) ?_
  refine lv_iload_n hx hb d_Bo_putIn_101 rfl (lv_at hl 2 rfl) ?_
  obtain ⟨hi, hw⟩ := hw
  refine tr_iast (w := wdX a cA) hx hb hI 18 0 8 (wdX_o18 a cA _) rfl (wdX_a8 a cA _ _ _) hi d_Bo_putIn_102 (fun H locs hI => ?_)
  refine lv_aload_n hx hb d_Bo_putIn_103 rfl (lv_at hl 0 rfl) ?_
  refine lv_dup hx hb d_Bo_putIn_104 rfl ?_
  refine va_get (D := (dC, dI)) (C := R_Bo) (T := F_Bo) (N := 3) hx hb hts in_Bo hown hI.1 hI.2.1 3 (wdX_o3 a cA _) rfl 0 (by decide) (hts _ wA_111) (fun _ h9 => h9) rfl d_Bo_putIn_105 ?_
  refine lv_iconst (v := 1) hx hb d_Bo_putIn_108 (by decide) ?_
  refine lv_iadd hx hb d_Bo_putIn_109 ?_
  refine tr_put (C := R_Bo) (T := F_Bo) (N := 3) (w := wdX a cA) hx hb hts in_Bo ft_Bo ft_Bo_ok fn_Bo hown hI 3 2 (wdX_o3 a cA _) rfl 0 (by decide) (hts _ wA_111) rfl (by decide +kernel) (Nat.le_of_ble_eq_true rfl) (wdX_i2 a cA _ _) d_Bo_putIn_110 (fun H locs hI => ?_)
  exact tr_vret hx hb hr hlocks hI hw d_Bo_putIn_113
set_option maxRecDepth 100000 in
set_option maxHeartbeats 4000000 in
theorem k_Bo_putIn_31 {p : Program} {l : Launch} {e : Env} {s : State} {m : MethodId} {args : Array Value} {below : List Frame} {meth : Method} {c : Code} {dC : Nat → ClassId} {dI : Nat → Nat → Nat} {cA : ClassId} {a : Nat → Nat} {A : Nat → Prop} (hC : tC p s m meth c args b_Bo_putIn 5 none wsA R_Bo A) (post : tS → Prop) : ∀ n : Nat, ∀ (x2 x3 x4 : Int32) (u : tS) (H : Heap) (locs : List Loc) (ls : Array Slot), w_Bo_putIn_31 post n x2 x3 x4 u → tX (dC, dI) twCl [(cA, .int)] A s H locs (wdX a cA u) → lv_has ls 5 [(0, .ref (a 3)), (2, .int x2), (3, .int x3), (4, .int x4)] → W p l e ({ frames := 1, cells := 0, slots := 0, locals := 23 }) s m args below meth c H locs 0 0 (MQ below (va_Qv post (tB (dC, dI) twCl [(cA, .int)] A (wdX a cA)) A) args s 0 0 A) (F0 m 31 ls []) := by
  obtain ⟨hx, hb, hr, hml, hown, hts, hlocks, hA, hN⟩ := id hC
  intro n
  induction n with
  | zero => intro x2 x3 x4 u H locs ls hw; exact False.elim hw
  | succ n ih =>
    intro x2 x3 x4 u H locs ls hw hI hl
    refine lv_iload hx hb d_Bo_putIn_31 (lv_at hl 3 rfl) ?_
    refine lv_if_le (tgt := 87) hx hb d_Bo_putIn_33 (by decide) (fun hc => ?_) (fun hc => ?_)
    · have hw := hw.1 hc
      exact k_Bo_putIn_87 hC post _ _ _ _ _ _ ls hw hI (lv_sub hl [0, 1, 2, 3] rfl)
    · have hw := hw.2 hc
      refine lv_aload_n hx hb d_Bo_putIn_36 rfl (lv_at hl 0 rfl) ?_
      refine lv_iload hx hb d_Bo_putIn_37 (lv_at hl 3 rfl) ?_
      refine lv_iconst (v := 1) hx hb d_Bo_putIn_39 (by decide) ?_
      refine lv_isub hx hb d_Bo_putIn_40 ?_
      refine lv_iload_n hx hb d_Bo_putIn_41 rfl (lv_at hl 2 rfl) ?_
      refine lv_iload_n hx hb d_Bo_putIn_42 rfl (lv_at hl 1 rfl) ?_
      refine tr_goi (w := wdX a cA) hI hA (va_runV (As := [.int (x4 - 1), .int x3, .int x2]) (rest := []) ⟨hx, hb, hml, hown, hts⟩ (c_Bo_isBehind l dC dI cA a _ _ _ _ _ _) (cwV 3 hts (wsA_goodV wA_344 wA_346 wA_0 wA_33 wA_347) rfl rfl rfl (by decide +kernel) ⟨Nat.le_of_ble_eq_true rfl, Nat.le_of_ble_eq_true rfl⟩) (tr_preV (ci := 3) (q0 := 3) hI rfl (wdX_o3 a cA _) rfl hN hw) rfl rfl hl.1 rfl (lv_room (Nat.le_of_ble_eq_true rfl)) d_Bo_putIn_43 ⟨Nat.zero_le _, Nat.zero_le _⟩) (fun r43 u43 H locs hw hI => ?_)
      refine lv_if_eq (tgt := 87) hx hb d_Bo_putIn_46 (by decide) (fun hc => ?_) (fun hc => ?_)
      · have hw := hw.1 hc
        exact k_Bo_putIn_87 hC post _ _ _ _ _ _ ls hw hI (lv_sub hl [0, 1, 2, 3] rfl)
      · have hw := hw.2 hc
        refine lv_aload_n hx hb d_Bo_putIn_49 rfl (lv_at hl 0 rfl) ?_
        refine va_get (D := (dC, dI)) (C := R_Bo) (T := F_Bo) (N := 3) hx hb hts in_Bo hown hI.1 hI.2.1 3 (wdX_o3 a cA _) rfl 1 (by decide) (hts _ wA_116) (fun _ h9 => h9) rfl d_Bo_putIn_50 ?_
        refine lv_iload hx hb d_Bo_putIn_53 (lv_at hl 3 rfl) ?_
        refine lv_aload_n hx hb d_Bo_putIn_55 rfl (lv_at hl 0 rfl) ?_
        refine va_get (D := (dC, dI)) (C := R_Bo) (T := F_Bo) (N := 3) hx hb hts in_Bo hown hI.1 hI.2.1 3 (wdX_o3 a cA _) rfl 1 (by decide) (hts _ wA_116) (fun _ h9 => h9) rfl d_Bo_putIn_56 ?_
        refine lv_iload hx hb d_Bo_putIn_59 (lv_at hl 3 rfl) ?_
        refine lv_iconst (v := 1) hx hb d_Bo_putIn_61 (by decide) ?_
        refine lv_isub hx hb d_Bo_putIn_62 ?_
        obtain ⟨hi, hw⟩ := hw
        refine va_iald (D := (dC, dI)) hx hb hI.1 hI.2.1 17 0 (wdX_o17 a cA _) rfl hi d_Bo_putIn_63 ?_
        obtain ⟨hi, hw⟩ := hw
        refine tr_iast (w := wdX a cA) hx hb hI 17 0 7 (wdX_o17 a cA _) rfl (wdX_a7 a cA _ _ _) hi d_Bo_putIn_64 (fun H locs hI => ?_)
        refine lv_aload_n hx hb d_Bo_putIn_65 rfl (lv_at hl 0 rfl) ?_
        refine va_get (D := (dC, dI)) (C := R_Bo) (T := F_Bo) (N := 3) hx hb hts in_Bo hown hI.1 hI.2.1 3 (wdX_o3 a cA _) rfl 2 (by decide) (hts _ wA_117) (fun _ h9 => h9) rfl d_Bo_putIn_66 ?_
        refine lv_iload hx hb d_Bo_putIn_69 (lv_at hl 3 rfl) ?_
        refine lv_aload_n hx hb d_Bo_putIn_71 rfl (lv_at hl 0 rfl) ?_
        refine va_get (D := (dC, dI)) (C := R_Bo) (T := F_Bo) (N := 3) hx hb hts in_Bo hown hI.1 hI.2.1 3 (wdX_o3 a cA _) rfl 2 (by decide) (hts _ wA_117) (fun _ h9 => h9) rfl d_Bo_putIn_72 ?_
        refine lv_iload hx hb d_Bo_putIn_75 (lv_at hl 3 rfl) ?_
        refine lv_iconst (v := 1) hx hb d_Bo_putIn_77 (by decide) ?_
        refine lv_isub hx hb d_Bo_putIn_78 ?_
        obtain ⟨hi, hw⟩ := hw
        refine va_iald (D := (dC, dI)) hx hb hI.1 hI.2.1 18 0 (wdX_o18 a cA _) rfl hi d_Bo_putIn_79 ?_
        obtain ⟨hi, hw⟩ := hw
        refine tr_iast (w := wdX a cA) hx hb hI 18 0 8 (wdX_o18 a cA _) rfl (wdX_a8 a cA _ _ _) hi d_Bo_putIn_80 (fun H locs hI => ?_)
        refine lv_iinc (v := (x4 + (-1))) (lv' := [(4, .int (x4 + (-1))), (0, .ref (a 3)), (2, .int x2), (3, .int x3)]) hx hb d_Bo_putIn_81 hl (k := 3) rfl rfl (by decide) rfl (fun ls hl => ?_)
        refine lv_goto (tgt := 31) hx hb d_Bo_putIn_84 (by decide) ?_
        exact ih _ _ _ _ _ _ ls hw hI (lv_sub hl [1, 2, 3, 0] rfl)
set_option maxRecDepth 100000 in
set_option maxHeartbeats 4000000 in
theorem c_Bo_putIn (l : Launch) (dC : Nat → ClassId) (dI : Nat → Nat → Nat) (cA : ClassId) (a : Nat → Nat) (u : tS) (x2 : Int32) (post : tS → Prop) (sz : Nat) : Met l y_Bo_putIn ws_Bo_putIn ({ frames := 1, cells := 0, slots := 0, locals := 23 }) (va_Pc [.ref (a 3), .ref (a 2), .int x2] (tP (dC, dI) twCl [(cA, .int)] (wdX a cA) u sz (w_Bo_putIn post x2 u))) (va_Qv post (tB (dC, dI) twCl [(cA, .int)] (va_A (wdX a cA u) sz) (wdX a cA)) (va_A (wdX a cA u) sz)) 0 0 (va_A (wdX a cA u) sz) := by
  refine Met.ofW (cc := b_Bo_putIn) (maxL := 5) (ret := none) (by decide) rfl ?_
  intro p e s m args below meth c s₁ B hml hv
  obtain ⟨rfl, hsz, hP, hK, hD0, hN, hw⟩ := hv
  have hx := B.exec
  have hb := B.bytes
  have hr := B.returns
  have hts : ∀ w ∈ wsA, w.before _ s = true := fun w h => atoms_spec (ws := ws_Bo_putIn) B.pre w (List.mem_cons_of_mem _ h)
  have hown : s.vm.findClass R_Bo = some m.cls := findClass_of_methodNamed B.named
  have hlocks := B.notSynchronized
  subst hsz
  have hD := hD0.self (sz := s.heap.size)
  generalize hAe : va_A (wdX a cA u) s.heap.size = A at hD ⊢
  have hA : ∀ q : Nat, s.heap.size ≤ q → A q := fun q h => by rw [← hAe]; exact Or.inr h
  have hS : va_S A s.heap s.heap [] := va_S.rf
  have hI : tX (dC, dI) twCl [(cA, .int)] A s s.heap [] (wdX a cA u) := ⟨hK, hP, hD, hS⟩
  have hC : tC p s m meth c ([.ref (a 3), .ref (a 2), .int x2] : List Value).toArray b_Bo_putIn 5 none wsA R_Bo A := ⟨hx, hb, hr, hml, hown, hts, hlocks, hA, hN⟩
  have hl := lv_entry ([.ref (a 3), .ref (a 2), .int x2]) (n := 5) (Nat.le_of_ble_eq_true rfl)
  rw [lg_entry_eq]
  generalize (lg_sl ([.ref (a 3), .ref (a 2), .int x2]) ++ List.replicate (5 - (lg_sl ([.ref (a 3), .ref (a 2), .int x2])).length) Slot.unset).toArray = ls at hl ⊢
  have hl : lv_has ls 5 [(0, .ref (a 3)), (1, .ref (a 2)), (2, .int x2)] := hl
  have hw : (w_Ri_goes (fun r2 u2 => ((r2 = 0 → (post u2)) ∧ (¬ r2 = 0 → (((u2.1 2) < 280 → (w_Ri_leaves (fun r21 u21 => (∃ k, w_Bo_putIn_31 post k x2 r21 (u21.1 2) u21)) x2 u2)) ∧ (¬ (u2.1 2) < 280 → (post u2)))))) x2 u) := hw
  refine lv_aload_n hx hb d_Bo_putIn_0 rfl (lv_at hl 1 rfl) ?_
  refine lv_iload_n hx hb d_Bo_putIn_1 rfl (lv_at hl 2 rfl) ?_
  refine tr_goi (w := wdX a cA) hI hA (va_runV (As := [.int x2]) (rest := []) ⟨hx, hb, hml, hown, hts⟩ (c_Ri_goes l dC dI cA a _ _ _ _) (cwV 1 hts (wsA_goodV wA_336 wA_337 wA_338 wA_32 wA_339) rfl rfl rfl (by decide +kernel) ⟨Nat.le_of_ble_eq_true rfl, Nat.le_of_ble_eq_true rfl⟩) (tr_preV (ci := 2) (q0 := 2) hI rfl (wdX_o2 a cA _) rfl hN hw) rfl rfl hl.1 rfl (lv_room (Nat.le_of_ble_eq_true rfl)) d_Bo_putIn_2 ⟨Nat.zero_le _, Nat.zero_le _⟩) (fun r2 u2 H locs hw hI => ?_)
  refine lv_if_eq (tgt := 18) hx hb d_Bo_putIn_5 (by decide) (fun hc => ?_) (fun hc => ?_)
  · have hw := hw.1 hc
    exact tr_vret hx hb hr hlocks hI hw d_Bo_putIn_18
  · have hw := hw.2 hc
    refine lv_aload_n hx hb d_Bo_putIn_8 rfl (lv_at hl 0 rfl) ?_
    refine va_get (D := (dC, dI)) (C := R_Bo) (T := F_Bo) (N := 3) hx hb hts in_Bo hown hI.1 hI.2.1 3 (wdX_o3 a cA _) rfl 0 (by decide) (hts _ wA_111) (fun _ h9 => h9) rfl d_Bo_putIn_9 ?_
    refine lv_sipush (v := 280) hx hb d_Bo_putIn_12 (by decide) ?_
    refine lv_icmp_lt (tgt := 19) hx hb d_Bo_putIn_15 (by decide) (fun hc => ?_) (fun hc => ?_)
    · have hw := hw.1 hc
      refine lv_aload_n hx hb d_Bo_putIn_19 rfl (lv_at hl 1 rfl) ?_
      refine lv_iload_n hx hb d_Bo_putIn_20 rfl (lv_at hl 2 rfl) ?_
      refine tr_goi (w := wdX a cA) hI hA (va_runV (As := [.int x2]) (rest := []) ⟨hx, hb, hml, hown, hts⟩ (c_Ri_leaves l dC dI cA a _ _ _ _) (cwV 1 hts (wsA_goodV wA_340 wA_341 wA_342 wA_32 wA_343) rfl rfl rfl (by decide +kernel) ⟨Nat.le_of_ble_eq_true rfl, Nat.le_of_ble_eq_true rfl⟩) (tr_preV (ci := 2) (q0 := 2) hI rfl (wdX_o2 a cA _) rfl hN hw) rfl rfl hl.1 rfl (lv_room (Nat.le_of_ble_eq_true rfl)) d_Bo_putIn_21 ⟨Nat.zero_le _, Nat.zero_le _⟩) (fun r21 u21 H locs hw hI => ?_)
      refine lv_istore_n (lv' := [(3, .int r21), (0, .ref (a 3)), (1, .ref (a 2)), (2, .int x2)]) hx hb d_Bo_putIn_24 rfl hl (by decide) rfl (fun ls hl => ?_)
      refine lv_aload_n hx hb d_Bo_putIn_25 rfl (lv_at hl 1 rfl) ?_
      refine va_get (D := (dC, dI)) (C := R_Bo) (T := F_Bo) (N := 3) hx hb hts in_Bo hown hI.1 hI.2.1 3 (wdX_o3 a cA _) rfl 0 (by decide) (hts _ wA_111) (fun _ h9 => h9) rfl d_Bo_putIn_26 ?_
      refine lv_istore (lv' := [(4, .int (u21.1 2)), (3, .int r21), (0, .ref (a 3)), (1, .ref (a 2)), (2, .int x2)]) hx hb d_Bo_putIn_29 hl (by decide) rfl (fun ls hl => ?_)
      obtain ⟨k, hw⟩ := hw
      exact k_Bo_putIn_31 hC post k _ _ _ _ _ _ ls hw hI (lv_sub hl [2, 4, 1, 0] rfl)
    · have hw := hw.2 hc
      exact tr_vret hx hb hr hlocks hI hw d_Bo_putIn_18
