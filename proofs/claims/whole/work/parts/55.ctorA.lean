def cw_Ri (h0 : Nat) (cA : ClassId) (q : Nat → Nat) (f : Nat → Int32) : va_W := [(h0, .inr (2, [.int 0, .ref (q 0), .ref (q 1), .ref (q 2), .ref (q 3), .ref (q 4), .ref (q 5)])), ((q 0), .inl (cA, 40, .inl (fun _ => 0))), ((q 1), .inl (cA, 40, .inl (fun _ => 0))), ((q 2), .inl (cA, 40, .inl (fun _ => 0))), ((q 3), .inl (cA, 40, .inl (fun _ => 0))), ((q 4), .inl (cA, 40, .inl (fun _ => 0))), ((q 5), .inl (cA, 280, .inl (fun _ => 0)))]
set_option maxHeartbeats 4000000 in
set_option maxRecDepth 100000 in
theorem c_Ri_init (l : Launch) (dC : Nat → ClassId) (dI : Nat → Nat → Nat) (cA : ClassId) (h0 : Nat) (sz : Nat) : Met l y_Ri_init ws_Ri_init ({ frames := 1, cells := 6, slots := 480, locals := 12 }) (va_Pc [.ref h0] (cP (dC, dI) cA [(h0, .inr (2, [.int 0, .null, .null, .null, .null, .null, .null]))] sz)) (va_Qv (fun _ : Unit => True) (fun _ => cB (dC, dI) cA (va_A [(h0, .inr (2, [.int 0, .null, .null, .null, .null, .null, .null]))] sz) (fun _ => True) (cw_Ri h0 cA)) (va_A [(h0, .inr (2, [.int 0, .null, .null, .null, .null, .null, .null]))] sz)) 6 480 (va_A [(h0, .inr (2, [.int 0, .null, .null, .null, .null, .null, .null]))] sz) := by
  refine Met.ofW (cc := b_Ri_init) (maxL := 1) (ret := none) (by decide) rfl ?_
  intro p e s m args below meth c s₁ B hml hv
  obtain ⟨rfl, hsz, hP, hK, hD0, hN⟩ := hv
  have hx := B.exec
  have hb := B.bytes
  have hr := B.returns
  have hts : ∀ w ∈ wsA, w.before _ s = true := fun w h => atoms_spec (ws := ws_Ri_init) B.pre w (List.mem_cons_of_mem _ h)
  have hown : s.vm.findClass R_Ri = some m.cls := findClass_of_methodNamed B.named
  have hlocks := B.notSynchronized
  have hin : meth.name = "<init>" := (name_of_methodNamed B.named B.method).1
  subst hsz
  have hD := hD0.self (sz := s.heap.size)
  generalize hAe : va_A [(h0, .inr (2, [.int 0, .null, .null, .null, .null, .null, .null]))] s.heap.size = A at hD ⊢
  have hA : ∀ q : Nat, s.heap.size ≤ q → A q := fun q h => by rw [← hAe]; exact Or.inr h
  have hS : va_S A s.heap s.heap [] := va_S.rf
  have hl := lv_entry ([.ref h0]) (n := 1) (Nat.le_of_ble_eq_true rfl)
  rw [lg_entry_eq]
  generalize (lg_sl ([.ref h0]) ++ List.replicate (1 - (lg_sl ([.ref h0])).length) Slot.unset).toArray = ls at hl ⊢
  have hl : lv_has ls 1 [(0, .ref h0)] := hl
  refine lv_aload_n hx hb d_Ri_init_0 rfl (lv_at hl 0 rfl) ?_
  refine W.objInit hx hb hown (hts _ wA_62) (hts _ wA_49) (hts _ wA_50) rfl (by rw [hml]; exact hl.1) rfl d_Ri_init_1 (Nat.le_of_ble_eq_true rfl) (Nat.le_of_ble_eq_true rfl) ?_
  refine W.eq (g2 := F0 m 4 ls []) rfl ?_
  refine lv_aload_n hx hb d_Ri_init_4 rfl (lv_at hl 0 rfl) ?_
  refine lv_iconst (v := 0) hx hb d_Ri_init_5 (by decide) ?_
  refine va_put (D := (dC, dI)) (ci := 2) (v := .int 0) (ty := .int) (C := R_Ri) (T := F_Ri) (N := 7) hx hb hts in_Ri ft_Ri ft_Ri_ok fn_Ri hown hK hP hD hS 0 rfl rfl 0 (by decide) (hts _ wA_63) (fun _ h9 => h9) rfl (by decide +kernel) rfl rfl (Nat.le_of_ble_eq_true rfl) d_Ri_init_6 (fun H locs hP hD hS => ?_)
  have hP : va_P (dC, dI) twCl [(h0, .inr (2, [.int 0, .null, .null, .null, .null, .null, .null]))] H := hP
  have hD : va_D A [(h0, .inr (2, [.int 0, .null, .null, .null, .null, .null, .null]))] := hD
  refine lv_aload_n hx hb d_Ri_init_9 rfl (lv_at hl 0 rfl) ?_
  refine lv_bipush (v := 40) hx hb d_Ri_init_10 (by decide) ?_
  refine tr_newa hx hb (hts _ wA_104) hK hP hD hS hA 40 (by decide) (by decide) (by decide) (Nat.le_of_ble_eq_true rfl) (Nat.le_of_ble_eq_true rfl) d_Ri_init_12 (fun q12 H hP hD hS => ?_)
  have hP : va_P (dC, dI) twCl [(h0, .inr (2, [.int 0, .null, .null, .null, .null, .null, .null])), (q12, .inl (cA, 40, .inl (fun _ => 0)))] H := hP
  have hD : va_D A [(h0, .inr (2, [.int 0, .null, .null, .null, .null, .null, .null])), (q12, .inl (cA, 40, .inl (fun _ => 0)))] := hD
  refine W.widen (k := 1) (n := 40) (Nat.le_refl _) (Nat.le_refl _) ?_
  refine va_putF (D := (dC, dI)) (ci := 2) (v := .ref q12) (ty := .array .int) (C := R_Ri) (T := F_Ri) (N := 7) hx hb hts in_Ri ft_Ri ft_Ri_ok fn_Ri hown hK hP hD hS 0 rfl rfl 1 (by decide) (hts _ wA_67) (fun _ h9 => h9) rfl hin rfl (by decide +kernel) rfl rfl (Nat.le_of_ble_eq_true rfl) d_Ri_init_14 (fun H locs hP hD hS => ?_)
  have hP : va_P (dC, dI) twCl [(h0, .inr (2, [.int 0, .ref q12, .null, .null, .null, .null, .null])), (q12, .inl (cA, 40, .inl (fun _ => 0)))] H := hP
  have hD : va_D A [(h0, .inr (2, [.int 0, .ref q12, .null, .null, .null, .null, .null])), (q12, .inl (cA, 40, .inl (fun _ => 0)))] := hD
  refine lv_aload_n hx hb d_Ri_init_17 rfl (lv_at hl 0 rfl) ?_
  refine lv_bipush (v := 40) hx hb d_Ri_init_18 (by decide) ?_
  refine tr_newa hx hb (hts _ wA_104) hK hP hD hS hA 40 (by decide) (by decide) (by decide) (Nat.le_of_ble_eq_true rfl) (Nat.le_of_ble_eq_true rfl) d_Ri_init_20 (fun q20 H hP hD hS => ?_)
  have hP : va_P (dC, dI) twCl [(h0, .inr (2, [.int 0, .ref q12, .null, .null, .null, .null, .null])), (q12, .inl (cA, 40, .inl (fun _ => 0))), (q20, .inl (cA, 40, .inl (fun _ => 0)))] H := hP
  have hD : va_D A [(h0, .inr (2, [.int 0, .ref q12, .null, .null, .null, .null, .null])), (q12, .inl (cA, 40, .inl (fun _ => 0))), (q20, .inl (cA, 40, .inl (fun _ => 0)))] := hD
  refine W.widen (k := 2) (n := 80) (Nat.le_refl _) (Nat.le_refl _) ?_
  refine va_putF (D := (dC, dI)) (ci := 2) (v := .ref q20) (ty := .array .int) (C := R_Ri) (T := F_Ri) (N := 7) hx hb hts in_Ri ft_Ri ft_Ri_ok fn_Ri hown hK hP hD hS 0 rfl rfl 2 (by decide) (hts _ wA_73) (fun _ h9 => h9) rfl hin rfl (by decide +kernel) rfl rfl (Nat.le_of_ble_eq_true rfl) d_Ri_init_22 (fun H locs hP hD hS => ?_)
  have hP : va_P (dC, dI) twCl [(h0, .inr (2, [.int 0, .ref q12, .ref q20, .null, .null, .null, .null])), (q12, .inl (cA, 40, .inl (fun _ => 0))), (q20, .inl (cA, 40, .inl (fun _ => 0)))] H := hP
  have hD : va_D A [(h0, .inr (2, [.int 0, .ref q12, .ref q20, .null, .null, .null, .null])), (q12, .inl (cA, 40, .inl (fun _ => 0))), (q20, .inl (cA, 40, .inl (fun _ => 0)))] := hD
  refine lv_aload_n hx hb d_Ri_init_25 rfl (lv_at hl 0 rfl) ?_
  refine lv_bipush (v := 40) hx hb d_Ri_init_26 (by decide) ?_
  refine tr_newa hx hb (hts _ wA_104) hK hP hD hS hA 40 (by decide) (by decide) (by decide) (Nat.le_of_ble_eq_true rfl) (Nat.le_of_ble_eq_true rfl) d_Ri_init_28 (fun q28 H hP hD hS => ?_)
  have hP : va_P (dC, dI) twCl [(h0, .inr (2, [.int 0, .ref q12, .ref q20, .null, .null, .null, .null])), (q12, .inl (cA, 40, .inl (fun _ => 0))), (q20, .inl (cA, 40, .inl (fun _ => 0))), (q28, .inl (cA, 40, .inl (fun _ => 0)))] H := hP
  have hD : va_D A [(h0, .inr (2, [.int 0, .ref q12, .ref q20, .null, .null, .null, .null])), (q12, .inl (cA, 40, .inl (fun _ => 0))), (q20, .inl (cA, 40, .inl (fun _ => 0))), (q28, .inl (cA, 40, .inl (fun _ => 0)))] := hD
  refine W.widen (k := 3) (n := 120) (Nat.le_refl _) (Nat.le_refl _) ?_
  refine va_putF (D := (dC, dI)) (ci := 2) (v := .ref q28) (ty := .array .int) (C := R_Ri) (T := F_Ri) (N := 7) hx hb hts in_Ri ft_Ri ft_Ri_ok fn_Ri hown hK hP hD hS 0 rfl rfl 3 (by decide) (hts _ wA_77) (fun _ h9 => h9) rfl hin rfl (by decide +kernel) rfl rfl (Nat.le_of_ble_eq_true rfl) d_Ri_init_30 (fun H locs hP hD hS => ?_)
  have hP : va_P (dC, dI) twCl [(h0, .inr (2, [.int 0, .ref q12, .ref q20, .ref q28, .null, .null, .null])), (q12, .inl (cA, 40, .inl (fun _ => 0))), (q20, .inl (cA, 40, .inl (fun _ => 0))), (q28, .inl (cA, 40, .inl (fun _ => 0)))] H := hP
  have hD : va_D A [(h0, .inr (2, [.int 0, .ref q12, .ref q20, .ref q28, .null, .null, .null])), (q12, .inl (cA, 40, .inl (fun _ => 0))), (q20, .inl (cA, 40, .inl (fun _ => 0))), (q28, .inl (cA, 40, .inl (fun _ => 0)))] := hD
  refine lv_aload_n hx hb d_Ri_init_33 rfl (lv_at hl 0 rfl) ?_
  refine lv_bipush (v := 40) hx hb d_Ri_init_34 (by decide) ?_
  refine tr_newa hx hb (hts _ wA_104) hK hP hD hS hA 40 (by decide) (by decide) (by decide) (Nat.le_of_ble_eq_true rfl) (Nat.le_of_ble_eq_true rfl) d_Ri_init_36 (fun q36 H hP hD hS => ?_)
  have hP : va_P (dC, dI) twCl [(h0, .inr (2, [.int 0, .ref q12, .ref q20, .ref q28, .null, .null, .null])), (q12, .inl (cA, 40, .inl (fun _ => 0))), (q20, .inl (cA, 40, .inl (fun _ => 0))), (q28, .inl (cA, 40, .inl (fun _ => 0))), (q36, .inl (cA, 40, .inl (fun _ => 0)))] H := hP
  have hD : va_D A [(h0, .inr (2, [.int 0, .ref q12, .ref q20, .ref q28, .null, .null, .null])), (q12, .inl (cA, 40, .inl (fun _ => 0))), (q20, .inl (cA, 40, .inl (fun _ => 0))), (q28, .inl (cA, 40, .inl (fun _ => 0))), (q36, .inl (cA, 40, .inl (fun _ => 0)))] := hD
  refine W.widen (k := 4) (n := 160) (Nat.le_refl _) (Nat.le_refl _) ?_
  refine va_putF (D := (dC, dI)) (ci := 2) (v := .ref q36) (ty := .array .int) (C := R_Ri) (T := F_Ri) (N := 7) hx hb hts in_Ri ft_Ri ft_Ri_ok fn_Ri hown hK hP hD hS 0 rfl rfl 4 (by decide) (hts _ wA_79) (fun _ h9 => h9) rfl hin rfl (by decide +kernel) rfl rfl (Nat.le_of_ble_eq_true rfl) d_Ri_init_38 (fun H locs hP hD hS => ?_)
  have hP : va_P (dC, dI) twCl [(h0, .inr (2, [.int 0, .ref q12, .ref q20, .ref q28, .ref q36, .null, .null])), (q12, .inl (cA, 40, .inl (fun _ => 0))), (q20, .inl (cA, 40, .inl (fun _ => 0))), (q28, .inl (cA, 40, .inl (fun _ => 0))), (q36, .inl (cA, 40, .inl (fun _ => 0)))] H := hP
  have hD : va_D A [(h0, .inr (2, [.int 0, .ref q12, .ref q20, .ref q28, .ref q36, .null, .null])), (q12, .inl (cA, 40, .inl (fun _ => 0))), (q20, .inl (cA, 40, .inl (fun _ => 0))), (q28, .inl (cA, 40, .inl (fun _ => 0))), (q36, .inl (cA, 40, .inl (fun _ => 0)))] := hD
  refine lv_aload_n hx hb d_Ri_init_41 rfl (lv_at hl 0 rfl) ?_
  refine lv_bipush (v := 40) hx hb d_Ri_init_42 (by decide) ?_
  refine tr_newa hx hb (hts _ wA_104) hK hP hD hS hA 40 (by decide) (by decide) (by decide) (Nat.le_of_ble_eq_true rfl) (Nat.le_of_ble_eq_true rfl) d_Ri_init_44 (fun q44 H hP hD hS => ?_)
  have hP : va_P (dC, dI) twCl [(h0, .inr (2, [.int 0, .ref q12, .ref q20, .ref q28, .ref q36, .null, .null])), (q12, .inl (cA, 40, .inl (fun _ => 0))), (q20, .inl (cA, 40, .inl (fun _ => 0))), (q28, .inl (cA, 40, .inl (fun _ => 0))), (q36, .inl (cA, 40, .inl (fun _ => 0))), (q44, .inl (cA, 40, .inl (fun _ => 0)))] H := hP
  have hD : va_D A [(h0, .inr (2, [.int 0, .ref q12, .ref q20, .ref q28, .ref q36, .null, .null])), (q12, .inl (cA, 40, .inl (fun _ => 0))), (q20, .inl (cA, 40, .inl (fun _ => 0))), (q28, .inl (cA, 40, .inl (fun _ => 0))), (q36, .inl (cA, 40, .inl (fun _ => 0))), (q44, .inl (cA, 40, .inl (fun _ => 0)))] := hD
  refine W.widen (k := 5) (n := 200) (Nat.le_refl _) (Nat.le_refl _) ?_
  refine va_putF (D := (dC, dI)) (ci := 2) (v := .ref q44) (ty := .array .int) (C := R_Ri) (T := F_Ri) (N := 7) hx hb hts in_Ri ft_Ri ft_Ri_ok fn_Ri hown hK hP hD hS 0 rfl rfl 5 (by decide) (hts _ wA_84) (fun _ h9 => h9) rfl hin rfl (by decide +kernel) rfl rfl (Nat.le_of_ble_eq_true rfl) d_Ri_init_46 (fun H locs hP hD hS => ?_)
  have hP : va_P (dC, dI) twCl [(h0, .inr (2, [.int 0, .ref q12, .ref q20, .ref q28, .ref q36, .ref q44, .null])), (q12, .inl (cA, 40, .inl (fun _ => 0))), (q20, .inl (cA, 40, .inl (fun _ => 0))), (q28, .inl (cA, 40, .inl (fun _ => 0))), (q36, .inl (cA, 40, .inl (fun _ => 0))), (q44, .inl (cA, 40, .inl (fun _ => 0)))] H := hP
  have hD : va_D A [(h0, .inr (2, [.int 0, .ref q12, .ref q20, .ref q28, .ref q36, .ref q44, .null])), (q12, .inl (cA, 40, .inl (fun _ => 0))), (q20, .inl (cA, 40, .inl (fun _ => 0))), (q28, .inl (cA, 40, .inl (fun _ => 0))), (q36, .inl (cA, 40, .inl (fun _ => 0))), (q44, .inl (cA, 40, .inl (fun _ => 0)))] := hD
  refine lv_aload_n hx hb d_Ri_init_49 rfl (lv_at hl 0 rfl) ?_
  refine lv_sipush (v := 280) hx hb d_Ri_init_50 (by decide) ?_
  refine tr_newa hx hb (hts _ wA_104) hK hP hD hS hA 280 (by decide) (by decide) (by decide) (Nat.le_of_ble_eq_true rfl) (Nat.le_of_ble_eq_true rfl) d_Ri_init_53 (fun q53 H hP hD hS => ?_)
  have hP : va_P (dC, dI) twCl [(h0, .inr (2, [.int 0, .ref q12, .ref q20, .ref q28, .ref q36, .ref q44, .null])), (q12, .inl (cA, 40, .inl (fun _ => 0))), (q20, .inl (cA, 40, .inl (fun _ => 0))), (q28, .inl (cA, 40, .inl (fun _ => 0))), (q36, .inl (cA, 40, .inl (fun _ => 0))), (q44, .inl (cA, 40, .inl (fun _ => 0))), (q53, .inl (cA, 280, .inl (fun _ => 0)))] H := hP
  have hD : va_D A [(h0, .inr (2, [.int 0, .ref q12, .ref q20, .ref q28, .ref q36, .ref q44, .null])), (q12, .inl (cA, 40, .inl (fun _ => 0))), (q20, .inl (cA, 40, .inl (fun _ => 0))), (q28, .inl (cA, 40, .inl (fun _ => 0))), (q36, .inl (cA, 40, .inl (fun _ => 0))), (q44, .inl (cA, 40, .inl (fun _ => 0))), (q53, .inl (cA, 280, .inl (fun _ => 0)))] := hD
  refine W.widen (k := 6) (n := 480) (Nat.le_refl _) (Nat.le_refl _) ?_
  refine va_putF (D := (dC, dI)) (ci := 2) (v := .ref q53) (ty := .array .int) (C := R_Ri) (T := F_Ri) (N := 7) hx hb hts in_Ri ft_Ri ft_Ri_ok fn_Ri hown hK hP hD hS 0 rfl rfl 6 (by decide) (hts _ wA_86) (fun _ h9 => h9) rfl hin rfl (by decide +kernel) rfl rfl (Nat.le_of_ble_eq_true rfl) d_Ri_init_55 (fun H locs hP hD hS => ?_)
  have hP : va_P (dC, dI) twCl [(h0, .inr (2, [.int 0, .ref q12, .ref q20, .ref q28, .ref q36, .ref q44, .ref q53])), (q12, .inl (cA, 40, .inl (fun _ => 0))), (q20, .inl (cA, 40, .inl (fun _ => 0))), (q28, .inl (cA, 40, .inl (fun _ => 0))), (q36, .inl (cA, 40, .inl (fun _ => 0))), (q44, .inl (cA, 40, .inl (fun _ => 0))), (q53, .inl (cA, 280, .inl (fun _ => 0)))] H := hP
  have hD : va_D A [(h0, .inr (2, [.int 0, .ref q12, .ref q20, .ref q28, .ref q36, .ref q44, .ref q53])), (q12, .inl (cA, 40, .inl (fun _ => 0))), (q20, .inl (cA, 40, .inl (fun _ => 0))), (q28, .inl (cA, 40, .inl (fun _ => 0))), (q36, .inl (cA, 40, .inl (fun _ => 0))), (q44, .inl (cA, 40, .inl (fun _ => 0))), (q53, .inl (cA, 280, .inl (fun _ => 0)))] := hD
  exact W.vret hx hb hr (fun t ht hW => ⟨⟨(), rfl, trivial, (fun k => ([q12, q20, q28, q36, q44, q53] : List Nat).getD k 0), (fun _ => 0), trivial, by rw [ht]; exact hP, va_K.moved hW.alike hK, hD⟩, hS.F ht⟩) hS.2.2 d_Ri_init_58
def cw_Bo (h0 : Nat) (cA : ClassId) (q : Nat → Nat) (f : Nat → Int32) : va_W := [(h0, .inr (3, [.int 0, .ref (q 0), .ref (q 1)])), ((q 0), .inl (cA, 280, .inl (fun _ => 0))), ((q 1), .inl (cA, 280, .inl (fun _ => 0)))]
set_option maxHeartbeats 4000000 in
set_option maxRecDepth 100000 in
theorem c_Bo_init (l : Launch) (dC : Nat → ClassId) (dI : Nat → Nat → Nat) (cA : ClassId) (h0 : Nat) (sz : Nat) : Met l y_Bo_init ws_Bo_init ({ frames := 1, cells := 2, slots := 560, locals := 12 }) (va_Pc [.ref h0] (cP (dC, dI) cA [(h0, .inr (3, [.int 0, .null, .null]))] sz)) (va_Qv (fun _ : Unit => True) (fun _ => cB (dC, dI) cA (va_A [(h0, .inr (3, [.int 0, .null, .null]))] sz) (fun _ => True) (cw_Bo h0 cA)) (va_A [(h0, .inr (3, [.int 0, .null, .null]))] sz)) 2 560 (va_A [(h0, .inr (3, [.int 0, .null, .null]))] sz) := by
  refine Met.ofW (cc := b_Bo_init) (maxL := 1) (ret := none) (by decide) rfl ?_
  intro p e s m args below meth c s₁ B hml hv
  obtain ⟨rfl, hsz, hP, hK, hD0, hN⟩ := hv
  have hx := B.exec
  have hb := B.bytes
  have hr := B.returns
  have hts : ∀ w ∈ wsA, w.before _ s = true := fun w h => atoms_spec (ws := ws_Bo_init) B.pre w (List.mem_cons_of_mem _ h)
  have hown : s.vm.findClass R_Bo = some m.cls := findClass_of_methodNamed B.named
  have hlocks := B.notSynchronized
  have hin : meth.name = "<init>" := (name_of_methodNamed B.named B.method).1
  subst hsz
  have hD := hD0.self (sz := s.heap.size)
  generalize hAe : va_A [(h0, .inr (3, [.int 0, .null, .null]))] s.heap.size = A at hD ⊢
  have hA : ∀ q : Nat, s.heap.size ≤ q → A q := fun q h => by rw [← hAe]; exact Or.inr h
  have hS : va_S A s.heap s.heap [] := va_S.rf
  have hl := lv_entry ([.ref h0]) (n := 1) (Nat.le_of_ble_eq_true rfl)
  rw [lg_entry_eq]
  generalize (lg_sl ([.ref h0]) ++ List.replicate (1 - (lg_sl ([.ref h0])).length) Slot.unset).toArray = ls at hl ⊢
  have hl : lv_has ls 1 [(0, .ref h0)] := hl
  refine lv_aload_n hx hb d_Bo_init_0 rfl (lv_at hl 0 rfl) ?_
  refine W.objInit hx hb hown (hts _ wA_110) (hts _ wA_49) (hts _ wA_50) rfl (by rw [hml]; exact hl.1) rfl d_Bo_init_1 (Nat.le_of_ble_eq_true rfl) (Nat.le_of_ble_eq_true rfl) ?_
  refine W.eq (g2 := F0 m 4 ls []) rfl ?_
  refine lv_aload_n hx hb d_Bo_init_4 rfl (lv_at hl 0 rfl) ?_
  refine lv_iconst (v := 0) hx hb d_Bo_init_5 (by decide) ?_
  refine va_put (D := (dC, dI)) (ci := 3) (v := .int 0) (ty := .int) (C := R_Bo) (T := F_Bo) (N := 3) hx hb hts in_Bo ft_Bo ft_Bo_ok fn_Bo hown hK hP hD hS 0 rfl rfl 0 (by decide) (hts _ wA_111) (fun _ h9 => h9) rfl (by decide +kernel) rfl rfl (Nat.le_of_ble_eq_true rfl) d_Bo_init_6 (fun H locs hP hD hS => ?_)
  have hP : va_P (dC, dI) twCl [(h0, .inr (3, [.int 0, .null, .null]))] H := hP
  have hD : va_D A [(h0, .inr (3, [.int 0, .null, .null]))] := hD
  refine lv_aload_n hx hb d_Bo_init_9 rfl (lv_at hl 0 rfl) ?_
  refine lv_sipush (v := 280) hx hb d_Bo_init_10 (by decide) ?_
  refine tr_newa hx hb (hts _ wA_104) hK hP hD hS hA 280 (by decide) (by decide) (by decide) (Nat.le_of_ble_eq_true rfl) (Nat.le_of_ble_eq_true rfl) d_Bo_init_13 (fun q13 H hP hD hS => ?_)
  have hP : va_P (dC, dI) twCl [(h0, .inr (3, [.int 0, .null, .null])), (q13, .inl (cA, 280, .inl (fun _ => 0)))] H := hP
  have hD : va_D A [(h0, .inr (3, [.int 0, .null, .null])), (q13, .inl (cA, 280, .inl (fun _ => 0)))] := hD
  refine W.widen (k := 1) (n := 280) (Nat.le_refl _) (Nat.le_refl _) ?_
  refine va_putF (D := (dC, dI)) (ci := 3) (v := .ref q13) (ty := .array .int) (C := R_Bo) (T := F_Bo) (N := 3) hx hb hts in_Bo ft_Bo ft_Bo_ok fn_Bo hown hK hP hD hS 0 rfl rfl 1 (by decide) (hts _ wA_116) (fun _ h9 => h9) rfl hin rfl (by decide +kernel) rfl rfl (Nat.le_of_ble_eq_true rfl) d_Bo_init_15 (fun H locs hP hD hS => ?_)
  have hP : va_P (dC, dI) twCl [(h0, .inr (3, [.int 0, .ref q13, .null])), (q13, .inl (cA, 280, .inl (fun _ => 0)))] H := hP
  have hD : va_D A [(h0, .inr (3, [.int 0, .ref q13, .null])), (q13, .inl (cA, 280, .inl (fun _ => 0)))] := hD
  refine lv_aload_n hx hb d_Bo_init_18 rfl (lv_at hl 0 rfl) ?_
  refine lv_sipush (v := 280) hx hb d_Bo_init_19 (by decide) ?_
  refine tr_newa hx hb (hts _ wA_104) hK hP hD hS hA 280 (by decide) (by decide) (by decide) (Nat.le_of_ble_eq_true rfl) (Nat.le_of_ble_eq_true rfl) d_Bo_init_22 (fun q22 H hP hD hS => ?_)
  have hP : va_P (dC, dI) twCl [(h0, .inr (3, [.int 0, .ref q13, .null])), (q13, .inl (cA, 280, .inl (fun _ => 0))), (q22, .inl (cA, 280, .inl (fun _ => 0)))] H := hP
  have hD : va_D A [(h0, .inr (3, [.int 0, .ref q13, .null])), (q13, .inl (cA, 280, .inl (fun _ => 0))), (q22, .inl (cA, 280, .inl (fun _ => 0)))] := hD
  refine W.widen (k := 2) (n := 560) (Nat.le_refl _) (Nat.le_refl _) ?_
  refine va_putF (D := (dC, dI)) (ci := 3) (v := .ref q22) (ty := .array .int) (C := R_Bo) (T := F_Bo) (N := 3) hx hb hts in_Bo ft_Bo ft_Bo_ok fn_Bo hown hK hP hD hS 0 rfl rfl 2 (by decide) (hts _ wA_117) (fun _ h9 => h9) rfl hin rfl (by decide +kernel) rfl rfl (Nat.le_of_ble_eq_true rfl) d_Bo_init_24 (fun H locs hP hD hS => ?_)
  have hP : va_P (dC, dI) twCl [(h0, .inr (3, [.int 0, .ref q13, .ref q22])), (q13, .inl (cA, 280, .inl (fun _ => 0))), (q22, .inl (cA, 280, .inl (fun _ => 0)))] H := hP
  have hD : va_D A [(h0, .inr (3, [.int 0, .ref q13, .ref q22])), (q13, .inl (cA, 280, .inl (fun _ => 0))), (q22, .inl (cA, 280, .inl (fun _ => 0)))] := hD
  exact W.vret hx hb hr (fun t ht hW => ⟨⟨(), rfl, trivial, (fun k => ([q13, q22] : List Nat).getD k 0), (fun _ => 0), trivial, by rw [ht]; exact hP, va_K.moved hW.alike hK, hD⟩, hS.F ht⟩) hS.2.2 d_Bo_init_27
def cw_Wa (h0 : Nat) (cA : ClassId) (q : Nat → Nat) (f : Nat → Int32) : va_W := [(h0, .inr (4, [.int 0, .ref (q 0), .ref (q 1), .ref (q 2), .ref (q 3)])), ((q 0), .inl (cA, 30, .inl (fun _ => 0))), ((q 1), .inl (cA, 30, .inl (fun _ => 0))), ((q 2), .inl (cA, 30, .inl (fun _ => 0))), ((q 3), .inl (cA, 144, .inl f))]
set_option maxHeartbeats 4000000 in
set_option maxRecDepth 100000 in
theorem c_Wa_init (l : Launch) (dC : Nat → ClassId) (dI : Nat → Nat → Nat) (cA : ClassId) (h0 : Nat) (sz : Nat) : Met l y_Wa_init ws_Wa_init ({ frames := 1, cells := 4, slots := 234, locals := 23 }) (va_Pc [.ref h0] (cP (dC, dI) cA [(h0, .inr (4, [.int 0, .null, .null, .null, .null]))] sz)) (va_Qv (fun _ : Unit => True) (fun _ => cB (dC, dI) cA (va_A [(h0, .inr (4, [.int 0, .null, .null, .null, .null]))] sz) (fun f => ∀ j : Nat, j < 144 → f j = 1000000) (cw_Wa h0 cA)) (va_A [(h0, .inr (4, [.int 0, .null, .null, .null, .null]))] sz)) 4 234 (va_A [(h0, .inr (4, [.int 0, .null, .null, .null, .null]))] sz) := by
  refine Met.ofW (cc := b_Wa_init) (maxL := 1) (ret := none) (by decide) rfl ?_
  intro p e s m args below meth c s₁ B hml hv
  obtain ⟨rfl, hsz, hP, hK, hD0, hN⟩ := hv
  have hx := B.exec
  have hb := B.bytes
  have hr := B.returns
  have hts : ∀ w ∈ wsA, w.before _ s = true := fun w h => atoms_spec (ws := ws_Wa_init) B.pre w (List.mem_cons_of_mem _ h)
  have hown : s.vm.findClass R_Wa = some m.cls := findClass_of_methodNamed B.named
  have hlocks := B.notSynchronized
  have hin : meth.name = "<init>" := (name_of_methodNamed B.named B.method).1
  subst hsz
  have hD := hD0.self (sz := s.heap.size)
  generalize hAe : va_A [(h0, .inr (4, [.int 0, .null, .null, .null, .null]))] s.heap.size = A at hD ⊢
  have hA : ∀ q : Nat, s.heap.size ≤ q → A q := fun q h => by rw [← hAe]; exact Or.inr h
  have hS : va_S A s.heap s.heap [] := va_S.rf
  have hl := lv_entry ([.ref h0]) (n := 1) (Nat.le_of_ble_eq_true rfl)
  rw [lg_entry_eq]
  generalize (lg_sl ([.ref h0]) ++ List.replicate (1 - (lg_sl ([.ref h0])).length) Slot.unset).toArray = ls at hl ⊢
  have hl : lv_has ls 1 [(0, .ref h0)] := hl
  refine lv_aload_n hx hb d_Wa_init_0 rfl (lv_at hl 0 rfl) ?_
  refine W.objInit hx hb hown (hts _ wA_132) (hts _ wA_49) (hts _ wA_50) rfl (by rw [hml]; exact hl.1) rfl d_Wa_init_1 (Nat.le_of_ble_eq_true rfl) (Nat.le_of_ble_eq_true rfl) ?_
  refine W.eq (g2 := F0 m 4 ls []) rfl ?_
  refine lv_aload_n hx hb d_Wa_init_4 rfl (lv_at hl 0 rfl) ?_
  refine lv_iconst (v := 0) hx hb d_Wa_init_5 (by decide) ?_
  refine va_put (D := (dC, dI)) (ci := 4) (v := .int 0) (ty := .int) (C := R_Wa) (T := F_Wa) (N := 5) hx hb hts in_Wa ft_Wa ft_Wa_ok fn_Wa hown hK hP hD hS 0 rfl rfl 0 (by decide) (hts _ wA_137) (fun _ h9 => h9) rfl (by decide +kernel) rfl rfl (Nat.le_of_ble_eq_true rfl) d_Wa_init_6 (fun H locs hP hD hS => ?_)
  have hP : va_P (dC, dI) twCl [(h0, .inr (4, [.int 0, .null, .null, .null, .null]))] H := hP
  have hD : va_D A [(h0, .inr (4, [.int 0, .null, .null, .null, .null]))] := hD
  refine lv_aload_n hx hb d_Wa_init_9 rfl (lv_at hl 0 rfl) ?_
  refine lv_bipush (v := 30) hx hb d_Wa_init_10 (by decide) ?_
  refine tr_newa hx hb (hts _ wA_104) hK hP hD hS hA 30 (by decide) (by decide) (by decide) (Nat.le_of_ble_eq_true rfl) (Nat.le_of_ble_eq_true rfl) d_Wa_init_12 (fun q12 H hP hD hS => ?_)
  have hP : va_P (dC, dI) twCl [(h0, .inr (4, [.int 0, .null, .null, .null, .null])), (q12, .inl (cA, 30, .inl (fun _ => 0)))] H := hP
  have hD : va_D A [(h0, .inr (4, [.int 0, .null, .null, .null, .null])), (q12, .inl (cA, 30, .inl (fun _ => 0)))] := hD
  refine W.widen (k := 1) (n := 30) (Nat.le_refl _) (Nat.le_refl _) ?_
  refine va_putF (D := (dC, dI)) (ci := 4) (v := .ref q12) (ty := .array .int) (C := R_Wa) (T := F_Wa) (N := 5) hx hb hts in_Wa ft_Wa ft_Wa_ok fn_Wa hown hK hP hD hS 0 rfl rfl 1 (by decide) (hts _ wA_140) (fun _ h9 => h9) rfl hin rfl (by decide +kernel) rfl rfl (Nat.le_of_ble_eq_true rfl) d_Wa_init_14 (fun H locs hP hD hS => ?_)
  have hP : va_P (dC, dI) twCl [(h0, .inr (4, [.int 0, .ref q12, .null, .null, .null])), (q12, .inl (cA, 30, .inl (fun _ => 0)))] H := hP
  have hD : va_D A [(h0, .inr (4, [.int 0, .ref q12, .null, .null, .null])), (q12, .inl (cA, 30, .inl (fun _ => 0)))] := hD
  refine lv_aload_n hx hb d_Wa_init_17 rfl (lv_at hl 0 rfl) ?_
  refine lv_bipush (v := 30) hx hb d_Wa_init_18 (by decide) ?_
  refine tr_newa hx hb (hts _ wA_104) hK hP hD hS hA 30 (by decide) (by decide) (by decide) (Nat.le_of_ble_eq_true rfl) (Nat.le_of_ble_eq_true rfl) d_Wa_init_20 (fun q20 H hP hD hS => ?_)
  have hP : va_P (dC, dI) twCl [(h0, .inr (4, [.int 0, .ref q12, .null, .null, .null])), (q12, .inl (cA, 30, .inl (fun _ => 0))), (q20, .inl (cA, 30, .inl (fun _ => 0)))] H := hP
  have hD : va_D A [(h0, .inr (4, [.int 0, .ref q12, .null, .null, .null])), (q12, .inl (cA, 30, .inl (fun _ => 0))), (q20, .inl (cA, 30, .inl (fun _ => 0)))] := hD
  refine W.widen (k := 2) (n := 60) (Nat.le_refl _) (Nat.le_refl _) ?_
  refine va_putF (D := (dC, dI)) (ci := 4) (v := .ref q20) (ty := .array .int) (C := R_Wa) (T := F_Wa) (N := 5) hx hb hts in_Wa ft_Wa ft_Wa_ok fn_Wa hown hK hP hD hS 0 rfl rfl 2 (by decide) (hts _ wA_143) (fun _ h9 => h9) rfl hin rfl (by decide +kernel) rfl rfl (Nat.le_of_ble_eq_true rfl) d_Wa_init_22 (fun H locs hP hD hS => ?_)
  have hP : va_P (dC, dI) twCl [(h0, .inr (4, [.int 0, .ref q12, .ref q20, .null, .null])), (q12, .inl (cA, 30, .inl (fun _ => 0))), (q20, .inl (cA, 30, .inl (fun _ => 0)))] H := hP
  have hD : va_D A [(h0, .inr (4, [.int 0, .ref q12, .ref q20, .null, .null])), (q12, .inl (cA, 30, .inl (fun _ => 0))), (q20, .inl (cA, 30, .inl (fun _ => 0)))] := hD
  refine lv_aload_n hx hb d_Wa_init_25 rfl (lv_at hl 0 rfl) ?_
  refine lv_bipush (v := 30) hx hb d_Wa_init_26 (by decide) ?_
  refine tr_newa hx hb (hts _ wA_104) hK hP hD hS hA 30 (by decide) (by decide) (by decide) (Nat.le_of_ble_eq_true rfl) (Nat.le_of_ble_eq_true rfl) d_Wa_init_28 (fun q28 H hP hD hS => ?_)
  have hP : va_P (dC, dI) twCl [(h0, .inr (4, [.int 0, .ref q12, .ref q20, .null, .null])), (q12, .inl (cA, 30, .inl (fun _ => 0))), (q20, .inl (cA, 30, .inl (fun _ => 0))), (q28, .inl (cA, 30, .inl (fun _ => 0)))] H := hP
  have hD : va_D A [(h0, .inr (4, [.int 0, .ref q12, .ref q20, .null, .null])), (q12, .inl (cA, 30, .inl (fun _ => 0))), (q20, .inl (cA, 30, .inl (fun _ => 0))), (q28, .inl (cA, 30, .inl (fun _ => 0)))] := hD
  refine W.widen (k := 3) (n := 90) (Nat.le_refl _) (Nat.le_refl _) ?_
  refine va_putF (D := (dC, dI)) (ci := 4) (v := .ref q28) (ty := .array .int) (C := R_Wa) (T := F_Wa) (N := 5) hx hb hts in_Wa ft_Wa ft_Wa_ok fn_Wa hown hK hP hD hS 0 rfl rfl 3 (by decide) (hts _ wA_145) (fun _ h9 => h9) rfl hin rfl (by decide +kernel) rfl rfl (Nat.le_of_ble_eq_true rfl) d_Wa_init_30 (fun H locs hP hD hS => ?_)
  have hP : va_P (dC, dI) twCl [(h0, .inr (4, [.int 0, .ref q12, .ref q20, .ref q28, .null])), (q12, .inl (cA, 30, .inl (fun _ => 0))), (q20, .inl (cA, 30, .inl (fun _ => 0))), (q28, .inl (cA, 30, .inl (fun _ => 0)))] H := hP
  have hD : va_D A [(h0, .inr (4, [.int 0, .ref q12, .ref q20, .ref q28, .null])), (q12, .inl (cA, 30, .inl (fun _ => 0))), (q20, .inl (cA, 30, .inl (fun _ => 0))), (q28, .inl (cA, 30, .inl (fun _ => 0)))] := hD
  refine lv_aload_n hx hb d_Wa_init_33 rfl (lv_at hl 0 rfl) ?_
  refine lv_sipush (v := 144) hx hb d_Wa_init_34 (by decide) ?_
  refine tr_newa hx hb (hts _ wA_104) hK hP hD hS hA 144 (by decide) (by decide) (by decide) (Nat.le_of_ble_eq_true rfl) (Nat.le_of_ble_eq_true rfl) d_Wa_init_37 (fun q37 H hP hD hS => ?_)
  have hP : va_P (dC, dI) twCl [(h0, .inr (4, [.int 0, .ref q12, .ref q20, .ref q28, .null])), (q12, .inl (cA, 30, .inl (fun _ => 0))), (q20, .inl (cA, 30, .inl (fun _ => 0))), (q28, .inl (cA, 30, .inl (fun _ => 0))), (q37, .inl (cA, 144, .inl (fun _ => 0)))] H := hP
  have hD : va_D A [(h0, .inr (4, [.int 0, .ref q12, .ref q20, .ref q28, .null])), (q12, .inl (cA, 30, .inl (fun _ => 0))), (q20, .inl (cA, 30, .inl (fun _ => 0))), (q28, .inl (cA, 30, .inl (fun _ => 0))), (q37, .inl (cA, 144, .inl (fun _ => 0)))] := hD
  refine W.widen (k := 4) (n := 234) (Nat.le_refl _) (Nat.le_refl _) ?_
  refine va_putF (D := (dC, dI)) (ci := 4) (v := .ref q37) (ty := .array .int) (C := R_Wa) (T := F_Wa) (N := 5) hx hb hts in_Wa ft_Wa ft_Wa_ok fn_Wa hown hK hP hD hS 0 rfl rfl 4 (by decide) (hts _ wA_148) (fun _ h9 => h9) rfl hin rfl (by decide +kernel) rfl rfl (Nat.le_of_ble_eq_true rfl) d_Wa_init_39 (fun H locs hP hD hS => ?_)
  have hP : va_P (dC, dI) twCl [(h0, .inr (4, [.int 0, .ref q12, .ref q20, .ref q28, .ref q37])), (q12, .inl (cA, 30, .inl (fun _ => 0))), (q20, .inl (cA, 30, .inl (fun _ => 0))), (q28, .inl (cA, 30, .inl (fun _ => 0))), (q37, .inl (cA, 144, .inl (fun _ => 0)))] H := hP
  have hD : va_D A [(h0, .inr (4, [.int 0, .ref q12, .ref q20, .ref q28, .ref q37])), (q12, .inl (cA, 30, .inl (fun _ => 0))), (q20, .inl (cA, 30, .inl (fun _ => 0))), (q28, .inl (cA, 30, .inl (fun _ => 0))), (q37, .inl (cA, 144, .inl (fun _ => 0)))] := hD
  refine lv_aload_n hx hb d_Wa_init_42 rfl (lv_at hl 0 rfl) ?_
  refine va_get (D := (dC, dI)) (C := R_Wa) (T := F_Wa) (N := 5) (v := .ref q37) hx hb hts in_Wa hown hK hP 0 rfl rfl 4 (by decide) (hts _ wA_148) (fun _ h9 => h9) rfl d_Wa_init_43 ?_
  refine lv_ldc (v := 1000000) hx hb hown (hts _ wA_133) d_Wa_init_46 ?_
  have hI : tX (dC, dI) twCl [(cA, .int)] A s H locs ((fun u : tS => ([(h0, .inr (4, [.int 0, .ref q12, .ref q20, .ref q28, .ref q37])), (q12, .inl (cA, 30, .inl (fun _ => 0))), (q20, .inl (cA, 30, .inl (fun _ => 0))), (q28, .inl (cA, 30, .inl (fun _ => 0))), (q37, .inl (cA, 144, .inl (u.2 12)))] : va_W)) ((fun _ => 0, fun _ _ => 0) : tS)) := ⟨hK, hP, hD, hS⟩
  have hw := ct_fill ((fun _ => 0, fun _ _ => 0) : tS)
  refine tr_gov (w := fun u : tS => ([(h0, .inr (4, [.int 0, .ref q12, .ref q20, .ref q28, .ref q37])), (q12, .inl (cA, 30, .inl (fun _ => 0))), (q20, .inl (cA, 30, .inl (fun _ => 0))), (q28, .inl (cA, 30, .inl (fun _ => 0))), (q37, .inl (cA, 144, .inl (u.2 12)))] : va_W)) hI hA (va_runS (As := [.ref q37, .int 1000000]) (rest := []) ⟨hx, hb, hml, hown, hts⟩ (c_J_fillG l dC dI cA (fun u : tS => ([(h0, .inr (4, [.int 0, .ref q12, .ref q20, .ref q28, .ref q37])), (q12, .inl (cA, 30, .inl (fun _ => 0))), (q20, .inl (cA, 30, .inl (fun _ => 0))), (q28, .inl (cA, 30, .inl (fun _ => 0))), (q37, .inl (cA, 144, .inl (u.2 12)))] : va_W)) q37 4 (fun _ => rfl) (fun _ _ _ => rfl) _ _ _ _) ⟨callB_of 2 hts (wsA_good wA_136) rfl rfl rfl (hts _ wA_35) (hts _ wA_134) (by decide +kernel) ⟨Nat.le_of_ble_eq_true rfl, Nat.le_of_ble_eq_true rfl⟩, hts _ wA_135⟩ (tr_preS (w := fun u : tS => ([(h0, .inr (4, [.int 0, .ref q12, .ref q20, .ref q28, .ref q37])), (q12, .inl (cA, 30, .inl (fun _ => 0))), (q20, .inl (cA, 30, .inl (fun _ => 0))), (q28, .inl (cA, 30, .inl (fun _ => 0))), (q37, .inl (cA, 144, .inl (u.2 12)))] : va_W)) hI hN hw) rfl rfl hl.1 rfl (lv_room (Nat.le_of_ble_eq_true rfl)) d_Wa_init_48 ⟨Nat.le_of_ble_eq_true rfl, Nat.le_of_ble_eq_true rfl⟩) (fun u1 H locs hw hI => ?_)
  obtain ⟨hK, hP, hD, hS⟩ := hI
  obtain ⟨ff, hff⟩ : ∃ ff, ff = u1.2 12 := ⟨_, rfl⟩
  have hP : va_P (dC, dI) twCl [(h0, .inr (4, [.int 0, .ref q12, .ref q20, .ref q28, .ref q37])), (q12, .inl (cA, 30, .inl (fun _ => 0))), (q20, .inl (cA, 30, .inl (fun _ => 0))), (q28, .inl (cA, 30, .inl (fun _ => 0))), (q37, .inl (cA, 144, .inl ff))] H := by rw [hff]; exact hP
  have hD : va_D A [(h0, .inr (4, [.int 0, .ref q12, .ref q20, .ref q28, .ref q37])), (q12, .inl (cA, 30, .inl (fun _ => 0))), (q20, .inl (cA, 30, .inl (fun _ => 0))), (q28, .inl (cA, 30, .inl (fun _ => 0))), (q37, .inl (cA, 144, .inl ff))] := by rw [hff]; exact hD
  have hfill : ∀ j : Nat, j < 144 → ff j = 1000000 := by rw [hff]; exact hw
  exact W.vret hx hb hr (fun t ht hW => ⟨⟨(), rfl, trivial, (fun k => ([q12, q20, q28, q37] : List Nat).getD k 0), ff, hfill, by rw [ht]; exact hP, va_K.moved hW.alike hK, hD⟩, hS.F ht⟩) hS.2.2 d_Wa_init_51
def cw_Ar (h0 : Nat) (cA : ClassId) (q : Nat → Nat) (f : Nat → Int32) : va_W := [(h0, .inr (5, [.ref (q 0), .ref (q 1)])), ((q 0), .inl (cA, 12, .inl (fun _ => 0))), ((q 1), .inl (cA, 12, .inl (fun _ => 0)))]
set_option maxHeartbeats 4000000 in
set_option maxRecDepth 100000 in
theorem c_Ar_init (l : Launch) (dC : Nat → ClassId) (dI : Nat → Nat → Nat) (cA : ClassId) (h0 : Nat) (sz : Nat) : Met l y_Ar_init ws_Ar_init ({ frames := 1, cells := 2, slots := 24, locals := 12 }) (va_Pc [.ref h0] (cP (dC, dI) cA [(h0, .inr (5, [.null, .null]))] sz)) (va_Qv (fun _ : Unit => True) (fun _ => cB (dC, dI) cA (va_A [(h0, .inr (5, [.null, .null]))] sz) (fun _ => True) (cw_Ar h0 cA)) (va_A [(h0, .inr (5, [.null, .null]))] sz)) 2 24 (va_A [(h0, .inr (5, [.null, .null]))] sz) := by
  refine Met.ofW (cc := b_Ar_init) (maxL := 1) (ret := none) (by decide) rfl ?_
  intro p e s m args below meth c s₁ B hml hv
  obtain ⟨rfl, hsz, hP, hK, hD0, hN⟩ := hv
  have hx := B.exec
  have hb := B.bytes
  have hr := B.returns
  have hts : ∀ w ∈ wsA, w.before _ s = true := fun w h => atoms_spec (ws := ws_Ar_init) B.pre w (List.mem_cons_of_mem _ h)
  have hown : s.vm.findClass R_Ar = some m.cls := findClass_of_methodNamed B.named
  have hlocks := B.notSynchronized
  have hin : meth.name = "<init>" := (name_of_methodNamed B.named B.method).1
  subst hsz
  have hD := hD0.self (sz := s.heap.size)
  generalize hAe : va_A [(h0, .inr (5, [.null, .null]))] s.heap.size = A at hD ⊢
  have hA : ∀ q : Nat, s.heap.size ≤ q → A q := fun q h => by rw [← hAe]; exact Or.inr h
  have hS : va_S A s.heap s.heap [] := va_S.rf
  have hl := lv_entry ([.ref h0]) (n := 1) (Nat.le_of_ble_eq_true rfl)
  rw [lg_entry_eq]
  generalize (lg_sl ([.ref h0]) ++ List.replicate (1 - (lg_sl ([.ref h0])).length) Slot.unset).toArray = ls at hl ⊢
  have hl : lv_has ls 1 [(0, .ref h0)] := hl
  refine lv_aload_n hx hb d_Ar_init_0 rfl (lv_at hl 0 rfl) ?_
  refine W.objInit hx hb hown (hts _ wA_196) (hts _ wA_49) (hts _ wA_50) rfl (by rw [hml]; exact hl.1) rfl d_Ar_init_1 (Nat.le_of_ble_eq_true rfl) (Nat.le_of_ble_eq_true rfl) ?_
  refine W.eq (g2 := F0 m 4 ls []) rfl ?_
  refine lv_aload_n hx hb d_Ar_init_4 rfl (lv_at hl 0 rfl) ?_
  refine lv_bipush (v := 12) hx hb d_Ar_init_5 (by decide) ?_
  refine tr_newa hx hb (hts _ wA_104) hK hP hD hS hA 12 (by decide) (by decide) (by decide) (Nat.le_of_ble_eq_true rfl) (Nat.le_of_ble_eq_true rfl) d_Ar_init_7 (fun q7 H hP hD hS => ?_)
  have hP : va_P (dC, dI) twCl [(h0, .inr (5, [.null, .null])), (q7, .inl (cA, 12, .inl (fun _ => 0)))] H := hP
  have hD : va_D A [(h0, .inr (5, [.null, .null])), (q7, .inl (cA, 12, .inl (fun _ => 0)))] := hD
  refine W.widen (k := 1) (n := 12) (Nat.le_refl _) (Nat.le_refl _) ?_
  refine va_putF (D := (dC, dI)) (ci := 5) (v := .ref q7) (ty := .array .int) (C := R_Ar) (T := F_Ar) (N := 2) hx hb hts in_Ar ft_Ar ft_Ar_ok fn_Ar hown hK hP hD hS 0 rfl rfl 0 (by decide) (hts _ wA_197) (fun _ h9 => h9) rfl hin rfl (by decide +kernel) rfl rfl (Nat.le_of_ble_eq_true rfl) d_Ar_init_9 (fun H locs hP hD hS => ?_)
  have hP : va_P (dC, dI) twCl [(h0, .inr (5, [.ref q7, .null])), (q7, .inl (cA, 12, .inl (fun _ => 0)))] H := hP
  have hD : va_D A [(h0, .inr (5, [.ref q7, .null])), (q7, .inl (cA, 12, .inl (fun _ => 0)))] := hD
  refine lv_aload_n hx hb d_Ar_init_12 rfl (lv_at hl 0 rfl) ?_
  refine lv_bipush (v := 12) hx hb d_Ar_init_13 (by decide) ?_
  refine tr_newa hx hb (hts _ wA_104) hK hP hD hS hA 12 (by decide) (by decide) (by decide) (Nat.le_of_ble_eq_true rfl) (Nat.le_of_ble_eq_true rfl) d_Ar_init_15 (fun q15 H hP hD hS => ?_)
  have hP : va_P (dC, dI) twCl [(h0, .inr (5, [.ref q7, .null])), (q7, .inl (cA, 12, .inl (fun _ => 0))), (q15, .inl (cA, 12, .inl (fun _ => 0)))] H := hP
  have hD : va_D A [(h0, .inr (5, [.ref q7, .null])), (q7, .inl (cA, 12, .inl (fun _ => 0))), (q15, .inl (cA, 12, .inl (fun _ => 0)))] := hD
  refine W.widen (k := 2) (n := 24) (Nat.le_refl _) (Nat.le_refl _) ?_
  refine va_putF (D := (dC, dI)) (ci := 5) (v := .ref q15) (ty := .array .int) (C := R_Ar) (T := F_Ar) (N := 2) hx hb hts in_Ar ft_Ar ft_Ar_ok fn_Ar hown hK hP hD hS 0 rfl rfl 1 (by decide) (hts _ wA_198) (fun _ h9 => h9) rfl hin rfl (by decide +kernel) rfl rfl (Nat.le_of_ble_eq_true rfl) d_Ar_init_17 (fun H locs hP hD hS => ?_)
  have hP : va_P (dC, dI) twCl [(h0, .inr (5, [.ref q7, .ref q15])), (q7, .inl (cA, 12, .inl (fun _ => 0))), (q15, .inl (cA, 12, .inl (fun _ => 0)))] H := hP
  have hD : va_D A [(h0, .inr (5, [.ref q7, .ref q15])), (q7, .inl (cA, 12, .inl (fun _ => 0))), (q15, .inl (cA, 12, .inl (fun _ => 0)))] := hD
  exact W.vret hx hb hr (fun t ht hW => ⟨⟨(), rfl, trivial, (fun k => ([q7, q15] : List Nat).getD k 0), (fun _ => 0), trivial, by rw [ht]; exact hP, va_K.moved hW.alike hK, hD⟩, hS.F ht⟩) hS.2.2 d_Ar_init_20
def cw_Sp (h0 : Nat) (cA : ClassId) (q : Nat → Nat) (f : Nat → Int32) : va_W := [(h0, .inr (6, [.ref (q 0), .ref (q 1)])), ((q 0), .inl (cA, 280, .inl (fun _ => 0))), ((q 1), .inl (cA, 601, .inl (fun _ => 0)))]
set_option maxHeartbeats 4000000 in
set_option maxRecDepth 100000 in
theorem c_Sp_init (l : Launch) (dC : Nat → ClassId) (dI : Nat → Nat → Nat) (cA : ClassId) (h0 : Nat) (sz : Nat) : Met l y_Sp_init ws_Sp_init ({ frames := 1, cells := 2, slots := 881, locals := 12 }) (va_Pc [.ref h0] (cP (dC, dI) cA [(h0, .inr (6, [.null, .null]))] sz)) (va_Qv (fun _ : Unit => True) (fun _ => cB (dC, dI) cA (va_A [(h0, .inr (6, [.null, .null]))] sz) (fun _ => True) (cw_Sp h0 cA)) (va_A [(h0, .inr (6, [.null, .null]))] sz)) 2 881 (va_A [(h0, .inr (6, [.null, .null]))] sz) := by
  refine Met.ofW (cc := b_Sp_init) (maxL := 1) (ret := none) (by decide) rfl ?_
  intro p e s m args below meth c s₁ B hml hv
  obtain ⟨rfl, hsz, hP, hK, hD0, hN⟩ := hv
  have hx := B.exec
  have hb := B.bytes
  have hr := B.returns
  have hts : ∀ w ∈ wsA, w.before _ s = true := fun w h => atoms_spec (ws := ws_Sp_init) B.pre w (List.mem_cons_of_mem _ h)
  have hown : s.vm.findClass R_Sp = some m.cls := findClass_of_methodNamed B.named
  have hlocks := B.notSynchronized
  have hin : meth.name = "<init>" := (name_of_methodNamed B.named B.method).1
  subst hsz
  have hD := hD0.self (sz := s.heap.size)
  generalize hAe : va_A [(h0, .inr (6, [.null, .null]))] s.heap.size = A at hD ⊢
  have hA : ∀ q : Nat, s.heap.size ≤ q → A q := fun q h => by rw [← hAe]; exact Or.inr h
  have hS : va_S A s.heap s.heap [] := va_S.rf
  have hl := lv_entry ([.ref h0]) (n := 1) (Nat.le_of_ble_eq_true rfl)
  rw [lg_entry_eq]
  generalize (lg_sl ([.ref h0]) ++ List.replicate (1 - (lg_sl ([.ref h0])).length) Slot.unset).toArray = ls at hl ⊢
  have hl : lv_has ls 1 [(0, .ref h0)] := hl
  refine lv_aload_n hx hb d_Sp_init_0 rfl (lv_at hl 0 rfl) ?_
  refine W.objInit hx hb hown (hts _ wA_209) (hts _ wA_49) (hts _ wA_50) rfl (by rw [hml]; exact hl.1) rfl d_Sp_init_1 (Nat.le_of_ble_eq_true rfl) (Nat.le_of_ble_eq_true rfl) ?_
  refine W.eq (g2 := F0 m 4 ls []) rfl ?_
  refine lv_aload_n hx hb d_Sp_init_4 rfl (lv_at hl 0 rfl) ?_
  refine lv_sipush (v := 280) hx hb d_Sp_init_5 (by decide) ?_
  refine tr_newa hx hb (hts _ wA_104) hK hP hD hS hA 280 (by decide) (by decide) (by decide) (Nat.le_of_ble_eq_true rfl) (Nat.le_of_ble_eq_true rfl) d_Sp_init_8 (fun q8 H hP hD hS => ?_)
  have hP : va_P (dC, dI) twCl [(h0, .inr (6, [.null, .null])), (q8, .inl (cA, 280, .inl (fun _ => 0)))] H := hP
  have hD : va_D A [(h0, .inr (6, [.null, .null])), (q8, .inl (cA, 280, .inl (fun _ => 0)))] := hD
  refine W.widen (k := 1) (n := 280) (Nat.le_refl _) (Nat.le_refl _) ?_
  refine va_putF (D := (dC, dI)) (ci := 6) (v := .ref q8) (ty := .array .int) (C := R_Sp) (T := F_Sp) (N := 2) hx hb hts in_Sp ft_Sp ft_Sp_ok fn_Sp hown hK hP hD hS 0 rfl rfl 0 (by decide) (hts _ wA_210) (fun _ h9 => h9) rfl hin rfl (by decide +kernel) rfl rfl (Nat.le_of_ble_eq_true rfl) d_Sp_init_10 (fun H locs hP hD hS => ?_)
  have hP : va_P (dC, dI) twCl [(h0, .inr (6, [.ref q8, .null])), (q8, .inl (cA, 280, .inl (fun _ => 0)))] H := hP
  have hD : va_D A [(h0, .inr (6, [.ref q8, .null])), (q8, .inl (cA, 280, .inl (fun _ => 0)))] := hD
  refine lv_aload_n hx hb d_Sp_init_13 rfl (lv_at hl 0 rfl) ?_
  refine lv_sipush (v := 601) hx hb d_Sp_init_14 (by decide) ?_
  refine tr_newa hx hb (hts _ wA_104) hK hP hD hS hA 601 (by decide) (by decide) (by decide) (Nat.le_of_ble_eq_true rfl) (Nat.le_of_ble_eq_true rfl) d_Sp_init_17 (fun q17 H hP hD hS => ?_)
  have hP : va_P (dC, dI) twCl [(h0, .inr (6, [.ref q8, .null])), (q8, .inl (cA, 280, .inl (fun _ => 0))), (q17, .inl (cA, 601, .inl (fun _ => 0)))] H := hP
  have hD : va_D A [(h0, .inr (6, [.ref q8, .null])), (q8, .inl (cA, 280, .inl (fun _ => 0))), (q17, .inl (cA, 601, .inl (fun _ => 0)))] := hD
  refine W.widen (k := 2) (n := 881) (Nat.le_refl _) (Nat.le_refl _) ?_
  refine va_putF (D := (dC, dI)) (ci := 6) (v := .ref q17) (ty := .array .int) (C := R_Sp) (T := F_Sp) (N := 2) hx hb hts in_Sp ft_Sp ft_Sp_ok fn_Sp hown hK hP hD hS 0 rfl rfl 1 (by decide) (hts _ wA_211) (fun _ h9 => h9) rfl hin rfl (by decide +kernel) rfl rfl (Nat.le_of_ble_eq_true rfl) d_Sp_init_19 (fun H locs hP hD hS => ?_)
  have hP : va_P (dC, dI) twCl [(h0, .inr (6, [.ref q8, .ref q17])), (q8, .inl (cA, 280, .inl (fun _ => 0))), (q17, .inl (cA, 601, .inl (fun _ => 0)))] H := hP
  have hD : va_D A [(h0, .inr (6, [.ref q8, .ref q17])), (q8, .inl (cA, 280, .inl (fun _ => 0))), (q17, .inl (cA, 601, .inl (fun _ => 0)))] := hD
  exact W.vret hx hb hr (fun t ht hW => ⟨⟨(), rfl, trivial, (fun k => ([q8, q17] : List Nat).getD k 0), (fun _ => 0), trivial, by rw [ht]; exact hP, va_K.moved hW.alike hK, hD⟩, hS.F ht⟩) hS.2.2 d_Sp_init_22
def cw_St (h0 : Nat) (cA : ClassId) (q : Nat → Nat) (f : Nat → Int32) : va_W := [(h0, .inr (7, [.int 0, .ref (q 0), .ref (q 1)])), ((q 0), .inl (cA, 601, .inl (fun _ => 0))), ((q 1), .inl (cA, 601, .inl (fun _ => 0)))]
set_option maxHeartbeats 4000000 in
set_option maxRecDepth 100000 in
theorem c_St_init (l : Launch) (dC : Nat → ClassId) (dI : Nat → Nat → Nat) (cA : ClassId) (h0 : Nat) (sz : Nat) : Met l y_St_init ws_St_init ({ frames := 1, cells := 2, slots := 1202, locals := 12 }) (va_Pc [.ref h0] (cP (dC, dI) cA [(h0, .inr (7, [.int 0, .null, .null]))] sz)) (va_Qv (fun _ : Unit => True) (fun _ => cB (dC, dI) cA (va_A [(h0, .inr (7, [.int 0, .null, .null]))] sz) (fun _ => True) (cw_St h0 cA)) (va_A [(h0, .inr (7, [.int 0, .null, .null]))] sz)) 2 1202 (va_A [(h0, .inr (7, [.int 0, .null, .null]))] sz) := by
  refine Met.ofW (cc := b_St_init) (maxL := 1) (ret := none) (by decide) rfl ?_
  intro p e s m args below meth c s₁ B hml hv
  obtain ⟨rfl, hsz, hP, hK, hD0, hN⟩ := hv
  have hx := B.exec
  have hb := B.bytes
  have hr := B.returns
  have hts : ∀ w ∈ wsA, w.before _ s = true := fun w h => atoms_spec (ws := ws_St_init) B.pre w (List.mem_cons_of_mem _ h)
  have hown : s.vm.findClass R_St = some m.cls := findClass_of_methodNamed B.named
  have hlocks := B.notSynchronized
  have hin : meth.name = "<init>" := (name_of_methodNamed B.named B.method).1
  subst hsz
  have hD := hD0.self (sz := s.heap.size)
  generalize hAe : va_A [(h0, .inr (7, [.int 0, .null, .null]))] s.heap.size = A at hD ⊢
  have hA : ∀ q : Nat, s.heap.size ≤ q → A q := fun q h => by rw [← hAe]; exact Or.inr h
  have hS : va_S A s.heap s.heap [] := va_S.rf
  have hl := lv_entry ([.ref h0]) (n := 1) (Nat.le_of_ble_eq_true rfl)
  rw [lg_entry_eq]
  generalize (lg_sl ([.ref h0]) ++ List.replicate (1 - (lg_sl ([.ref h0])).length) Slot.unset).toArray = ls at hl ⊢
  have hl : lv_has ls 1 [(0, .ref h0)] := hl
  refine lv_aload_n hx hb d_St_init_0 rfl (lv_at hl 0 rfl) ?_
  refine W.objInit hx hb hown (hts _ wA_223) (hts _ wA_49) (hts _ wA_50) rfl (by rw [hml]; exact hl.1) rfl d_St_init_1 (Nat.le_of_ble_eq_true rfl) (Nat.le_of_ble_eq_true rfl) ?_
  refine W.eq (g2 := F0 m 4 ls []) rfl ?_
  refine lv_aload_n hx hb d_St_init_4 rfl (lv_at hl 0 rfl) ?_
  refine lv_iconst (v := 0) hx hb d_St_init_5 (by decide) ?_
  refine va_put (D := (dC, dI)) (ci := 7) (v := .int 0) (ty := .int) (C := R_St) (T := F_St) (N := 3) hx hb hts in_St ft_St ft_St_ok fn_St hown hK hP hD hS 0 rfl rfl 0 (by decide) (hts _ wA_224) (fun _ h9 => h9) rfl (by decide +kernel) rfl rfl (Nat.le_of_ble_eq_true rfl) d_St_init_6 (fun H locs hP hD hS => ?_)
  have hP : va_P (dC, dI) twCl [(h0, .inr (7, [.int 0, .null, .null]))] H := hP
  have hD : va_D A [(h0, .inr (7, [.int 0, .null, .null]))] := hD
  refine lv_aload_n hx hb d_St_init_9 rfl (lv_at hl 0 rfl) ?_
  refine lv_sipush (v := 601) hx hb d_St_init_10 (by decide) ?_
  refine tr_newa hx hb (hts _ wA_104) hK hP hD hS hA 601 (by decide) (by decide) (by decide) (Nat.le_of_ble_eq_true rfl) (Nat.le_of_ble_eq_true rfl) d_St_init_13 (fun q13 H hP hD hS => ?_)
  have hP : va_P (dC, dI) twCl [(h0, .inr (7, [.int 0, .null, .null])), (q13, .inl (cA, 601, .inl (fun _ => 0)))] H := hP
  have hD : va_D A [(h0, .inr (7, [.int 0, .null, .null])), (q13, .inl (cA, 601, .inl (fun _ => 0)))] := hD
  refine W.widen (k := 1) (n := 601) (Nat.le_refl _) (Nat.le_refl _) ?_
  refine va_putF (D := (dC, dI)) (ci := 7) (v := .ref q13) (ty := .array .int) (C := R_St) (T := F_St) (N := 3) hx hb hts in_St ft_St ft_St_ok fn_St hown hK hP hD hS 0 rfl rfl 1 (by decide) (hts _ wA_226) (fun _ h9 => h9) rfl hin rfl (by decide +kernel) rfl rfl (Nat.le_of_ble_eq_true rfl) d_St_init_15 (fun H locs hP hD hS => ?_)
  have hP : va_P (dC, dI) twCl [(h0, .inr (7, [.int 0, .ref q13, .null])), (q13, .inl (cA, 601, .inl (fun _ => 0)))] H := hP
  have hD : va_D A [(h0, .inr (7, [.int 0, .ref q13, .null])), (q13, .inl (cA, 601, .inl (fun _ => 0)))] := hD
  refine lv_aload_n hx hb d_St_init_18 rfl (lv_at hl 0 rfl) ?_
  refine lv_sipush (v := 601) hx hb d_St_init_19 (by decide) ?_
  refine tr_newa hx hb (hts _ wA_104) hK hP hD hS hA 601 (by decide) (by decide) (by decide) (Nat.le_of_ble_eq_true rfl) (Nat.le_of_ble_eq_true rfl) d_St_init_22 (fun q22 H hP hD hS => ?_)
  have hP : va_P (dC, dI) twCl [(h0, .inr (7, [.int 0, .ref q13, .null])), (q13, .inl (cA, 601, .inl (fun _ => 0))), (q22, .inl (cA, 601, .inl (fun _ => 0)))] H := hP
  have hD : va_D A [(h0, .inr (7, [.int 0, .ref q13, .null])), (q13, .inl (cA, 601, .inl (fun _ => 0))), (q22, .inl (cA, 601, .inl (fun _ => 0)))] := hD
  refine W.widen (k := 2) (n := 1202) (Nat.le_refl _) (Nat.le_refl _) ?_
  refine va_putF (D := (dC, dI)) (ci := 7) (v := .ref q22) (ty := .array .int) (C := R_St) (T := F_St) (N := 3) hx hb hts in_St ft_St ft_St_ok fn_St hown hK hP hD hS 0 rfl rfl 2 (by decide) (hts _ wA_228) (fun _ h9 => h9) rfl hin rfl (by decide +kernel) rfl rfl (Nat.le_of_ble_eq_true rfl) d_St_init_24 (fun H locs hP hD hS => ?_)
  have hP : va_P (dC, dI) twCl [(h0, .inr (7, [.int 0, .ref q13, .ref q22])), (q13, .inl (cA, 601, .inl (fun _ => 0))), (q22, .inl (cA, 601, .inl (fun _ => 0)))] H := hP
  have hD : va_D A [(h0, .inr (7, [.int 0, .ref q13, .ref q22])), (q13, .inl (cA, 601, .inl (fun _ => 0))), (q22, .inl (cA, 601, .inl (fun _ => 0)))] := hD
  exact W.vret hx hb hr (fun t ht hW => ⟨⟨(), rfl, trivial, (fun k => ([q13, q22] : List Nat).getD k 0), (fun _ => 0), trivial, by rw [ht]; exact hP, va_K.moved hW.alike hK, hD⟩, hS.F ht⟩) hS.2.2 d_St_init_27
def cw_Ac (h0 : Nat) (cA : ClassId) (q : Nat → Nat) (f : Nat → Int32) : va_W := [(h0, .inr (8, [.int 0, .ref (q 0), .ref (q 1), .ref (q 2), .ref (q 3)])), ((q 0), .inl (cA, 24, .inl (fun _ => 0))), ((q 1), .inl (cA, 24, .inl (fun _ => 0))), ((q 2), .inl (cA, 24, .inl (fun _ => 0))), ((q 3), .inl (cA, 24, .inl (fun _ => 0)))]
set_option maxHeartbeats 4000000 in
set_option maxRecDepth 100000 in
theorem c_Ac_init (l : Launch) (dC : Nat → ClassId) (dI : Nat → Nat → Nat) (cA : ClassId) (h0 : Nat) (sz : Nat) : Met l y_Ac_init ws_Ac_init ({ frames := 1, cells := 4, slots := 96, locals := 12 }) (va_Pc [.ref h0] (cP (dC, dI) cA [(h0, .inr (8, [.int 0, .null, .null, .null, .null]))] sz)) (va_Qv (fun _ : Unit => True) (fun _ => cB (dC, dI) cA (va_A [(h0, .inr (8, [.int 0, .null, .null, .null, .null]))] sz) (fun _ => True) (cw_Ac h0 cA)) (va_A [(h0, .inr (8, [.int 0, .null, .null, .null, .null]))] sz)) 4 96 (va_A [(h0, .inr (8, [.int 0, .null, .null, .null, .null]))] sz) := by
  refine Met.ofW (cc := b_Ac_init) (maxL := 1) (ret := none) (by decide) rfl ?_
  intro p e s m args below meth c s₁ B hml hv
  obtain ⟨rfl, hsz, hP, hK, hD0, hN⟩ := hv
  have hx := B.exec
  have hb := B.bytes
  have hr := B.returns
  have hts : ∀ w ∈ wsA, w.before _ s = true := fun w h => atoms_spec (ws := ws_Ac_init) B.pre w (List.mem_cons_of_mem _ h)
  have hown : s.vm.findClass R_Ac = some m.cls := findClass_of_methodNamed B.named
  have hlocks := B.notSynchronized
  have hin : meth.name = "<init>" := (name_of_methodNamed B.named B.method).1
  subst hsz
  have hD := hD0.self (sz := s.heap.size)
  generalize hAe : va_A [(h0, .inr (8, [.int 0, .null, .null, .null, .null]))] s.heap.size = A at hD ⊢
  have hA : ∀ q : Nat, s.heap.size ≤ q → A q := fun q h => by rw [← hAe]; exact Or.inr h
  have hS : va_S A s.heap s.heap [] := va_S.rf
  have hl := lv_entry ([.ref h0]) (n := 1) (Nat.le_of_ble_eq_true rfl)
  rw [lg_entry_eq]
  generalize (lg_sl ([.ref h0]) ++ List.replicate (1 - (lg_sl ([.ref h0])).length) Slot.unset).toArray = ls at hl ⊢
  have hl : lv_has ls 1 [(0, .ref h0)] := hl
  refine lv_aload_n hx hb d_Ac_init_0 rfl (lv_at hl 0 rfl) ?_
  refine W.objInit hx hb hown (hts _ wA_242) (hts _ wA_49) (hts _ wA_50) rfl (by rw [hml]; exact hl.1) rfl d_Ac_init_1 (Nat.le_of_ble_eq_true rfl) (Nat.le_of_ble_eq_true rfl) ?_
  refine W.eq (g2 := F0 m 4 ls []) rfl ?_
  refine lv_aload_n hx hb d_Ac_init_4 rfl (lv_at hl 0 rfl) ?_
  refine lv_iconst (v := 0) hx hb d_Ac_init_5 (by decide) ?_
  refine va_put (D := (dC, dI)) (ci := 8) (v := .int 0) (ty := .int) (C := R_Ac) (T := F_Ac) (N := 5) hx hb hts in_Ac ft_Ac ft_Ac_ok fn_Ac hown hK hP hD hS 0 rfl rfl 0 (by decide) (hts _ wA_243) (fun _ h9 => h9) rfl (by decide +kernel) rfl rfl (Nat.le_of_ble_eq_true rfl) d_Ac_init_6 (fun H locs hP hD hS => ?_)
  have hP : va_P (dC, dI) twCl [(h0, .inr (8, [.int 0, .null, .null, .null, .null]))] H := hP
  have hD : va_D A [(h0, .inr (8, [.int 0, .null, .null, .null, .null]))] := hD
  refine lv_aload_n hx hb d_Ac_init_9 rfl (lv_at hl 0 rfl) ?_
  refine lv_bipush (v := 24) hx hb d_Ac_init_10 (by decide) ?_
  refine tr_newa hx hb (hts _ wA_104) hK hP hD hS hA 24 (by decide) (by decide) (by decide) (Nat.le_of_ble_eq_true rfl) (Nat.le_of_ble_eq_true rfl) d_Ac_init_12 (fun q12 H hP hD hS => ?_)
  have hP : va_P (dC, dI) twCl [(h0, .inr (8, [.int 0, .null, .null, .null, .null])), (q12, .inl (cA, 24, .inl (fun _ => 0)))] H := hP
  have hD : va_D A [(h0, .inr (8, [.int 0, .null, .null, .null, .null])), (q12, .inl (cA, 24, .inl (fun _ => 0)))] := hD
  refine W.widen (k := 1) (n := 24) (Nat.le_refl _) (Nat.le_refl _) ?_
  refine va_putF (D := (dC, dI)) (ci := 8) (v := .ref q12) (ty := .array .int) (C := R_Ac) (T := F_Ac) (N := 5) hx hb hts in_Ac ft_Ac ft_Ac_ok fn_Ac hown hK hP hD hS 0 rfl rfl 1 (by decide) (hts _ wA_245) (fun _ h9 => h9) rfl hin rfl (by decide +kernel) rfl rfl (Nat.le_of_ble_eq_true rfl) d_Ac_init_14 (fun H locs hP hD hS => ?_)
  have hP : va_P (dC, dI) twCl [(h0, .inr (8, [.int 0, .ref q12, .null, .null, .null])), (q12, .inl (cA, 24, .inl (fun _ => 0)))] H := hP
  have hD : va_D A [(h0, .inr (8, [.int 0, .ref q12, .null, .null, .null])), (q12, .inl (cA, 24, .inl (fun _ => 0)))] := hD
  refine lv_aload_n hx hb d_Ac_init_17 rfl (lv_at hl 0 rfl) ?_
  refine lv_bipush (v := 24) hx hb d_Ac_init_18 (by decide) ?_
  refine tr_newa hx hb (hts _ wA_104) hK hP hD hS hA 24 (by decide) (by decide) (by decide) (Nat.le_of_ble_eq_true rfl) (Nat.le_of_ble_eq_true rfl) d_Ac_init_20 (fun q20 H hP hD hS => ?_)
  have hP : va_P (dC, dI) twCl [(h0, .inr (8, [.int 0, .ref q12, .null, .null, .null])), (q12, .inl (cA, 24, .inl (fun _ => 0))), (q20, .inl (cA, 24, .inl (fun _ => 0)))] H := hP
  have hD : va_D A [(h0, .inr (8, [.int 0, .ref q12, .null, .null, .null])), (q12, .inl (cA, 24, .inl (fun _ => 0))), (q20, .inl (cA, 24, .inl (fun _ => 0)))] := hD
  refine W.widen (k := 2) (n := 48) (Nat.le_refl _) (Nat.le_refl _) ?_
  refine va_putF (D := (dC, dI)) (ci := 8) (v := .ref q20) (ty := .array .int) (C := R_Ac) (T := F_Ac) (N := 5) hx hb hts in_Ac ft_Ac ft_Ac_ok fn_Ac hown hK hP hD hS 0 rfl rfl 2 (by decide) (hts _ wA_247) (fun _ h9 => h9) rfl hin rfl (by decide +kernel) rfl rfl (Nat.le_of_ble_eq_true rfl) d_Ac_init_22 (fun H locs hP hD hS => ?_)
  have hP : va_P (dC, dI) twCl [(h0, .inr (8, [.int 0, .ref q12, .ref q20, .null, .null])), (q12, .inl (cA, 24, .inl (fun _ => 0))), (q20, .inl (cA, 24, .inl (fun _ => 0)))] H := hP
  have hD : va_D A [(h0, .inr (8, [.int 0, .ref q12, .ref q20, .null, .null])), (q12, .inl (cA, 24, .inl (fun _ => 0))), (q20, .inl (cA, 24, .inl (fun _ => 0)))] := hD
  refine lv_aload_n hx hb d_Ac_init_25 rfl (lv_at hl 0 rfl) ?_
  refine lv_bipush (v := 24) hx hb d_Ac_init_26 (by decide) ?_
  refine tr_newa hx hb (hts _ wA_104) hK hP hD hS hA 24 (by decide) (by decide) (by decide) (Nat.le_of_ble_eq_true rfl) (Nat.le_of_ble_eq_true rfl) d_Ac_init_28 (fun q28 H hP hD hS => ?_)
  have hP : va_P (dC, dI) twCl [(h0, .inr (8, [.int 0, .ref q12, .ref q20, .null, .null])), (q12, .inl (cA, 24, .inl (fun _ => 0))), (q20, .inl (cA, 24, .inl (fun _ => 0))), (q28, .inl (cA, 24, .inl (fun _ => 0)))] H := hP
  have hD : va_D A [(h0, .inr (8, [.int 0, .ref q12, .ref q20, .null, .null])), (q12, .inl (cA, 24, .inl (fun _ => 0))), (q20, .inl (cA, 24, .inl (fun _ => 0))), (q28, .inl (cA, 24, .inl (fun _ => 0)))] := hD
  refine W.widen (k := 3) (n := 72) (Nat.le_refl _) (Nat.le_refl _) ?_
  refine va_putF (D := (dC, dI)) (ci := 8) (v := .ref q28) (ty := .array .int) (C := R_Ac) (T := F_Ac) (N := 5) hx hb hts in_Ac ft_Ac ft_Ac_ok fn_Ac hown hK hP hD hS 0 rfl rfl 3 (by decide) (hts _ wA_249) (fun _ h9 => h9) rfl hin rfl (by decide +kernel) rfl rfl (Nat.le_of_ble_eq_true rfl) d_Ac_init_30 (fun H locs hP hD hS => ?_)
  have hP : va_P (dC, dI) twCl [(h0, .inr (8, [.int 0, .ref q12, .ref q20, .ref q28, .null])), (q12, .inl (cA, 24, .inl (fun _ => 0))), (q20, .inl (cA, 24, .inl (fun _ => 0))), (q28, .inl (cA, 24, .inl (fun _ => 0)))] H := hP
  have hD : va_D A [(h0, .inr (8, [.int 0, .ref q12, .ref q20, .ref q28, .null])), (q12, .inl (cA, 24, .inl (fun _ => 0))), (q20, .inl (cA, 24, .inl (fun _ => 0))), (q28, .inl (cA, 24, .inl (fun _ => 0)))] := hD
  refine lv_aload_n hx hb d_Ac_init_33 rfl (lv_at hl 0 rfl) ?_
  refine lv_bipush (v := 24) hx hb d_Ac_init_34 (by decide) ?_
  refine tr_newa hx hb (hts _ wA_104) hK hP hD hS hA 24 (by decide) (by decide) (by decide) (Nat.le_of_ble_eq_true rfl) (Nat.le_of_ble_eq_true rfl) d_Ac_init_36 (fun q36 H hP hD hS => ?_)
  have hP : va_P (dC, dI) twCl [(h0, .inr (8, [.int 0, .ref q12, .ref q20, .ref q28, .null])), (q12, .inl (cA, 24, .inl (fun _ => 0))), (q20, .inl (cA, 24, .inl (fun _ => 0))), (q28, .inl (cA, 24, .inl (fun _ => 0))), (q36, .inl (cA, 24, .inl (fun _ => 0)))] H := hP
  have hD : va_D A [(h0, .inr (8, [.int 0, .ref q12, .ref q20, .ref q28, .null])), (q12, .inl (cA, 24, .inl (fun _ => 0))), (q20, .inl (cA, 24, .inl (fun _ => 0))), (q28, .inl (cA, 24, .inl (fun _ => 0))), (q36, .inl (cA, 24, .inl (fun _ => 0)))] := hD
  refine W.widen (k := 4) (n := 96) (Nat.le_refl _) (Nat.le_refl _) ?_
  refine va_putF (D := (dC, dI)) (ci := 8) (v := .ref q36) (ty := .array .int) (C := R_Ac) (T := F_Ac) (N := 5) hx hb hts in_Ac ft_Ac ft_Ac_ok fn_Ac hown hK hP hD hS 0 rfl rfl 4 (by decide) (hts _ wA_251) (fun _ h9 => h9) rfl hin rfl (by decide +kernel) rfl rfl (Nat.le_of_ble_eq_true rfl) d_Ac_init_38 (fun H locs hP hD hS => ?_)
  have hP : va_P (dC, dI) twCl [(h0, .inr (8, [.int 0, .ref q12, .ref q20, .ref q28, .ref q36])), (q12, .inl (cA, 24, .inl (fun _ => 0))), (q20, .inl (cA, 24, .inl (fun _ => 0))), (q28, .inl (cA, 24, .inl (fun _ => 0))), (q36, .inl (cA, 24, .inl (fun _ => 0)))] H := hP
  have hD : va_D A [(h0, .inr (8, [.int 0, .ref q12, .ref q20, .ref q28, .ref q36])), (q12, .inl (cA, 24, .inl (fun _ => 0))), (q20, .inl (cA, 24, .inl (fun _ => 0))), (q28, .inl (cA, 24, .inl (fun _ => 0))), (q36, .inl (cA, 24, .inl (fun _ => 0)))] := hD
  exact W.vret hx hb hr (fun t ht hW => ⟨⟨(), rfl, trivial, (fun k => ([q12, q20, q28, q36] : List Nat).getD k 0), (fun _ => 0), trivial, by rw [ht]; exact hP, va_K.moved hW.alike hK, hD⟩, hS.F ht⟩) hS.2.2 d_Ac_init_41
