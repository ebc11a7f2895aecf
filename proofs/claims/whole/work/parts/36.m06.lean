def w_M_put (post : tS → Prop) (x1 : Int32) (x2 : Int32) (x3 : Int32) (x4 : Int32) (x5 : Int32) (u : tS) : Prop := (vp_in (5 * (u.1 4)) 320 ∧ (vp_in ((5 * ((tA u 12 (5 * (u.1 4)) x1).1 4)) + 1) 320 ∧ (vp_in ((5 * ((tA (tA u 12 (5 * (u.1 4)) x1) 12 ((5 * ((tA u 12 (5 * (u.1 4)) x1).1 4)) + 1) x2).1 4)) + 2) 320 ∧ (vp_in ((5 * ((tA (tA (tA u 12 (5 * (u.1 4)) x1) 12 ((5 * ((tA u 12 (5 * (u.1 4)) x1).1 4)) + 1) x2) 12 ((5 * ((tA (tA u 12 (5 * (u.1 4)) x1) 12 ((5 * ((tA u 12 (5 * (u.1 4)) x1).1 4)) + 1) x2).1 4)) + 2) x3).1 4)) + 3) 320 ∧ (vp_in ((5 * ((tA (tA (tA (tA u 12 (5 * (u.1 4)) x1) 12 ((5 * ((tA u 12 (5 * (u.1 4)) x1).1 4)) + 1) x2) 12 ((5 * ((tA (tA u 12 (5 * (u.1 4)) x1) 12 ((5 * ((tA u 12 (5 * (u.1 4)) x1).1 4)) + 1) x2).1 4)) + 2) x3) 12 ((5 * ((tA (tA (tA u 12 (5 * (u.1 4)) x1) 12 ((5 * ((tA u 12 (5 * (u.1 4)) x1).1 4)) + 1) x2) 12 ((5 * ((tA (tA u 12 (5 * (u.1 4)) x1) 12 ((5 * ((tA u 12 (5 * (u.1 4)) x1).1 4)) + 1) x2).1 4)) + 2) x3).1 4)) + 3) x4).1 4)) + 4) 320 ∧ (post (tI (tA (tA (tA (tA (tA u 12 (5 * (u.1 4)) x1) 12 ((5 * ((tA u 12 (5 * (u.1 4)) x1).1 4)) + 1) x2) 12 ((5 * ((tA (tA u 12 (5 * (u.1 4)) x1) 12 ((5 * ((tA u 12 (5 * (u.1 4)) x1).1 4)) + 1) x2).1 4)) + 2) x3) 12 ((5 * ((tA (tA (tA u 12 (5 * (u.1 4)) x1) 12 ((5 * ((tA u 12 (5 * (u.1 4)) x1).1 4)) + 1) x2) 12 ((5 * ((tA (tA u 12 (5 * (u.1 4)) x1) 12 ((5 * ((tA u 12 (5 * (u.1 4)) x1).1 4)) + 1) x2).1 4)) + 2) x3).1 4)) + 3) x4) 12 ((5 * ((tA (tA (tA (tA u 12 (5 * (u.1 4)) x1) 12 ((5 * ((tA u 12 (5 * (u.1 4)) x1).1 4)) + 1) x2) 12 ((5 * ((tA (tA u 12 (5 * (u.1 4)) x1) 12 ((5 * ((tA u 12 (5 * (u.1 4)) x1).1 4)) + 1) x2).1 4)) + 2) x3) 12 ((5 * ((tA (tA (tA u 12 (5 * (u.1 4)) x1) 12 ((5 * ((tA u 12 (5 * (u.1 4)) x1).1 4)) + 1) x2) 12 ((5 * ((tA (tA u 12 (5 * (u.1 4)) x1) 12 ((5 * ((tA u 12 (5 * (u.1 4)) x1).1 4)) + 1) x2).1 4)) + 2) x3).1 4)) + 3) x4).1 4)) + 4) x5) 4 (((tA (tA (tA (tA (tA u 12 (5 * (u.1 4)) x1) 12 ((5 * ((tA u 12 (5 * (u.1 4)) x1).1 4)) + 1) x2) 12 ((5 * ((tA (tA u 12 (5 * (u.1 4)) x1) 12 ((5 * ((tA u 12 (5 * (u.1 4)) x1).1 4)) + 1) x2).1 4)) + 2) x3) 12 ((5 * ((tA (tA (tA u 12 (5 * (u.1 4)) x1) 12 ((5 * ((tA u 12 (5 * (u.1 4)) x1).1 4)) + 1) x2) 12 ((5 * ((tA (tA u 12 (5 * (u.1 4)) x1) 12 ((5 * ((tA u 12 (5 * (u.1 4)) x1).1 4)) + 1) x2).1 4)) + 2) x3).1 4)) + 3) x4) 12 ((5 * ((tA (tA (tA (tA u 12 (5 * (u.1 4)) x1) 12 ((5 * ((tA u 12 (5 * (u.1 4)) x1).1 4)) + 1) x2) 12 ((5 * ((tA (tA u 12 (5 * (u.1 4)) x1) 12 ((5 * ((tA u 12 (5 * (u.1 4)) x1).1 4)) + 1) x2).1 4)) + 2) x3) 12 ((5 * ((tA (tA (tA u 12 (5 * (u.1 4)) x1) 12 ((5 * ((tA u 12 (5 * (u.1 4)) x1).1 4)) + 1) x2) 12 ((5 * ((tA (tA u 12 (5 * (u.1 4)) x1) 12 ((5 * ((tA u 12 (5 * (u.1 4)) x1).1 4)) + 1) x2).1 4)) + 2) x3).1 4)) + 3) x4).1 4)) + 4) x5).1 4) + 1))))))))
set_option maxRecDepth 100000 in
set_option maxHeartbeats 4000000 in
theorem c_M_put (l : Launch) (dC : Nat → ClassId) (dI : Nat → Nat → Nat) (cA : ClassId) (a : Nat → Nat) (u : tS) (x1 : Int32) (x2 : Int32) (x3 : Int32) (x4 : Int32) (x5 : Int32) (post : tS → Prop) (sz : Nat) : Met l y_M_put ws_M_put ({ frames := 0, cells := 0, slots := 0, locals := 0 }) (va_Pc [.ref (a 0), .int x1, .int x2, .int x3, .int x4, .int x5] (tP (dC, dI) twCl [(cA, .int)] (wdM a cA) u sz (w_M_put post x1 x2 x3 x4 x5 u))) (va_Qv post (tB (dC, dI) twCl [(cA, .int)] (va_A (wdM a cA u) sz) (wdM a cA)) (va_A (wdM a cA u) sz)) 0 0 (va_A (wdM a cA u) sz) := by
  refine Met.ofW (cc := b_M_put) (maxL := 6) (ret := none) (by decide) rfl ?_
  intro p e s m args below meth c s₁ B hml hv
  obtain ⟨rfl, hsz, hP, hK, hD0, hN, hw⟩ := hv
  have hx := B.exec
  have hb := B.bytes
  have hr := B.returns
  have hts : ∀ w ∈ wsA, w.before _ s = true := fun w h => atoms_spec (ws := ws_M_put) B.pre w (List.mem_cons_of_mem _ h)
  have hown : s.vm.findClass R_M = some m.cls := findClass_of_methodNamed B.named
  have hlocks := B.notSynchronized
  subst hsz
  have hD := hD0.self (sz := s.heap.size)
  generalize hAe : va_A (wdM a cA u) s.heap.size = A at hD ⊢
  have hA : ∀ q : Nat, s.heap.size ≤ q → A q := fun q h => by rw [← hAe]; exact Or.inr h
  have hS : va_S A s.heap s.heap [] := va_S.rf
  have hI : tX (dC, dI) twCl [(cA, .int)] A s s.heap [] (wdM a cA u) := ⟨hK, hP, hD, hS⟩
  have hC : tC p s m meth c ([.ref (a 0), .int x1, .int x2, .int x3, .int x4, .int x5] : List Value).toArray b_M_put 6 none wsA R_M A := ⟨hx, hb, hr, hml, hown, hts, hlocks, hA, hN⟩
  have hl := lv_entry ([.ref (a 0), .int x1, .int x2, .int x3, .int x4, .int x5]) (n := 6) (Nat.le_of_ble_eq_true rfl)
  rw [lg_entry_eq]
  generalize (lg_sl ([.ref (a 0), .int x1, .int x2, .int x3, .int x4, .int x5]) ++ List.replicate (6 - (lg_sl ([.ref (a 0), .int x1, .int x2, .int x3, .int x4, .int x5])).length) Slot.unset).toArray = ls at hl ⊢
  have hl : lv_has ls 6 [(0, .ref (a 0)), (1, .int x1), (2, .int x2), (3, .int x3), (4, .int x4), (5, .int x5)] := hl
  have hw : (vp_in (5 * (u.1 4)) 320 ∧ (vp_in ((5 * ((tA u 12 (5 * (u.1 4)) x1).1 4)) + 1) 320 ∧ (vp_in ((5 * ((tA (tA u 12 (5 * (u.1 4)) x1) 12 ((5 * ((tA u 12 (5 * (u.1 4)) x1).1 4)) + 1) x2).1 4)) + 2) 320 ∧ (vp_in ((5 * ((tA (tA (tA u 12 (5 * (u.1 4)) x1) 12 ((5 * ((tA u 12 (5 * (u.1 4)) x1).1 4)) + 1) x2) 12 ((5 * ((tA (tA u 12 (5 * (u.1 4)) x1) 12 ((5 * ((tA u 12 (5 * (u.1 4)) x1).1 4)) + 1) x2).1 4)) + 2) x3).1 4)) + 3) 320 ∧ (vp_in ((5 * ((tA (tA (tA (tA u 12 (5 * (u.1 4)) x1) 12 ((5 * ((tA u 12 (5 * (u.1 4)) x1).1 4)) + 1) x2) 12 ((5 * ((tA (tA u 12 (5 * (u.1 4)) x1) 12 ((5 * ((tA u 12 (5 * (u.1 4)) x1).1 4)) + 1) x2).1 4)) + 2) x3) 12 ((5 * ((tA (tA (tA u 12 (5 * (u.1 4)) x1) 12 ((5 * ((tA u 12 (5 * (u.1 4)) x1).1 4)) + 1) x2) 12 ((5 * ((tA (tA u 12 (5 * (u.1 4)) x1) 12 ((5 * ((tA u 12 (5 * (u.1 4)) x1).1 4)) + 1) x2).1 4)) + 2) x3).1 4)) + 3) x4).1 4)) + 4) 320 ∧ (post (tI (tA (tA (tA (tA (tA u 12 (5 * (u.1 4)) x1) 12 ((5 * ((tA u 12 (5 * (u.1 4)) x1).1 4)) + 1) x2) 12 ((5 * ((tA (tA u 12 (5 * (u.1 4)) x1) 12 ((5 * ((tA u 12 (5 * (u.1 4)) x1).1 4)) + 1) x2).1 4)) + 2) x3) 12 ((5 * ((tA (tA (tA u 12 (5 * (u.1 4)) x1) 12 ((5 * ((tA u 12 (5 * (u.1 4)) x1).1 4)) + 1) x2) 12 ((5 * ((tA (tA u 12 (5 * (u.1 4)) x1) 12 ((5 * ((tA u 12 (5 * (u.1 4)) x1).1 4)) + 1) x2).1 4)) + 2) x3).1 4)) + 3) x4) 12 ((5 * ((tA (tA (tA (tA u 12 (5 * (u.1 4)) x1) 12 ((5 * ((tA u 12 (5 * (u.1 4)) x1).1 4)) + 1) x2) 12 ((5 * ((tA (tA u 12 (5 * (u.1 4)) x1) 12 ((5 * ((tA u 12 (5 * (u.1 4)) x1).1 4)) + 1) x2).1 4)) + 2) x3) 12 ((5 * ((tA (tA (tA u 12 (5 * (u.1 4)) x1) 12 ((5 * ((tA u 12 (5 * (u.1 4)) x1).1 4)) + 1) x2) 12 ((5 * ((tA (tA u 12 (5 * (u.1 4)) x1) 12 ((5 * ((tA u 12 (5 * (u.1 4)) x1).1 4)) + 1) x2).1 4)) + 2) x3).1 4)) + 3) x4).1 4)) + 4) x5) 4 (((tA (tA (tA (tA (tA u 12 (5 * (u.1 4)) x1) 12 ((5 * ((tA u 12 (5 * (u.1 4)) x1).1 4)) + 1) x2) 12 ((5 * ((tA (tA u 12 (5 * (u.1 4)) x1) 12 ((5 * ((tA u 12 (5 * (u.1 4)) x1).1 4)) + 1) x2).1 4)) + 2) x3) 12 ((5 * ((tA (tA (tA u 12 (5 * (u.1 4)) x1) 12 ((5 * ((tA u 12 (5 * (u.1 4)) x1).1 4)) + 1) x2) 12 ((5 * ((tA (tA u 12 (5 * (u.1 4)) x1) 12 ((5 * ((tA u 12 (5 * (u.1 4)) x1).1 4)) + 1) x2).1 4)) + 2) x3).1 4)) + 3) x4) 12 ((5 * ((tA (tA (tA (tA u 12 (5 * (u.1 4)) x1) 12 ((5 * ((tA u 12 (5 * (u.1 4)) x1).1 4)) + 1) x2) 12 ((5 * ((tA (tA u 12 (5 * (u.1 4)) x1) 12 ((5 * ((tA u 12 (5 * (u.1 4)) x1).1 4)) + 1) x2).1 4)) + 2) x3) 12 ((5 * ((tA (tA (tA u 12 (5 * (u.1 4)) x1) 12 ((5 * ((tA u 12 (5 * (u.1 4)) x1).1 4)) + 1) x2) 12 ((5 * ((tA (tA u 12 (5 * (u.1 4)) x1) 12 ((5 * ((tA u 12 (5 * (u.1 4)) x1).1 4)) + 1) x2).1 4)) + 2) x3).1 4)) + 3) x4).1 4)) + 4) x5).1 4) + 1)))))))) := hw
  refine lv_aload_n hx hb d_M_put_0 rfl (lv_at hl 0 rfl) ?_
  refine va_get (D := (dC, dI)) (C := R_M) (T := F_M) (N := 22) hx hb hts in_M hown hI.1 hI.2.1 0 (wdM_o0 a cA _) rfl 17 (by decide) (hts _ wA_606) (fun _ h9 => h9) rfl d_M_put_1 ?_
  refine lv_iconst (v := 5) hx hb d_M_put_4 (by decide) ?_
  refine lv_aload_n hx hb d_M_put_5 rfl (lv_at hl 0 rfl) ?_
  refine va_get (D := (dC, dI)) (C := R_M) (T := F_M) (N := 22) hx hb hts in_M hown hI.1 hI.2.1 0 (wdM_o0 a cA _) rfl 16 (by decide) (hts _ wA_605) (fun _ h9 => h9) rfl d_M_put_6 ?_
  refine lv_imul hx hb d_M_put_9 ?_
  refine lv_iload_n hx hb d_M_put_10 rfl (lv_at hl 1 rfl) ?_
  obtain ⟨hi, hw⟩ := hw
  refine tr_iast (w := wdM a cA) hx hb hI 13 0 12 (wdM_o13 a cA _) rfl (wdM_a12 a cA _ _ _) hi d_M_put_11 (fun H locs hI => ?_)
  refine lv_aload_n hx hb d_M_put_12 rfl (lv_at hl 0 rfl) ?_
  refine va_get (D := (dC, dI)) (C := R_M) (T := F_M) (N := 22) hx hb hts in_M hown hI.1 hI.2.1 0 (wdM_o0 a cA _) rfl 17 (by decide) (hts _ wA_606) (fun _ h9 => h9) rfl d_M_put_13 ?_
  refine lv_iconst (v := 5) hx hb d_M_put_16 (by decide) ?_
  refine lv_aload_n hx hb d_M_put_17 rfl (lv_at hl 0 rfl) ?_
  refine va_get (D := (dC, dI)) (C := R_M) (T := F_M) (N := 22) hx hb hts in_M hown hI.1 hI.2.1 0 (wdM_o0 a cA _) rfl 16 (by decide) (hts _ wA_605) (fun _ h9 => h9) rfl d_M_put_18 ?_
  refine lv_imul hx hb d_M_put_21 ?_
  refine lv_iconst (v := 1) hx hb d_M_put_22 (by decide) ?_
  refine lv_iadd hx hb d_M_put_23 ?_
  refine lv_iload_n hx hb d_M_put_24 rfl (lv_at hl 2 rfl) ?_
  obtain ⟨hi, hw⟩ := hw
  refine tr_iast (w := wdM a cA) hx hb hI 13 0 12 (wdM_o13 a cA _) rfl (wdM_a12 a cA _ _ _) hi d_M_put_25 (fun H locs hI => ?_)
  refine lv_aload_n hx hb d_M_put_26 rfl (lv_at hl 0 rfl) ?_
  refine va_get (D := (dC, dI)) (C := R_M) (T := F_M) (N := 22) hx hb hts in_M hown hI.1 hI.2.1 0 (wdM_o0 a cA _) rfl 17 (by decide) (hts _ wA_606) (fun _ h9 => h9) rfl d_M_put_27 ?_
  refine lv_iconst (v := 5) hx hb d_M_put_30 (by decide) ?_
  refine lv_aload_n hx hb d_M_put_31 rfl (lv_at hl 0 rfl) ?_
  refine va_get (D := (dC, dI)) (C := R_M) (T := F_M) (N := 22) hx hb hts in_M hown hI.1 hI.2.1 0 (wdM_o0 a cA _) rfl 16 (by decide) (hts _ wA_605) (fun _ h9 => h9) rfl d_M_put_32 ?_
  refine lv_imul hx hb d_M_put_35 ?_
  refine lv_iconst (v := 2) hx hb d_M_put_36 (by decide) ?_
  refine lv_iadd hx hb d_M_put_37 ?_
  refine lv_iload_n hx hb d_M_put_38 rfl (lv_at hl 3 rfl) ?_
  obtain ⟨hi, hw⟩ := hw
  refine tr_iast (w := wdM a cA) hx hb hI 13 0 12 (wdM_o13 a cA _) rfl (wdM_a12 a cA _ _ _) hi d_M_put_39 (fun H locs hI => ?_)
  refine lv_aload_n hx hb d_M_put_40 rfl (lv_at hl 0 rfl) ?_
  refine va_get (D := (dC, dI)) (C := R_M) (T := F_M) (N := 22) hx hb hts in_M hown hI.1 hI.2.1 0 (wdM_o0 a cA _) rfl 17 (by decide) (hts _ wA_606) (fun _ h9 => h9) rfl d_M_put_41 ?_
  refine lv_iconst (v := 5) hx hb d_M_put_44 (by decide) ?_
  refine lv_aload_n hx hb d_M_put_45 rfl (lv_at hl 0 rfl) ?_
  refine va_get (D := (dC, dI)) (C := R_M) (T := F_M) (N := 22) hx hb hts in_M hown hI.1 hI.2.1 0 (wdM_o0 a cA _) rfl 16 (by decide) (hts _ wA_605) (fun _ h9 => h9) rfl d_M_put_46 ?_
  refine lv_imul hx hb d_M_put_49 ?_
  refine lv_iconst (v := 3) hx hb d_M_put_50 (by decide) ?_
  refine lv_iadd hx hb d_M_put_51 ?_
  refine lv_iload hx hb d_M_put_52 (lv_at hl 4 rfl) ?_
  obtain ⟨hi, hw⟩ := hw
  refine tr_iast (w := wdM a cA) hx hb hI 13 0 12 (wdM_o13 a cA _) rfl (wdM_a12 a cA _ _ _) hi d_M_put_54 (fun H locs hI => ?_)
  refine lv_aload_n hx hb d_M_put_55 rfl (lv_at hl 0 rfl) ?_
  refine va_get (D := (dC, dI)) (C := R_M) (T := F_M) (N := 22) hx hb hts in_M hown hI.1 hI.2.1 0 (wdM_o0 a cA _) rfl 17 (by decide) (hts _ wA_606) (fun _ h9 => h9) rfl d_M_put_56 ?_
  refine lv_iconst (v := 5) hx hb d_M_put_59 (by decide) ?_
  refine lv_aload_n hx hb d_M_put_60 rfl (lv_at hl 0 rfl) ?_
  refine va_get (D := (dC, dI)) (C := R_M) (T := F_M) (N := 22) hx hb hts in_M hown hI.1 hI.2.1 0 (wdM_o0 a cA _) rfl 16 (by decide) (hts _ wA_605) (fun _ h9 => h9) rfl d_M_put_61 ?_
  refine lv_imul hx hb d_M_put_64 ?_
  refine lv_iconst (v := 4) hx hb d_M_put_65 (by decide) ?_
  refine lv_iadd hx hb d_M_put_66 ?_
  refine lv_iload hx hb d_M_put_67 (lv_at hl 5 rfl) ?_
  obtain ⟨hi, hw⟩ := hw
  refine tr_iast (w := wdM a cA) hx hb hI 13 0 12 (wdM_o13 a cA _) rfl (wdM_a12 a cA _ _ _) hi d_M_put_69 (fun H locs hI => ?_)
  refine lv_aload_n hx hb d_M_put_70 rfl (lv_at hl 0 rfl) ?_
  refine lv_dup hx hb d_M_put_71 rfl ?_
  refine va_get (D := (dC, dI)) (C := R_M) (T := F_M) (N := 22) hx hb hts in_M hown hI.1 hI.2.1 0 (wdM_o0 a cA _) rfl 16 (by decide) (hts _ wA_605) (fun _ h9 => h9) rfl d_M_put_72 ?_
  refine lv_iconst (v := 1) hx hb d_M_put_75 (by decide) ?_
  refine lv_iadd hx hb d_M_put_76 ?_
  refine tr_put (C := R_M) (T := F_M) (N := 22) (w := wdM a cA) hx hb hts in_M ft_M ft_M_ok fn_M hown hI 0 4 (wdM_o0 a cA _) rfl 16 (by decide) (hts _ wA_605) rfl (by decide +kernel) (Nat.le_of_ble_eq_true rfl) (wdM_i4 a cA _ _) d_M_put_77 (fun H locs hI => ?_)
  exact tr_vret hx hb hr hlocks hI hw d_M_put_80
def w_M_walkBefore_2 (post : Int32 → tS → Prop) : Nat → Int32 → Int32 → tS → Prop
  | 0 => fun _ _ _ => False
  | n + 1 => fun x1 x2 u => (vp_in x2 30 ∧ (((u.2 8 x2.toNatClampNeg) = x1 → (vp_in x2 30 ∧ (w_M_arrival (fun r19 u19 => (vp_in x2 30 ∧ (vp_in x1 12 ∧ (((r19 + (u19.2 9 x2.toNatClampNeg)) = (u19.2 14 x1.toNatClampNeg) → (post x2 u19)) ∧ (¬ (r19 + (u19.2 9 x2.toNatClampNeg)) = (u19.2 14 x1.toNatClampNeg) → (w_M_walkBefore_2 post n x1 (x2 + 1) u19)))))) (u.2 7 x2.toNatClampNeg) u))) ∧ (¬ (u.2 8 x2.toNatClampNeg) = x1 → (w_M_walkBefore_2 post n x1 (x2 + 1) u))))
def w_M_walkBefore (post : Int32 → tS → Prop) (x1 : Int32) (u : tS) : Prop := (∃ k, w_M_walkBefore_2 post k x1 0 u)
set_option maxRecDepth 100000 in
set_option maxHeartbeats 4000000 in
theorem k_M_walkBefore_2 {p : Program} {l : Launch} {e : Env} {s : State} {m : MethodId} {args : Array Value} {below : List Frame} {meth : Method} {c : Code} {dC : Nat → ClassId} {dI : Nat → Nat → Nat} {cA : ClassId} {a : Nat → Nat} {A : Nat → Prop} (hC : tC p s m meth c args b_M_walkBefore 3 (some .int) wsA R_M A) (post : Int32 → tS → Prop) : ∀ n : Nat, ∀ (x1 x2 : Int32) (u : tS) (H : Heap) (locs : List Loc) (ls : Array Slot), w_M_walkBefore_2 post n x1 x2 u → tX (dC, dI) twCl [(cA, .int)] A s H locs (wdM a cA u) → lv_has ls 3 [(0, .ref (a 0)), (1, .int x1), (2, .int x2)] → W p l e ({ frames := 1, cells := 0, slots := 0, locals := 21 }) s m args below meth c H locs 0 0 (MQ below (va_Qi post (tB (dC, dI) twCl [(cA, .int)] A (wdM a cA)) A) args s 0 0 A) (F0 m 2 ls []) := by
  obtain ⟨hx, hb, hr, hml, hown, hts, hlocks, hA, hN⟩ := id hC
  intro n
  induction n with
  | zero => intro x1 x2 u H locs ls hw; exact False.elim hw
  | succ n ih =>
    intro x1 x2 u H locs ls hw hI hl
    refine lv_aload_n hx hb d_M_walkBefore_2 rfl (lv_at hl 0 rfl) ?_
    refine va_get (D := (dC, dI)) (C := R_M) (T := F_M) (N := 22) hx hb hts in_M hown hI.1 hI.2.1 0 (wdM_o0 a cA _) rfl 11 (by decide) (hts _ wA_600) (fun _ h9 => h9) rfl d_M_walkBefore_3 ?_
    refine lv_iload_n hx hb d_M_walkBefore_6 rfl (lv_at hl 2 rfl) ?_
    obtain ⟨hi, hw⟩ := hw
    refine va_iald (D := (dC, dI)) hx hb hI.1 hI.2.1 9 0 (wdM_o9 a cA _) rfl hi d_M_walkBefore_7 ?_
    refine lv_iload_n hx hb d_M_walkBefore_8 rfl (lv_at hl 1 rfl) ?_
    refine lv_icmp_ne (tgt := 38) hx hb d_M_walkBefore_9 (by decide) (fun hc => ?_) (fun hc => ?_)
    · have hw := hw.2 hc
      refine lv_iinc (v := (x2 + 1)) (lv' := [(2, .int (x2 + 1)), (0, .ref (a 0)), (1, .int x1)]) hx hb d_M_walkBefore_38 hl (k := 2) rfl rfl (by decide) rfl (fun ls hl => ?_)
      refine lv_goto (tgt := 2) hx hb d_M_walkBefore_41 (by decide) ?_
      exact ih _ _ _ _ _ ls hw hI (lv_sub hl [1, 2, 0] rfl)
    · have hw := hw.1 hc
      refine lv_aload_n hx hb d_M_walkBefore_12 rfl (lv_at hl 0 rfl) ?_
      refine lv_aload_n hx hb d_M_walkBefore_13 rfl (lv_at hl 0 rfl) ?_
      refine va_get (D := (dC, dI)) (C := R_M) (T := F_M) (N := 22) hx hb hts in_M hown hI.1 hI.2.1 0 (wdM_o0 a cA _) rfl 10 (by decide) (hts _ wA_599) (fun _ h9 => h9) rfl d_M_walkBefore_14 ?_
      refine lv_iload_n hx hb d_M_walkBefore_17 rfl (lv_at hl 2 rfl) ?_
      obtain ⟨hi, hw⟩ := hw
      refine va_iald (D := (dC, dI)) hx hb hI.1 hI.2.1 8 0 (wdM_o8 a cA _) rfl hi d_M_walkBefore_18 ?_
      refine tr_goi (w := wdM a cA) hI hA (va_runV (As := [.int (u.2 7 x2.toNatClampNeg)]) (rest := []) ⟨hx, hb, hml, hown, hts⟩ (c_M_arrival l dC dI cA a _ _ _ _) (cwV 1 hts (wsA_goodV wA_724 wA_726 wA_18 wA_40 wA_727) rfl rfl rfl (by decide +kernel) ⟨Nat.le_of_ble_eq_true rfl, Nat.le_of_ble_eq_true rfl⟩) (tr_preV (ci := 9) (q0 := 0) hI rfl (wdM_o0 a cA _) rfl hN hw) rfl rfl hl.1 rfl (lv_room (Nat.le_of_ble_eq_true rfl)) d_M_walkBefore_19 ⟨Nat.zero_le _, Nat.zero_le _⟩) (fun r19 u19 H locs hw hI => ?_)
      refine lv_aload_n hx hb d_M_walkBefore_22 rfl (lv_at hl 0 rfl) ?_
      refine va_get (D := (dC, dI)) (C := R_M) (T := F_M) (N := 22) hx hb hts in_M hown hI.1 hI.2.1 0 (wdM_o0 a cA _) rfl 12 (by decide) (hts _ wA_601) (fun _ h9 => h9) rfl d_M_walkBefore_23 ?_
      refine lv_iload_n hx hb d_M_walkBefore_26 rfl (lv_at hl 2 rfl) ?_
      obtain ⟨hi, hw⟩ := hw
      refine va_iald (D := (dC, dI)) hx hb hI.1 hI.2.1 10 0 (wdM_o10 a cA _) rfl hi d_M_walkBefore_27 ?_
      refine lv_iadd hx hb d_M_walkBefore_28 ?_
      refine lv_aload_n hx hb d_M_walkBefore_29 rfl (lv_at hl 0 rfl) ?_
      refine va_get (D := (dC, dI)) (C := R_M) (T := F_M) (N := 22) hx hb hts in_M hown hI.1 hI.2.1 0 (wdM_o0 a cA _) rfl 19 (by decide) (hts _ wA_608) (fun _ h9 => h9) rfl d_M_walkBefore_30 ?_
      refine lv_iload_n hx hb d_M_walkBefore_33 rfl (lv_at hl 1 rfl) ?_
      obtain ⟨hi, hw⟩ := hw
      refine va_iald (D := (dC, dI)) hx hb hI.1 hI.2.1 15 0 (wdM_o15 a cA _) rfl hi d_M_walkBefore_34 ?_
      refine lv_icmp_eq (tgt := 44) hx hb d_M_walkBefore_35 (by decide) (fun hc => ?_) (fun hc => ?_)
      · have hw := hw.1 hc
        refine lv_iload_n hx hb d_M_walkBefore_44 rfl (lv_at hl 2 rfl) ?_
        exact tr_iret hx hb hr hlocks hI hw d_M_walkBefore_45
      · have hw := hw.2 hc
        refine lv_iinc (v := (x2 + 1)) (lv' := [(2, .int (x2 + 1)), (0, .ref (a 0)), (1, .int x1)]) hx hb d_M_walkBefore_38 hl (k := 2) rfl rfl (by decide) rfl (fun ls hl => ?_)
        refine lv_goto (tgt := 2) hx hb d_M_walkBefore_41 (by decide) ?_
        exact ih _ _ _ _ _ ls hw hI (lv_sub hl [1, 2, 0] rfl)
set_option maxRecDepth 100000 in
set_option maxHeartbeats 4000000 in
theorem c_M_walkBefore (l : Launch) (dC : Nat → ClassId) (dI : Nat → Nat → Nat) (cA : ClassId) (a : Nat → Nat) (u : tS) (x1 : Int32) (post : Int32 → tS → Prop) (sz : Nat) : Met l y_M_walkBefore ws_M_walkBefore ({ frames := 1, cells := 0, slots := 0, locals := 21 }) (va_Pc [.ref (a 0), .int x1] (tP (dC, dI) twCl [(cA, .int)] (wdM a cA) u sz (w_M_walkBefore post x1 u))) (va_Qi post (tB (dC, dI) twCl [(cA, .int)] (va_A (wdM a cA u) sz) (wdM a cA)) (va_A (wdM a cA u) sz)) 0 0 (va_A (wdM a cA u) sz) := by
  refine Met.ofW (cc := b_M_walkBefore) (maxL := 3) (ret := (some .int)) (by decide) rfl ?_
  intro p e s m args below meth c s₁ B hml hv
  obtain ⟨rfl, hsz, hP, hK, hD0, hN, hw⟩ := hv
  have hx := B.exec
  have hb := B.bytes
  have hr := B.returns
  have hts : ∀ w ∈ wsA, w.before _ s = true := fun w h => atoms_spec (ws := ws_M_walkBefore) B.pre w (List.mem_cons_of_mem _ h)
  have hown : s.vm.findClass R_M = some m.cls := findClass_of_methodNamed B.named
  have hlocks := B.notSynchronized
  subst hsz
  have hD := hD0.self (sz := s.heap.size)
  generalize hAe : va_A (wdM a cA u) s.heap.size = A at hD ⊢
  have hA : ∀ q : Nat, s.heap.size ≤ q → A q := fun q h => by rw [← hAe]; exact Or.inr h
  have hS : va_S A s.heap s.heap [] := va_S.rf
  have hI : tX (dC, dI) twCl [(cA, .int)] A s s.heap [] (wdM a cA u) := ⟨hK, hP, hD, hS⟩
  have hC : tC p s m meth c ([.ref (a 0), .int x1] : List Value).toArray b_M_walkBefore 3 (some .int) wsA R_M A := ⟨hx, hb, hr, hml, hown, hts, hlocks, hA, hN⟩
  have hl := lv_entry ([.ref (a 0), .int x1]) (n := 3) (Nat.le_of_ble_eq_true rfl)
  rw [lg_entry_eq]
  generalize (lg_sl ([.ref (a 0), .int x1]) ++ List.replicate (3 - (lg_sl ([.ref (a 0), .int x1])).length) Slot.unset).toArray = ls at hl ⊢
  have hl : lv_has ls 3 [(0, .ref (a 0)), (1, .int x1)] := hl
  have hw : (∃ k, w_M_walkBefore_2 post k x1 0 u) := hw
  refine lv_iconst (v := 0) hx hb d_M_walkBefore_0 (by decide) ?_
  refine lv_istore_n (lv' := [(2, .int 0), (0, .ref (a 0)), (1, .int x1)]) hx hb d_M_walkBefore_1 rfl hl (by decide) rfl (fun ls hl => ?_)
  obtain ⟨k, hw⟩ := hw
  exact k_M_walkBefore_2 hC post k _ _ _ _ _ ls hw hI (lv_sub hl [1, 2, 0] rfl)
def w_M_way_80 (post : Int32 → tS → Prop) (K58 : Int32 → Int32 → Int32 → Int32 → tS → Prop) (x1 : Int32) (x3 : Int32) (x4 : Int32) (x5 : Int32) (u : tS) : Prop := ((x5 = 0 → (w_M_departureBefore (fun r157 u157 => (w_M_leaves (fun r187 u187 => (vp_in x4 12 ∧ (w_M_put (fun u197 => (vp_in (r157 / 7) 40 ∧ (w_M_leaves (fun r214 u214 => (vp_in (u197.2 1 (r157 / 7).toNatClampNeg) 12 ∧ ((r214 < (u214.2 14 (u197.2 1 (r157 / 7).toNatClampNeg).toNatClampNeg) → (K58 x1 x3 (u197.2 1 (r157 / 7).toNatClampNeg) 0 u214)) ∧ (¬ r214 < (u214.2 14 (u197.2 1 (r157 / 7).toNatClampNeg).toNatClampNeg) → (K58 x1 x3 (u197.2 1 (r157 / 7).toNatClampNeg) 1 u214))))) (r157 / 7) (r157 - r157 / 7 * 7) u197))) 1 (r157 / 7) (r157 - r157 / 7 * 7) r187 (u187.2 13 x4.toNatClampNeg) u187))) (r157 / 7) (r157 - r157 / 7 * 7) u157)) x4 u)) ∧ (¬ x5 = 0 → (w_M_walkBefore (fun r88 u88 => (vp_in r88 30 ∧ (w_M_arrival (fun r110 u110 => (vp_in x4 12 ∧ (w_M_put (fun u120 => (vp_in (u88.2 7 r88.toNatClampNeg) 12 ∧ (vp_in (u88.2 7 r88.toNatClampNeg) 12 ∧ (((u120.2 13 (u88.2 7 r88.toNatClampNeg).toNatClampNeg) < (u120.2 14 (u88.2 7 r88.toNatClampNeg).toNatClampNeg) → (K58 x1 x3 (u88.2 7 r88.toNatClampNeg) 0 u120)) ∧ (¬ (u120.2 13 (u88.2 7 r88.toNatClampNeg).toNatClampNeg) < (u120.2 14 (u88.2 7 r88.toNatClampNeg).toNatClampNeg) → (K58 x1 x3 (u88.2 7 r88.toNatClampNeg) 1 u120)))))) 0 r88 (-1) r110 (u110.2 14 x4.toNatClampNeg) u110))) (u88.2 7 r88.toNatClampNeg) u88))) x4 u)))
def w_M_way_58 (post : Int32 → tS → Prop) : Nat → Int32 → Int32 → Int32 → Int32 → tS → Prop
  | 0 => fun _ _ _ _ _ => False
  | n + 1 => fun x1 x3 x4 x5 u => ((x5 = 0 → (w_M_way_80 post (w_M_way_58 post n) x1 x3 x4 x5 u)) ∧ (¬ x5 = 0 → ((x4 = x1 → (vp_in x4 12 ∧ (((u.2 14 x4.toNatClampNeg) = x3 → (post (u.1 4) u)) ∧ (¬ (u.2 14 x4.toNatClampNeg) = x3 → (w_M_way_80 post (w_M_way_58 post n) x1 x3 x4 x5 u))))) ∧ (¬ x4 = x1 → (w_M_way_80 post (w_M_way_58 post n) x1 x3 x4 x5 u)))))
def w_M_way (post : Int32 → tS → Prop) (x1 : Int32) (x2 : Int32) (x3 : Int32) (u : tS) : Prop := (w_M_isAsked (fun r4 u4 => ((r4 = 0 → (post (-2) u4)) ∧ (¬ r4 = 0 → (w_M_found (fun r17 u17 => ((r17 = (-1) → (post (-1) u17)) ∧ (¬ r17 = (-1) → (vp_in x2 12 ∧ (vp_in x2 12 ∧ ((((tI u17 4 0).2 13 x2.toNatClampNeg) < ((tI u17 4 0).2 14 x2.toNatClampNeg) → (∃ k, w_M_way_58 post k x1 x3 x2 0 (tI u17 4 0))) ∧ (¬ ((tI u17 4 0).2 13 x2.toNatClampNeg) < ((tI u17 4 0).2 14 x2.toNatClampNeg) → (∃ k, w_M_way_58 post k x1 x3 x2 1 (tI u17 4 0))))))))) x1 x2 x3 u4)))) x1 x2 x3 u)
set_option maxRecDepth 100000 in
set_option maxHeartbeats 4000000 in
theorem k_M_way_80 {p : Program} {l : Launch} {e : Env} {s : State} {m : MethodId} {args : Array Value} {below : List Frame} {meth : Method} {c : Code} {dC : Nat → ClassId} {dI : Nat → Nat → Nat} {cA : ClassId} {a : Nat → Nat} {A : Nat → Prop} (hC : tC p s m meth c args b_M_way 9 (some .int) wsA R_M A) (post : Int32 → tS → Prop) (K58 : Int32 → Int32 → Int32 → Int32 → tS → Prop) (hK58 : ∀ (x1 x3 x4 x5 : Int32) (u : tS) (H : Heap) (locs : List Loc) (ls : Array Slot), K58 x1 x3 x4 x5 u → tX (dC, dI) twCl [(cA, .int)] A s H locs (wdM a cA u) → lv_has ls 9 [(0, .ref (a 0)), (1, .int x1), (3, .int x3), (4, .int x4), (5, .int x5)] → W p l e ({ frames := 6, cells := 0, slots := 0, locals := 134 }) s m args below meth c H locs 0 0 (MQ below (va_Qi post (tB (dC, dI) twCl [(cA, .int)] A (wdM a cA)) A) args s 0 0 A) (F0 m 58 ls [])) : ∀ (x1 x3 x4 x5 : Int32) (u : tS) (H : Heap) (locs : List Loc) (ls : Array Slot), w_M_way_80 post K58 x1 x3 x4 x5 u → tX (dC, dI) twCl [(cA, .int)] A s H locs (wdM a cA u) → lv_has ls 9 [(0, .ref (a 0)), (1, .int x1), (3, .int x3), (4, .int x4), (5, .int x5)] → W p l e ({ frames := 6, cells := 0, slots := 0, locals := 134 }) s m args below meth c H locs 0 0 (MQ below (va_Qi post (tB (dC, dI) twCl [(cA, .int)] A (wdM a cA)) A) args s 0 0 A) (F0 m 80 ls []) := by
  obtain ⟨hx, hb, hr, hml, hown, hts, hlocks, hA, hN⟩ := id hC
  intro x1 x3 x4 x5 u H locs ls hw hI hl
  refine lv_iload hx hb d_M_way_80 (lv_at hl 4 rfl) ?_
  refine lv_if_eq (tgt := 154) hx hb d_M_way_82 (by decide) (fun hc => ?_) (fun hc => ?_)
  · have hw := hw.1 hc
    refine lv_aload_n hx hb d_M_way_154 rfl (lv_at hl 0 rfl) ?_
    refine lv_iload hx hb d_M_way_155 (lv_at hl 3 rfl) ?_
    refine tr_goi (w := wdM a cA) hI hA (va_runV (As := [.int x4]) (rest := []) ⟨hx, hb, hml, hown, hts⟩ (c_M_departureBefore l dC dI cA a _ _ _ _) (cwV 1 hts (wsA_goodV wA_792 wA_794 wA_28 wA_40 wA_795) rfl rfl rfl (by decide +kernel) ⟨Nat.le_of_ble_eq_true rfl, Nat.le_of_ble_eq_true rfl⟩) (tr_preV (ci := 9) (q0 := 0) hI rfl (wdM_o0 a cA _) rfl hN hw) rfl rfl hl.1 rfl (lv_room (Nat.le_of_ble_eq_true rfl)) d_M_way_157 ⟨Nat.zero_le _, Nat.zero_le _⟩) (fun r157 u157 H locs hw hI => ?_)
    refine lv_istore (lv' := [(6, .int r157), (0, .ref (a 0)), (1, .int x1), (3, .int x3), (4, .int x4), (5, .int x5)]) hx hb d_M_way_160 hl (by decide) rfl (fun ls hl => ?_)
    refine lv_iload hx hb d_M_way_162 (lv_at hl 0 rfl) ?_
    refine lv_bipush (v := 7) hx hb d_M_way_164 (by decide) ?_
    refine lv_idiv hx hb d_M_way_166 (by decide) ?_
    refine lv_istore (lv' := [(7, .int (r157 / 7)), (6, .int r157), (0, .ref (a 0)), (1, .int x1), (3, .int x3), (4, .int x4), (5, .int x5)]) hx hb d_M_way_167 hl (by decide) rfl (fun ls hl => ?_)
    refine lv_iload hx hb d_M_way_169 (lv_at hl 1 rfl) ?_
    refine lv_bipush (v := 7) hx hb d_M_way_171 (by decide) ?_
    refine lv_irem hx hb d_M_way_173 (by decide) ?_
    refine lv_istore (lv' := [(8, .int (r157 - r157 / 7 * 7)), (7, .int (r157 / 7)), (6, .int r157), (0, .ref (a 0)), (1, .int x1), (3, .int x3), (4, .int x4), (5, .int x5)]) hx hb d_M_way_174 hl (by decide) rfl (fun ls hl => ?_)
    refine lv_aload_n hx hb d_M_way_176 rfl (lv_at hl 3 rfl) ?_
    refine lv_iconst (v := 1) hx hb d_M_way_177 (by decide) ?_
    refine lv_iload hx hb d_M_way_178 (lv_at hl 1 rfl) ?_
    refine lv_iload hx hb d_M_way_180 (lv_at hl 0 rfl) ?_
    refine lv_aload_n hx hb d_M_way_182 rfl (lv_at hl 3 rfl) ?_
    refine lv_iload hx hb d_M_way_183 (lv_at hl 1 rfl) ?_
    refine lv_iload hx hb d_M_way_185 (lv_at hl 0 rfl) ?_
    refine tr_goi (w := wdM a cA) hI hA (va_runV (As := [.int (r157 / 7), .int (r157 - r157 / 7 * 7)]) (rest := [.int (r157 - r157 / 7 * 7), .int (r157 / 7), .int 1, .ref (a 0)]) ⟨hx, hb, hml, hown, hts⟩ (c_M_leaves l dC dI cA a _ _ _ _ _) (cwV 2 hts (wsA_goodV wA_740 wA_742 wA_22 wA_40 wA_743) rfl rfl rfl (by decide +kernel) ⟨Nat.le_of_ble_eq_true rfl, Nat.le_of_ble_eq_true rfl⟩) (tr_preV (ci := 9) (q0 := 0) hI rfl (wdM_o0 a cA _) rfl hN hw) rfl rfl hl.1 rfl (lv_room (Nat.le_of_ble_eq_true rfl)) d_M_way_187 ⟨Nat.zero_le _, Nat.zero_le _⟩) (fun r187 u187 H locs hw hI => ?_)
    refine lv_aload_n hx hb d_M_way_190 rfl (lv_at hl 3 rfl) ?_
    refine va_get (D := (dC, dI)) (C := R_M) (T := F_M) (N := 22) hx hb hts in_M hown hI.1 hI.2.1 0 (wdM_o0 a cA _) rfl 18 (by decide) (hts _ wA_607) (fun _ h9 => h9) rfl d_M_way_191 ?_
    refine lv_iload hx hb d_M_way_194 (lv_at hl 6 rfl) ?_
    obtain ⟨hi, hw⟩ := hw
    refine va_iald (D := (dC, dI)) hx hb hI.1 hI.2.1 14 0 (wdM_o14 a cA _) rfl hi d_M_way_196 ?_
    refine tr_gov (w := wdM a cA) hI hA (va_runV (As := [.int 1, .int (r157 / 7), .int (r157 - r157 / 7 * 7), .int r187, .int (u187.2 13 x4.toNatClampNeg)]) (rest := []) ⟨hx, hb, hml, hown, hts⟩ (c_M_put l dC dI cA a _ _ _ _ _ _ _ _) (cwV 5 hts (wsA_goodV wA_788 wA_790 wA_27 wA_40 wA_791) rfl rfl rfl (by decide +kernel) ⟨Nat.le_of_ble_eq_true rfl, Nat.le_of_ble_eq_true rfl⟩) (tr_preV (ci := 9) (q0 := 0) hI rfl (wdM_o0 a cA _) rfl hN hw) rfl rfl hl.1 rfl (lv_room (Nat.le_of_ble_eq_true rfl)) d_M_way_197 ⟨Nat.zero_le _, Nat.zero_le _⟩) (fun u197 H locs hw hI => ?_)
    refine lv_aload_n hx hb d_M_way_200 rfl (lv_at hl 3 rfl) ?_
    refine va_get (D := (dC, dI)) (C := R_M) (T := F_M) (N := 22) hx hb hts in_M hown hI.1 hI.2.1 0 (wdM_o0 a cA _) rfl 3 (by decide) (hts _ wA_592) (fun _ h9 => h9) rfl d_M_way_201 ?_
    refine lv_iload hx hb d_M_way_204 (lv_at hl 1 rfl) ?_
    obtain ⟨hi, hw⟩ := hw
    refine va_iald (D := (dC, dI)) hx hb hI.1 hI.2.1 2 0 (wdM_o2 a cA _) rfl hi d_M_way_206 ?_
    refine lv_istore (lv' := [(4, .int (u197.2 1 (r157 / 7).toNatClampNeg)), (8, .int (r157 - r157 / 7 * 7)), (7, .int (r157 / 7)), (6, .int r157), (0, .ref (a 0)), (1, .int x1), (3, .int x3), (5, .int x5)]) hx hb d_M_way_207 hl (by decide) rfl (fun ls hl => ?_)
    refine lv_aload_n hx hb d_M_way_209 rfl (lv_at hl 4 rfl) ?_
    refine lv_iload hx hb d_M_way_210 (lv_at hl 2 rfl) ?_
    refine lv_iload hx hb d_M_way_212 (lv_at hl 1 rfl) ?_
    refine tr_goi (w := wdM a cA) hI hA (va_runV (As := [.int (r157 / 7), .int (r157 - r157 / 7 * 7)]) (rest := []) ⟨hx, hb, hml, hown, hts⟩ (c_M_leaves l dC dI cA a _ _ _ _ _) (cwV 2 hts (wsA_goodV wA_740 wA_742 wA_22 wA_40 wA_743) rfl rfl rfl (by decide +kernel) ⟨Nat.le_of_ble_eq_true rfl, Nat.le_of_ble_eq_true rfl⟩) (tr_preV (ci := 9) (q0 := 0) hI rfl (wdM_o0 a cA _) rfl hN hw) rfl rfl hl.1 rfl (lv_room (Nat.le_of_ble_eq_true rfl)) d_M_way_214 ⟨Nat.zero_le _, Nat.zero_le _⟩) (fun r214 u214 H locs hw hI => ?_)
    refine lv_aload_n hx hb d_M_way_217 rfl (lv_at hl 4 rfl) ?_
    refine va_get (D := (dC, dI)) (C := R_M) (T := F_M) (N := 22) hx hb hts in_M hown hI.1 hI.2.1 0 (wdM_o0 a cA _) rfl 19 (by decide) (hts _ wA_608) (fun _ h9 => h9) rfl d_M_way_218 ?_
    refine lv_iload hx hb d_M_way_221 (lv_at hl 0 rfl) ?_
    obtain ⟨hi, hw⟩ := hw
    refine va_iald (D := (dC, dI)) hx hb hI.1 hI.2.1 15 0 (wdM_o15 a cA _) rfl hi d_M_way_223 ?_
    refine lv_icmp_lt (tgt := 231) hx hb d_M_way_224 (by decide) (fun hc => ?_) (fun hc => ?_)
    · have hw := hw.1 hc
      refine lv_iconst (v := 0) hx hb d_M_way_231 (by decide) ?_
      refine lv_istore (lv' := [(5, .int 0), (4, .int (u197.2 1 (r157 / 7).toNatClampNeg)), (8, .int (r157 - r157 / 7 * 7)), (7, .int (r157 / 7)), (6, .int r157), (0, .ref (a 0)), (1, .int x1), (3, .int x3)]) hx hb d_M_way_232 hl (by decide) rfl (fun ls hl => ?_)
      refine lv_goto (tgt := 58) hx hb d_M_way_234 (by decide) ?_
      exact hK58 _ _ _ _ _ _ _ ls hw hI (lv_sub hl [5, 6, 7, 1, 0] rfl)
    · have hw := hw.2 hc
      refine lv_iconst (v := 1) hx hb d_M_way_227 (by decide) ?_
      refine lv_goto (tgt := 232) hx hb d_M_way_228 (by decide) ?_
      refine lv_istore (lv' := [(5, .int 1), (4, .int (u197.2 1 (r157 / 7).toNatClampNeg)), (8, .int (r157 - r157 / 7 * 7)), (7, .int (r157 / 7)), (6, .int r157), (0, .ref (a 0)), (1, .int x1), (3, .int x3)]) hx hb d_M_way_232 hl (by decide) rfl (fun ls hl => ?_)
      refine lv_goto (tgt := 58) hx hb d_M_way_234 (by decide) ?_
      exact hK58 _ _ _ _ _ _ _ ls hw hI (lv_sub hl [5, 6, 7, 1, 0] rfl)
  · have hw := hw.2 hc
    refine lv_aload_n hx hb d_M_way_85 rfl (lv_at hl 0 rfl) ?_
    refine lv_iload hx hb d_M_way_86 (lv_at hl 3 rfl) ?_
    refine tr_goi (w := wdM a cA) hI hA (va_runV (As := [.int x4]) (rest := []) ⟨hx, hb, hml, hown, hts⟩ (c_M_walkBefore l dC dI cA a _ _ _ _) (cwV 1 hts (wsA_goodV wA_784 wA_786 wA_26 wA_40 wA_787) rfl rfl rfl (by decide +kernel) ⟨Nat.le_of_ble_eq_true rfl, Nat.le_of_ble_eq_true rfl⟩) (tr_preV (ci := 9) (q0 := 0) hI rfl (wdM_o0 a cA _) rfl hN hw) rfl rfl hl.1 rfl (lv_room (Nat.le_of_ble_eq_true rfl)) d_M_way_88 ⟨Nat.zero_le _, Nat.zero_le _⟩) (fun r88 u88 H locs hw hI => ?_)
    refine lv_istore (lv' := [(6, .int r88), (0, .ref (a 0)), (1, .int x1), (3, .int x3), (4, .int x4), (5, .int x5)]) hx hb d_M_way_91 hl (by decide) rfl (fun ls hl => ?_)
    refine lv_aload_n hx hb d_M_way_93 rfl (lv_at hl 1 rfl) ?_
    refine va_get (D := (dC, dI)) (C := R_M) (T := F_M) (N := 22) hx hb hts in_M hown hI.1 hI.2.1 0 (wdM_o0 a cA _) rfl 10 (by decide) (hts _ wA_599) (fun _ h9 => h9) rfl d_M_way_94 ?_
    refine lv_iload hx hb d_M_way_97 (lv_at hl 0 rfl) ?_
    obtain ⟨hi, hw⟩ := hw
    refine va_iald (D := (dC, dI)) hx hb hI.1 hI.2.1 8 0 (wdM_o8 a cA _) rfl hi d_M_way_99 ?_
    refine lv_istore (lv' := [(7, .int (u88.2 7 r88.toNatClampNeg)), (6, .int r88), (0, .ref (a 0)), (1, .int x1), (3, .int x3), (4, .int x4), (5, .int x5)]) hx hb d_M_way_100 hl (by decide) rfl (fun ls hl => ?_)
    refine lv_aload_n hx hb d_M_way_102 rfl (lv_at hl 2 rfl) ?_
    refine lv_iconst (v := 0) hx hb d_M_way_103 (by decide) ?_
    refine lv_iload hx hb d_M_way_104 (lv_at hl 1 rfl) ?_
    refine lv_iconst (v := (-1)) hx hb d_M_way_106 (by decide) ?_
    refine lv_aload_n hx hb d_M_way_107 rfl (lv_at hl 2 rfl) ?_
    refine lv_iload hx hb d_M_way_108 (lv_at hl 0 rfl) ?_
    refine tr_goi (w := wdM a cA) hI hA (va_runV (As := [.int (u88.2 7 r88.toNatClampNeg)]) (rest := [.int (-1), .int r88, .int 0, .ref (a 0)]) ⟨hx, hb, hml, hown, hts⟩ (c_M_arrival l dC dI cA a _ _ _ _) (cwV 1 hts (wsA_goodV wA_724 wA_726 wA_18 wA_40 wA_727) rfl rfl rfl (by decide +kernel) ⟨Nat.le_of_ble_eq_true rfl, Nat.le_of_ble_eq_true rfl⟩) (tr_preV (ci := 9) (q0 := 0) hI rfl (wdM_o0 a cA _) rfl hN hw) rfl rfl hl.1 rfl (lv_room (Nat.le_of_ble_eq_true rfl)) d_M_way_110 ⟨Nat.zero_le _, Nat.zero_le _⟩) (fun r110 u110 H locs hw hI => ?_)
    refine lv_aload_n hx hb d_M_way_113 rfl (lv_at hl 2 rfl) ?_
    refine va_get (D := (dC, dI)) (C := R_M) (T := F_M) (N := 22) hx hb hts in_M hown hI.1 hI.2.1 0 (wdM_o0 a cA _) rfl 19 (by decide) (hts _ wA_608) (fun _ h9 => h9) rfl d_M_way_114 ?_
    refine lv_iload hx hb d_M_way_117 (lv_at hl 5 rfl) ?_
    obtain ⟨hi, hw⟩ := hw
    refine va_iald (D := (dC, dI)) hx hb hI.1 hI.2.1 15 0 (wdM_o15 a cA _) rfl hi d_M_way_119 ?_
    refine tr_gov (w := wdM a cA) hI hA (va_runV (As := [.int 0, .int r88, .int (-1), .int r110, .int (u110.2 14 x4.toNatClampNeg)]) (rest := []) ⟨hx, hb, hml, hown, hts⟩ (c_M_put l dC dI cA a _ _ _ _ _ _ _ _) (cwV 5 hts (wsA_goodV wA_788 wA_790 wA_27 wA_40 wA_791) rfl rfl rfl (by decide +kernel) ⟨Nat.le_of_ble_eq_true rfl, Nat.le_of_ble_eq_true rfl⟩) (tr_preV (ci := 9) (q0 := 0) hI rfl (wdM_o0 a cA _) rfl hN hw) rfl rfl hl.1 rfl (lv_room (Nat.le_of_ble_eq_true rfl)) d_M_way_120 ⟨Nat.zero_le _, Nat.zero_le _⟩) (fun u120 H locs hw hI => ?_)
    refine lv_iload hx hb d_M_way_123 (lv_at hl 0 rfl) ?_
    refine lv_istore (lv' := [(4, .int (u88.2 7 r88.toNatClampNeg)), (7, .int (u88.2 7 r88.toNatClampNeg)), (6, .int r88), (0, .ref (a 0)), (1, .int x1), (3, .int x3), (5, .int x5)]) hx hb d_M_way_125 hl (by decide) rfl (fun ls hl => ?_)
    refine lv_aload_n hx hb d_M_way_127 rfl (lv_at hl 3 rfl) ?_
    refine va_get (D := (dC, dI)) (C := R_M) (T := F_M) (N := 22) hx hb hts in_M hown hI.1 hI.2.1 0 (wdM_o0 a cA _) rfl 19 (by decide) (hts _ wA_608) (fun _ h9 => h9) rfl d_M_way_128 ?_
    refine lv_iload hx hb d_M_way_131 (lv_at hl 0 rfl) ?_
    obtain ⟨hi, hw⟩ := hw
    refine va_iald (D := (dC, dI)) hx hb hI.1 hI.2.1 15 0 (wdM_o15 a cA _) rfl hi d_M_way_133 ?_
    refine lv_aload_n hx hb d_M_way_134 rfl (lv_at hl 3 rfl) ?_
    refine va_get (D := (dC, dI)) (C := R_M) (T := F_M) (N := 22) hx hb hts in_M hown hI.1 hI.2.1 0 (wdM_o0 a cA _) rfl 18 (by decide) (hts _ wA_607) (fun _ h9 => h9) rfl d_M_way_135 ?_
    refine lv_iload hx hb d_M_way_138 (lv_at hl 0 rfl) ?_
    obtain ⟨hi, hw⟩ := hw
    refine va_iald (D := (dC, dI)) hx hb hI.1 hI.2.1 14 0 (wdM_o14 a cA _) rfl hi d_M_way_140 ?_
    refine lv_icmp_gt (tgt := 148) hx hb d_M_way_141 (by decide) (fun hc => ?_) (fun hc => ?_)
    · have hw := hw.1 hc
      refine lv_iconst (v := 0) hx hb d_M_way_148 (by decide) ?_
      refine lv_istore (lv' := [(5, .int 0), (4, .int (u88.2 7 r88.toNatClampNeg)), (7, .int (u88.2 7 r88.toNatClampNeg)), (6, .int r88), (0, .ref (a 0)), (1, .int x1), (3, .int x3)]) hx hb d_M_way_149 hl (by decide) rfl (fun ls hl => ?_)
      refine lv_goto (tgt := 58) hx hb d_M_way_151 (by decide) ?_
      exact hK58 _ _ _ _ _ _ _ ls hw hI (lv_sub hl [4, 5, 6, 1, 0] rfl)
    · have hw := hw.2 hc
      refine lv_iconst (v := 1) hx hb d_M_way_144 (by decide) ?_
      refine lv_goto (tgt := 149) hx hb d_M_way_145 (by decide) ?_
      refine lv_istore (lv' := [(5, .int 1), (4, .int (u88.2 7 r88.toNatClampNeg)), (7, .int (u88.2 7 r88.toNatClampNeg)), (6, .int r88), (0, .ref (a 0)), (1, .int x1), (3, .int x3)]) hx hb d_M_way_149 hl (by decide) rfl (fun ls hl => ?_)
      refine lv_goto (tgt := 58) hx hb d_M_way_151 (by decide) ?_
      exact hK58 _ _ _ _ _ _ _ ls hw hI (lv_sub hl [4, 5, 6, 1, 0] rfl)
set_option maxRecDepth 100000 in
set_option maxHeartbeats 4000000 in
theorem k_M_way_58 {p : Program} {l : Launch} {e : Env} {s : State} {m : MethodId} {args : Array Value} {below : List Frame} {meth : Method} {c : Code} {dC : Nat → ClassId} {dI : Nat → Nat → Nat} {cA : ClassId} {a : Nat → Nat} {A : Nat → Prop} (hC : tC p s m meth c args b_M_way 9 (some .int) wsA R_M A) (post : Int32 → tS → Prop) : ∀ n : Nat, ∀ (x1 x3 x4 x5 : Int32) (u : tS) (H : Heap) (locs : List Loc) (ls : Array Slot), w_M_way_58 post n x1 x3 x4 x5 u → tX (dC, dI) twCl [(cA, .int)] A s H locs (wdM a cA u) → lv_has ls 9 [(0, .ref (a 0)), (1, .int x1), (3, .int x3), (4, .int x4), (5, .int x5)] → W p l e ({ frames := 6, cells := 0, slots := 0, locals := 134 }) s m args below meth c H locs 0 0 (MQ below (va_Qi post (tB (dC, dI) twCl [(cA, .int)] A (wdM a cA)) A) args s 0 0 A) (F0 m 58 ls []) := by
  obtain ⟨hx, hb, hr, hml, hown, hts, hlocks, hA, hN⟩ := id hC
  intro n
  induction n with
  | zero => intro x1 x3 x4 x5 u H locs ls hw; exact False.elim hw
  | succ n ih =>
    intro x1 x3 x4 x5 u H locs ls hw hI hl
    refine lv_iload hx hb d_M_way_58 (lv_at hl 4 rfl) ?_
    refine lv_if_eq (tgt := 80) hx hb d_M_way_60 (by decide) (fun hc => ?_) (fun hc => ?_)
    · have hw := hw.1 hc
      exact k_M_way_80 hC post _ ih _ _ _ _ _ _ _ ls hw hI (lv_sub hl [0, 1, 2, 3, 4] rfl)
    · have hw := hw.2 hc
      refine lv_iload hx hb d_M_way_63 (lv_at hl 3 rfl) ?_
      refine lv_iload_n hx hb d_M_way_65 rfl (lv_at hl 1 rfl) ?_
      refine lv_icmp_ne (tgt := 80) hx hb d_M_way_66 (by decide) (fun hc => ?_) (fun hc => ?_)
      · have hw := hw.2 hc
        exact k_M_way_80 hC post _ ih _ _ _ _ _ _ _ ls hw hI (lv_sub hl [0, 1, 2, 3, 4] rfl)
      · have hw := hw.1 hc
        refine lv_aload_n hx hb d_M_way_69 rfl (lv_at hl 0 rfl) ?_
        refine va_get (D := (dC, dI)) (C := R_M) (T := F_M) (N := 22) hx hb hts in_M hown hI.1 hI.2.1 0 (wdM_o0 a cA _) rfl 19 (by decide) (hts _ wA_608) (fun _ h9 => h9) rfl d_M_way_70 ?_
        refine lv_iload hx hb d_M_way_73 (lv_at hl 3 rfl) ?_
        obtain ⟨hi, hw⟩ := hw
        refine va_iald (D := (dC, dI)) hx hb hI.1 hI.2.1 15 0 (wdM_o15 a cA _) rfl hi d_M_way_75 ?_
        refine lv_iload_n hx hb d_M_way_76 rfl (lv_at hl 2 rfl) ?_
        refine lv_icmp_eq (tgt := 237) hx hb d_M_way_77 (by decide) (fun hc => ?_) (fun hc => ?_)
        · have hw := hw.1 hc
          refine lv_aload_n hx hb d_M_way_237 rfl (lv_at hl 0 rfl) ?_
          refine va_get (D := (dC, dI)) (C := R_M) (T := F_M) (N := 22) hx hb hts in_M hown hI.1 hI.2.1 0 (wdM_o0 a cA _) rfl 16 (by decide) (hts _ wA_605) (fun _ h9 => h9) rfl d_M_way_238 ?_
          exact tr_iret hx hb hr hlocks hI hw d_M_way_241
        · have hw := hw.2 hc
          exact k_M_way_80 hC post _ ih _ _ _ _ _ _ _ ls hw hI (lv_sub hl [0, 1, 2, 3, 4] rfl)
set_option maxRecDepth 100000 in
set_option maxHeartbeats 4000000 in
theorem c_M_way (l : Launch) (dC : Nat → ClassId) (dI : Nat → Nat → Nat) (cA : ClassId) (a : Nat → Nat) (u : tS) (x1 : Int32) (x2 : Int32) (x3 : Int32) (post : Int32 → tS → Prop) (sz : Nat) : Met l y_M_way ws_M_way ({ frames := 6, cells := 0, slots := 0, locals := 134 }) (va_Pc [.ref (a 0), .int x1, .int x2, .int x3] (tP (dC, dI) twCl [(cA, .int)] (wdM a cA) u sz (w_M_way post x1 x2 x3 u))) (va_Qi post (tB (dC, dI) twCl [(cA, .int)] (va_A (wdM a cA u) sz) (wdM a cA)) (va_A (wdM a cA u) sz)) 0 0 (va_A (wdM a cA u) sz) := by
  refine Met.ofW (cc := b_M_way) (maxL := 9) (ret := (some .int)) (by decide) rfl ?_
  intro p e s m args below meth c s₁ B hml hv
  obtain ⟨rfl, hsz, hP, hK, hD0, hN, hw⟩ := hv
  have hx := B.exec
  have hb := B.bytes
  have hr := B.returns
  have hts : ∀ w ∈ wsA, w.before _ s = true := fun w h => atoms_spec (ws := ws_M_way) B.pre w (List.mem_cons_of_mem _ h)
  have hown : s.vm.findClass R_M = some m.cls := findClass_of_methodNamed B.named
  have hlocks := B.notSynchronized
  subst hsz
  have hD := hD0.self (sz := s.heap.size)
  generalize hAe : va_A (wdM a cA u) s.heap.size = A at hD ⊢
  have hA : ∀ q : Nat, s.heap.size ≤ q → A q := fun q h => by rw [← hAe]; exact Or.inr h
  have hS : va_S A s.heap s.heap [] := va_S.rf
  have hI : tX (dC, dI) twCl [(cA, .int)] A s s.heap [] (wdM a cA u) := ⟨hK, hP, hD, hS⟩
  have hC : tC p s m meth c ([.ref (a 0), .int x1, .int x2, .int x3] : List Value).toArray b_M_way 9 (some .int) wsA R_M A := ⟨hx, hb, hr, hml, hown, hts, hlocks, hA, hN⟩
  have hl := lv_entry ([.ref (a 0), .int x1, .int x2, .int x3]) (n := 9) (Nat.le_of_ble_eq_true rfl)
  rw [lg_entry_eq]
  generalize (lg_sl ([.ref (a 0), .int x1, .int x2, .int x3]) ++ List.replicate (9 - (lg_sl ([.ref (a 0), .int x1, .int x2, .int x3])).length) Slot.unset).toArray = ls at hl ⊢
  have hl : lv_has ls 9 [(0, .ref (a 0)), (1, .int x1), (2, .int x2), (3, .int x3)] := hl
  have hw : (w_M_isAsked (fun r4 u4 => ((r4 = 0 → (post (-2) u4)) ∧ (¬ r4 = 0 → (w_M_found (fun r17 u17 => ((r17 = (-1) → (post (-1) u17)) ∧ (¬ r17 = (-1) → (vp_in x2 12 ∧ (vp_in x2 12 ∧ ((((tI u17 4 0).2 13 x2.toNatClampNeg) < ((tI u17 4 0).2 14 x2.toNatClampNeg) → (∃ k, w_M_way_58 post k x1 x3 x2 0 (tI u17 4 0))) ∧ (¬ ((tI u17 4 0).2 13 x2.toNatClampNeg) < ((tI u17 4 0).2 14 x2.toNatClampNeg) → (∃ k, w_M_way_58 post k x1 x3 x2 1 (tI u17 4 0))))))))) x1 x2 x3 u4)))) x1 x2 x3 u) := hw
  refine lv_aload_n hx hb d_M_way_0 rfl (lv_at hl 0 rfl) ?_
  refine lv_iload_n hx hb d_M_way_1 rfl (lv_at hl 1 rfl) ?_
  refine lv_iload_n hx hb d_M_way_2 rfl (lv_at hl 2 rfl) ?_
  refine lv_iload_n hx hb d_M_way_3 rfl (lv_at hl 3 rfl) ?_
  refine tr_goi (w := wdM a cA) hI hA (va_runV (As := [.int x1, .int x2, .int x3]) (rest := []) ⟨hx, hb, hml, hown, hts⟩ (c_M_isAsked l dC dI cA a _ _ _ _ _ _) (cwV 3 hts (wsA_goodV wA_703 wA_705 wA_13 wA_40 wA_706) rfl rfl rfl (by decide +kernel) ⟨Nat.le_of_ble_eq_true rfl, Nat.le_of_ble_eq_true rfl⟩) (tr_preV (ci := 9) (q0 := 0) hI rfl (wdM_o0 a cA _) rfl hN hw) rfl rfl hl.1 rfl (lv_room (Nat.le_of_ble_eq_true rfl)) d_M_way_4 ⟨Nat.zero_le _, Nat.zero_le _⟩) (fun r4 u4 H locs hw hI => ?_)
  refine lv_if_ne (tgt := 13) hx hb d_M_way_7 (by decide) (fun hc => ?_) (fun hc => ?_)
  · have hw := hw.2 hc
    refine lv_aload_n hx hb d_M_way_13 rfl (lv_at hl 0 rfl) ?_
    refine lv_iload_n hx hb d_M_way_14 rfl (lv_at hl 1 rfl) ?_
    refine lv_iload_n hx hb d_M_way_15 rfl (lv_at hl 2 rfl) ?_
    refine lv_iload_n hx hb d_M_way_16 rfl (lv_at hl 3 rfl) ?_
    refine tr_goi (w := wdM a cA) hI hA (va_runV (As := [.int x1, .int x2, .int x3]) (rest := []) ⟨hx, hb, hml, hown, hts⟩ (c_M_found l dC dI cA a _ _ _ _ _ _) (cwV 3 hts (wsA_goodV wA_707 wA_709 wA_14 wA_40 wA_710) rfl rfl rfl (by decide +kernel) ⟨Nat.le_of_ble_eq_true rfl, Nat.le_of_ble_eq_true rfl⟩) (tr_preV (ci := 9) (q0 := 0) hI rfl (wdM_o0 a cA _) rfl hN hw) rfl rfl hl.1 rfl (lv_room (Nat.le_of_ble_eq_true rfl)) d_M_way_17 ⟨Nat.zero_le _, Nat.zero_le _⟩) (fun r17 u17 H locs hw hI => ?_)
    refine lv_iconst (v := (-1)) hx hb d_M_way_20 (by decide) ?_
    refine lv_icmp_ne (tgt := 26) hx hb d_M_way_21 (by decide) (fun hc => ?_) (fun hc => ?_)
    · have hw := hw.2 hc
      refine lv_aload_n hx hb d_M_way_26 rfl (lv_at hl 0 rfl) ?_
      refine lv_iconst (v := 0) hx hb d_M_way_27 (by decide) ?_
      refine tr_put (C := R_M) (T := F_M) (N := 22) (w := wdM a cA) hx hb hts in_M ft_M ft_M_ok fn_M hown hI 0 4 (wdM_o0 a cA _) rfl 16 (by decide) (hts _ wA_605) rfl (by decide +kernel) (Nat.le_of_ble_eq_true rfl) (wdM_i4 a cA _ _) d_M_way_28 (fun H locs hI => ?_)
      refine lv_iload_n hx hb d_M_way_31 rfl (lv_at hl 2 rfl) ?_
      refine lv_istore (lv' := [(4, .int x2), (0, .ref (a 0)), (1, .int x1), (2, .int x2), (3, .int x3)]) hx hb d_M_way_32 hl (by decide) rfl (fun ls hl => ?_)
      refine lv_aload_n hx hb d_M_way_34 rfl (lv_at hl 1 rfl) ?_
      refine va_get (D := (dC, dI)) (C := R_M) (T := F_M) (N := 22) hx hb hts in_M hown hI.1 hI.2.1 0 (wdM_o0 a cA _) rfl 19 (by decide) (hts _ wA_608) (fun _ h9 => h9) rfl d_M_way_35 ?_
      refine lv_iload hx hb d_M_way_38 (lv_at hl 0 rfl) ?_
      obtain ⟨hi, hw⟩ := hw
      refine va_iald (D := (dC, dI)) hx hb hI.1 hI.2.1 15 0 (wdM_o15 a cA _) rfl hi d_M_way_40 ?_
      refine lv_aload_n hx hb d_M_way_41 rfl (lv_at hl 1 rfl) ?_
      refine va_get (D := (dC, dI)) (C := R_M) (T := F_M) (N := 22) hx hb hts in_M hown hI.1 hI.2.1 0 (wdM_o0 a cA _) rfl 18 (by decide) (hts _ wA_607) (fun _ h9 => h9) rfl d_M_way_42 ?_
      refine lv_iload hx hb d_M_way_45 (lv_at hl 0 rfl) ?_
      obtain ⟨hi, hw⟩ := hw
      refine va_iald (D := (dC, dI)) hx hb hI.1 hI.2.1 14 0 (wdM_o14 a cA _) rfl hi d_M_way_47 ?_
      refine lv_icmp_gt (tgt := 55) hx hb d_M_way_48 (by decide) (fun hc => ?_) (fun hc => ?_)
      · have hw := hw.1 hc
        refine lv_iconst (v := 0) hx hb d_M_way_55 (by decide) ?_
        refine lv_istore (lv' := [(5, .int 0), (4, .int x2), (0, .ref (a 0)), (1, .int x1), (2, .int x2), (3, .int x3)]) hx hb d_M_way_56 hl (by decide) rfl (fun ls hl => ?_)
        obtain ⟨k, hw⟩ := hw
        exact k_M_way_58 hC post k _ _ _ _ _ _ _ ls hw hI (lv_sub hl [2, 3, 5, 1, 0] rfl)
      · have hw := hw.2 hc
        refine lv_iconst (v := 1) hx hb d_M_way_51 (by decide) ?_
        refine lv_goto (tgt := 56) hx hb d_M_way_52 (by decide) ?_
        refine lv_istore (lv' := [(5, .int 1), (4, .int x2), (0, .ref (a 0)), (1, .int x1), (2, .int x2), (3, .int x3)]) hx hb d_M_way_56 hl (by decide) rfl (fun ls hl => ?_)
        obtain ⟨k, hw⟩ := hw
        exact k_M_way_58 hC post k _ _ _ _ _ _ _ ls hw hI (lv_sub hl [2, 3, 5, 1, 0] rfl)
    · have hw := hw.1 hc
      refine lv_iconst (v := (-1)) hx hb d_M_way_24 (by decide) ?_
      exact tr_iret hx hb hr hlocks hI hw d_M_way_25
  · have hw := hw.1 hc
    refine lv_bipush (v := (-2)) hx hb d_M_way_10 (by decide) ?_
    exact tr_iret hx hb hr hlocks hI hw d_M_way_12
