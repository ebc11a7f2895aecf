def w_T_of (post : Int32 → tS → Prop) (x1 : Int32) (u : tS) : Prop := ((x1 = 0 → (post (u.1 0) u)) ∧ (¬ x1 = 0 → ((x1 = 1 → (post (u.1 1) u)) ∧ (¬ x1 = 1 → ((x1 = 2 → (post (u.1 3) u)) ∧ (¬ x1 = 2 → ((x1 = 3 → (post (u.1 2) u)) ∧ (¬ x1 = 3 → ((x1 = 4 → (w_Bo_countLate (fun r91 u91 => (post r91 u91)) u)) ∧ (¬ x1 = 4 → (post (-2) u)))))))))))
set_option maxRecDepth 100000 in
set_option maxHeartbeats 4000000 in
theorem c_T_of (l : Launch) (dC : Nat → ClassId) (dI : Nat → Nat → Nat) (cA : ClassId) (a : Nat → Nat) (u : tS) (x1 : Int32) (post : Int32 → tS → Prop) (sz : Nat) : Met l y_T_of ws_T_of ({ frames := 1, cells := 0, slots := 0, locals := 23 }) (va_Pc [.ref (a 0), .int x1] (tP (dC, dI) twCl [(cA, .int)] (wdX a cA) u sz (w_T_of post x1 u))) (va_Qi post (tB (dC, dI) twCl [(cA, .int)] (va_A (wdX a cA u) sz) (wdX a cA)) (va_A (wdX a cA u) sz)) 0 0 (va_A (wdX a cA u) sz) := by
  refine Met.ofW (cc := b_T_of) (maxL := 2) (ret := (some .int)) (by decide) rfl ?_
  intro p e s m args below meth c s₁ B hml hv
  obtain ⟨rfl, hsz, hP, hK, hD0, hN, hw⟩ := hv
  have hx := B.exec
  have hb := B.bytes
  have hr := B.returns
  have hts : ∀ w ∈ wsA, w.before _ s = true := fun w h => atoms_spec (ws := ws_T_of) B.pre w (List.mem_cons_of_mem _ h)
  have hown : s.vm.findClass R_T = some m.cls := findClass_of_methodNamed B.named
  have hlocks := B.notSynchronized
  subst hsz
  have hD := hD0.self (sz := s.heap.size)
  generalize hAe : va_A (wdX a cA u) s.heap.size = A at hD ⊢
  have hA : ∀ q : Nat, s.heap.size ≤ q → A q := fun q h => by rw [← hAe]; exact Or.inr h
  have hS : va_S A s.heap s.heap [] := va_S.rf
  have hI : tX (dC, dI) twCl [(cA, .int)] A s s.heap [] (wdX a cA u) := ⟨hK, hP, hD, hS⟩
  have hC : tC p s m meth c ([.ref (a 0), .int x1] : List Value).toArray b_T_of 2 (some .int) wsA R_T A := ⟨hx, hb, hr, hml, hown, hts, hlocks, hA, hN⟩
  have hl := lv_entry ([.ref (a 0), .int x1]) (n := 2) (Nat.le_of_ble_eq_true rfl)
  rw [lg_entry_eq]
  generalize (lg_sl ([.ref (a 0), .int x1]) ++ List.replicate (2 - (lg_sl ([.ref (a 0), .int x1])).length) Slot.unset).toArray = ls at hl ⊢
  have hl : lv_has ls 2 [(0, .ref (a 0)), (1, .int x1)] := hl
  have hw : ((x1 = 0 → (post (u.1 0) u)) ∧ (¬ x1 = 0 → ((x1 = 1 → (post (u.1 1) u)) ∧ (¬ x1 = 1 → ((x1 = 2 → (post (u.1 3) u)) ∧ (¬ x1 = 2 → ((x1 = 3 → (post (u.1 2) u)) ∧ (¬ x1 = 3 → ((x1 = 4 → (w_Bo_countLate (fun r91 u91 => (post r91 u91)) u)) ∧ (¬ x1 = 4 → (post (-2) u))))))))))) := hw
  refine lv_iload_n hx hb d_T_of_0 rfl (lv_at hl 1 rfl) ?_
  by_cases hc0 : x1 = 0
  · have hw := hw.1 hc0
    refine lv_tableIn (tgt := 36) hx hb d_T_of_1 (by rw [hc0]; decide) (by rw [hc0]; decide) (by rw [hc0]; rfl) (by decide) ?_
    refine lv_aload_n hx hb d_T_of_36 rfl (lv_at hl 0 rfl) ?_
    refine va_get (D := (dC, dI)) (C := R_T) (T := F_T) (N := 6) hx hb hts in_T hown hI.1 hI.2.1 0 (wdX_o0 a cA _) rfl 0 (by decide) (hts _ wA_264) (fun _ h9 => h9) rfl d_T_of_37 ?_
    refine va_get (D := (dC, dI)) (C := R_Ne) (T := F_Ne) (N := 5) hx hb hts in_Ne hown hI.1 hI.2.1 1 (wdX_o1 a cA _) rfl 0 (by decide) (hts _ wA_161) (fun _ h9 => h9) rfl d_T_of_40 ?_
    exact tr_iret hx hb hr hlocks hI hw d_T_of_43
  · have hw := hw.2 hc0
    by_cases hc1 : x1 = 1
    · have hw := hw.1 hc1
      refine lv_tableIn (tgt := 44) hx hb d_T_of_1 (by rw [hc1]; decide) (by rw [hc1]; decide) (by rw [hc1]; rfl) (by decide) ?_
      refine lv_aload_n hx hb d_T_of_44 rfl (lv_at hl 0 rfl) ?_
      refine va_get (D := (dC, dI)) (C := R_T) (T := F_T) (N := 6) hx hb hts in_T hown hI.1 hI.2.1 0 (wdX_o0 a cA _) rfl 0 (by decide) (hts _ wA_264) (fun _ h9 => h9) rfl d_T_of_45 ?_
      refine va_get (D := (dC, dI)) (C := R_Ne) (T := F_Ne) (N := 5) hx hb hts in_Ne hown hI.1 hI.2.1 1 (wdX_o1 a cA _) rfl 2 (by decide) (hts _ wA_167) (fun _ h9 => h9) rfl d_T_of_48 ?_
      refine va_get (D := (dC, dI)) (C := R_Ri) (T := F_Ri) (N := 7) hx hb hts in_Ri hown hI.1 hI.2.1 2 (wdX_o2 a cA _) rfl 0 (by decide) (hts _ wA_64) (fun _ h9 => h9) rfl d_T_of_51 ?_
      exact tr_iret hx hb hr hlocks hI hw d_T_of_54
    · have hw := hw.2 hc1
      by_cases hc2 : x1 = 2
      · have hw := hw.1 hc2
        refine lv_tableIn (tgt := 55) hx hb d_T_of_1 (by rw [hc2]; decide) (by rw [hc2]; decide) (by rw [hc2]; rfl) (by decide) ?_
        refine lv_aload_n hx hb d_T_of_55 rfl (lv_at hl 0 rfl) ?_
        refine va_get (D := (dC, dI)) (C := R_T) (T := F_T) (N := 6) hx hb hts in_T hown hI.1 hI.2.1 0 (wdX_o0 a cA _) rfl 0 (by decide) (hts _ wA_264) (fun _ h9 => h9) rfl d_T_of_56 ?_
        refine va_get (D := (dC, dI)) (C := R_Ne) (T := F_Ne) (N := 5) hx hb hts in_Ne hown hI.1 hI.2.1 1 (wdX_o1 a cA _) rfl 4 (by decide) (hts _ wA_179) (fun _ h9 => h9) rfl d_T_of_59 ?_
        refine va_get (D := (dC, dI)) (C := R_Wa) (T := F_Wa) (N := 5) hx hb hts in_Wa hown hI.1 hI.2.1 4 (wdX_o4 a cA _) rfl 0 (by decide) (hts _ wA_138) (fun _ h9 => h9) rfl d_T_of_62 ?_
        exact tr_iret hx hb hr hlocks hI hw d_T_of_65
      · have hw := hw.2 hc2
        by_cases hc3 : x1 = 3
        · have hw := hw.1 hc3
          refine lv_tableIn (tgt := 66) hx hb d_T_of_1 (by rw [hc3]; decide) (by rw [hc3]; decide) (by rw [hc3]; rfl) (by decide) ?_
          refine lv_aload_n hx hb d_T_of_66 rfl (lv_at hl 0 rfl) ?_
          refine va_get (D := (dC, dI)) (C := R_T) (T := F_T) (N := 6) hx hb hts in_T hown hI.1 hI.2.1 0 (wdX_o0 a cA _) rfl 0 (by decide) (hts _ wA_264) (fun _ h9 => h9) rfl d_T_of_67 ?_
          refine va_get (D := (dC, dI)) (C := R_Ne) (T := F_Ne) (N := 5) hx hb hts in_Ne hown hI.1 hI.2.1 1 (wdX_o1 a cA _) rfl 3 (by decide) (hts _ wA_173) (fun _ h9 => h9) rfl d_T_of_70 ?_
          refine va_get (D := (dC, dI)) (C := R_Bo) (T := F_Bo) (N := 3) hx hb hts in_Bo hown hI.1 hI.2.1 3 (wdX_o3 a cA _) rfl 0 (by decide) (hts _ wA_115) (fun _ h9 => h9) rfl d_T_of_73 ?_
          exact tr_iret hx hb hr hlocks hI hw d_T_of_76
        · have hw := hw.2 hc3
          by_cases hc4 : x1 = 4
          · have hw := hw.1 hc4
            refine lv_tableIn (tgt := 77) hx hb d_T_of_1 (by rw [hc4]; decide) (by rw [hc4]; decide) (by rw [hc4]; rfl) (by decide) ?_
            refine lv_aload_n hx hb d_T_of_77 rfl (lv_at hl 0 rfl) ?_
            refine va_get (D := (dC, dI)) (C := R_T) (T := F_T) (N := 6) hx hb hts in_T hown hI.1 hI.2.1 0 (wdX_o0 a cA _) rfl 0 (by decide) (hts _ wA_264) (fun _ h9 => h9) rfl d_T_of_78 ?_
            refine va_get (D := (dC, dI)) (C := R_Ne) (T := F_Ne) (N := 5) hx hb hts in_Ne hown hI.1 hI.2.1 1 (wdX_o1 a cA _) rfl 3 (by decide) (hts _ wA_173) (fun _ h9 => h9) rfl d_T_of_81 ?_
            refine lv_aload_n hx hb d_T_of_84 rfl (lv_at hl 0 rfl) ?_
            refine va_get (D := (dC, dI)) (C := R_T) (T := F_T) (N := 6) hx hb hts in_T hown hI.1 hI.2.1 0 (wdX_o0 a cA _) rfl 0 (by decide) (hts _ wA_264) (fun _ h9 => h9) rfl d_T_of_85 ?_
            refine va_get (D := (dC, dI)) (C := R_Ne) (T := F_Ne) (N := 5) hx hb hts in_Ne hown hI.1 hI.2.1 1 (wdX_o1 a cA _) rfl 2 (by decide) (hts _ wA_167) (fun _ h9 => h9) rfl d_T_of_88 ?_
            refine tr_goi (w := wdX a cA) hI hA (va_runV (As := [.ref (a 2)]) (rest := []) ⟨hx, hb, hml, hown, hts⟩ (c_Bo_countLate l dC dI cA a _ _ _) (cwV 1 hts (wsA_goodV wA_579 wA_580 wA_581 wA_33 wA_582) rfl rfl rfl (by decide +kernel) ⟨Nat.le_of_ble_eq_true rfl, Nat.le_of_ble_eq_true rfl⟩) (tr_preV (ci := 3) (q0 := 3) hI rfl (wdX_o3 a cA _) rfl hN hw) rfl rfl hl.1 rfl (lv_room (Nat.le_of_ble_eq_true rfl)) d_T_of_91 ⟨Nat.zero_le _, Nat.zero_le _⟩) (fun r91 u91 H locs hw hI => ?_)
            exact tr_iret hx hb hr hlocks hI hw d_T_of_94
          · have hw := hw.2 hc4
            refine lv_tableOut (tgt := 95) hx hb d_T_of_1 (tab_out5 hc0 hc1 hc2 hc3 hc4) (by decide) ?_
            refine lv_bipush (v := (-2)) hx hb d_T_of_95 (by decide) ?_
            exact tr_iret hx hb hr hlocks hI hw d_T_of_97
