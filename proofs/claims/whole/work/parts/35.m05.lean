def w_M_profile_63 (post : Int32 → tS → Prop) (K23 : Int32 → Int32 → Int32 → Int32 → tS → Prop) (x1 : Int32) (x2 : Int32) (x4 : Int32) (x5 : Int32) (x6 : Int32) (u : tS) : Prop := (vp_in (u.1 3) 601 ∧ (vp_in ((tA u 10 (u.1 3) x5).1 3) 601 ∧ (K23 x1 x2 x4 (x5 + 1) (tI (tA (tA u 10 (u.1 3) x5) 11 ((tA u 10 (u.1 3) x5).1 3) x6) 3 (((tA (tA u 10 (u.1 3) x5) 11 ((tA u 10 (u.1 3) x5).1 3) x6).1 3) + 1)))))
def w_M_profile_23 (post : Int32 → tS → Prop) : Nat → Int32 → Int32 → Int32 → Int32 → tS → Prop
  | 0 => fun _ _ _ _ _ => False
  | n + 1 => fun x1 x2 x4 x5 u => ((x4 < x5 → (post (u.1 3) u)) ∧ (¬ x4 < x5 → (w_M_found (fun r35 u35 => (((u35.1 3) = 0 → (w_M_profile_63 post (w_M_profile_23 post n) x1 x2 x4 x5 r35 u35)) ∧ (¬ (u35.1 3) = 0 → (vp_in ((u35.1 3) - 1) 601 ∧ (((u35.2 11 ((u35.1 3) - 1).toNatClampNeg) = r35 → (w_M_profile_23 post n x1 x2 x4 (x5 + 1) u35)) ∧ (¬ (u35.2 11 ((u35.1 3) - 1).toNatClampNeg) = r35 → (w_M_profile_63 post (w_M_profile_23 post n) x1 x2 x4 x5 r35 u35))))))) x1 x2 x5 u)))
def w_M_profile (post : Int32 → tS → Prop) (x1 : Int32) (x2 : Int32) (x3 : Int32) (x4 : Int32) (u : tS) : Prop := (w_M_isSpan (fun r6 u6 => ((r6 = 0 → (post (-2) u6)) ∧ (¬ r6 = 0 → (∃ k, w_M_profile_23 post k x1 x2 x4 x3 (tI u6 3 0))))) x1 x2 x3 x4 u)
set_option maxRecDepth 100000 in
set_option maxHeartbeats 4000000 in
theorem k_M_profile_63 {p : Program} {l : Launch} {e : Env} {s : State} {m : MethodId} {args : Array Value} {below : List Frame} {meth : Method} {c : Code} {dC : Nat → ClassId} {dI : Nat → Nat → Nat} {cA : ClassId} {a : Nat → Nat} {A : Nat → Prop} (hC : tC p s m meth c args b_M_profile 7 (some .int) wsA R_M A) (post : Int32 → tS → Prop) (K23 : Int32 → Int32 → Int32 → Int32 → tS → Prop) (hK23 : ∀ (x1 x2 x4 x5 : Int32) (u : tS) (H : Heap) (locs : List Loc) (ls : Array Slot), K23 x1 x2 x4 x5 u → tX (dC, dI) twCl [(cA, .int)] A s H locs (wdM a cA u) → lv_has ls 7 [(0, .ref (a 0)), (1, .int x1), (2, .int x2), (4, .int x4), (5, .int x5)] → W p l e ({ frames := 6, cells := 0, slots := 0, locals := 134 }) s m args below meth c H locs 0 0 (MQ below (va_Qi post (tB (dC, dI) twCl [(cA, .int)] A (wdM a cA)) A) args s 0 0 A) (F0 m 23 ls [])) : ∀ (x1 x2 x4 x5 x6 : Int32) (u : tS) (H : Heap) (locs : List Loc) (ls : Array Slot), w_M_profile_63 post K23 x1 x2 x4 x5 x6 u → tX (dC, dI) twCl [(cA, .int)] A s H locs (wdM a cA u) → lv_has ls 7 [(0, .ref (a 0)), (1, .int x1), (2, .int x2), (4, .int x4), (5, .int x5), (6, .int x6)] → W p l e ({ frames := 6, cells := 0, slots := 0, locals := 134 }) s m args below meth c H locs 0 0 (MQ below (va_Qi post (tB (dC, dI) twCl [(cA, .int)] A (wdM a cA)) A) args s 0 0 A) (F0 m 63 ls []) := by
  obtain ⟨hx, hb, hr, hml, hown, hts, hlocks, hA, hN⟩ := id hC
  intro x1 x2 x4 x5 x6 u H locs ls hw hI hl
  refine lv_aload_n hx hb d_M_profile_63 rfl (lv_at hl 0 rfl) ?_
  refine va_get (D := (dC, dI)) (C := R_M) (T := F_M) (N := 22) hx hb hts in_M hown hI.1 hI.2.1 0 (wdM_o0 a cA _) rfl 14 (by decide) (hts _ wA_603) (fun _ h9 => h9) rfl d_M_profile_64 ?_
  refine lv_aload_n hx hb d_M_profile_67 rfl (lv_at hl 0 rfl) ?_
  refine va_get (D := (dC, dI)) (C := R_M) (T := F_M) (N := 22) hx hb hts in_M hown hI.1 hI.2.1 0 (wdM_o0 a cA _) rfl 13 (by decide) (hts _ wA_602) (fun _ h9 => h9) rfl d_M_profile_68 ?_
  refine lv_iload hx hb d_M_profile_71 (lv_at hl 4 rfl) ?_
  obtain ⟨hi, hw⟩ := hw
  refine tr_iast (w := wdM a cA) hx hb hI 11 0 10 (wdM_o11 a cA _) rfl (wdM_a10 a cA _ _ _) hi d_M_profile_73 (fun H locs hI => ?_)
  refine lv_aload_n hx hb d_M_profile_74 rfl (lv_at hl 0 rfl) ?_
  refine va_get (D := (dC, dI)) (C := R_M) (T := F_M) (N := 22) hx hb hts in_M hown hI.1 hI.2.1 0 (wdM_o0 a cA _) rfl 15 (by decide) (hts _ wA_604) (fun _ h9 => h9) rfl d_M_profile_75 ?_
  refine lv_aload_n hx hb d_M_profile_78 rfl (lv_at hl 0 rfl) ?_
  refine va_get (D := (dC, dI)) (C := R_M) (T := F_M) (N := 22) hx hb hts in_M hown hI.1 hI.2.1 0 (wdM_o0 a cA _) rfl 13 (by decide) (hts _ wA_602) (fun _ h9 => h9) rfl d_M_profile_79 ?_
  refine lv_iload hx hb d_M_profile_82 (lv_at hl 5 rfl) ?_
  obtain ⟨hi, hw⟩ := hw
  refine tr_iast (w := wdM a cA) hx hb hI 12 0 11 (wdM_o12 a cA _) rfl (wdM_a11 a cA _ _ _) hi d_M_profile_84 (fun H locs hI => ?_)
  refine lv_aload_n hx hb d_M_profile_85 rfl (lv_at hl 0 rfl) ?_
  refine lv_dup hx hb d_M_profile_86 rfl ?_
  refine va_get (D := (dC, dI)) (C := R_M) (T := F_M) (N := 22) hx hb hts in_M hown hI.1 hI.2.1 0 (wdM_o0 a cA _) rfl 13 (by decide) (hts _ wA_602) (fun _ h9 => h9) rfl d_M_profile_87 ?_
  refine lv_iconst (v := 1) hx hb d_M_profile_90 (by decide) ?_
  refine lv_iadd hx hb d_M_profile_91 ?_
  refine tr_put (C := R_M) (T := F_M) (N := 22) (w := wdM a cA) hx hb hts in_M ft_M ft_M_ok fn_M hown hI 0 3 (wdM_o0 a cA _) rfl 13 (by decide) (hts _ wA_602) rfl (by decide +kernel) (Nat.le_of_ble_eq_true rfl) (wdM_i3 a cA _ _) d_M_profile_92 (fun H locs hI => ?_)
  refine lv_iinc (v := (x5 + 1)) (lv' := [(5, .int (x5 + 1)), (0, .ref (a 0)), (1, .int x1), (2, .int x2), (4, .int x4), (6, .int x6)]) hx hb d_M_profile_95 hl (k := 4) rfl rfl (by decide) rfl (fun ls hl => ?_)
  refine lv_goto (tgt := 23) hx hb d_M_profile_98 (by decide) ?_
  exact hK23 _ _ _ _ _ _ _ ls hw hI (lv_sub hl [1, 2, 3, 4, 0] rfl)
set_option maxRecDepth 100000 in
set_option maxHeartbeats 4000000 in
theorem k_M_profile_23 {p : Program} {l : Launch} {e : Env} {s : State} {m : MethodId} {args : Array Value} {below : List Frame} {meth : Method} {c : Code} {dC : Nat → ClassId} {dI : Nat → Nat → Nat} {cA : ClassId} {a : Nat → Nat} {A : Nat → Prop} (hC : tC p s m meth c args b_M_profile 7 (some .int) wsA R_M A) (post : Int32 → tS → Prop) : ∀ n : Nat, ∀ (x1 x2 x4 x5 : Int32) (u : tS) (H : Heap) (locs : List Loc) (ls : Array Slot), w_M_profile_23 post n x1 x2 x4 x5 u → tX (dC, dI) twCl [(cA, .int)] A s H locs (wdM a cA u) → lv_has ls 7 [(0, .ref (a 0)), (1, .int x1), (2, .int x2), (4, .int x4), (5, .int x5)] → W p l e ({ frames := 6, cells := 0, slots := 0, locals := 134 }) s m args below meth c H locs 0 0 (MQ below (va_Qi post (tB (dC, dI) twCl [(cA, .int)] A (wdM a cA)) A) args s 0 0 A) (F0 m 23 ls []) := by
  obtain ⟨hx, hb, hr, hml, hown, hts, hlocks, hA, hN⟩ := id hC
  intro n
  induction n with
  | zero => intro x1 x2 x4 x5 u H locs ls hw; exact False.elim hw
  | succ n ih =>
    intro x1 x2 x4 x5 u H locs ls hw hI hl
    refine lv_iload hx hb d_M_profile_23 (lv_at hl 4 rfl) ?_
    refine lv_iload hx hb d_M_profile_25 (lv_at hl 3 rfl) ?_
    refine lv_icmp_gt (tgt := 101) hx hb d_M_profile_27 (by decide) (fun hc => ?_) (fun hc => ?_)
    · have hw := hw.1 hc
      refine lv_aload_n hx hb d_M_profile_101 rfl (lv_at hl 0 rfl) ?_
      refine va_get (D := (dC, dI)) (C := R_M) (T := F_M) (N := 22) hx hb hts in_M hown hI.1 hI.2.1 0 (wdM_o0 a cA _) rfl 13 (by decide) (hts _ wA_602) (fun _ h9 => h9) rfl d_M_profile_102 ?_
      exact tr_iret hx hb hr hlocks hI hw d_M_profile_105
    · have hw := hw.2 hc
      refine lv_aload_n hx hb d_M_profile_30 rfl (lv_at hl 0 rfl) ?_
      refine lv_iload_n hx hb d_M_profile_31 rfl (lv_at hl 1 rfl) ?_
      refine lv_iload_n hx hb d_M_profile_32 rfl (lv_at hl 2 rfl) ?_
      refine lv_iload hx hb d_M_profile_33 (lv_at hl 4 rfl) ?_
      refine tr_goi (w := wdM a cA) hI hA (va_runV (As := [.int x1, .int x2, .int x5]) (rest := []) ⟨hx, hb, hml, hown, hts⟩ (c_M_found l dC dI cA a _ _ _ _ _ _) (cwV 3 hts (wsA_goodV wA_707 wA_709 wA_14 wA_40 wA_710) rfl rfl rfl (by decide +kernel) ⟨Nat.le_of_ble_eq_true rfl, Nat.le_of_ble_eq_true rfl⟩) (tr_preV (ci := 9) (q0 := 0) hI rfl (wdM_o0 a cA _) rfl hN hw) rfl rfl hl.1 rfl (lv_room (Nat.le_of_ble_eq_true rfl)) d_M_profile_35 ⟨Nat.zero_le _, Nat.zero_le _⟩) (fun r35 u35 H locs hw hI => ?_)
      refine lv_istore (lv' := [(6, .int r35), (0, .ref (a 0)), (1, .int x1), (2, .int x2), (4, .int x4), (5, .int x5)]) hx hb d_M_profile_38 hl (by decide) rfl (fun ls hl => ?_)
      refine lv_aload_n hx hb d_M_profile_40 rfl (lv_at hl 1 rfl) ?_
      refine va_get (D := (dC, dI)) (C := R_M) (T := F_M) (N := 22) hx hb hts in_M hown hI.1 hI.2.1 0 (wdM_o0 a cA _) rfl 13 (by decide) (hts _ wA_602) (fun _ h9 => h9) rfl d_M_profile_41 ?_
      refine lv_if_eq (tgt := 63) hx hb d_M_profile_44 (by decide) (fun hc => ?_) (fun hc => ?_)
      · have hw := hw.1 hc
        exact k_M_profile_63 hC post _ ih _ _ _ _ _ _ _ _ ls hw hI (lv_sub hl [1, 2, 3, 4, 5, 0] rfl)
      · have hw := hw.2 hc
        refine lv_aload_n hx hb d_M_profile_47 rfl (lv_at hl 1 rfl) ?_
        refine va_get (D := (dC, dI)) (C := R_M) (T := F_M) (N := 22) hx hb hts in_M hown hI.1 hI.2.1 0 (wdM_o0 a cA _) rfl 15 (by decide) (hts _ wA_604) (fun _ h9 => h9) rfl d_M_profile_48 ?_
        refine lv_aload_n hx hb d_M_profile_51 rfl (lv_at hl 1 rfl) ?_
        refine va_get (D := (dC, dI)) (C := R_M) (T := F_M) (N := 22) hx hb hts in_M hown hI.1 hI.2.1 0 (wdM_o0 a cA _) rfl 13 (by decide) (hts _ wA_602) (fun _ h9 => h9) rfl d_M_profile_52 ?_
        refine lv_iconst (v := 1) hx hb d_M_profile_55 (by decide) ?_
        refine lv_isub hx hb d_M_profile_56 ?_
        obtain ⟨hi, hw⟩ := hw
        refine va_iald (D := (dC, dI)) hx hb hI.1 hI.2.1 12 0 (wdM_o12 a cA _) rfl hi d_M_profile_57 ?_
        refine lv_iload hx hb d_M_profile_58 (lv_at hl 0 rfl) ?_
        refine lv_icmp_eq (tgt := 95) hx hb d_M_profile_60 (by decide) (fun hc => ?_) (fun hc => ?_)
        · have hw := hw.1 hc
          refine lv_iinc (v := (x5 + 1)) (lv' := [(5, .int (x5 + 1)), (6, .int r35), (0, .ref (a 0)), (1, .int x1), (2, .int x2), (4, .int x4)]) hx hb d_M_profile_95 hl (k := 5) rfl rfl (by decide) rfl (fun ls hl => ?_)
          refine lv_goto (tgt := 23) hx hb d_M_profile_98 (by decide) ?_
          exact ih _ _ _ _ _ _ _ ls hw hI (lv_sub hl [2, 3, 4, 5, 0] rfl)
        · have hw := hw.2 hc
          exact k_M_profile_63 hC post _ ih _ _ _ _ _ _ _ _ ls hw hI (lv_sub hl [1, 2, 3, 4, 5, 0] rfl)
set_option maxRecDepth 100000 in
set_option maxHeartbeats 4000000 in
theorem c_M_profile (l : Launch) (dC : Nat → ClassId) (dI : Nat → Nat → Nat) (cA : ClassId) (a : Nat → Nat) (u : tS) (x1 : Int32) (x2 : Int32) (x3 : Int32) (x4 : Int32) (post : Int32 → tS → Prop) (sz : Nat) : Met l y_M_profile ws_M_profile ({ frames := 6, cells := 0, slots := 0, locals := 134 }) (va_Pc [.ref (a 0), .int x1, .int x2, .int x3, .int x4] (tP (dC, dI) twCl [(cA, .int)] (wdM a cA) u sz (w_M_profile post x1 x2 x3 x4 u))) (va_Qi post (tB (dC, dI) twCl [(cA, .int)] (va_A (wdM a cA u) sz) (wdM a cA)) (va_A (wdM a cA u) sz)) 0 0 (va_A (wdM a cA u) sz) := by
  refine Met.ofW (cc := b_M_profile) (maxL := 7) (ret := (some .int)) (by decide) rfl ?_
  intro p e s m args below meth c s₁ B hml hv
  obtain ⟨rfl, hsz, hP, hK, hD0, hN, hw⟩ := hv
  have hx := B.exec
  have hb := B.bytes
  have hr := B.returns
  have hts : ∀ w ∈ wsA, w.before _ s = true := fun w h => atoms_spec (ws := ws_M_profile) B.pre w (List.mem_cons_of_mem _ h)
  have hown : s.vm.findClass R_M = some m.cls := findClass_of_methodNamed B.named
  have hlocks := B.notSynchronized
  subst hsz
  have hD := hD0.self (sz := s.heap.size)
  generalize hAe : va_A (wdM a cA u) s.heap.size = A at hD ⊢
  have hA : ∀ q : Nat, s.heap.size ≤ q → A q := fun q h => by rw [← hAe]; exact Or.inr h
  have hS : va_S A s.heap s.heap [] := va_S.rf
  have hI : tX (dC, dI) twCl [(cA, .int)] A s s.heap [] (wdM a cA u) := ⟨hK, hP, hD, hS⟩
  have hC : tC p s m meth c ([.ref (a 0), .int x1, .int x2, .int x3, .int x4] : List Value).toArray b_M_profile 7 (some .int) wsA R_M A := ⟨hx, hb, hr, hml, hown, hts, hlocks, hA, hN⟩
  have hl := lv_entry ([.ref (a 0), .int x1, .int x2, .int x3, .int x4]) (n := 7) (Nat.le_of_ble_eq_true rfl)
  rw [lg_entry_eq]
  generalize (lg_sl ([.ref (a 0), .int x1, .int x2, .int x3, .int x4]) ++ List.replicate (7 - (lg_sl ([.ref (a 0), .int x1, .int x2, .int x3, .int x4])).length) Slot.unset).toArray = ls at hl ⊢
  have hl : lv_has ls 7 [(0, .ref (a 0)), (1, .int x1), (2, .int x2), (3, .int x3), (4, .int x4)] := hl
  have hw : (w_M_isSpan (fun r6 u6 => ((r6 = 0 → (post (-2) u6)) ∧ (¬ r6 = 0 → (∃ k, w_M_profile_23 post k x1 x2 x4 x3 (tI u6 3 0))))) x1 x2 x3 x4 u) := hw
  refine lv_aload_n hx hb d_M_profile_0 rfl (lv_at hl 0 rfl) ?_
  refine lv_iload_n hx hb d_M_profile_1 rfl (lv_at hl 1 rfl) ?_
  refine lv_iload_n hx hb d_M_profile_2 rfl (lv_at hl 2 rfl) ?_
  refine lv_iload_n hx hb d_M_profile_3 rfl (lv_at hl 3 rfl) ?_
  refine lv_iload hx hb d_M_profile_4 (lv_at hl 4 rfl) ?_
  refine tr_goi (w := wdM a cA) hI hA (va_runV (As := [.int x1, .int x2, .int x3, .int x4]) (rest := []) ⟨hx, hb, hml, hown, hts⟩ (c_M_isSpan l dC dI cA a _ _ _ _ _ _ _) (cwV 4 hts (wsA_goodV wA_764 wA_766 wA_25 wA_40 wA_767) rfl rfl rfl (by decide +kernel) ⟨Nat.le_of_ble_eq_true rfl, Nat.le_of_ble_eq_true rfl⟩) (tr_preV (ci := 9) (q0 := 0) hI rfl (wdM_o0 a cA _) rfl hN hw) rfl rfl hl.1 rfl (lv_room (Nat.le_of_ble_eq_true rfl)) d_M_profile_6 ⟨Nat.zero_le _, Nat.zero_le _⟩) (fun r6 u6 H locs hw hI => ?_)
  refine lv_if_ne (tgt := 15) hx hb d_M_profile_9 (by decide) (fun hc => ?_) (fun hc => ?_)
  · have hw := hw.2 hc
    refine lv_aload_n hx hb d_M_profile_15 rfl (lv_at hl 0 rfl) ?_
    refine lv_iconst (v := 0) hx hb d_M_profile_16 (by decide) ?_
    refine tr_put (C := R_M) (T := F_M) (N := 22) (w := wdM a cA) hx hb hts in_M ft_M ft_M_ok fn_M hown hI 0 3 (wdM_o0 a cA _) rfl 13 (by decide) (hts _ wA_602) rfl (by decide +kernel) (Nat.le_of_ble_eq_true rfl) (wdM_i3 a cA _ _) d_M_profile_17 (fun H locs hI => ?_)
    refine lv_iload_n hx hb d_M_profile_20 rfl (lv_at hl 3 rfl) ?_
    refine lv_istore (lv' := [(5, .int x3), (0, .ref (a 0)), (1, .int x1), (2, .int x2), (3, .int x3), (4, .int x4)]) hx hb d_M_profile_21 hl (by decide) rfl (fun ls hl => ?_)
    obtain ⟨k, hw⟩ := hw
    exact k_M_profile_23 hC post k _ _ _ _ _ _ _ ls hw hI (lv_sub hl [1, 2, 3, 5, 0] rfl)
  · have hw := hw.1 hc
    refine lv_bipush (v := (-2)) hx hb d_M_profile_12 (by decide) ?_
    exact tr_iret hx hb hr hlocks hI hw d_M_profile_14
def w_M_step (post : Int32 → tS → Prop) (x1 : Int32) (x2 : Int32) (u : tS) : Prop := (w_M_isIn (fun r8 u8 => ((r8 = 0 → (post (-2) u8)) ∧ (¬ r8 = 0 → (w_M_isIn (fun r17 u17 => ((r17 = 0 → (post (-2) u17)) ∧ (¬ r17 = 0 → ((x2 = 0 → (vp_in x1 601 ∧ (post (u17.2 10 x1.toNatClampNeg) u17))) ∧ (¬ x2 = 0 → (vp_in x1 601 ∧ (post (u17.2 11 x1.toNatClampNeg) u17))))))) x2 0 1 u8)))) x1 0 ((u.1 3) - 1) u)
set_option maxRecDepth 100000 in
set_option maxHeartbeats 4000000 in
theorem c_M_step (l : Launch) (dC : Nat → ClassId) (dI : Nat → Nat → Nat) (cA : ClassId) (a : Nat → Nat) (u : tS) (x1 : Int32) (x2 : Int32) (post : Int32 → tS → Prop) (sz : Nat) : Met l y_M_step ws_M_step ({ frames := 1, cells := 0, slots := 0, locals := 22 }) (va_Pc [.ref (a 0), .int x1, .int x2] (tP (dC, dI) twCl [(cA, .int)] (wdM a cA) u sz (w_M_step post x1 x2 u))) (va_Qi post (tB (dC, dI) twCl [(cA, .int)] (va_A (wdM a cA u) sz) (wdM a cA)) (va_A (wdM a cA u) sz)) 0 0 (va_A (wdM a cA u) sz) := by
  refine Met.ofW (cc := b_M_step) (maxL := 3) (ret := (some .int)) (by decide) rfl ?_
  intro p e s m args below meth c s₁ B hml hv
  obtain ⟨rfl, hsz, hP, hK, hD0, hN, hw⟩ := hv
  have hx := B.exec
  have hb := B.bytes
  have hr := B.returns
  have hts : ∀ w ∈ wsA, w.before _ s = true := fun w h => atoms_spec (ws := ws_M_step) B.pre w (List.mem_cons_of_mem _ h)
  have hown : s.vm.findClass R_M = some m.cls := findClass_of_methodNamed B.named
  have hlocks := B.notSynchronized
  subst hsz
  have hD := hD0.self (sz := s.heap.size)
  generalize hAe : va_A (wdM a cA u) s.heap.size = A at hD ⊢
  have hA : ∀ q : Nat, s.heap.size ≤ q → A q := fun q h => by rw [← hAe]; exact Or.inr h
  have hS : va_S A s.heap s.heap [] := va_S.rf
  have hI : tX (dC, dI) twCl [(cA, .int)] A s s.heap [] (wdM a cA u) := ⟨hK, hP, hD, hS⟩
  have hC : tC p s m meth c ([.ref (a 0), .int x1, .int x2] : List Value).toArray b_M_step 3 (some .int) wsA R_M A := ⟨hx, hb, hr, hml, hown, hts, hlocks, hA, hN⟩
  have hl := lv_entry ([.ref (a 0), .int x1, .int x2]) (n := 3) (Nat.le_of_ble_eq_true rfl)
  rw [lg_entry_eq]
  generalize (lg_sl ([.ref (a 0), .int x1, .int x2]) ++ List.replicate (3 - (lg_sl ([.ref (a 0), .int x1, .int x2])).length) Slot.unset).toArray = ls at hl ⊢
  have hl : lv_has ls 3 [(0, .ref (a 0)), (1, .int x1), (2, .int x2)] := hl
  have hw : (w_M_isIn (fun r8 u8 => ((r8 = 0 → (post (-2) u8)) ∧ (¬ r8 = 0 → (w_M_isIn (fun r17 u17 => ((r17 = 0 → (post (-2) u17)) ∧ (¬ r17 = 0 → ((x2 = 0 → (vp_in x1 601 ∧ (post (u17.2 10 x1.toNatClampNeg) u17))) ∧ (¬ x2 = 0 → (vp_in x1 601 ∧ (post (u17.2 11 x1.toNatClampNeg) u17))))))) x2 0 1 u8)))) x1 0 ((u.1 3) - 1) u) := hw
  refine lv_iload_n hx hb d_M_step_0 rfl (lv_at hl 1 rfl) ?_
  refine lv_iconst (v := 0) hx hb d_M_step_1 (by decide) ?_
  refine lv_aload_n hx hb d_M_step_2 rfl (lv_at hl 0 rfl) ?_
  refine va_get (D := (dC, dI)) (C := R_M) (T := F_M) (N := 22) hx hb hts in_M hown hI.1 hI.2.1 0 (wdM_o0 a cA _) rfl 13 (by decide) (hts _ wA_602) (fun _ h9 => h9) rfl d_M_step_3 ?_
  refine lv_iconst (v := 1) hx hb d_M_step_6 (by decide) ?_
  refine lv_isub hx hb d_M_step_7 ?_
  refine tr_goi (w := wdM a cA) hI hA (va_runS (As := [.int x1, .int 0, .int ((u.1 3) - 1)]) (rest := []) ⟨hx, hb, hml, hown, hts⟩ (c_M_isIn l dC dI cA a _ _ _ _ _ _) ⟨callB_of 3 hts (wsA_good wA_666) rfl rfl rfl (hts _ wA_40) (hts _ wA_664) (by decide +kernel) ⟨Nat.le_of_ble_eq_true rfl, Nat.le_of_ble_eq_true rfl⟩, hts _ wA_665⟩ (tr_preS hI hN hw) rfl rfl hl.1 rfl (lv_room (Nat.le_of_ble_eq_true rfl)) d_M_step_8 ⟨Nat.zero_le _, Nat.zero_le _⟩) (fun r8 u8 H locs hw hI => ?_)
  refine lv_if_eq (tgt := 23) hx hb d_M_step_11 (by decide) (fun hc => ?_) (fun hc => ?_)
  · have hw := hw.1 hc
    refine lv_bipush (v := (-2)) hx hb d_M_step_23 (by decide) ?_
    exact tr_iret hx hb hr hlocks hI hw d_M_step_25
  · have hw := hw.2 hc
    refine lv_iload_n hx hb d_M_step_14 rfl (lv_at hl 2 rfl) ?_
    refine lv_iconst (v := 0) hx hb d_M_step_15 (by decide) ?_
    refine lv_iconst (v := 1) hx hb d_M_step_16 (by decide) ?_
    refine tr_goi (w := wdM a cA) hI hA (va_runS (As := [.int x2, .int 0, .int 1]) (rest := []) ⟨hx, hb, hml, hown, hts⟩ (c_M_isIn l dC dI cA a _ _ _ _ _ _) ⟨callB_of 3 hts (wsA_good wA_666) rfl rfl rfl (hts _ wA_40) (hts _ wA_664) (by decide +kernel) ⟨Nat.le_of_ble_eq_true rfl, Nat.le_of_ble_eq_true rfl⟩, hts _ wA_665⟩ (tr_preS hI hN hw) rfl rfl hl.1 rfl (lv_room (Nat.le_of_ble_eq_true rfl)) d_M_step_17 ⟨Nat.zero_le _, Nat.zero_le _⟩) (fun r17 u17 H locs hw hI => ?_)
    refine lv_if_ne (tgt := 26) hx hb d_M_step_20 (by decide) (fun hc => ?_) (fun hc => ?_)
    · have hw := hw.2 hc
      refine lv_iload_n hx hb d_M_step_26 rfl (lv_at hl 2 rfl) ?_
      refine lv_if_ne (tgt := 39) hx hb d_M_step_27 (by decide) (fun hc => ?_) (fun hc => ?_)
      · have hw := hw.2 hc
        refine lv_aload_n hx hb d_M_step_39 rfl (lv_at hl 0 rfl) ?_
        refine va_get (D := (dC, dI)) (C := R_M) (T := F_M) (N := 22) hx hb hts in_M hown hI.1 hI.2.1 0 (wdM_o0 a cA _) rfl 15 (by decide) (hts _ wA_604) (fun _ h9 => h9) rfl d_M_step_40 ?_
        refine lv_iload_n hx hb d_M_step_43 rfl (lv_at hl 1 rfl) ?_
        obtain ⟨hi, hw⟩ := hw
        refine va_iald (D := (dC, dI)) hx hb hI.1 hI.2.1 12 0 (wdM_o12 a cA _) rfl hi d_M_step_44 ?_
        exact tr_iret hx hb hr hlocks hI hw d_M_step_45
      · have hw := hw.1 hc
        refine lv_aload_n hx hb d_M_step_30 rfl (lv_at hl 0 rfl) ?_
        refine va_get (D := (dC, dI)) (C := R_M) (T := F_M) (N := 22) hx hb hts in_M hown hI.1 hI.2.1 0 (wdM_o0 a cA _) rfl 14 (by decide) (hts _ wA_603) (fun _ h9 => h9) rfl d_M_step_31 ?_
        refine lv_iload_n hx hb d_M_step_34 rfl (lv_at hl 1 rfl) ?_
        obtain ⟨hi, hw⟩ := hw
        refine va_iald (D := (dC, dI)) hx hb hI.1 hI.2.1 11 0 (wdM_o11 a cA _) rfl hi d_M_step_35 ?_
        refine lv_goto (tgt := 45) hx hb d_M_step_36 (by decide) ?_
        exact tr_iret hx hb hr hlocks hI hw d_M_step_45
    · have hw := hw.1 hc
      refine lv_bipush (v := (-2)) hx hb d_M_step_23 (by decide) ?_
      exact tr_iret hx hb hr hlocks hI hw d_M_step_25
def w_M_reach_45 (post : Int32 → tS → Prop) : Nat → Int32 → Int32 → Int32 → tS → Prop
  | 0 => fun _ _ _ _ => False
  | n + 1 => fun x3 x4 x5 u => (((u.1 0) ≤ x5 → (post x4 u)) ∧ (¬ (u.1 0) ≤ x5 → (w_M_arrival (fun r59 u59 => ((x3 < r59 → (w_M_reach_45 post n x3 (x4 ||| 0) (x5 + 1) u59)) ∧ (¬ x3 < r59 → (w_M_reach_45 post n x3 (x4 ||| (1 <<< (x5 &&& 31))) (x5 + 1) u59)))) x5 u)))
def w_M_reach (post : Int32 → tS → Prop) (x1 : Int32) (x2 : Int32) (x3 : Int32) (u : tS) : Prop := (w_M_isStop (fun r2 u2 => ((r2 = 0 → (post (-2) u2)) ∧ (¬ r2 = 0 → (w_M_isIn (fun r13 u13 => ((r13 = 0 → (post (-2) u13)) ∧ (¬ r13 = 0 → (w_M_isIn (fun r24 u24 => ((r24 = 0 → (post (-2) u24)) ∧ (¬ r24 = 0 → (w_M_find (fun u36 => (∃ k, w_M_reach_45 post k x3 0 0 u36)) x1 x2 u24)))) x3 0 20000 u13)))) x2 0 10079 u2)))) x1 u)
set_option maxRecDepth 100000 in
set_option maxHeartbeats 4000000 in
theorem k_M_reach_45 {p : Program} {l : Launch} {e : Env} {s : State} {m : MethodId} {args : Array Value} {below : List Frame} {meth : Method} {c : Code} {dC : Nat → ClassId} {dI : Nat → Nat → Nat} {cA : ClassId} {a : Nat → Nat} {A : Nat → Prop} (hC : tC p s m meth c args b_M_reach 6 (some .int) wsA R_M A) (post : Int32 → tS → Prop) : ∀ n : Nat, ∀ (x3 x4 x5 : Int32) (u : tS) (H : Heap) (locs : List Loc) (ls : Array Slot), w_M_reach_45 post n x3 x4 x5 u → tX (dC, dI) twCl [(cA, .int)] A s H locs (wdM a cA u) → lv_has ls 6 [(0, .ref (a 0)), (3, .int x3), (4, .int x4), (5, .int x5)] → W p l e ({ frames := 5, cells := 0, slots := 0, locals := 111 }) s m args below meth c H locs 0 0 (MQ below (va_Qi post (tB (dC, dI) twCl [(cA, .int)] A (wdM a cA)) A) args s 0 0 A) (F0 m 45 ls []) := by
  obtain ⟨hx, hb, hr, hml, hown, hts, hlocks, hA, hN⟩ := id hC
  intro n
  induction n with
  | zero => intro x3 x4 x5 u H locs ls hw; exact False.elim hw
  | succ n ih =>
    intro x3 x4 x5 u H locs ls hw hI hl
    refine lv_iload hx hb d_M_reach_45 (lv_at hl 3 rfl) ?_
    refine lv_aload_n hx hb d_M_reach_47 rfl (lv_at hl 0 rfl) ?_
    refine va_get (D := (dC, dI)) (C := R_M) (T := F_M) (N := 22) hx hb hts in_M hown hI.1 hI.2.1 0 (wdM_o0 a cA _) rfl 0 (by decide) (hts _ wA_589) (fun _ h9 => h9) rfl d_M_reach_48 ?_
    refine lv_icmp_ge (tgt := 83) hx hb d_M_reach_51 (by decide) (fun hc => ?_) (fun hc => ?_)
    · have hw := hw.1 hc
      refine lv_iload hx hb d_M_reach_83 (lv_at hl 2 rfl) ?_
      exact tr_iret hx hb hr hlocks hI hw d_M_reach_85
    · have hw := hw.2 hc
      refine lv_iload hx hb d_M_reach_54 (lv_at hl 2 rfl) ?_
      refine lv_aload_n hx hb d_M_reach_56 rfl (lv_at hl 0 rfl) ?_
      refine lv_iload hx hb d_M_reach_57 (lv_at hl 3 rfl) ?_
      refine tr_goi (w := wdM a cA) hI hA (va_runV (As := [.int x5]) (rest := [.int x4]) ⟨hx, hb, hml, hown, hts⟩ (c_M_arrival l dC dI cA a _ _ _ _) (cwV 1 hts (wsA_goodV wA_724 wA_726 wA_18 wA_40 wA_727) rfl rfl rfl (by decide +kernel) ⟨Nat.le_of_ble_eq_true rfl, Nat.le_of_ble_eq_true rfl⟩) (tr_preV (ci := 9) (q0 := 0) hI rfl (wdM_o0 a cA _) rfl hN hw) rfl rfl hl.1 rfl (lv_room (Nat.le_of_ble_eq_true rfl)) d_M_reach_59 ⟨Nat.zero_le _, Nat.zero_le _⟩) (fun r59 u59 H locs hw hI => ?_)
      refine lv_iload_n hx hb d_M_reach_62 rfl (lv_at hl 1 rfl) ?_
      refine lv_icmp_gt (tgt := 73) hx hb d_M_reach_63 (by decide) (fun hc => ?_) (fun hc => ?_)
      · have hw := hw.1 hc
        refine lv_iconst (v := 0) hx hb d_M_reach_73 (by decide) ?_
        refine lv_ior hx hb d_M_reach_74 ?_
        refine lv_istore (lv' := [(4, .int (x4 ||| 0)), (0, .ref (a 0)), (3, .int x3), (5, .int x5)]) hx hb d_M_reach_75 hl (by decide) rfl (fun ls hl => ?_)
        refine lv_iinc (v := (x5 + 1)) (lv' := [(5, .int (x5 + 1)), (4, .int (x4 ||| 0)), (0, .ref (a 0)), (3, .int x3)]) hx hb d_M_reach_77 hl (k := 3) rfl rfl (by decide) rfl (fun ls hl => ?_)
        refine lv_goto (tgt := 45) hx hb d_M_reach_80 (by decide) ?_
        exact ih _ _ _ _ _ _ ls hw hI (lv_sub hl [2, 3, 1, 0] rfl)
      · have hw := hw.2 hc
        refine lv_iconst (v := 1) hx hb d_M_reach_66 (by decide) ?_
        refine lv_iload hx hb d_M_reach_67 (lv_at hl 3 rfl) ?_
        refine lv_ishl hx hb d_M_reach_69 ?_
        refine lv_goto (tgt := 74) hx hb d_M_reach_70 (by decide) ?_
        refine lv_ior hx hb d_M_reach_74 ?_
        refine lv_istore (lv' := [(4, .int (x4 ||| (1 <<< (x5 &&& 31)))), (0, .ref (a 0)), (3, .int x3), (5, .int x5)]) hx hb d_M_reach_75 hl (by decide) rfl (fun ls hl => ?_)
        refine lv_iinc (v := (x5 + 1)) (lv' := [(5, .int (x5 + 1)), (4, .int (x4 ||| (1 <<< (x5 &&& 31)))), (0, .ref (a 0)), (3, .int x3)]) hx hb d_M_reach_77 hl (k := 3) rfl rfl (by decide) rfl (fun ls hl => ?_)
        refine lv_goto (tgt := 45) hx hb d_M_reach_80 (by decide) ?_
        exact ih _ _ _ _ _ _ ls hw hI (lv_sub hl [2, 3, 1, 0] rfl)
set_option maxRecDepth 100000 in
set_option maxHeartbeats 4000000 in
theorem c_M_reach (l : Launch) (dC : Nat → ClassId) (dI : Nat → Nat → Nat) (cA : ClassId) (a : Nat → Nat) (u : tS) (x1 : Int32) (x2 : Int32) (x3 : Int32) (post : Int32 → tS → Prop) (sz : Nat) : Met l y_M_reach ws_M_reach ({ frames := 5, cells := 0, slots := 0, locals := 111 }) (va_Pc [.ref (a 0), .int x1, .int x2, .int x3] (tP (dC, dI) twCl [(cA, .int)] (wdM a cA) u sz (w_M_reach post x1 x2 x3 u))) (va_Qi post (tB (dC, dI) twCl [(cA, .int)] (va_A (wdM a cA u) sz) (wdM a cA)) (va_A (wdM a cA u) sz)) 0 0 (va_A (wdM a cA u) sz) := by
  refine Met.ofW (cc := b_M_reach) (maxL := 6) (ret := (some .int)) (by decide) rfl ?_
  intro p e s m args below meth c s₁ B hml hv
  obtain ⟨rfl, hsz, hP, hK, hD0, hN, hw⟩ := hv
  have hx := B.exec
  have hb := B.bytes
  have hr := B.returns
  have hts : ∀ w ∈ wsA, w.before _ s = true := fun w h => atoms_spec (ws := ws_M_reach) B.pre w (List.mem_cons_of_mem _ h)
  have hown : s.vm.findClass R_M = some m.cls := findClass_of_methodNamed B.named
  have hlocks := B.notSynchronized
  subst hsz
  have hD := hD0.self (sz := s.heap.size)
  generalize hAe : va_A (wdM a cA u) s.heap.size = A at hD ⊢
  have hA : ∀ q : Nat, s.heap.size ≤ q → A q := fun q h => by rw [← hAe]; exact Or.inr h
  have hS : va_S A s.heap s.heap [] := va_S.rf
  have hI : tX (dC, dI) twCl [(cA, .int)] A s s.heap [] (wdM a cA u) := ⟨hK, hP, hD, hS⟩
  have hC : tC p s m meth c ([.ref (a 0), .int x1, .int x2, .int x3] : List Value).toArray b_M_reach 6 (some .int) wsA R_M A := ⟨hx, hb, hr, hml, hown, hts, hlocks, hA, hN⟩
  have hl := lv_entry ([.ref (a 0), .int x1, .int x2, .int x3]) (n := 6) (Nat.le_of_ble_eq_true rfl)
  rw [lg_entry_eq]
  generalize (lg_sl ([.ref (a 0), .int x1, .int x2, .int x3]) ++ List.replicate (6 - (lg_sl ([.ref (a 0), .int x1, .int x2, .int x3])).length) Slot.unset).toArray = ls at hl ⊢
  have hl : lv_has ls 6 [(0, .ref (a 0)), (1, .int x1), (2, .int x2), (3, .int x3)] := hl
  have hw : (w_M_isStop (fun r2 u2 => ((r2 = 0 → (post (-2) u2)) ∧ (¬ r2 = 0 → (w_M_isIn (fun r13 u13 => ((r13 = 0 → (post (-2) u13)) ∧ (¬ r13 = 0 → (w_M_isIn (fun r24 u24 => ((r24 = 0 → (post (-2) u24)) ∧ (¬ r24 = 0 → (w_M_find (fun u36 => (∃ k, w_M_reach_45 post k x3 0 0 u36)) x1 x2 u24)))) x3 0 20000 u13)))) x2 0 10079 u2)))) x1 u) := hw
  refine lv_aload_n hx hb d_M_reach_0 rfl (lv_at hl 0 rfl) ?_
  refine lv_iload_n hx hb d_M_reach_1 rfl (lv_at hl 1 rfl) ?_
  refine tr_goi (w := wdM a cA) hI hA (va_runV (As := [.int x1]) (rest := []) ⟨hx, hb, hml, hown, hts⟩ (c_M_isStop l dC dI cA a _ _ _ _) (cwV 1 hts (wsA_goodV wA_671 wA_673 wA_9 wA_40 wA_674) rfl rfl rfl (by decide +kernel) ⟨Nat.le_of_ble_eq_true rfl, Nat.le_of_ble_eq_true rfl⟩) (tr_preV (ci := 9) (q0 := 0) hI rfl (wdM_o0 a cA _) rfl hN hw) rfl rfl hl.1 rfl (lv_room (Nat.le_of_ble_eq_true rfl)) d_M_reach_2 ⟨Nat.zero_le _, Nat.zero_le _⟩) (fun r2 u2 H locs hw hI => ?_)
  refine lv_if_eq (tgt := 30) hx hb d_M_reach_5 (by decide) (fun hc => ?_) (fun hc => ?_)
  · have hw := hw.1 hc
    refine lv_bipush (v := (-2)) hx hb d_M_reach_30 (by decide) ?_
    exact tr_iret hx hb hr hlocks hI hw d_M_reach_32
  · have hw := hw.2 hc
    refine lv_iload_n hx hb d_M_reach_8 rfl (lv_at hl 2 rfl) ?_
    refine lv_iconst (v := 0) hx hb d_M_reach_9 (by decide) ?_
    refine lv_sipush (v := 10079) hx hb d_M_reach_10 (by decide) ?_
    refine tr_goi (w := wdM a cA) hI hA (va_runS (As := [.int x2, .int 0, .int 10079]) (rest := []) ⟨hx, hb, hml, hown, hts⟩ (c_M_isIn l dC dI cA a _ _ _ _ _ _) ⟨callB_of 3 hts (wsA_good wA_666) rfl rfl rfl (hts _ wA_40) (hts _ wA_664) (by decide +kernel) ⟨Nat.le_of_ble_eq_true rfl, Nat.le_of_ble_eq_true rfl⟩, hts _ wA_665⟩ (tr_preS hI hN hw) rfl rfl hl.1 rfl (lv_room (Nat.le_of_ble_eq_true rfl)) d_M_reach_13 ⟨Nat.zero_le _, Nat.zero_le _⟩) (fun r13 u13 H locs hw hI => ?_)
    refine lv_if_eq (tgt := 30) hx hb d_M_reach_16 (by decide) (fun hc => ?_) (fun hc => ?_)
    · have hw := hw.1 hc
      refine lv_bipush (v := (-2)) hx hb d_M_reach_30 (by decide) ?_
      exact tr_iret hx hb hr hlocks hI hw d_M_reach_32
    · have hw := hw.2 hc
      refine lv_iload_n hx hb d_M_reach_19 rfl (lv_at hl 3 rfl) ?_
      refine lv_iconst (v := 0) hx hb d_M_reach_20 (by decide) ?_
      refine lv_sipush (v := 20000) hx hb d_M_reach_21 (by decide) ?_
      refine tr_goi (w := wdM a cA) hI hA (va_runS (As := [.int x3, .int 0, .int 20000]) (rest := []) ⟨hx, hb, hml, hown, hts⟩ (c_M_isIn l dC dI cA a _ _ _ _ _ _) ⟨callB_of 3 hts (wsA_good wA_666) rfl rfl rfl (hts _ wA_40) (hts _ wA_664) (by decide +kernel) ⟨Nat.le_of_ble_eq_true rfl, Nat.le_of_ble_eq_true rfl⟩, hts _ wA_665⟩ (tr_preS hI hN hw) rfl rfl hl.1 rfl (lv_room (Nat.le_of_ble_eq_true rfl)) d_M_reach_24 ⟨Nat.zero_le _, Nat.zero_le _⟩) (fun r24 u24 H locs hw hI => ?_)
      refine lv_if_ne (tgt := 33) hx hb d_M_reach_27 (by decide) (fun hc => ?_) (fun hc => ?_)
      · have hw := hw.2 hc
        refine lv_aload_n hx hb d_M_reach_33 rfl (lv_at hl 0 rfl) ?_
        refine lv_iload_n hx hb d_M_reach_34 rfl (lv_at hl 1 rfl) ?_
        refine lv_iload_n hx hb d_M_reach_35 rfl (lv_at hl 2 rfl) ?_
        refine tr_gov (w := wdM a cA) hI hA (va_runV (As := [.int x1, .int x2]) (rest := []) ⟨hx, hb, hml, hown, hts⟩ (c_M_find l dC dI cA a _ _ _ _ _) (cwV 2 hts (wsA_goodV wA_711 wA_713 wA_15 wA_40 wA_714) rfl rfl rfl (by decide +kernel) ⟨Nat.le_of_ble_eq_true rfl, Nat.le_of_ble_eq_true rfl⟩) (tr_preV (ci := 9) (q0 := 0) hI rfl (wdM_o0 a cA _) rfl hN hw) rfl rfl hl.1 rfl (lv_room (Nat.le_of_ble_eq_true rfl)) d_M_reach_36 ⟨Nat.zero_le _, Nat.zero_le _⟩) (fun u36 H locs hw hI => ?_)
        refine lv_iconst (v := 0) hx hb d_M_reach_39 (by decide) ?_
        refine lv_istore (lv' := [(4, .int 0), (0, .ref (a 0)), (1, .int x1), (2, .int x2), (3, .int x3)]) hx hb d_M_reach_40 hl (by decide) rfl (fun ls hl => ?_)
        refine lv_iconst (v := 0) hx hb d_M_reach_42 (by decide) ?_
        refine lv_istore (lv' := [(5, .int 0), (4, .int 0), (0, .ref (a 0)), (1, .int x1), (2, .int x2), (3, .int x3)]) hx hb d_M_reach_43 hl (by decide) rfl (fun ls hl => ?_)
        obtain ⟨k, hw⟩ := hw
        exact k_M_reach_45 hC post k _ _ _ _ _ _ ls hw hI (lv_sub hl [2, 5, 1, 0] rfl)
      · have hw := hw.1 hc
        refine lv_bipush (v := (-2)) hx hb d_M_reach_30 (by decide) ?_
        exact tr_iret hx hb hr hlocks hI hw d_M_reach_32
def w_M_departureBefore_2 (post : Int32 → tS → Prop) : Nat → Int32 → Int32 → tS → Prop
  | 0 => fun _ _ _ => False
  | n + 1 => fun x1 x2 u => (vp_in (x2 / 7) 40 ∧ (((u.2 2 (x2 / 7).toNatClampNeg) = x1 → (w_M_mayTake (fun r24 u24 => ((r24 = 0 → (w_M_departureBefore_2 post n x1 (x2 + 1) u24)) ∧ (¬ r24 = 0 → (w_M_arrives (fun r39 u39 => (vp_in x1 12 ∧ ((r39 = (u39.2 13 x1.toNatClampNeg) → (post x2 u39)) ∧ (¬ r39 = (u39.2 13 x1.toNatClampNeg) → (w_M_departureBefore_2 post n x1 (x2 + 1) u39))))) (x2 / 7) (x2 - x2 / 7 * 7) u24)))) (x2 / 7) (x2 - x2 / 7 * 7) u)) ∧ (¬ (u.2 2 (x2 / 7).toNatClampNeg) = x1 → (w_M_departureBefore_2 post n x1 (x2 + 1) u))))
def w_M_departureBefore (post : Int32 → tS → Prop) (x1 : Int32) (u : tS) : Prop := (∃ k, w_M_departureBefore_2 post k x1 0 u)
set_option maxRecDepth 100000 in
set_option maxHeartbeats 4000000 in
theorem k_M_departureBefore_2 {p : Program} {l : Launch} {e : Env} {s : State} {m : MethodId} {args : Array Value} {below : List Frame} {meth : Method} {c : Code} {dC : Nat → ClassId} {dI : Nat → Nat → Nat} {cA : ClassId} {a : Nat → Nat} {A : Nat → Prop} (hC : tC p s m meth c args b_M_departureBefore 3 (some .int) wsA R_M A) (post : Int32 → tS → Prop) : ∀ n : Nat, ∀ (x1 x2 : Int32) (u : tS) (H : Heap) (locs : List Loc) (ls : Array Slot), w_M_departureBefore_2 post n x1 x2 u → tX (dC, dI) twCl [(cA, .int)] A s H locs (wdM a cA u) → lv_has ls 3 [(0, .ref (a 0)), (1, .int x1), (2, .int x2)] → W p l e ({ frames := 3, cells := 0, slots := 0, locals := 67 }) s m args below meth c H locs 0 0 (MQ below (va_Qi post (tB (dC, dI) twCl [(cA, .int)] A (wdM a cA)) A) args s 0 0 A) (F0 m 2 ls []) := by
  obtain ⟨hx, hb, hr, hml, hown, hts, hlocks, hA, hN⟩ := id hC
  intro n
  induction n with
  | zero => intro x1 x2 u H locs ls hw; exact False.elim hw
  | succ n ih =>
    intro x1 x2 u H locs ls hw hI hl
    refine lv_aload_n hx hb d_M_departureBefore_2 rfl (lv_at hl 0 rfl) ?_
    refine va_get (D := (dC, dI)) (C := R_M) (T := F_M) (N := 22) hx hb hts in_M hown hI.1 hI.2.1 0 (wdM_o0 a cA _) rfl 4 (by decide) (hts _ wA_593) (fun _ h9 => h9) rfl d_M_departureBefore_3 ?_
    refine lv_iload_n hx hb d_M_departureBefore_6 rfl (lv_at hl 2 rfl) ?_
    refine lv_bipush (v := 7) hx hb d_M_departureBefore_7 (by decide) ?_
    refine lv_idiv hx hb d_M_departureBefore_9 (by decide) ?_
    obtain ⟨hi, hw⟩ := hw
    refine va_iald (D := (dC, dI)) hx hb hI.1 hI.2.1 3 0 (wdM_o3 a cA _) rfl hi d_M_departureBefore_10 ?_
    refine lv_iload_n hx hb d_M_departureBefore_11 rfl (lv_at hl 1 rfl) ?_
    refine lv_icmp_ne (tgt := 51) hx hb d_M_departureBefore_12 (by decide) (fun hc => ?_) (fun hc => ?_)
    · have hw := hw.2 hc
      refine lv_iinc (v := (x2 + 1)) (lv' := [(2, .int (x2 + 1)), (0, .ref (a 0)), (1, .int x1)]) hx hb d_M_departureBefore_51 hl (k := 2) rfl rfl (by decide) rfl (fun ls hl => ?_)
      refine lv_goto (tgt := 2) hx hb d_M_departureBefore_54 (by decide) ?_
      exact ih _ _ _ _ _ ls hw hI (lv_sub hl [1, 2, 0] rfl)
    · have hw := hw.1 hc
      refine lv_aload_n hx hb d_M_departureBefore_15 rfl (lv_at hl 0 rfl) ?_
      refine lv_iload_n hx hb d_M_departureBefore_16 rfl (lv_at hl 2 rfl) ?_
      refine lv_bipush (v := 7) hx hb d_M_departureBefore_17 (by decide) ?_
      refine lv_idiv hx hb d_M_departureBefore_19 (by decide) ?_
      refine lv_iload_n hx hb d_M_departureBefore_20 rfl (lv_at hl 2 rfl) ?_
      refine lv_bipush (v := 7) hx hb d_M_departureBefore_21 (by decide) ?_
      refine lv_irem hx hb d_M_departureBefore_23 (by decide) ?_
      refine tr_goi (w := wdM a cA) hI hA (va_runV (As := [.int (x2 / 7), .int (x2 - x2 / 7 * 7)]) (rest := []) ⟨hx, hb, hml, hown, hts⟩ (c_M_mayTake l dC dI cA a _ _ _ _ _) (cwV 2 hts (wsA_goodV wA_732 wA_734 wA_20 wA_40 wA_735) rfl rfl rfl (by decide +kernel) ⟨Nat.le_of_ble_eq_true rfl, Nat.le_of_ble_eq_true rfl⟩) (tr_preV (ci := 9) (q0 := 0) hI rfl (wdM_o0 a cA _) rfl hN hw) rfl rfl hl.1 rfl (lv_room (Nat.le_of_ble_eq_true rfl)) d_M_departureBefore_24 ⟨Nat.zero_le _, Nat.zero_le _⟩) (fun r24 u24 H locs hw hI => ?_)
      refine lv_if_eq (tgt := 51) hx hb d_M_departureBefore_27 (by decide) (fun hc => ?_) (fun hc => ?_)
      · have hw := hw.1 hc
        refine lv_iinc (v := (x2 + 1)) (lv' := [(2, .int (x2 + 1)), (0, .ref (a 0)), (1, .int x1)]) hx hb d_M_departureBefore_51 hl (k := 2) rfl rfl (by decide) rfl (fun ls hl => ?_)
        refine lv_goto (tgt := 2) hx hb d_M_departureBefore_54 (by decide) ?_
        exact ih _ _ _ _ _ ls hw hI (lv_sub hl [1, 2, 0] rfl)
      · have hw := hw.2 hc
        refine lv_aload_n hx hb d_M_departureBefore_30 rfl (lv_at hl 0 rfl) ?_
        refine lv_iload_n hx hb d_M_departureBefore_31 rfl (lv_at hl 2 rfl) ?_
        refine lv_bipush (v := 7) hx hb d_M_departureBefore_32 (by decide) ?_
        refine lv_idiv hx hb d_M_departureBefore_34 (by decide) ?_
        refine lv_iload_n hx hb d_M_departureBefore_35 rfl (lv_at hl 2 rfl) ?_
        refine lv_bipush (v := 7) hx hb d_M_departureBefore_36 (by decide) ?_
        refine lv_irem hx hb d_M_departureBefore_38 (by decide) ?_
        refine tr_goi (w := wdM a cA) hI hA (va_runV (As := [.int (x2 / 7), .int (x2 - x2 / 7 * 7)]) (rest := []) ⟨hx, hb, hml, hown, hts⟩ (c_M_arrives l dC dI cA a _ _ _ _ _) (cwV 2 hts (wsA_goodV wA_744 wA_746 wA_23 wA_40 wA_747) rfl rfl rfl (by decide +kernel) ⟨Nat.le_of_ble_eq_true rfl, Nat.le_of_ble_eq_true rfl⟩) (tr_preV (ci := 9) (q0 := 0) hI rfl (wdM_o0 a cA _) rfl hN hw) rfl rfl hl.1 rfl (lv_room (Nat.le_of_ble_eq_true rfl)) d_M_departureBefore_39 ⟨Nat.zero_le _, Nat.zero_le _⟩) (fun r39 u39 H locs hw hI => ?_)
        refine lv_aload_n hx hb d_M_departureBefore_42 rfl (lv_at hl 0 rfl) ?_
        refine va_get (D := (dC, dI)) (C := R_M) (T := F_M) (N := 22) hx hb hts in_M hown hI.1 hI.2.1 0 (wdM_o0 a cA _) rfl 18 (by decide) (hts _ wA_607) (fun _ h9 => h9) rfl d_M_departureBefore_43 ?_
        refine lv_iload_n hx hb d_M_departureBefore_46 rfl (lv_at hl 1 rfl) ?_
        obtain ⟨hi, hw⟩ := hw
        refine va_iald (D := (dC, dI)) hx hb hI.1 hI.2.1 14 0 (wdM_o14 a cA _) rfl hi d_M_departureBefore_47 ?_
        refine lv_icmp_eq (tgt := 57) hx hb d_M_departureBefore_48 (by decide) (fun hc => ?_) (fun hc => ?_)
        · have hw := hw.1 hc
          refine lv_iload_n hx hb d_M_departureBefore_57 rfl (lv_at hl 2 rfl) ?_
          exact tr_iret hx hb hr hlocks hI hw d_M_departureBefore_58
        · have hw := hw.2 hc
          refine lv_iinc (v := (x2 + 1)) (lv' := [(2, .int (x2 + 1)), (0, .ref (a 0)), (1, .int x1)]) hx hb d_M_departureBefore_51 hl (k := 2) rfl rfl (by decide) rfl (fun ls hl => ?_)
          refine lv_goto (tgt := 2) hx hb d_M_departureBefore_54 (by decide) ?_
          exact ih _ _ _ _ _ ls hw hI (lv_sub hl [1, 2, 0] rfl)
set_option maxRecDepth 100000 in
set_option maxHeartbeats 4000000 in
theorem c_M_departureBefore (l : Launch) (dC : Nat → ClassId) (dI : Nat → Nat → Nat) (cA : ClassId) (a : Nat → Nat) (u : tS) (x1 : Int32) (post : Int32 → tS → Prop) (sz : Nat) : Met l y_M_departureBefore ws_M_departureBefore ({ frames := 3, cells := 0, slots := 0, locals := 67 }) (va_Pc [.ref (a 0), .int x1] (tP (dC, dI) twCl [(cA, .int)] (wdM a cA) u sz (w_M_departureBefore post x1 u))) (va_Qi post (tB (dC, dI) twCl [(cA, .int)] (va_A (wdM a cA u) sz) (wdM a cA)) (va_A (wdM a cA u) sz)) 0 0 (va_A (wdM a cA u) sz) := by
  refine Met.ofW (cc := b_M_departureBefore) (maxL := 3) (ret := (some .int)) (by decide) rfl ?_
  intro p e s m args below meth c s₁ B hml hv
  obtain ⟨rfl, hsz, hP, hK, hD0, hN, hw⟩ := hv
  have hx := B.exec
  have hb := B.bytes
  have hr := B.returns
  have hts : ∀ w ∈ wsA, w.before _ s = true := fun w h => atoms_spec (ws := ws_M_departureBefore) B.pre w (List.mem_cons_of_mem _ h)
  have hown : s.vm.findClass R_M = some m.cls := findClass_of_methodNamed B.named
  have hlocks := B.notSynchronized
  subst hsz
  have hD := hD0.self (sz := s.heap.size)
  generalize hAe : va_A (wdM a cA u) s.heap.size = A at hD ⊢
  have hA : ∀ q : Nat, s.heap.size ≤ q → A q := fun q h => by rw [← hAe]; exact Or.inr h
  have hS : va_S A s.heap s.heap [] := va_S.rf
  have hI : tX (dC, dI) twCl [(cA, .int)] A s s.heap [] (wdM a cA u) := ⟨hK, hP, hD, hS⟩
  have hC : tC p s m meth c ([.ref (a 0), .int x1] : List Value).toArray b_M_departureBefore 3 (some .int) wsA R_M A := ⟨hx, hb, hr, hml, hown, hts, hlocks, hA, hN⟩
  have hl := lv_entry ([.ref (a 0), .int x1]) (n := 3) (Nat.le_of_ble_eq_true rfl)
  rw [lg_entry_eq]
  generalize (lg_sl ([.ref (a 0), .int x1]) ++ List.replicate (3 - (lg_sl ([.ref (a 0), .int x1])).length) Slot.unset).toArray = ls at hl ⊢
  have hl : lv_has ls 3 [(0, .ref (a 0)), (1, .int x1)] := hl
  have hw : (∃ k, w_M_departureBefore_2 post k x1 0 u) := hw
  refine lv_iconst (v := 0) hx hb d_M_departureBefore_0 (by decide) ?_
  refine lv_istore_n (lv' := [(2, .int 0), (0, .ref (a 0)), (1, .int x1)]) hx hb d_M_departureBefore_1 rfl hl (by decide) rfl (fun ls hl => ?_)
  obtain ⟨k, hw⟩ := hw
  exact k_M_departureBefore_2 hC post k _ _ _ _ _ ls hw hI (lv_sub hl [1, 2, 0] rfl)
