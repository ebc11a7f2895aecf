def w_M_arrival (post : Int32 → tS → Prop) (x1 : Int32) (u : tS) : Prop := (vp_in x1 12 ∧ (vp_in x1 12 ∧ (((u.2 14 x1.toNatClampNeg) ≤ (u.2 13 x1.toNatClampNeg) → (vp_in x1 12 ∧ (post (u.2 14 x1.toNatClampNeg) u))) ∧ (¬ (u.2 14 x1.toNatClampNeg) ≤ (u.2 13 x1.toNatClampNeg) → (vp_in x1 12 ∧ (post (u.2 13 x1.toNatClampNeg) u))))))
set_option maxRecDepth 100000 in
set_option maxHeartbeats 4000000 in
theorem c_M_arrival (l : Launch) (dC : Nat → ClassId) (dI : Nat → Nat → Nat) (cA : ClassId) (a : Nat → Nat) (u : tS) (x1 : Int32) (post : Int32 → tS → Prop) (sz : Nat) : Met l y_M_arrival ws_M_arrival ({ frames := 0, cells := 0, slots := 0, locals := 0 }) (va_Pc [.ref (a 0), .int x1] (tP (dC, dI) twCl [(cA, .int)] (wdM a cA) u sz (w_M_arrival post x1 u))) (va_Qi post (tB (dC, dI) twCl [(cA, .int)] (va_A (wdM a cA u) sz) (wdM a cA)) (va_A (wdM a cA u) sz)) 0 0 (va_A (wdM a cA u) sz) := by
  refine Met.ofW (cc := b_M_arrival) (maxL := 2) (ret := (some .int)) (by decide) rfl ?_
  intro p e s m args below meth c s₁ B hml hv
  obtain ⟨rfl, hsz, hP, hK, hD0, hN, hw⟩ := hv
  have hx := B.exec
  have hb := B.bytes
  have hr := B.returns
  have hts : ∀ w ∈ wsA, w.before _ s = true := fun w h => atoms_spec (ws := ws_M_arrival) B.pre w (List.mem_cons_of_mem _ h)
  have hown : s.vm.findClass R_M = some m.cls := findClass_of_methodNamed B.named
  have hlocks := B.notSynchronized
  subst hsz
  have hD := hD0.self (sz := s.heap.size)
  generalize hAe : va_A (wdM a cA u) s.heap.size = A at hD ⊢
  have hA : ∀ q : Nat, s.heap.size ≤ q → A q := fun q h => by rw [← hAe]; exact Or.inr h
  have hS : va_S A s.heap s.heap [] := va_S.rf
  have hI : tX (dC, dI) twCl [(cA, .int)] A s s.heap [] (wdM a cA u) := ⟨hK, hP, hD, hS⟩
  have hC : tC p s m meth c ([.ref (a 0), .int x1] : List Value).toArray b_M_arrival 2 (some .int) wsA R_M A := ⟨hx, hb, hr, hml, hown, hts, hlocks, hA, hN⟩
  have hl := lv_entry ([.ref (a 0), .int x1]) (n := 2) (Nat.le_of_ble_eq_true rfl)
  rw [lg_entry_eq]
  generalize (lg_sl ([.ref (a 0), .int x1]) ++ List.replicate (2 - (lg_sl ([.ref (a 0), .int x1])).length) Slot.unset).toArray = ls at hl ⊢
  have hl : lv_has ls 2 [(0, .ref (a 0)), (1, .int x1)] := hl
  have hw : (vp_in x1 12 ∧ (vp_in x1 12 ∧ (((u.2 14 x1.toNatClampNeg) ≤ (u.2 13 x1.toNatClampNeg) → (vp_in x1 12 ∧ (post (u.2 14 x1.toNatClampNeg) u))) ∧ (¬ (u.2 14 x1.toNatClampNeg) ≤ (u.2 13 x1.toNatClampNeg) → (vp_in x1 12 ∧ (post (u.2 13 x1.toNatClampNeg) u)))))) := hw
  refine lv_aload_n hx hb d_M_arrival_0 rfl (lv_at hl 0 rfl) ?_
  refine va_get (D := (dC, dI)) (C := R_M) (T := F_M) (N := 22) hx hb hts in_M hown hI.1 hI.2.1 0 (wdM_o0 a cA _) rfl 18 (by decide) (hts _ wA_607) (fun _ h9 => h9) rfl d_M_arrival_1 ?_
  refine lv_iload_n hx hb d_M_arrival_4 rfl (lv_at hl 1 rfl) ?_
  obtain ⟨hi, hw⟩ := hw
  refine va_iald (D := (dC, dI)) hx hb hI.1 hI.2.1 14 0 (wdM_o14 a cA _) rfl hi d_M_arrival_5 ?_
  refine lv_aload_n hx hb d_M_arrival_6 rfl (lv_at hl 0 rfl) ?_
  refine va_get (D := (dC, dI)) (C := R_M) (T := F_M) (N := 22) hx hb hts in_M hown hI.1 hI.2.1 0 (wdM_o0 a cA _) rfl 19 (by decide) (hts _ wA_608) (fun _ h9 => h9) rfl d_M_arrival_7 ?_
  refine lv_iload_n hx hb d_M_arrival_10 rfl (lv_at hl 1 rfl) ?_
  obtain ⟨hi, hw⟩ := hw
  refine va_iald (D := (dC, dI)) hx hb hI.1 hI.2.1 15 0 (wdM_o15 a cA _) rfl hi d_M_arrival_11 ?_
  refine lv_icmp_ge (tgt := 24) hx hb d_M_arrival_12 (by decide) (fun hc => ?_) (fun hc => ?_)
  · have hw := hw.1 hc
    refine lv_aload_n hx hb d_M_arrival_24 rfl (lv_at hl 0 rfl) ?_
    refine va_get (D := (dC, dI)) (C := R_M) (T := F_M) (N := 22) hx hb hts in_M hown hI.1 hI.2.1 0 (wdM_o0 a cA _) rfl 19 (by decide) (hts _ wA_608) (fun _ h9 => h9) rfl d_M_arrival_25 ?_
    refine lv_iload_n hx hb d_M_arrival_28 rfl (lv_at hl 1 rfl) ?_
    obtain ⟨hi, hw⟩ := hw
    refine va_iald (D := (dC, dI)) hx hb hI.1 hI.2.1 15 0 (wdM_o15 a cA _) rfl hi d_M_arrival_29 ?_
    exact tr_iret hx hb hr hlocks hI hw d_M_arrival_30
  · have hw := hw.2 hc
    refine lv_aload_n hx hb d_M_arrival_15 rfl (lv_at hl 0 rfl) ?_
    refine va_get (D := (dC, dI)) (C := R_M) (T := F_M) (N := 22) hx hb hts in_M hown hI.1 hI.2.1 0 (wdM_o0 a cA _) rfl 18 (by decide) (hts _ wA_607) (fun _ h9 => h9) rfl d_M_arrival_16 ?_
    refine lv_iload_n hx hb d_M_arrival_19 rfl (lv_at hl 1 rfl) ?_
    obtain ⟨hi, hw⟩ := hw
    refine va_iald (D := (dC, dI)) hx hb hI.1 hI.2.1 14 0 (wdM_o14 a cA _) rfl hi d_M_arrival_20 ?_
    refine lv_goto (tgt := 30) hx hb d_M_arrival_21 (by decide) ?_
    exact tr_iret hx hb hr hlocks hI hw d_M_arrival_30
def w_M_goWalks_10 (post : tS → Prop) (K2 : Int32 → tS → Prop) : Nat → Int32 → Int32 → tS → Prop
  | 0 => fun _ _ _ => False
  | n + 1 => fun x1 x2 u => (((u.1 2) ≤ x2 → (K2 x1 u)) ∧ (¬ (u.1 2) ≤ x2 → (vp_in x2 30 ∧ (w_M_arrival (fun r25 u25 => (vp_in x2 30 ∧ (vp_in x2 30 ∧ (w_M_arrival (fun r43 u43 => ((1000000 ≤ r43 → (w_M_goWalks_10 post K2 n x1 (x2 + 1) u43)) ∧ (¬ 1000000 ≤ r43 → (vp_in x2 30 ∧ (vp_in (u43.2 8 x2.toNatClampNeg) 12 ∧ (((u43.2 14 (u43.2 8 x2.toNatClampNeg).toNatClampNeg) ≤ (r25 + (u25.2 9 x2.toNatClampNeg)) → (w_M_goWalks_10 post K2 n x1 (x2 + 1) u43)) ∧ (¬ (u43.2 14 (u43.2 8 x2.toNatClampNeg).toNatClampNeg) ≤ (r25 + (u25.2 9 x2.toNatClampNeg)) → (vp_in x2 30 ∧ (vp_in (u43.2 8 x2.toNatClampNeg) 12 ∧ (w_M_goWalks_10 post K2 n 1 (x2 + 1) (tI (tA u43 14 (u43.2 8 x2.toNatClampNeg) (r25 + (u25.2 9 x2.toNatClampNeg))) 5 1))))))))))) (u25.2 7 x2.toNatClampNeg) u25)))) (u.2 7 x2.toNatClampNeg) u))))
def w_M_goWalks_2 (post : tS → Prop) : Nat → Int32 → tS → Prop
  | 0 => fun _ _ => False
  | n + 1 => fun x1 u => ((x1 = 0 → (post u)) ∧ (¬ x1 = 0 → (∃ k, w_M_goWalks_10 post (w_M_goWalks_2 post n) k 0 0 u)))
def w_M_goWalks (post : tS → Prop) (u : tS) : Prop := (∃ k, w_M_goWalks_2 post k 1 u)
set_option maxRecDepth 100000 in
set_option maxHeartbeats 4000000 in
theorem k_M_goWalks_10 {p : Program} {l : Launch} {e : Env} {s : State} {m : MethodId} {args : Array Value} {below : List Frame} {meth : Method} {c : Code} {dC : Nat → ClassId} {dI : Nat → Nat → Nat} {cA : ClassId} {a : Nat → Nat} {A : Nat → Prop} (hC : tC p s m meth c args b_M_goWalks 4 none wsA R_M A) (post : tS → Prop) (K2 : Int32 → tS → Prop) (hK2 : ∀ (x1 : Int32) (u : tS) (H : Heap) (locs : List Loc) (ls : Array Slot), K2 x1 u → tX (dC, dI) twCl [(cA, .int)] A s H locs (wdM a cA u) → lv_has ls 4 [(0, .ref (a 0)), (1, .int x1)] → W p l e ({ frames := 1, cells := 0, slots := 0, locals := 21 }) s m args below meth c H locs 0 0 (MQ below (va_Qv post (tB (dC, dI) twCl [(cA, .int)] A (wdM a cA)) A) args s 0 0 A) (F0 m 2 ls [])) : ∀ n : Nat, ∀ (x1 x2 : Int32) (u : tS) (H : Heap) (locs : List Loc) (ls : Array Slot), w_M_goWalks_10 post K2 n x1 x2 u → tX (dC, dI) twCl [(cA, .int)] A s H locs (wdM a cA u) → lv_has ls 4 [(0, .ref (a 0)), (1, .int x1), (2, .int x2)] → W p l e ({ frames := 1, cells := 0, slots := 0, locals := 21 }) s m args below meth c H locs 0 0 (MQ below (va_Qv post (tB (dC, dI) twCl [(cA, .int)] A (wdM a cA)) A) args s 0 0 A) (F0 m 10 ls []) := by
  obtain ⟨hx, hb, hr, hml, hown, hts, hlocks, hA, hN⟩ := id hC
  intro n
  induction n with
  | zero => intro x1 x2 u H locs ls hw; exact False.elim hw
  | succ n ih =>
    intro x1 x2 u H locs ls hw hI hl
    refine lv_iload_n hx hb d_M_goWalks_10 rfl (lv_at hl 2 rfl) ?_
    refine lv_aload_n hx hb d_M_goWalks_11 rfl (lv_at hl 0 rfl) ?_
    refine va_get (D := (dC, dI)) (C := R_M) (T := F_M) (N := 22) hx hb hts in_M hown hI.1 hI.2.1 0 (wdM_o0 a cA _) rfl 9 (by decide) (hts _ wA_598) (fun _ h9 => h9) rfl d_M_goWalks_12 ?_
    refine lv_icmp_ge (tgt := 91) hx hb d_M_goWalks_15 (by decide) (fun hc => ?_) (fun hc => ?_)
    · have hw := hw.1 hc
      refine lv_goto (tgt := 2) hx hb d_M_goWalks_91 (by decide) ?_
      exact hK2 _ _ _ _ ls hw hI (lv_sub hl [0, 1] rfl)
    · have hw := hw.2 hc
      refine lv_aload_n hx hb d_M_goWalks_18 rfl (lv_at hl 0 rfl) ?_
      refine lv_aload_n hx hb d_M_goWalks_19 rfl (lv_at hl 0 rfl) ?_
      refine va_get (D := (dC, dI)) (C := R_M) (T := F_M) (N := 22) hx hb hts in_M hown hI.1 hI.2.1 0 (wdM_o0 a cA _) rfl 10 (by decide) (hts _ wA_599) (fun _ h9 => h9) rfl d_M_goWalks_20 ?_
      refine lv_iload_n hx hb d_M_goWalks_23 rfl (lv_at hl 2 rfl) ?_
      obtain ⟨hi, hw⟩ := hw
      refine va_iald (D := (dC, dI)) hx hb hI.1 hI.2.1 8 0 (wdM_o8 a cA _) rfl hi d_M_goWalks_24 ?_
      refine tr_goi (w := wdM a cA) hI hA (va_runV (As := [.int (u.2 7 x2.toNatClampNeg)]) (rest := []) ⟨hx, hb, hml, hown, hts⟩ (c_M_arrival l dC dI cA a _ _ _ _) (cwV 1 hts (wsA_goodV wA_724 wA_726 wA_18 wA_40 wA_727) rfl rfl rfl (by decide +kernel) ⟨Nat.le_of_ble_eq_true rfl, Nat.le_of_ble_eq_true rfl⟩) (tr_preV (ci := 9) (q0 := 0) hI rfl (wdM_o0 a cA _) rfl hN hw) rfl rfl hl.1 rfl (lv_room (Nat.le_of_ble_eq_true rfl)) d_M_goWalks_25 ⟨Nat.zero_le _, Nat.zero_le _⟩) (fun r25 u25 H locs hw hI => ?_)
      refine lv_aload_n hx hb d_M_goWalks_28 rfl (lv_at hl 0 rfl) ?_
      refine va_get (D := (dC, dI)) (C := R_M) (T := F_M) (N := 22) hx hb hts in_M hown hI.1 hI.2.1 0 (wdM_o0 a cA _) rfl 12 (by decide) (hts _ wA_601) (fun _ h9 => h9) rfl d_M_goWalks_29 ?_
      refine lv_iload_n hx hb d_M_goWalks_32 rfl (lv_at hl 2 rfl) ?_
      obtain ⟨hi, hw⟩ := hw
      refine va_iald (D := (dC, dI)) hx hb hI.1 hI.2.1 10 0 (wdM_o10 a cA _) rfl hi d_M_goWalks_33 ?_
      refine lv_iadd hx hb d_M_goWalks_34 ?_
      refine lv_istore_n (lv' := [(3, .int (r25 + (u25.2 9 x2.toNatClampNeg))), (0, .ref (a 0)), (1, .int x1), (2, .int x2)]) hx hb d_M_goWalks_35 rfl hl (by decide) rfl (fun ls hl => ?_)
      refine lv_aload_n hx hb d_M_goWalks_36 rfl (lv_at hl 1 rfl) ?_
      refine lv_aload_n hx hb d_M_goWalks_37 rfl (lv_at hl 1 rfl) ?_
      refine va_get (D := (dC, dI)) (C := R_M) (T := F_M) (N := 22) hx hb hts in_M hown hI.1 hI.2.1 0 (wdM_o0 a cA _) rfl 10 (by decide) (hts _ wA_599) (fun _ h9 => h9) rfl d_M_goWalks_38 ?_
      refine lv_iload_n hx hb d_M_goWalks_41 rfl (lv_at hl 3 rfl) ?_
      obtain ⟨hi, hw⟩ := hw
      refine va_iald (D := (dC, dI)) hx hb hI.1 hI.2.1 8 0 (wdM_o8 a cA _) rfl hi d_M_goWalks_42 ?_
      refine tr_goi (w := wdM a cA) hI hA (va_runV (As := [.int (u25.2 7 x2.toNatClampNeg)]) (rest := []) ⟨hx, hb, hml, hown, hts⟩ (c_M_arrival l dC dI cA a _ _ _ _) (cwV 1 hts (wsA_goodV wA_724 wA_726 wA_18 wA_40 wA_727) rfl rfl rfl (by decide +kernel) ⟨Nat.le_of_ble_eq_true rfl, Nat.le_of_ble_eq_true rfl⟩) (tr_preV (ci := 9) (q0 := 0) hI rfl (wdM_o0 a cA _) rfl hN hw) rfl rfl hl.1 rfl (lv_room (Nat.le_of_ble_eq_true rfl)) d_M_goWalks_43 ⟨Nat.zero_le _, Nat.zero_le _⟩) (fun r43 u43 H locs hw hI => ?_)
      refine lv_ldc (v := 1000000) hx hb hown (hts _ wA_719) d_M_goWalks_46 ?_
      refine lv_icmp_ge (tgt := 85) hx hb d_M_goWalks_48 (by decide) (fun hc => ?_) (fun hc => ?_)
      · have hw := hw.1 hc
        refine lv_iinc (v := (x2 + 1)) (lv' := [(2, .int (x2 + 1)), (3, .int (r25 + (u25.2 9 x2.toNatClampNeg))), (0, .ref (a 0)), (1, .int x1)]) hx hb d_M_goWalks_85 hl (k := 3) rfl rfl (by decide) rfl (fun ls hl => ?_)
        refine lv_goto (tgt := 10) hx hb d_M_goWalks_88 (by decide) ?_
        exact ih _ _ _ _ _ ls hw hI (lv_sub hl [2, 3, 0] rfl)
      · have hw := hw.2 hc
        refine lv_iload_n hx hb d_M_goWalks_51 rfl (lv_at hl 0 rfl) ?_
        refine lv_aload_n hx hb d_M_goWalks_52 rfl (lv_at hl 1 rfl) ?_
        refine va_get (D := (dC, dI)) (C := R_M) (T := F_M) (N := 22) hx hb hts in_M hown hI.1 hI.2.1 0 (wdM_o0 a cA _) rfl 19 (by decide) (hts _ wA_608) (fun _ h9 => h9) rfl d_M_goWalks_53 ?_
        refine lv_aload_n hx hb d_M_goWalks_56 rfl (lv_at hl 1 rfl) ?_
        refine va_get (D := (dC, dI)) (C := R_M) (T := F_M) (N := 22) hx hb hts in_M hown hI.1 hI.2.1 0 (wdM_o0 a cA _) rfl 11 (by decide) (hts _ wA_600) (fun _ h9 => h9) rfl d_M_goWalks_57 ?_
        refine lv_iload_n hx hb d_M_goWalks_60 rfl (lv_at hl 3 rfl) ?_
        obtain ⟨hi, hw⟩ := hw
        refine va_iald (D := (dC, dI)) hx hb hI.1 hI.2.1 9 0 (wdM_o9 a cA _) rfl hi d_M_goWalks_61 ?_
        obtain ⟨hi, hw⟩ := hw
        refine va_iald (D := (dC, dI)) hx hb hI.1 hI.2.1 15 0 (wdM_o15 a cA _) rfl hi d_M_goWalks_62 ?_
        refine lv_icmp_ge (tgt := 85) hx hb d_M_goWalks_63 (by decide) (fun hc => ?_) (fun hc => ?_)
        · have hw := hw.1 hc
          refine lv_iinc (v := (x2 + 1)) (lv' := [(2, .int (x2 + 1)), (3, .int (r25 + (u25.2 9 x2.toNatClampNeg))), (0, .ref (a 0)), (1, .int x1)]) hx hb d_M_goWalks_85 hl (k := 3) rfl rfl (by decide) rfl (fun ls hl => ?_)
          refine lv_goto (tgt := 10) hx hb d_M_goWalks_88 (by decide) ?_
          exact ih _ _ _ _ _ ls hw hI (lv_sub hl [2, 3, 0] rfl)
        · have hw := hw.2 hc
          refine lv_aload_n hx hb d_M_goWalks_66 rfl (lv_at hl 1 rfl) ?_
          refine va_get (D := (dC, dI)) (C := R_M) (T := F_M) (N := 22) hx hb hts in_M hown hI.1 hI.2.1 0 (wdM_o0 a cA _) rfl 19 (by decide) (hts _ wA_608) (fun _ h9 => h9) rfl d_M_goWalks_67 ?_
          refine lv_aload_n hx hb d_M_goWalks_70 rfl (lv_at hl 1 rfl) ?_
          refine va_get (D := (dC, dI)) (C := R_M) (T := F_M) (N := 22) hx hb hts in_M hown hI.1 hI.2.1 0 (wdM_o0 a cA _) rfl 11 (by decide) (hts _ wA_600) (fun _ h9 => h9) rfl d_M_goWalks_71 ?_
          refine lv_iload_n hx hb d_M_goWalks_74 rfl (lv_at hl 3 rfl) ?_
          obtain ⟨hi, hw⟩ := hw
          refine va_iald (D := (dC, dI)) hx hb hI.1 hI.2.1 9 0 (wdM_o9 a cA _) rfl hi d_M_goWalks_75 ?_
          refine lv_iload_n hx hb d_M_goWalks_76 rfl (lv_at hl 0 rfl) ?_
          obtain ⟨hi, hw⟩ := hw
          refine tr_iast (w := wdM a cA) hx hb hI 15 0 14 (wdM_o15 a cA _) rfl (wdM_a14 a cA _ _ _) hi d_M_goWalks_77 (fun H locs hI => ?_)
          refine lv_iconst (v := 1) hx hb d_M_goWalks_78 (by decide) ?_
          refine lv_istore_n (lv' := [(1, .int 1), (3, .int (r25 + (u25.2 9 x2.toNatClampNeg))), (0, .ref (a 0)), (2, .int x2)]) hx hb d_M_goWalks_79 rfl hl (by decide) rfl (fun ls hl => ?_)
          refine lv_aload_n hx hb d_M_goWalks_80 rfl (lv_at hl 2 rfl) ?_
          refine lv_iconst (v := 1) hx hb d_M_goWalks_81 (by decide) ?_
          refine tr_putz (C := R_M) (T := F_M) (N := 22) (w := wdM a cA) hx hb hts in_M ft_M ft_M_ok fn_M hown hI 0 5 (wdM_o0 a cA _) rfl 21 (by decide) (hts _ wA_610) rfl (by decide +kernel) rfl rfl (Nat.le_of_ble_eq_true rfl) (wdM_i5 a cA _ _) d_M_goWalks_82 (fun H locs hI => ?_)
          refine lv_iinc (v := (x2 + 1)) (lv' := [(2, .int (x2 + 1)), (1, .int 1), (3, .int (r25 + (u25.2 9 x2.toNatClampNeg))), (0, .ref (a 0))]) hx hb d_M_goWalks_85 hl (k := 3) rfl rfl (by decide) rfl (fun ls hl => ?_)
          refine lv_goto (tgt := 10) hx hb d_M_goWalks_88 (by decide) ?_
          exact ih _ _ _ _ _ ls hw hI (lv_sub hl [3, 1, 0] rfl)
set_option maxRecDepth 100000 in
set_option maxHeartbeats 4000000 in
theorem k_M_goWalks_2 {p : Program} {l : Launch} {e : Env} {s : State} {m : MethodId} {args : Array Value} {below : List Frame} {meth : Method} {c : Code} {dC : Nat → ClassId} {dI : Nat → Nat → Nat} {cA : ClassId} {a : Nat → Nat} {A : Nat → Prop} (hC : tC p s m meth c args b_M_goWalks 4 none wsA R_M A) (post : tS → Prop) : ∀ n : Nat, ∀ (x1 : Int32) (u : tS) (H : Heap) (locs : List Loc) (ls : Array Slot), w_M_goWalks_2 post n x1 u → tX (dC, dI) twCl [(cA, .int)] A s H locs (wdM a cA u) → lv_has ls 4 [(0, .ref (a 0)), (1, .int x1)] → W p l e ({ frames := 1, cells := 0, slots := 0, locals := 21 }) s m args below meth c H locs 0 0 (MQ below (va_Qv post (tB (dC, dI) twCl [(cA, .int)] A (wdM a cA)) A) args s 0 0 A) (F0 m 2 ls []) := by
  obtain ⟨hx, hb, hr, hml, hown, hts, hlocks, hA, hN⟩ := id hC
  intro n
  induction n with
  | zero => intro x1 u H locs ls hw; exact False.elim hw
  | succ n ih =>
    intro x1 u H locs ls hw hI hl
    refine lv_iload_n hx hb d_M_goWalks_2 rfl (lv_at hl 1 rfl) ?_
    refine lv_if_eq (tgt := 94) hx hb d_M_goWalks_3 (by decide) (fun hc => ?_) (fun hc => ?_)
    · have hw := hw.1 hc
      exact tr_vret hx hb hr hlocks hI hw d_M_goWalks_94
    · have hw := hw.2 hc
      refine lv_iconst (v := 0) hx hb d_M_goWalks_6 (by decide) ?_
      refine lv_istore_n (lv' := [(1, .int 0), (0, .ref (a 0))]) hx hb d_M_goWalks_7 rfl hl (by decide) rfl (fun ls hl => ?_)
      refine lv_iconst (v := 0) hx hb d_M_goWalks_8 (by decide) ?_
      refine lv_istore_n (lv' := [(2, .int 0), (1, .int 0), (0, .ref (a 0))]) hx hb d_M_goWalks_9 rfl hl (by decide) rfl (fun ls hl => ?_)
      obtain ⟨k, hw⟩ := hw
      exact k_M_goWalks_10 hC post _ ih k _ _ _ _ _ ls hw hI (lv_sub hl [2, 1, 0] rfl)
set_option maxRecDepth 100000 in
set_option maxHeartbeats 4000000 in
theorem c_M_goWalks (l : Launch) (dC : Nat → ClassId) (dI : Nat → Nat → Nat) (cA : ClassId) (a : Nat → Nat) (u : tS) (post : tS → Prop) (sz : Nat) : Met l y_M_goWalks ws_M_goWalks ({ frames := 1, cells := 0, slots := 0, locals := 21 }) (va_Pc [.ref (a 0)] (tP (dC, dI) twCl [(cA, .int)] (wdM a cA) u sz (w_M_goWalks post u))) (va_Qv post (tB (dC, dI) twCl [(cA, .int)] (va_A (wdM a cA u) sz) (wdM a cA)) (va_A (wdM a cA u) sz)) 0 0 (va_A (wdM a cA u) sz) := by
  refine Met.ofW (cc := b_M_goWalks) (maxL := 4) (ret := none) (by decide) rfl ?_
  intro p e s m args below meth c s₁ B hml hv
  obtain ⟨rfl, hsz, hP, hK, hD0, hN, hw⟩ := hv
  have hx := B.exec
  have hb := B.bytes
  have hr := B.returns
  have hts : ∀ w ∈ wsA, w.before _ s = true := fun w h => atoms_spec (ws := ws_M_goWalks) B.pre w (List.mem_cons_of_mem _ h)
  have hown : s.vm.findClass R_M = some m.cls := findClass_of_methodNamed B.named
  have hlocks := B.notSynchronized
  subst hsz
  have hD := hD0.self (sz := s.heap.size)
  generalize hAe : va_A (wdM a cA u) s.heap.size = A at hD ⊢
  have hA : ∀ q : Nat, s.heap.size ≤ q → A q := fun q h => by rw [← hAe]; exact Or.inr h
  have hS : va_S A s.heap s.heap [] := va_S.rf
  have hI : tX (dC, dI) twCl [(cA, .int)] A s s.heap [] (wdM a cA u) := ⟨hK, hP, hD, hS⟩
  have hC : tC p s m meth c ([.ref (a 0)] : List Value).toArray b_M_goWalks 4 none wsA R_M A := ⟨hx, hb, hr, hml, hown, hts, hlocks, hA, hN⟩
  have hl := lv_entry ([.ref (a 0)]) (n := 4) (Nat.le_of_ble_eq_true rfl)
  rw [lg_entry_eq]
  generalize (lg_sl ([.ref (a 0)]) ++ List.replicate (4 - (lg_sl ([.ref (a 0)])).length) Slot.unset).toArray = ls at hl ⊢
  have hl : lv_has ls 4 [(0, .ref (a 0))] := hl
  have hw : (∃ k, w_M_goWalks_2 post k 1 u) := hw
  refine lv_iconst (v := 1) hx hb d_M_goWalks_0 (by decide) ?_
  refine lv_istore_n (lv' := [(1, .int 1), (0, .ref (a 0))]) hx hb d_M_goWalks_1 rfl hl (by decide) rfl (fun ls hl => ?_)
  obtain ⟨k, hw⟩ := hw
  exact k_M_goWalks_2 hC post k _ _ _ _ ls hw hI (lv_sub hl [1, 0] rfl)
def w_M_goes (post : Int32 → tS → Prop) (x1 : Int32) (x2 : Int32) (u : tS) : Prop := (w_M_isOn (fun r3 u3 => ((r3 = 0 → (post 0 u3)) ∧ (¬ r3 = 0 → (vp_in ((7 * x1) + x2) 280 ∧ (((u3.2 6 ((7 * x1) + x2).toNatClampNeg) = (-1) → (post 0 u3)) ∧ (¬ (u3.2 6 ((7 * x1) + x2).toNatClampNeg) = (-1) → (post 1 u3))))))) x1 x2 u)
set_option maxRecDepth 100000 in
set_option maxHeartbeats 4000000 in
theorem c_M_goes (l : Launch) (dC : Nat → ClassId) (dI : Nat → Nat → Nat) (cA : ClassId) (a : Nat → Nat) (u : tS) (x1 : Int32) (x2 : Int32) (post : Int32 → tS → Prop) (sz : Nat) : Met l y_M_goes ws_M_goes ({ frames := 1, cells := 0, slots := 0, locals := 22 }) (va_Pc [.ref (a 0), .int x1, .int x2] (tP (dC, dI) twCl [(cA, .int)] (wdM a cA) u sz (w_M_goes post x1 x2 u))) (va_Qi post (tB (dC, dI) twCl [(cA, .int)] (va_A (wdM a cA u) sz) (wdM a cA)) (va_A (wdM a cA u) sz)) 0 0 (va_A (wdM a cA u) sz) := by
  refine Met.ofW (cc := b_M_goes) (maxL := 3) (ret := (some .boolean)) (by decide) rfl ?_
  intro p e s m args below meth c s₁ B hml hv
  obtain ⟨rfl, hsz, hP, hK, hD0, hN, hw⟩ := hv
  have hx := B.exec
  have hb := B.bytes
  have hr := B.returns
  have hts : ∀ w ∈ wsA, w.before _ s = true := fun w h => atoms_spec (ws := ws_M_goes) B.pre w (List.mem_cons_of_mem _ h)
  have hown : s.vm.findClass R_M = some m.cls := findClass_of_methodNamed B.named
  have hlocks := B.notSynchronized
  subst hsz
  have hD := hD0.self (sz := s.heap.size)
  generalize hAe : va_A (wdM a cA u) s.heap.size = A at hD ⊢
  have hA : ∀ q : Nat, s.heap.size ≤ q → A q := fun q h => by rw [← hAe]; exact Or.inr h
  have hS : va_S A s.heap s.heap [] := va_S.rf
  have hI : tX (dC, dI) twCl [(cA, .int)] A s s.heap [] (wdM a cA u) := ⟨hK, hP, hD, hS⟩
  have hC : tC p s m meth c ([.ref (a 0), .int x1, .int x2] : List Value).toArray b_M_goes 3 (some .boolean) wsA R_M A := ⟨hx, hb, hr, hml, hown, hts, hlocks, hA, hN⟩
  have hl := lv_entry ([.ref (a 0), .int x1, .int x2]) (n := 3) (Nat.le_of_ble_eq_true rfl)
  rw [lg_entry_eq]
  generalize (lg_sl ([.ref (a 0), .int x1, .int x2]) ++ List.replicate (3 - (lg_sl ([.ref (a 0), .int x1, .int x2])).length) Slot.unset).toArray = ls at hl ⊢
  have hl : lv_has ls 3 [(0, .ref (a 0)), (1, .int x1), (2, .int x2)] := hl
  have hw : (w_M_isOn (fun r3 u3 => ((r3 = 0 → (post 0 u3)) ∧ (¬ r3 = 0 → (vp_in ((7 * x1) + x2) 280 ∧ (((u3.2 6 ((7 * x1) + x2).toNatClampNeg) = (-1) → (post 0 u3)) ∧ (¬ (u3.2 6 ((7 * x1) + x2).toNatClampNeg) = (-1) → (post 1 u3))))))) x1 x2 u) := hw
  refine lv_aload_n hx hb d_M_goes_0 rfl (lv_at hl 0 rfl) ?_
  refine lv_iload_n hx hb d_M_goes_1 rfl (lv_at hl 1 rfl) ?_
  refine lv_iload_n hx hb d_M_goes_2 rfl (lv_at hl 2 rfl) ?_
  refine tr_goi (w := wdM a cA) hI hA (va_runV (As := [.int x1, .int x2]) (rest := []) ⟨hx, hb, hml, hown, hts⟩ (c_M_isOn l dC dI cA a _ _ _ _ _) (cwV 2 hts (wsA_goodV wA_695 wA_697 wA_12 wA_40 wA_698) rfl rfl rfl (by decide +kernel) ⟨Nat.le_of_ble_eq_true rfl, Nat.le_of_ble_eq_true rfl⟩) (tr_preV (ci := 9) (q0 := 0) hI rfl (wdM_o0 a cA _) rfl hN hw) rfl rfl hl.1 rfl (lv_room (Nat.le_of_ble_eq_true rfl)) d_M_goes_3 ⟨Nat.zero_le _, Nat.zero_le _⟩) (fun r3 u3 H locs hw hI => ?_)
  refine lv_if_eq (tgt := 28) hx hb d_M_goes_6 (by decide) (fun hc => ?_) (fun hc => ?_)
  · have hw := hw.1 hc
    refine lv_iconst (v := 0) hx hb d_M_goes_28 (by decide) ?_
    exact tr_zret hx hb hr hlocks hI rfl hw d_M_goes_29
  · have hw := hw.2 hc
    refine lv_aload_n hx hb d_M_goes_9 rfl (lv_at hl 0 rfl) ?_
    refine va_get (D := (dC, dI)) (C := R_M) (T := F_M) (N := 22) hx hb hts in_M hown hI.1 hI.2.1 0 (wdM_o0 a cA _) rfl 8 (by decide) (hts _ wA_597) (fun _ h9 => h9) rfl d_M_goes_10 ?_
    refine lv_bipush (v := 7) hx hb d_M_goes_13 (by decide) ?_
    refine lv_iload_n hx hb d_M_goes_15 rfl (lv_at hl 1 rfl) ?_
    refine lv_imul hx hb d_M_goes_16 ?_
    refine lv_iload_n hx hb d_M_goes_17 rfl (lv_at hl 2 rfl) ?_
    refine lv_iadd hx hb d_M_goes_18 ?_
    obtain ⟨hi, hw⟩ := hw
    refine va_iald (D := (dC, dI)) hx hb hI.1 hI.2.1 7 0 (wdM_o7 a cA _) rfl hi d_M_goes_19 ?_
    refine lv_iconst (v := (-1)) hx hb d_M_goes_20 (by decide) ?_
    refine lv_icmp_eq (tgt := 28) hx hb d_M_goes_21 (by decide) (fun hc => ?_) (fun hc => ?_)
    · have hw := hw.1 hc
      refine lv_iconst (v := 0) hx hb d_M_goes_28 (by decide) ?_
      exact tr_zret hx hb hr hlocks hI rfl hw d_M_goes_29
    · have hw := hw.2 hc
      refine lv_iconst (v := 1) hx hb d_M_goes_24 (by decide) ?_
      refine lv_goto (tgt := 29) hx hb d_M_goes_25 (by decide) ?_
      exact tr_zret hx hb hr hlocks hI rfl hw d_M_goes_29
def w_M_leaves (post : Int32 → tS → Prop) (x1 : Int32) (x2 : Int32) (u : tS) : Prop := (vp_in x1 40 ∧ (vp_in ((7 * x1) + x2) 280 ∧ (post (((1440 * x2) + (u.2 3 x1.toNatClampNeg)) + (u.2 6 ((7 * x1) + x2).toNatClampNeg)) u)))
set_option maxRecDepth 100000 in
set_option maxHeartbeats 4000000 in
theorem c_M_leaves (l : Launch) (dC : Nat → ClassId) (dI : Nat → Nat → Nat) (cA : ClassId) (a : Nat → Nat) (u : tS) (x1 : Int32) (x2 : Int32) (post : Int32 → tS → Prop) (sz : Nat) : Met l y_M_leaves ws_M_leaves ({ frames := 0, cells := 0, slots := 0, locals := 0 }) (va_Pc [.ref (a 0), .int x1, .int x2] (tP (dC, dI) twCl [(cA, .int)] (wdM a cA) u sz (w_M_leaves post x1 x2 u))) (va_Qi post (tB (dC, dI) twCl [(cA, .int)] (va_A (wdM a cA u) sz) (wdM a cA)) (va_A (wdM a cA u) sz)) 0 0 (va_A (wdM a cA u) sz) := by
  refine Met.ofW (cc := b_M_leaves) (maxL := 3) (ret := (some .int)) (by decide) rfl ?_
  intro p e s m args below meth c s₁ B hml hv
  obtain ⟨rfl, hsz, hP, hK, hD0, hN, hw⟩ := hv
  have hx := B.exec
  have hb := B.bytes
  have hr := B.returns
  have hts : ∀ w ∈ wsA, w.before _ s = true := fun w h => atoms_spec (ws := ws_M_leaves) B.pre w (List.mem_cons_of_mem _ h)
  have hown : s.vm.findClass R_M = some m.cls := findClass_of_methodNamed B.named
  have hlocks := B.notSynchronized
  subst hsz
  have hD := hD0.self (sz := s.heap.size)
  generalize hAe : va_A (wdM a cA u) s.heap.size = A at hD ⊢
  have hA : ∀ q : Nat, s.heap.size ≤ q → A q := fun q h => by rw [← hAe]; exact Or.inr h
  have hS : va_S A s.heap s.heap [] := va_S.rf
  have hI : tX (dC, dI) twCl [(cA, .int)] A s s.heap [] (wdM a cA u) := ⟨hK, hP, hD, hS⟩
  have hC : tC p s m meth c ([.ref (a 0), .int x1, .int x2] : List Value).toArray b_M_leaves 3 (some .int) wsA R_M A := ⟨hx, hb, hr, hml, hown, hts, hlocks, hA, hN⟩
  have hl := lv_entry ([.ref (a 0), .int x1, .int x2]) (n := 3) (Nat.le_of_ble_eq_true rfl)
  rw [lg_entry_eq]
  generalize (lg_sl ([.ref (a 0), .int x1, .int x2]) ++ List.replicate (3 - (lg_sl ([.ref (a 0), .int x1, .int x2])).length) Slot.unset).toArray = ls at hl ⊢
  have hl : lv_has ls 3 [(0, .ref (a 0)), (1, .int x1), (2, .int x2)] := hl
  have hw : (vp_in x1 40 ∧ (vp_in ((7 * x1) + x2) 280 ∧ (post (((1440 * x2) + (u.2 3 x1.toNatClampNeg)) + (u.2 6 ((7 * x1) + x2).toNatClampNeg)) u))) := hw
  refine lv_sipush (v := 1440) hx hb d_M_leaves_0 (by decide) ?_
  refine lv_iload_n hx hb d_M_leaves_3 rfl (lv_at hl 2 rfl) ?_
  refine lv_imul hx hb d_M_leaves_4 ?_
  refine lv_aload_n hx hb d_M_leaves_5 rfl (lv_at hl 0 rfl) ?_
  refine va_get (D := (dC, dI)) (C := R_M) (T := F_M) (N := 22) hx hb hts in_M hown hI.1 hI.2.1 0 (wdM_o0 a cA _) rfl 5 (by decide) (hts _ wA_594) (fun _ h9 => h9) rfl d_M_leaves_6 ?_
  refine lv_iload_n hx hb d_M_leaves_9 rfl (lv_at hl 1 rfl) ?_
  obtain ⟨hi, hw⟩ := hw
  refine va_iald (D := (dC, dI)) hx hb hI.1 hI.2.1 4 0 (wdM_o4 a cA _) rfl hi d_M_leaves_10 ?_
  refine lv_iadd hx hb d_M_leaves_11 ?_
  refine lv_aload_n hx hb d_M_leaves_12 rfl (lv_at hl 0 rfl) ?_
  refine va_get (D := (dC, dI)) (C := R_M) (T := F_M) (N := 22) hx hb hts in_M hown hI.1 hI.2.1 0 (wdM_o0 a cA _) rfl 8 (by decide) (hts _ wA_597) (fun _ h9 => h9) rfl d_M_leaves_13 ?_
  refine lv_bipush (v := 7) hx hb d_M_leaves_16 (by decide) ?_
  refine lv_iload_n hx hb d_M_leaves_18 rfl (lv_at hl 1 rfl) ?_
  refine lv_imul hx hb d_M_leaves_19 ?_
  refine lv_iload_n hx hb d_M_leaves_20 rfl (lv_at hl 2 rfl) ?_
  refine lv_iadd hx hb d_M_leaves_21 ?_
  obtain ⟨hi, hw⟩ := hw
  refine va_iald (D := (dC, dI)) hx hb hI.1 hI.2.1 7 0 (wdM_o7 a cA _) rfl hi d_M_leaves_22 ?_
  refine lv_iadd hx hb d_M_leaves_23 ?_
  exact tr_iret hx hb hr hlocks hI hw d_M_leaves_24
def w_M_mayTake (post : Int32 → tS → Prop) (x1 : Int32) (x2 : Int32) (u : tS) : Prop := (vp_in x1 40 ∧ (w_M_goes (fun r10 u10 => ((r10 = 0 → (post 0 u10)) ∧ (¬ r10 = 0 → (w_M_leaves (fun r19 u19 => (vp_in (u.2 1 x1.toNatClampNeg) 12 ∧ (((u19.2 14 (u.2 1 x1.toNatClampNeg).toNatClampNeg) ≤ r19 → (post 1 u19)) ∧ (¬ (u19.2 14 (u.2 1 x1.toNatClampNeg).toNatClampNeg) ≤ r19 → (w_M_leaves (fun r34 u34 => (vp_in (u.2 1 x1.toNatClampNeg) 12 ∧ (vp_in (u.2 1 x1.toNatClampNeg) 12 ∧ ((r34 < ((u34.2 13 (u.2 1 x1.toNatClampNeg).toNatClampNeg) + (u34.2 0 (u.2 1 x1.toNatClampNeg).toNatClampNeg)) → (post 0 u34)) ∧ (¬ r34 < ((u34.2 13 (u.2 1 x1.toNatClampNeg).toNatClampNeg) + (u34.2 0 (u.2 1 x1.toNatClampNeg).toNatClampNeg)) → (post 1 u34)))))) x1 x2 u19))))) x1 x2 u10)))) x1 x2 u))
set_option maxRecDepth 100000 in
set_option maxHeartbeats 4000000 in
theorem c_M_mayTake (l : Launch) (dC : Nat → ClassId) (dI : Nat → Nat → Nat) (cA : ClassId) (a : Nat → Nat) (u : tS) (x1 : Int32) (x2 : Int32) (post : Int32 → tS → Prop) (sz : Nat) : Met l y_M_mayTake ws_M_mayTake ({ frames := 2, cells := 0, slots := 0, locals := 44 }) (va_Pc [.ref (a 0), .int x1, .int x2] (tP (dC, dI) twCl [(cA, .int)] (wdM a cA) u sz (w_M_mayTake post x1 x2 u))) (va_Qi post (tB (dC, dI) twCl [(cA, .int)] (va_A (wdM a cA u) sz) (wdM a cA)) (va_A (wdM a cA u) sz)) 0 0 (va_A (wdM a cA u) sz) := by
  refine Met.ofW (cc := b_M_mayTake) (maxL := 4) (ret := (some .boolean)) (by decide) rfl ?_
  intro p e s m args below meth c s₁ B hml hv
  obtain ⟨rfl, hsz, hP, hK, hD0, hN, hw⟩ := hv
  have hx := B.exec
  have hb := B.bytes
  have hr := B.returns
  have hts : ∀ w ∈ wsA, w.before _ s = true := fun w h => atoms_spec (ws := ws_M_mayTake) B.pre w (List.mem_cons_of_mem _ h)
  have hown : s.vm.findClass R_M = some m.cls := findClass_of_methodNamed B.named
  have hlocks := B.notSynchronized
  subst hsz
  have hD := hD0.self (sz := s.heap.size)
  generalize hAe : va_A (wdM a cA u) s.heap.size = A at hD ⊢
  have hA : ∀ q : Nat, s.heap.size ≤ q → A q := fun q h => by rw [← hAe]; exact Or.inr h
  have hS : va_S A s.heap s.heap [] := va_S.rf
  have hI : tX (dC, dI) twCl [(cA, .int)] A s s.heap [] (wdM a cA u) := ⟨hK, hP, hD, hS⟩
  have hC : tC p s m meth c ([.ref (a 0), .int x1, .int x2] : List Value).toArray b_M_mayTake 4 (some .boolean) wsA R_M A := ⟨hx, hb, hr, hml, hown, hts, hlocks, hA, hN⟩
  have hl := lv_entry ([.ref (a 0), .int x1, .int x2]) (n := 4) (Nat.le_of_ble_eq_true rfl)
  rw [lg_entry_eq]
  generalize (lg_sl ([.ref (a 0), .int x1, .int x2]) ++ List.replicate (4 - (lg_sl ([.ref (a 0), .int x1, .int x2])).length) Slot.unset).toArray = ls at hl ⊢
  have hl : lv_has ls 4 [(0, .ref (a 0)), (1, .int x1), (2, .int x2)] := hl
  have hw : (vp_in x1 40 ∧ (w_M_goes (fun r10 u10 => ((r10 = 0 → (post 0 u10)) ∧ (¬ r10 = 0 → (w_M_leaves (fun r19 u19 => (vp_in (u.2 1 x1.toNatClampNeg) 12 ∧ (((u19.2 14 (u.2 1 x1.toNatClampNeg).toNatClampNeg) ≤ r19 → (post 1 u19)) ∧ (¬ (u19.2 14 (u.2 1 x1.toNatClampNeg).toNatClampNeg) ≤ r19 → (w_M_leaves (fun r34 u34 => (vp_in (u.2 1 x1.toNatClampNeg) 12 ∧ (vp_in (u.2 1 x1.toNatClampNeg) 12 ∧ ((r34 < ((u34.2 13 (u.2 1 x1.toNatClampNeg).toNatClampNeg) + (u34.2 0 (u.2 1 x1.toNatClampNeg).toNatClampNeg)) → (post 0 u34)) ∧ (¬ r34 < ((u34.2 13 (u.2 1 x1.toNatClampNeg).toNatClampNeg) + (u34.2 0 (u.2 1 x1.toNatClampNeg).toNatClampNeg)) → (post 1 u34)))))) x1 x2 u19))))) x1 x2 u10)))) x1 x2 u)) := hw
  refine lv_aload_n hx hb d_M_mayTake_0 rfl (lv_at hl 0 rfl) ?_
  refine va_get (D := (dC, dI)) (C := R_M) (T := F_M) (N := 22) hx hb hts in_M hown hI.1 hI.2.1 0 (wdM_o0 a cA _) rfl 3 (by decide) (hts _ wA_592) (fun _ h9 => h9) rfl d_M_mayTake_1 ?_
  refine lv_iload_n hx hb d_M_mayTake_4 rfl (lv_at hl 1 rfl) ?_
  obtain ⟨hi, hw⟩ := hw
  refine va_iald (D := (dC, dI)) hx hb hI.1 hI.2.1 2 0 (wdM_o2 a cA _) rfl hi d_M_mayTake_5 ?_
  refine lv_istore_n (lv' := [(3, .int (u.2 1 x1.toNatClampNeg)), (0, .ref (a 0)), (1, .int x1), (2, .int x2)]) hx hb d_M_mayTake_6 rfl hl (by decide) rfl (fun ls hl => ?_)
  refine lv_aload_n hx hb d_M_mayTake_7 rfl (lv_at hl 1 rfl) ?_
  refine lv_iload_n hx hb d_M_mayTake_8 rfl (lv_at hl 2 rfl) ?_
  refine lv_iload_n hx hb d_M_mayTake_9 rfl (lv_at hl 3 rfl) ?_
  refine tr_goi (w := wdM a cA) hI hA (va_runV (As := [.int x1, .int x2]) (rest := []) ⟨hx, hb, hml, hown, hts⟩ (c_M_goes l dC dI cA a _ _ _ _ _) (cwV 2 hts (wsA_goodV wA_736 wA_738 wA_21 wA_40 wA_739) rfl rfl rfl (by decide +kernel) ⟨Nat.le_of_ble_eq_true rfl, Nat.le_of_ble_eq_true rfl⟩) (tr_preV (ci := 9) (q0 := 0) hI rfl (wdM_o0 a cA _) rfl hN hw) rfl rfl hl.1 rfl (lv_room (Nat.le_of_ble_eq_true rfl)) d_M_mayTake_10 ⟨Nat.zero_le _, Nat.zero_le _⟩) (fun r10 u10 H locs hw hI => ?_)
  refine lv_if_eq (tgt := 57) hx hb d_M_mayTake_13 (by decide) (fun hc => ?_) (fun hc => ?_)
  · have hw := hw.1 hc
    refine lv_iconst (v := 0) hx hb d_M_mayTake_57 (by decide) ?_
    exact tr_zret hx hb hr hlocks hI rfl hw d_M_mayTake_58
  · have hw := hw.2 hc
    refine lv_aload_n hx hb d_M_mayTake_16 rfl (lv_at hl 1 rfl) ?_
    refine lv_iload_n hx hb d_M_mayTake_17 rfl (lv_at hl 2 rfl) ?_
    refine lv_iload_n hx hb d_M_mayTake_18 rfl (lv_at hl 3 rfl) ?_
    refine tr_goi (w := wdM a cA) hI hA (va_runV (As := [.int x1, .int x2]) (rest := []) ⟨hx, hb, hml, hown, hts⟩ (c_M_leaves l dC dI cA a _ _ _ _ _) (cwV 2 hts (wsA_goodV wA_740 wA_742 wA_22 wA_40 wA_743) rfl rfl rfl (by decide +kernel) ⟨Nat.le_of_ble_eq_true rfl, Nat.le_of_ble_eq_true rfl⟩) (tr_preV (ci := 9) (q0 := 0) hI rfl (wdM_o0 a cA _) rfl hN hw) rfl rfl hl.1 rfl (lv_room (Nat.le_of_ble_eq_true rfl)) d_M_mayTake_19 ⟨Nat.zero_le _, Nat.zero_le _⟩) (fun r19 u19 H locs hw hI => ?_)
    refine lv_aload_n hx hb d_M_mayTake_22 rfl (lv_at hl 1 rfl) ?_
    refine va_get (D := (dC, dI)) (C := R_M) (T := F_M) (N := 22) hx hb hts in_M hown hI.1 hI.2.1 0 (wdM_o0 a cA _) rfl 19 (by decide) (hts _ wA_608) (fun _ h9 => h9) rfl d_M_mayTake_23 ?_
    refine lv_iload_n hx hb d_M_mayTake_26 rfl (lv_at hl 0 rfl) ?_
    obtain ⟨hi, hw⟩ := hw
    refine va_iald (D := (dC, dI)) hx hb hI.1 hI.2.1 15 0 (wdM_o15 a cA _) rfl hi d_M_mayTake_27 ?_
    refine lv_icmp_ge (tgt := 53) hx hb d_M_mayTake_28 (by decide) (fun hc => ?_) (fun hc => ?_)
    · have hw := hw.1 hc
      refine lv_iconst (v := 1) hx hb d_M_mayTake_53 (by decide) ?_
      refine lv_goto (tgt := 58) hx hb d_M_mayTake_54 (by decide) ?_
      exact tr_zret hx hb hr hlocks hI rfl hw d_M_mayTake_58
    · have hw := hw.2 hc
      refine lv_aload_n hx hb d_M_mayTake_31 rfl (lv_at hl 1 rfl) ?_
      refine lv_iload_n hx hb d_M_mayTake_32 rfl (lv_at hl 2 rfl) ?_
      refine lv_iload_n hx hb d_M_mayTake_33 rfl (lv_at hl 3 rfl) ?_
      refine tr_goi (w := wdM a cA) hI hA (va_runV (As := [.int x1, .int x2]) (rest := []) ⟨hx, hb, hml, hown, hts⟩ (c_M_leaves l dC dI cA a _ _ _ _ _) (cwV 2 hts (wsA_goodV wA_740 wA_742 wA_22 wA_40 wA_743) rfl rfl rfl (by decide +kernel) ⟨Nat.le_of_ble_eq_true rfl, Nat.le_of_ble_eq_true rfl⟩) (tr_preV (ci := 9) (q0 := 0) hI rfl (wdM_o0 a cA _) rfl hN hw) rfl rfl hl.1 rfl (lv_room (Nat.le_of_ble_eq_true rfl)) d_M_mayTake_34 ⟨Nat.zero_le _, Nat.zero_le _⟩) (fun r34 u34 H locs hw hI => ?_)
      refine lv_aload_n hx hb d_M_mayTake_37 rfl (lv_at hl 1 rfl) ?_
      refine va_get (D := (dC, dI)) (C := R_M) (T := F_M) (N := 22) hx hb hts in_M hown hI.1 hI.2.1 0 (wdM_o0 a cA _) rfl 18 (by decide) (hts _ wA_607) (fun _ h9 => h9) rfl d_M_mayTake_38 ?_
      refine lv_iload_n hx hb d_M_mayTake_41 rfl (lv_at hl 0 rfl) ?_
      obtain ⟨hi, hw⟩ := hw
      refine va_iald (D := (dC, dI)) hx hb hI.1 hI.2.1 14 0 (wdM_o14 a cA _) rfl hi d_M_mayTake_42 ?_
      refine lv_aload_n hx hb d_M_mayTake_43 rfl (lv_at hl 1 rfl) ?_
      refine va_get (D := (dC, dI)) (C := R_M) (T := F_M) (N := 22) hx hb hts in_M hown hI.1 hI.2.1 0 (wdM_o0 a cA _) rfl 1 (by decide) (hts _ wA_590) (fun _ h9 => h9) rfl d_M_mayTake_44 ?_
      refine lv_iload_n hx hb d_M_mayTake_47 rfl (lv_at hl 0 rfl) ?_
      obtain ⟨hi, hw⟩ := hw
      refine va_iald (D := (dC, dI)) hx hb hI.1 hI.2.1 1 0 (wdM_o1 a cA _) rfl hi d_M_mayTake_48 ?_
      refine lv_iadd hx hb d_M_mayTake_49 ?_
      refine lv_icmp_lt (tgt := 57) hx hb d_M_mayTake_50 (by decide) (fun hc => ?_) (fun hc => ?_)
      · have hw := hw.1 hc
        refine lv_iconst (v := 0) hx hb d_M_mayTake_57 (by decide) ?_
        exact tr_zret hx hb hr hlocks hI rfl hw d_M_mayTake_58
      · have hw := hw.2 hc
        refine lv_iconst (v := 1) hx hb d_M_mayTake_53 (by decide) ?_
        refine lv_goto (tgt := 58) hx hb d_M_mayTake_54 (by decide) ?_
        exact tr_zret hx hb hr hlocks hI rfl hw d_M_mayTake_58
