def w_M_arrives (post : Int32 → tS → Prop) (x1 : Int32) (x2 : Int32) (u : tS) : Prop := (w_M_leaves (fun r3 u3 => (vp_in x1 40 ∧ (post (r3 + (u3.2 4 x1.toNatClampNeg)) u3))) x1 x2 u)
set_option maxRecDepth 100000 in
set_option maxHeartbeats 4000000 in
theorem c_M_arrives (l : Launch) (dC : Nat → ClassId) (dI : Nat → Nat → Nat) (cA : ClassId) (a : Nat → Nat) (u : tS) (x1 : Int32) (x2 : Int32) (post : Int32 → tS → Prop) (sz : Nat) : Met l y_M_arrives ws_M_arrives ({ frames := 1, cells := 0, slots := 0, locals := 22 }) (va_Pc [.ref (a 0), .int x1, .int x2] (tP (dC, dI) twCl [(cA, .int)] (wdM a cA) u sz (w_M_arrives post x1 x2 u))) (va_Qi post (tB (dC, dI) twCl [(cA, .int)] (va_A (wdM a cA u) sz) (wdM a cA)) (va_A (wdM a cA u) sz)) 0 0 (va_A (wdM a cA u) sz) := by
  refine Met.ofW (cc := b_M_arrives) (maxL := 3) (ret := (some .int)) (by decide) rfl ?_
  intro p e s m args below meth c s₁ B hml hv
  obtain ⟨rfl, hsz, hP, hK, hD0, hN, hw⟩ := hv
  have hx := B.exec
  have hb := B.bytes
  have hr := B.returns
  have hts : ∀ w ∈ wsA, w.before _ s = true := fun w h => atoms_spec (ws := ws_M_arrives) B.pre w (List.mem_cons_of_mem _ h)
  have hown : s.vm.findClass R_M = some m.cls := findClass_of_methodNamed B.named
  have hlocks := B.notSynchronized
  subst hsz
  have hD := hD0.self (sz := s.heap.size)
  generalize hAe : va_A (wdM a cA u) s.heap.size = A at hD ⊢
  have hA : ∀ q : Nat, s.heap.size ≤ q → A q := fun q h => by rw [← hAe]; exact Or.inr h
  have hS : va_S A s.heap s.heap [] := va_S.rf
  have hI : tX (dC, dI) twCl [(cA, .int)] A s s.heap [] (wdM a cA u) := ⟨hK, hP, hD, hS⟩
  have hC : tC p s m meth c ([.ref (a 0), .int x1, .int x2] : List Value).toArray b_M_arrives 3 (some .int) wsA R_M A := ⟨hx, hb, hr, hml, hown, hts, hlocks, hA, hN⟩
  have hl := lv_entry ([.ref (a 0), .int x1, .int x2]) (n := 3) (Nat.le_of_ble_eq_true rfl)
  rw [lg_entry_eq]
  generalize (lg_sl ([.ref (a 0), .int x1, .int x2]) ++ List.replicate (3 - (lg_sl ([.ref (a 0), .int x1, .int x2])).length) Slot.unset).toArray = ls at hl ⊢
  have hl : lv_has ls 3 [(0, .ref (a 0)), (1, .int x1), (2, .int x2)] := hl
  have hw : (w_M_leaves (fun r3 u3 => (vp_in x1 40 ∧ (post (r3 + (u3.2 4 x1.toNatClampNeg)) u3))) x1 x2 u) := hw
  refine lv_aload_n hx hb d_M_arrives_0 rfl (lv_at hl 0 rfl) ?_
  refine lv_iload_n hx hb d_M_arrives_1 rfl (lv_at hl 1 rfl) ?_
  refine lv_iload_n hx hb d_M_arrives_2 rfl (lv_at hl 2 rfl) ?_
  refine tr_goi (w := wdM a cA) hI hA (va_runV (As := [.int x1, .int x2]) (rest := []) ⟨hx, hb, hml, hown, hts⟩ (c_M_leaves l dC dI cA a _ _ _ _ _) (cwV 2 hts (wsA_goodV wA_740 wA_742 wA_22 wA_40 wA_743) rfl rfl rfl (by decide +kernel) ⟨Nat.le_of_ble_eq_true rfl, Nat.le_of_ble_eq_true rfl⟩) (tr_preV (ci := 9) (q0 := 0) hI rfl (wdM_o0 a cA _) rfl hN hw) rfl rfl hl.1 rfl (lv_room (Nat.le_of_ble_eq_true rfl)) d_M_arrives_3 ⟨Nat.zero_le _, Nat.zero_le _⟩) (fun r3 u3 H locs hw hI => ?_)
  refine lv_aload_n hx hb d_M_arrives_6 rfl (lv_at hl 0 rfl) ?_
  refine va_get (D := (dC, dI)) (C := R_M) (T := F_M) (N := 22) hx hb hts in_M hown hI.1 hI.2.1 0 (wdM_o0 a cA _) rfl 6 (by decide) (hts _ wA_595) (fun _ h9 => h9) rfl d_M_arrives_7 ?_
  refine lv_iload_n hx hb d_M_arrives_10 rfl (lv_at hl 1 rfl) ?_
  obtain ⟨hi, hw⟩ := hw
  refine va_iald (D := (dC, dI)) hx hb hI.1 hI.2.1 5 0 (wdM_o5 a cA _) rfl hi d_M_arrives_11 ?_
  refine lv_iadd hx hb d_M_arrives_12 ?_
  exact tr_iret hx hb hr hlocks hI hw d_M_arrives_13
def w_M_goRides_43 (post : tS → Prop) (K33 : Int32 → tS → Prop) : Nat → Int32 → Int32 → tS → Prop
  | 0 => fun _ _ _ => False
  | n + 1 => fun x1 x2 u => ((7 ≤ x2 → (K33 (x1 + 1) u)) ∧ (¬ 7 ≤ x2 → (w_M_mayTake (fun r52 u52 => ((r52 = 0 → (w_M_goRides_43 post K33 n x1 (x2 + 1) u52)) ∧ (¬ r52 = 0 → (w_M_arrives (fun r61 u61 => (vp_in x1 40 ∧ (vp_in (u61.2 2 x1.toNatClampNeg) 12 ∧ (((u61.2 15 (u61.2 2 x1.toNatClampNeg).toNatClampNeg) ≤ r61 → (w_M_goRides_43 post K33 n x1 (x2 + 1) u61)) ∧ (¬ (u61.2 15 (u61.2 2 x1.toNatClampNeg).toNatClampNeg) ≤ r61 → (vp_in x1 40 ∧ (w_M_arrives (fun r91 u91 => (vp_in (u61.2 2 x1.toNatClampNeg) 12 ∧ (w_M_goRides_43 post K33 n x1 (x2 + 1) (tI (tA u91 15 (u61.2 2 x1.toNatClampNeg) r91) 5 1)))) x1 x2 u61))))))) x1 x2 u52)))) x1 x2 u)))
def w_M_goRides_114 (post : tS → Prop) : Nat → Int32 → tS → Prop
  | 0 => fun _ _ => False
  | n + 1 => fun x1 u => ((12 ≤ x1 → (w_M_goWalks (fun u139 => (post u139)) u)) ∧ (¬ 12 ≤ x1 → (vp_in x1 12 ∧ (vp_in x1 12 ∧ (w_M_goRides_114 post n (x1 + 1) (tA u 13 x1 (u.2 15 x1.toNatClampNeg)))))))
def w_M_goRides_33 (post : tS → Prop) : Nat → Int32 → tS → Prop
  | 0 => fun _ _ => False
  | n + 1 => fun x1 u => (((u.1 1) ≤ x1 → (∃ k, w_M_goRides_114 post k 0 u)) ∧ (¬ (u.1 1) ≤ x1 → (∃ k, w_M_goRides_43 post (w_M_goRides_33 post n) k x1 0 u)))
def w_M_goRides_7 (post : tS → Prop) : Nat → Int32 → tS → Prop
  | 0 => fun _ _ => False
  | n + 1 => fun x1 u => ((12 ≤ x1 → (∃ k, w_M_goRides_33 post k 0 u)) ∧ (¬ 12 ≤ x1 → (vp_in x1 12 ∧ (vp_in x1 12 ∧ (w_M_goRides_7 post n (x1 + 1) (tA u 15 x1 (u.2 13 x1.toNatClampNeg)))))))
def w_M_goRides (post : tS → Prop) (u : tS) : Prop := (∃ k, w_M_goRides_7 post k 0 (tI u 5 0))
set_option maxRecDepth 100000 in
set_option maxHeartbeats 4000000 in
theorem k_M_goRides_43 {p : Program} {l : Launch} {e : Env} {s : State} {m : MethodId} {args : Array Value} {below : List Frame} {meth : Method} {c : Code} {dC : Nat → ClassId} {dI : Nat → Nat → Nat} {cA : ClassId} {a : Nat → Nat} {A : Nat → Prop} (hC : tC p s m meth c args b_M_goRides 3 none wsA R_M A) (post : tS → Prop) (K33 : Int32 → tS → Prop) (hK33 : ∀ (x1 : Int32) (u : tS) (H : Heap) (locs : List Loc) (ls : Array Slot), K33 x1 u → tX (dC, dI) twCl [(cA, .int)] A s H locs (wdM a cA u) → lv_has ls 3 [(0, .ref (a 0)), (1, .int x1)] → W p l e ({ frames := 3, cells := 0, slots := 0, locals := 67 }) s m args below meth c H locs 0 0 (MQ below (va_Qv post (tB (dC, dI) twCl [(cA, .int)] A (wdM a cA)) A) args s 0 0 A) (F0 m 33 ls [])) : ∀ n : Nat, ∀ (x1 x2 : Int32) (u : tS) (H : Heap) (locs : List Loc) (ls : Array Slot), w_M_goRides_43 post K33 n x1 x2 u → tX (dC, dI) twCl [(cA, .int)] A s H locs (wdM a cA u) → lv_has ls 3 [(0, .ref (a 0)), (1, .int x1), (2, .int x2)] → W p l e ({ frames := 3, cells := 0, slots := 0, locals := 67 }) s m args below meth c H locs 0 0 (MQ below (va_Qv post (tB (dC, dI) twCl [(cA, .int)] A (wdM a cA)) A) args s 0 0 A) (F0 m 43 ls []) := by
  obtain ⟨hx, hb, hr, hml, hown, hts, hlocks, hA, hN⟩ := id hC
  intro n
  induction n with
  | zero => intro x1 x2 u H locs ls hw; exact False.elim hw
  | succ n ih =>
    intro x1 x2 u H locs ls hw hI hl
    refine lv_iload_n hx hb d_M_goRides_43 rfl (lv_at hl 2 rfl) ?_
    refine lv_bipush (v := 7) hx hb d_M_goRides_44 (by decide) ?_
    refine lv_icmp_ge (tgt := 106) hx hb d_M_goRides_46 (by decide) (fun hc => ?_) (fun hc => ?_)
    · have hw := hw.1 hc
      refine lv_iinc (v := (x1 + 1)) (lv' := [(1, .int (x1 + 1)), (0, .ref (a 0)), (2, .int x2)]) hx hb d_M_goRides_106 hl (k := 1) rfl rfl (by decide) rfl (fun ls hl => ?_)
      refine lv_goto (tgt := 33) hx hb d_M_goRides_109 (by decide) ?_
      exact hK33 _ _ _ _ ls hw hI (lv_sub hl [1, 0] rfl)
    · have hw := hw.2 hc
      refine lv_aload_n hx hb d_M_goRides_49 rfl (lv_at hl 0 rfl) ?_
      refine lv_iload_n hx hb d_M_goRides_50 rfl (lv_at hl 1 rfl) ?_
      refine lv_iload_n hx hb d_M_goRides_51 rfl (lv_at hl 2 rfl) ?_
      refine tr_goi (w := wdM a cA) hI hA (va_runV (As := [.int x1, .int x2]) (rest := []) ⟨hx, hb, hml, hown, hts⟩ (c_M_mayTake l dC dI cA a _ _ _ _ _) (cwV 2 hts (wsA_goodV wA_732 wA_734 wA_20 wA_40 wA_735) rfl rfl rfl (by decide +kernel) ⟨Nat.le_of_ble_eq_true rfl, Nat.le_of_ble_eq_true rfl⟩) (tr_preV (ci := 9) (q0 := 0) hI rfl (wdM_o0 a cA _) rfl hN hw) rfl rfl hl.1 rfl (lv_room (Nat.le_of_ble_eq_true rfl)) d_M_goRides_52 ⟨Nat.zero_le _, Nat.zero_le _⟩) (fun r52 u52 H locs hw hI => ?_)
      refine lv_if_eq (tgt := 100) hx hb d_M_goRides_55 (by decide) (fun hc => ?_) (fun hc => ?_)
      · have hw := hw.1 hc
        refine lv_iinc (v := (x2 + 1)) (lv' := [(2, .int (x2 + 1)), (0, .ref (a 0)), (1, .int x1)]) hx hb d_M_goRides_100 hl (k := 2) rfl rfl (by decide) rfl (fun ls hl => ?_)
        refine lv_goto (tgt := 43) hx hb d_M_goRides_103 (by decide) ?_
        exact ih _ _ _ _ _ ls hw hI (lv_sub hl [1, 2, 0] rfl)
      · have hw := hw.2 hc
        refine lv_aload_n hx hb d_M_goRides_58 rfl (lv_at hl 0 rfl) ?_
        refine lv_iload_n hx hb d_M_goRides_59 rfl (lv_at hl 1 rfl) ?_
        refine lv_iload_n hx hb d_M_goRides_60 rfl (lv_at hl 2 rfl) ?_
        refine tr_goi (w := wdM a cA) hI hA (va_runV (As := [.int x1, .int x2]) (rest := []) ⟨hx, hb, hml, hown, hts⟩ (c_M_arrives l dC dI cA a _ _ _ _ _) (cwV 2 hts (wsA_goodV wA_744 wA_746 wA_23 wA_40 wA_747) rfl rfl rfl (by decide +kernel) ⟨Nat.le_of_ble_eq_true rfl, Nat.le_of_ble_eq_true rfl⟩) (tr_preV (ci := 9) (q0 := 0) hI rfl (wdM_o0 a cA _) rfl hN hw) rfl rfl hl.1 rfl (lv_room (Nat.le_of_ble_eq_true rfl)) d_M_goRides_61 ⟨Nat.zero_le _, Nat.zero_le _⟩) (fun r61 u61 H locs hw hI => ?_)
        refine lv_aload_n hx hb d_M_goRides_64 rfl (lv_at hl 0 rfl) ?_
        refine va_get (D := (dC, dI)) (C := R_M) (T := F_M) (N := 22) hx hb hts in_M hown hI.1 hI.2.1 0 (wdM_o0 a cA _) rfl 20 (by decide) (hts _ wA_609) (fun _ h9 => h9) rfl d_M_goRides_65 ?_
        refine lv_aload_n hx hb d_M_goRides_68 rfl (lv_at hl 0 rfl) ?_
        refine va_get (D := (dC, dI)) (C := R_M) (T := F_M) (N := 22) hx hb hts in_M hown hI.1 hI.2.1 0 (wdM_o0 a cA _) rfl 4 (by decide) (hts _ wA_593) (fun _ h9 => h9) rfl d_M_goRides_69 ?_
        refine lv_iload_n hx hb d_M_goRides_72 rfl (lv_at hl 1 rfl) ?_
        obtain ⟨hi, hw⟩ := hw
        refine va_iald (D := (dC, dI)) hx hb hI.1 hI.2.1 3 0 (wdM_o3 a cA _) rfl hi d_M_goRides_73 ?_
        obtain ⟨hi, hw⟩ := hw
        refine va_iald (D := (dC, dI)) hx hb hI.1 hI.2.1 16 0 (wdM_o16 a cA _) rfl hi d_M_goRides_74 ?_
        refine lv_icmp_ge (tgt := 100) hx hb d_M_goRides_75 (by decide) (fun hc => ?_) (fun hc => ?_)
        · have hw := hw.1 hc
          refine lv_iinc (v := (x2 + 1)) (lv' := [(2, .int (x2 + 1)), (0, .ref (a 0)), (1, .int x1)]) hx hb d_M_goRides_100 hl (k := 2) rfl rfl (by decide) rfl (fun ls hl => ?_)
          refine lv_goto (tgt := 43) hx hb d_M_goRides_103 (by decide) ?_
          exact ih _ _ _ _ _ ls hw hI (lv_sub hl [1, 2, 0] rfl)
        · have hw := hw.2 hc
          refine lv_aload_n hx hb d_M_goRides_78 rfl (lv_at hl 0 rfl) ?_
          refine va_get (D := (dC, dI)) (C := R_M) (T := F_M) (N := 22) hx hb hts in_M hown hI.1 hI.2.1 0 (wdM_o0 a cA _) rfl 20 (by decide) (hts _ wA_609) (fun _ h9 => h9) rfl d_M_goRides_79 ?_
          refine lv_aload_n hx hb d_M_goRides_82 rfl (lv_at hl 0 rfl) ?_
          refine va_get (D := (dC, dI)) (C := R_M) (T := F_M) (N := 22) hx hb hts in_M hown hI.1 hI.2.1 0 (wdM_o0 a cA _) rfl 4 (by decide) (hts _ wA_593) (fun _ h9 => h9) rfl d_M_goRides_83 ?_
          refine lv_iload_n hx hb d_M_goRides_86 rfl (lv_at hl 1 rfl) ?_
          obtain ⟨hi, hw⟩ := hw
          refine va_iald (D := (dC, dI)) hx hb hI.1 hI.2.1 3 0 (wdM_o3 a cA _) rfl hi d_M_goRides_87 ?_
          refine lv_aload_n hx hb d_M_goRides_88 rfl (lv_at hl 0 rfl) ?_
          refine lv_iload_n hx hb d_M_goRides_89 rfl (lv_at hl 1 rfl) ?_
          refine lv_iload_n hx hb d_M_goRides_90 rfl (lv_at hl 2 rfl) ?_
          refine tr_goi (w := wdM a cA) hI hA (va_runV (As := [.int x1, .int x2]) (rest := [.int (u61.2 2 x1.toNatClampNeg), .ref (a 16)]) ⟨hx, hb, hml, hown, hts⟩ (c_M_arrives l dC dI cA a _ _ _ _ _) (cwV 2 hts (wsA_goodV wA_744 wA_746 wA_23 wA_40 wA_747) rfl rfl rfl (by decide +kernel) ⟨Nat.le_of_ble_eq_true rfl, Nat.le_of_ble_eq_true rfl⟩) (tr_preV (ci := 9) (q0 := 0) hI rfl (wdM_o0 a cA _) rfl hN hw) rfl rfl hl.1 rfl (lv_room (Nat.le_of_ble_eq_true rfl)) d_M_goRides_91 ⟨Nat.zero_le _, Nat.zero_le _⟩) (fun r91 u91 H locs hw hI => ?_)
          obtain ⟨hi, hw⟩ := hw
          refine tr_iast (w := wdM a cA) hx hb hI 16 0 15 (wdM_o16 a cA _) rfl (wdM_a15 a cA _ _ _) hi d_M_goRides_94 (fun H locs hI => ?_)
          refine lv_aload_n hx hb d_M_goRides_95 rfl (lv_at hl 0 rfl) ?_
          refine lv_iconst (v := 1) hx hb d_M_goRides_96 (by decide) ?_
          refine tr_putz (C := R_M) (T := F_M) (N := 22) (w := wdM a cA) hx hb hts in_M ft_M ft_M_ok fn_M hown hI 0 5 (wdM_o0 a cA _) rfl 21 (by decide) (hts _ wA_610) rfl (by decide +kernel) rfl rfl (Nat.le_of_ble_eq_true rfl) (wdM_i5 a cA _ _) d_M_goRides_97 (fun H locs hI => ?_)
          refine lv_iinc (v := (x2 + 1)) (lv' := [(2, .int (x2 + 1)), (0, .ref (a 0)), (1, .int x1)]) hx hb d_M_goRides_100 hl (k := 2) rfl rfl (by decide) rfl (fun ls hl => ?_)
          refine lv_goto (tgt := 43) hx hb d_M_goRides_103 (by decide) ?_
          exact ih _ _ _ _ _ ls hw hI (lv_sub hl [1, 2, 0] rfl)
set_option maxRecDepth 100000 in
set_option maxHeartbeats 4000000 in
theorem k_M_goRides_114 {p : Program} {l : Launch} {e : Env} {s : State} {m : MethodId} {args : Array Value} {below : List Frame} {meth : Method} {c : Code} {dC : Nat → ClassId} {dI : Nat → Nat → Nat} {cA : ClassId} {a : Nat → Nat} {A : Nat → Prop} (hC : tC p s m meth c args b_M_goRides 3 none wsA R_M A) (post : tS → Prop) : ∀ n : Nat, ∀ (x1 : Int32) (u : tS) (H : Heap) (locs : List Loc) (ls : Array Slot), w_M_goRides_114 post n x1 u → tX (dC, dI) twCl [(cA, .int)] A s H locs (wdM a cA u) → lv_has ls 3 [(0, .ref (a 0)), (1, .int x1)] → W p l e ({ frames := 3, cells := 0, slots := 0, locals := 67 }) s m args below meth c H locs 0 0 (MQ below (va_Qv post (tB (dC, dI) twCl [(cA, .int)] A (wdM a cA)) A) args s 0 0 A) (F0 m 114 ls []) := by
  obtain ⟨hx, hb, hr, hml, hown, hts, hlocks, hA, hN⟩ := id hC
  intro n
  induction n with
  | zero => intro x1 u H locs ls hw; exact False.elim hw
  | succ n ih =>
    intro x1 u H locs ls hw hI hl
    refine lv_iload_n hx hb d_M_goRides_114 rfl (lv_at hl 1 rfl) ?_
    refine lv_bipush (v := 12) hx hb d_M_goRides_115 (by decide) ?_
    refine lv_icmp_ge (tgt := 138) hx hb d_M_goRides_117 (by decide) (fun hc => ?_) (fun hc => ?_)
    · have hw := hw.1 hc
      refine lv_aload_n hx hb d_M_goRides_138 rfl (lv_at hl 0 rfl) ?_
      refine tr_gov (w := wdM a cA) hI hA (va_runV (As := []) (rest := []) ⟨hx, hb, hml, hown, hts⟩ (c_M_goWalks l dC dI cA a _ _ _) (cwV 0 hts (wsA_goodV wA_720 wA_722 wA_17 wA_40 wA_723) rfl rfl rfl (by decide +kernel) ⟨Nat.le_of_ble_eq_true rfl, Nat.le_of_ble_eq_true rfl⟩) (tr_preV (ci := 9) (q0 := 0) hI rfl (wdM_o0 a cA _) rfl hN hw) rfl rfl hl.1 rfl (lv_room (Nat.le_of_ble_eq_true rfl)) d_M_goRides_139 ⟨Nat.zero_le _, Nat.zero_le _⟩) (fun u139 H locs hw hI => ?_)
      exact tr_vret hx hb hr hlocks hI hw d_M_goRides_142
    · have hw := hw.2 hc
      refine lv_aload_n hx hb d_M_goRides_120 rfl (lv_at hl 0 rfl) ?_
      refine va_get (D := (dC, dI)) (C := R_M) (T := F_M) (N := 22) hx hb hts in_M hown hI.1 hI.2.1 0 (wdM_o0 a cA _) rfl 18 (by decide) (hts _ wA_607) (fun _ h9 => h9) rfl d_M_goRides_121 ?_
      refine lv_iload_n hx hb d_M_goRides_124 rfl (lv_at hl 1 rfl) ?_
      refine lv_aload_n hx hb d_M_goRides_125 rfl (lv_at hl 0 rfl) ?_
      refine va_get (D := (dC, dI)) (C := R_M) (T := F_M) (N := 22) hx hb hts in_M hown hI.1 hI.2.1 0 (wdM_o0 a cA _) rfl 20 (by decide) (hts _ wA_609) (fun _ h9 => h9) rfl d_M_goRides_126 ?_
      refine lv_iload_n hx hb d_M_goRides_129 rfl (lv_at hl 1 rfl) ?_
      obtain ⟨hi, hw⟩ := hw
      refine va_iald (D := (dC, dI)) hx hb hI.1 hI.2.1 16 0 (wdM_o16 a cA _) rfl hi d_M_goRides_130 ?_
      obtain ⟨hi, hw⟩ := hw
      refine tr_iast (w := wdM a cA) hx hb hI 14 0 13 (wdM_o14 a cA _) rfl (wdM_a13 a cA _ _ _) hi d_M_goRides_131 (fun H locs hI => ?_)
      refine lv_iinc (v := (x1 + 1)) (lv' := [(1, .int (x1 + 1)), (0, .ref (a 0))]) hx hb d_M_goRides_132 hl (k := 1) rfl rfl (by decide) rfl (fun ls hl => ?_)
      refine lv_goto (tgt := 114) hx hb d_M_goRides_135 (by decide) ?_
      exact ih _ _ _ _ ls hw hI (lv_sub hl [1, 0] rfl)
set_option maxRecDepth 100000 in
set_option maxHeartbeats 4000000 in
theorem k_M_goRides_33 {p : Program} {l : Launch} {e : Env} {s : State} {m : MethodId} {args : Array Value} {below : List Frame} {meth : Method} {c : Code} {dC : Nat → ClassId} {dI : Nat → Nat → Nat} {cA : ClassId} {a : Nat → Nat} {A : Nat → Prop} (hC : tC p s m meth c args b_M_goRides 3 none wsA R_M A) (post : tS → Prop) : ∀ n : Nat, ∀ (x1 : Int32) (u : tS) (H : Heap) (locs : List Loc) (ls : Array Slot), w_M_goRides_33 post n x1 u → tX (dC, dI) twCl [(cA, .int)] A s H locs (wdM a cA u) → lv_has ls 3 [(0, .ref (a 0)), (1, .int x1)] → W p l e ({ frames := 3, cells := 0, slots := 0, locals := 67 }) s m args below meth c H locs 0 0 (MQ below (va_Qv post (tB (dC, dI) twCl [(cA, .int)] A (wdM a cA)) A) args s 0 0 A) (F0 m 33 ls []) := by
  obtain ⟨hx, hb, hr, hml, hown, hts, hlocks, hA, hN⟩ := id hC
  intro n
  induction n with
  | zero => intro x1 u H locs ls hw; exact False.elim hw
  | succ n ih =>
    intro x1 u H locs ls hw hI hl
    refine lv_iload_n hx hb d_M_goRides_33 rfl (lv_at hl 1 rfl) ?_
    refine lv_aload_n hx hb d_M_goRides_34 rfl (lv_at hl 0 rfl) ?_
    refine va_get (D := (dC, dI)) (C := R_M) (T := F_M) (N := 22) hx hb hts in_M hown hI.1 hI.2.1 0 (wdM_o0 a cA _) rfl 2 (by decide) (hts _ wA_591) (fun _ h9 => h9) rfl d_M_goRides_35 ?_
    refine lv_icmp_ge (tgt := 112) hx hb d_M_goRides_38 (by decide) (fun hc => ?_) (fun hc => ?_)
    · have hw := hw.1 hc
      refine lv_iconst (v := 0) hx hb d_M_goRides_112 (by decide) ?_
      refine lv_istore_n (lv' := [(1, .int 0), (0, .ref (a 0))]) hx hb d_M_goRides_113 rfl hl (by decide) rfl (fun ls hl => ?_)
      obtain ⟨k, hw⟩ := hw
      exact k_M_goRides_114 hC post k _ _ _ _ ls hw hI (lv_sub hl [1, 0] rfl)
    · have hw := hw.2 hc
      refine lv_iconst (v := 0) hx hb d_M_goRides_41 (by decide) ?_
      refine lv_istore_n (lv' := [(2, .int 0), (0, .ref (a 0)), (1, .int x1)]) hx hb d_M_goRides_42 rfl hl (by decide) rfl (fun ls hl => ?_)
      obtain ⟨k, hw⟩ := hw
      exact k_M_goRides_43 hC post _ ih k _ _ _ _ _ ls hw hI (lv_sub hl [1, 2, 0] rfl)
set_option maxRecDepth 100000 in
set_option maxHeartbeats 4000000 in
theorem k_M_goRides_7 {p : Program} {l : Launch} {e : Env} {s : State} {m : MethodId} {args : Array Value} {below : List Frame} {meth : Method} {c : Code} {dC : Nat → ClassId} {dI : Nat → Nat → Nat} {cA : ClassId} {a : Nat → Nat} {A : Nat → Prop} (hC : tC p s m meth c args b_M_goRides 3 none wsA R_M A) (post : tS → Prop) : ∀ n : Nat, ∀ (x1 : Int32) (u : tS) (H : Heap) (locs : List Loc) (ls : Array Slot), w_M_goRides_7 post n x1 u → tX (dC, dI) twCl [(cA, .int)] A s H locs (wdM a cA u) → lv_has ls 3 [(0, .ref (a 0)), (1, .int x1)] → W p l e ({ frames := 3, cells := 0, slots := 0, locals := 67 }) s m args below meth c H locs 0 0 (MQ below (va_Qv post (tB (dC, dI) twCl [(cA, .int)] A (wdM a cA)) A) args s 0 0 A) (F0 m 7 ls []) := by
  obtain ⟨hx, hb, hr, hml, hown, hts, hlocks, hA, hN⟩ := id hC
  intro n
  induction n with
  | zero => intro x1 u H locs ls hw; exact False.elim hw
  | succ n ih =>
    intro x1 u H locs ls hw hI hl
    refine lv_iload_n hx hb d_M_goRides_7 rfl (lv_at hl 1 rfl) ?_
    refine lv_bipush (v := 12) hx hb d_M_goRides_8 (by decide) ?_
    refine lv_icmp_ge (tgt := 31) hx hb d_M_goRides_10 (by decide) (fun hc => ?_) (fun hc => ?_)
    · have hw := hw.1 hc
      refine lv_iconst (v := 0) hx hb d_M_goRides_31 (by decide) ?_
      refine lv_istore_n (lv' := [(1, .int 0), (0, .ref (a 0))]) hx hb d_M_goRides_32 rfl hl (by decide) rfl (fun ls hl => ?_)
      obtain ⟨k, hw⟩ := hw
      exact k_M_goRides_33 hC post k _ _ _ _ ls hw hI (lv_sub hl [1, 0] rfl)
    · have hw := hw.2 hc
      refine lv_aload_n hx hb d_M_goRides_13 rfl (lv_at hl 0 rfl) ?_
      refine va_get (D := (dC, dI)) (C := R_M) (T := F_M) (N := 22) hx hb hts in_M hown hI.1 hI.2.1 0 (wdM_o0 a cA _) rfl 20 (by decide) (hts _ wA_609) (fun _ h9 => h9) rfl d_M_goRides_14 ?_
      refine lv_iload_n hx hb d_M_goRides_17 rfl (lv_at hl 1 rfl) ?_
      refine lv_aload_n hx hb d_M_goRides_18 rfl (lv_at hl 0 rfl) ?_
      refine va_get (D := (dC, dI)) (C := R_M) (T := F_M) (N := 22) hx hb hts in_M hown hI.1 hI.2.1 0 (wdM_o0 a cA _) rfl 18 (by decide) (hts _ wA_607) (fun _ h9 => h9) rfl d_M_goRides_19 ?_
      refine lv_iload_n hx hb d_M_goRides_22 rfl (lv_at hl 1 rfl) ?_
      obtain ⟨hi, hw⟩ := hw
      refine va_iald (D := (dC, dI)) hx hb hI.1 hI.2.1 14 0 (wdM_o14 a cA _) rfl hi d_M_goRides_23 ?_
      obtain ⟨hi, hw⟩ := hw
      refine tr_iast (w := wdM a cA) hx hb hI 16 0 15 (wdM_o16 a cA _) rfl (wdM_a15 a cA _ _ _) hi d_M_goRides_24 (fun H locs hI => ?_)
      refine lv_iinc (v := (x1 + 1)) (lv' := [(1, .int (x1 + 1)), (0, .ref (a 0))]) hx hb d_M_goRides_25 hl (k := 1) rfl rfl (by decide) rfl (fun ls hl => ?_)
      refine lv_goto (tgt := 7) hx hb d_M_goRides_28 (by decide) ?_
      exact ih _ _ _ _ ls hw hI (lv_sub hl [1, 0] rfl)
set_option maxRecDepth 100000 in
set_option maxHeartbeats 4000000 in
theorem c_M_goRides (l : Launch) (dC : Nat → ClassId) (dI : Nat → Nat → Nat) (cA : ClassId) (a : Nat → Nat) (u : tS) (post : tS → Prop) (sz : Nat) : Met l y_M_goRides ws_M_goRides ({ frames := 3, cells := 0, slots := 0, locals := 67 }) (va_Pc [.ref (a 0)] (tP (dC, dI) twCl [(cA, .int)] (wdM a cA) u sz (w_M_goRides post u))) (va_Qv post (tB (dC, dI) twCl [(cA, .int)] (va_A (wdM a cA u) sz) (wdM a cA)) (va_A (wdM a cA u) sz)) 0 0 (va_A (wdM a cA u) sz) := by
  refine Met.ofW (cc := b_M_goRides) (maxL := 3) (ret := none) (by decide) rfl ?_
  intro p e s m args below meth c s₁ B hml hv
  obtain ⟨rfl, hsz, hP, hK, hD0, hN, hw⟩ := hv
  have hx := B.exec
  have hb := B.bytes
  have hr := B.returns
  have hts : ∀ w ∈ wsA, w.before _ s = true := fun w h => atoms_spec (ws := ws_M_goRides) B.pre w (List.mem_cons_of_mem _ h)
  have hown : s.vm.findClass R_M = some m.cls := findClass_of_methodNamed B.named
  have hlocks := B.notSynchronized
  subst hsz
  have hD := hD0.self (sz := s.heap.size)
  generalize hAe : va_A (wdM a cA u) s.heap.size = A at hD ⊢
  have hA : ∀ q : Nat, s.heap.size ≤ q → A q := fun q h => by rw [← hAe]; exact Or.inr h
  have hS : va_S A s.heap s.heap [] := va_S.rf
  have hI : tX (dC, dI) twCl [(cA, .int)] A s s.heap [] (wdM a cA u) := ⟨hK, hP, hD, hS⟩
  have hC : tC p s m meth c ([.ref (a 0)] : List Value).toArray b_M_goRides 3 none wsA R_M A := ⟨hx, hb, hr, hml, hown, hts, hlocks, hA, hN⟩
  have hl := lv_entry ([.ref (a 0)]) (n := 3) (Nat.le_of_ble_eq_true rfl)
  rw [lg_entry_eq]
  generalize (lg_sl ([.ref (a 0)]) ++ List.replicate (3 - (lg_sl ([.ref (a 0)])).length) Slot.unset).toArray = ls at hl ⊢
  have hl : lv_has ls 3 [(0, .ref (a 0))] := hl
  have hw : (∃ k, w_M_goRides_7 post k 0 (tI u 5 0)) := hw
  refine lv_aload_n hx hb d_M_goRides_0 rfl (lv_at hl 0 rfl) ?_
  refine lv_iconst (v := 0) hx hb d_M_goRides_1 (by decide) ?_
  refine tr_putz (C := R_M) (T := F_M) (N := 22) (w := wdM a cA) hx hb hts in_M ft_M ft_M_ok fn_M hown hI 0 5 (wdM_o0 a cA _) rfl 21 (by decide) (hts _ wA_610) rfl (by decide +kernel) rfl rfl (Nat.le_of_ble_eq_true rfl) (wdM_i5 a cA _ _) d_M_goRides_2 (fun H locs hI => ?_)
  refine lv_iconst (v := 0) hx hb d_M_goRides_5 (by decide) ?_
  refine lv_istore_n (lv' := [(1, .int 0), (0, .ref (a 0))]) hx hb d_M_goRides_6 rfl hl (by decide) rfl (fun ls hl => ?_)
  obtain ⟨k, hw⟩ := hw
  exact k_M_goRides_7 hC post k _ _ _ _ ls hw hI (lv_sub hl [1, 0] rfl)
def w_M_find_15 (post : tS → Prop) : Nat → tS → Prop
  | 0 => fun _ => False
  | n + 1 => fun u => (((u.1 5) = 0 → (post u)) ∧ (¬ (u.1 5) = 0 → (w_M_goRides (fun u23 => (w_M_find_15 post n u23)) u)))
def w_M_find (post : tS → Prop) (x1 : Int32) (x2 : Int32) (u : tS) : Prop := (w_M_begin (fun u3 => (w_M_goWalks (fun u7 => (∃ k, w_M_find_15 post k (tI u7 5 1))) u3)) x1 x2 u)
set_option maxRecDepth 100000 in
set_option maxHeartbeats 4000000 in
theorem k_M_find_15 {p : Program} {l : Launch} {e : Env} {s : State} {m : MethodId} {args : Array Value} {below : List Frame} {meth : Method} {c : Code} {dC : Nat → ClassId} {dI : Nat → Nat → Nat} {cA : ClassId} {a : Nat → Nat} {A : Nat → Prop} (hC : tC p s m meth c args b_M_find 3 none wsA R_M A) (post : tS → Prop) : ∀ n : Nat, ∀ (u : tS) (H : Heap) (locs : List Loc) (ls : Array Slot), w_M_find_15 post n u → tX (dC, dI) twCl [(cA, .int)] A s H locs (wdM a cA u) → lv_has ls 3 [(0, .ref (a 0))] → W p l e ({ frames := 4, cells := 0, slots := 0, locals := 89 }) s m args below meth c H locs 0 0 (MQ below (va_Qv post (tB (dC, dI) twCl [(cA, .int)] A (wdM a cA)) A) args s 0 0 A) (F0 m 15 ls []) := by
  obtain ⟨hx, hb, hr, hml, hown, hts, hlocks, hA, hN⟩ := id hC
  intro n
  induction n with
  | zero => intro u H locs ls hw; exact False.elim hw
  | succ n ih =>
    intro u H locs ls hw hI hl
    refine lv_aload_n hx hb d_M_find_15 rfl (lv_at hl 0 rfl) ?_
    refine va_get (D := (dC, dI)) (C := R_M) (T := F_M) (N := 22) hx hb hts in_M hown hI.1 hI.2.1 0 (wdM_o0 a cA _) rfl 21 (by decide) (hts _ wA_610) (fun _ h9 => h9) rfl d_M_find_16 ?_
    refine lv_if_eq (tgt := 29) hx hb d_M_find_19 (by decide) (fun hc => ?_) (fun hc => ?_)
    · have hw := hw.1 hc
      exact tr_vret hx hb hr hlocks hI hw d_M_find_29
    · have hw := hw.2 hc
      refine lv_aload_n hx hb d_M_find_22 rfl (lv_at hl 0 rfl) ?_
      refine tr_gov (w := wdM a cA) hI hA (va_runV (As := []) (rest := []) ⟨hx, hb, hml, hown, hts⟩ (c_M_goRides l dC dI cA a _ _ _) (cwV 0 hts (wsA_goodV wA_728 wA_730 wA_19 wA_40 wA_731) rfl rfl rfl (by decide +kernel) ⟨Nat.le_of_ble_eq_true rfl, Nat.le_of_ble_eq_true rfl⟩) (tr_preV (ci := 9) (q0 := 0) hI rfl (wdM_o0 a cA _) rfl hN hw) rfl rfl hl.1 rfl (lv_room (Nat.le_of_ble_eq_true rfl)) d_M_find_23 ⟨Nat.zero_le _, Nat.zero_le _⟩) (fun u23 H locs hw hI => ?_)
      refine lv_goto (tgt := 15) hx hb d_M_find_26 (by decide) ?_
      exact ih _ _ _ ls hw hI (lv_sub hl [0] rfl)
set_option maxRecDepth 100000 in
set_option maxHeartbeats 4000000 in
theorem c_M_find (l : Launch) (dC : Nat → ClassId) (dI : Nat → Nat → Nat) (cA : ClassId) (a : Nat → Nat) (u : tS) (x1 : Int32) (x2 : Int32) (post : tS → Prop) (sz : Nat) : Met l y_M_find ws_M_find ({ frames := 4, cells := 0, slots := 0, locals := 89 }) (va_Pc [.ref (a 0), .int x1, .int x2] (tP (dC, dI) twCl [(cA, .int)] (wdM a cA) u sz (w_M_find post x1 x2 u))) (va_Qv post (tB (dC, dI) twCl [(cA, .int)] (va_A (wdM a cA u) sz) (wdM a cA)) (va_A (wdM a cA u) sz)) 0 0 (va_A (wdM a cA u) sz) := by
  refine Met.ofW (cc := b_M_find) (maxL := 3) (ret := none) (by decide) rfl ?_
  intro p e s m args below meth c s₁ B hml hv
  obtain ⟨rfl, hsz, hP, hK, hD0, hN, hw⟩ := hv
  have hx := B.exec
  have hb := B.bytes
  have hr := B.returns
  have hts : ∀ w ∈ wsA, w.before _ s = true := fun w h => atoms_spec (ws := ws_M_find) B.pre w (List.mem_cons_of_mem _ h)
  have hown : s.vm.findClass R_M = some m.cls := findClass_of_methodNamed B.named
  have hlocks := B.notSynchronized
  subst hsz
  have hD := hD0.self (sz := s.heap.size)
  generalize hAe : va_A (wdM a cA u) s.heap.size = A at hD ⊢
  have hA : ∀ q : Nat, s.heap.size ≤ q → A q := fun q h => by rw [← hAe]; exact Or.inr h
  have hS : va_S A s.heap s.heap [] := va_S.rf
  have hI : tX (dC, dI) twCl [(cA, .int)] A s s.heap [] (wdM a cA u) := ⟨hK, hP, hD, hS⟩
  have hC : tC p s m meth c ([.ref (a 0), .int x1, .int x2] : List Value).toArray b_M_find 3 none wsA R_M A := ⟨hx, hb, hr, hml, hown, hts, hlocks, hA, hN⟩
  have hl := lv_entry ([.ref (a 0), .int x1, .int x2]) (n := 3) (Nat.le_of_ble_eq_true rfl)
  rw [lg_entry_eq]
  generalize (lg_sl ([.ref (a 0), .int x1, .int x2]) ++ List.replicate (3 - (lg_sl ([.ref (a 0), .int x1, .int x2])).length) Slot.unset).toArray = ls at hl ⊢
  have hl : lv_has ls 3 [(0, .ref (a 0)), (1, .int x1), (2, .int x2)] := hl
  have hw : (w_M_begin (fun u3 => (w_M_goWalks (fun u7 => (∃ k, w_M_find_15 post k (tI u7 5 1))) u3)) x1 x2 u) := hw
  refine lv_aload_n hx hb d_M_find_0 rfl (lv_at hl 0 rfl) ?_
  refine lv_iload_n hx hb d_M_find_1 rfl (lv_at hl 1 rfl) ?_
  refine lv_iload_n hx hb d_M_find_2 rfl (lv_at hl 2 rfl) ?_
  refine tr_gov (w := wdM a cA) hI hA (va_runV (As := [.int x1, .int x2]) (rest := []) ⟨hx, hb, hml, hown, hts⟩ (c_M_begin l dC dI cA a _ _ _ _ _) (cwV 2 hts (wsA_goodV wA_715 wA_717 wA_16 wA_40 wA_718) rfl rfl rfl (by decide +kernel) ⟨Nat.le_of_ble_eq_true rfl, Nat.le_of_ble_eq_true rfl⟩) (tr_preV (ci := 9) (q0 := 0) hI rfl (wdM_o0 a cA _) rfl hN hw) rfl rfl hl.1 rfl (lv_room (Nat.le_of_ble_eq_true rfl)) d_M_find_3 ⟨Nat.zero_le _, Nat.zero_le _⟩) (fun u3 H locs hw hI => ?_)
  refine lv_aload_n hx hb d_M_find_6 rfl (lv_at hl 0 rfl) ?_
  refine tr_gov (w := wdM a cA) hI hA (va_runV (As := []) (rest := []) ⟨hx, hb, hml, hown, hts⟩ (c_M_goWalks l dC dI cA a _ _ _) (cwV 0 hts (wsA_goodV wA_720 wA_722 wA_17 wA_40 wA_723) rfl rfl rfl (by decide +kernel) ⟨Nat.le_of_ble_eq_true rfl, Nat.le_of_ble_eq_true rfl⟩) (tr_preV (ci := 9) (q0 := 0) hI rfl (wdM_o0 a cA _) rfl hN hw) rfl rfl hl.1 rfl (lv_room (Nat.le_of_ble_eq_true rfl)) d_M_find_7 ⟨Nat.zero_le _, Nat.zero_le _⟩) (fun u7 H locs hw hI => ?_)
  refine lv_aload_n hx hb d_M_find_10 rfl (lv_at hl 0 rfl) ?_
  refine lv_iconst (v := 1) hx hb d_M_find_11 (by decide) ?_
  refine tr_putz (C := R_M) (T := F_M) (N := 22) (w := wdM a cA) hx hb hts in_M ft_M ft_M_ok fn_M hown hI 0 5 (wdM_o0 a cA _) rfl 21 (by decide) (hts _ wA_610) rfl (by decide +kernel) rfl rfl (Nat.le_of_ble_eq_true rfl) (wdM_i5 a cA _ _) d_M_find_12 (fun H locs hI => ?_)
  obtain ⟨k, hw⟩ := hw
  exact k_M_find_15 hC post k _ _ _ ls hw hI (lv_sub hl [0] rfl)
def w_M_found (post : Int32 → tS → Prop) (x1 : Int32) (x2 : Int32) (x3 : Int32) (u : tS) : Prop := (w_M_find (fun u3 => (w_M_arrival (fun r8 u8 => ((1000000 ≤ r8 → (post (-1) u8)) ∧ (¬ 1000000 ≤ r8 → (w_M_arrival (fun r18 u18 => (post r18 u18)) x2 u8)))) x2 u3)) x1 x3 u)
set_option maxRecDepth 100000 in
set_option maxHeartbeats 4000000 in
theorem c_M_found (l : Launch) (dC : Nat → ClassId) (dI : Nat → Nat → Nat) (cA : ClassId) (a : Nat → Nat) (u : tS) (x1 : Int32) (x2 : Int32) (x3 : Int32) (post : Int32 → tS → Prop) (sz : Nat) : Met l y_M_found ws_M_found ({ frames := 5, cells := 0, slots := 0, locals := 111 }) (va_Pc [.ref (a 0), .int x1, .int x2, .int x3] (tP (dC, dI) twCl [(cA, .int)] (wdM a cA) u sz (w_M_found post x1 x2 x3 u))) (va_Qi post (tB (dC, dI) twCl [(cA, .int)] (va_A (wdM a cA u) sz) (wdM a cA)) (va_A (wdM a cA u) sz)) 0 0 (va_A (wdM a cA u) sz) := by
  refine Met.ofW (cc := b_M_found) (maxL := 4) (ret := (some .int)) (by decide) rfl ?_
  intro p e s m args below meth c s₁ B hml hv
  obtain ⟨rfl, hsz, hP, hK, hD0, hN, hw⟩ := hv
  have hx := B.exec
  have hb := B.bytes
  have hr := B.returns
  have hts : ∀ w ∈ wsA, w.before _ s = true := fun w h => atoms_spec (ws := ws_M_found) B.pre w (List.mem_cons_of_mem _ h)
  have hown : s.vm.findClass R_M = some m.cls := findClass_of_methodNamed B.named
  have hlocks := B.notSynchronized
  subst hsz
  have hD := hD0.self (sz := s.heap.size)
  generalize hAe : va_A (wdM a cA u) s.heap.size = A at hD ⊢
  have hA : ∀ q : Nat, s.heap.size ≤ q → A q := fun q h => by rw [← hAe]; exact Or.inr h
  have hS : va_S A s.heap s.heap [] := va_S.rf
  have hI : tX (dC, dI) twCl [(cA, .int)] A s s.heap [] (wdM a cA u) := ⟨hK, hP, hD, hS⟩
  have hC : tC p s m meth c ([.ref (a 0), .int x1, .int x2, .int x3] : List Value).toArray b_M_found 4 (some .int) wsA R_M A := ⟨hx, hb, hr, hml, hown, hts, hlocks, hA, hN⟩
  have hl := lv_entry ([.ref (a 0), .int x1, .int x2, .int x3]) (n := 4) (Nat.le_of_ble_eq_true rfl)
  rw [lg_entry_eq]
  generalize (lg_sl ([.ref (a 0), .int x1, .int x2, .int x3]) ++ List.replicate (4 - (lg_sl ([.ref (a 0), .int x1, .int x2, .int x3])).length) Slot.unset).toArray = ls at hl ⊢
  have hl : lv_has ls 4 [(0, .ref (a 0)), (1, .int x1), (2, .int x2), (3, .int x3)] := hl
  have hw : (w_M_find (fun u3 => (w_M_arrival (fun r8 u8 => ((1000000 ≤ r8 → (post (-1) u8)) ∧ (¬ 1000000 ≤ r8 → (w_M_arrival (fun r18 u18 => (post r18 u18)) x2 u8)))) x2 u3)) x1 x3 u) := hw
  refine lv_aload_n hx hb d_M_found_0 rfl (lv_at hl 0 rfl) ?_
  refine lv_iload_n hx hb d_M_found_1 rfl (lv_at hl 1 rfl) ?_
  refine lv_iload_n hx hb d_M_found_2 rfl (lv_at hl 3 rfl) ?_
  refine tr_gov (w := wdM a cA) hI hA (va_runV (As := [.int x1, .int x3]) (rest := []) ⟨hx, hb, hml, hown, hts⟩ (c_M_find l dC dI cA a _ _ _ _ _) (cwV 2 hts (wsA_goodV wA_711 wA_713 wA_15 wA_40 wA_714) rfl rfl rfl (by decide +kernel) ⟨Nat.le_of_ble_eq_true rfl, Nat.le_of_ble_eq_true rfl⟩) (tr_preV (ci := 9) (q0 := 0) hI rfl (wdM_o0 a cA _) rfl hN hw) rfl rfl hl.1 rfl (lv_room (Nat.le_of_ble_eq_true rfl)) d_M_found_3 ⟨Nat.zero_le _, Nat.zero_le _⟩) (fun u3 H locs hw hI => ?_)
  refine lv_aload_n hx hb d_M_found_6 rfl (lv_at hl 0 rfl) ?_
  refine lv_iload_n hx hb d_M_found_7 rfl (lv_at hl 2 rfl) ?_
  refine tr_goi (w := wdM a cA) hI hA (va_runV (As := [.int x2]) (rest := []) ⟨hx, hb, hml, hown, hts⟩ (c_M_arrival l dC dI cA a _ _ _ _) (cwV 1 hts (wsA_goodV wA_724 wA_726 wA_18 wA_40 wA_727) rfl rfl rfl (by decide +kernel) ⟨Nat.le_of_ble_eq_true rfl, Nat.le_of_ble_eq_true rfl⟩) (tr_preV (ci := 9) (q0 := 0) hI rfl (wdM_o0 a cA _) rfl hN hw) rfl rfl hl.1 rfl (lv_room (Nat.le_of_ble_eq_true rfl)) d_M_found_8 ⟨Nat.zero_le _, Nat.zero_le _⟩) (fun r8 u8 H locs hw hI => ?_)
  refine lv_ldc (v := 1000000) hx hb hown (hts _ wA_719) d_M_found_11 ?_
  refine lv_icmp_ge (tgt := 24) hx hb d_M_found_13 (by decide) (fun hc => ?_) (fun hc => ?_)
  · have hw := hw.1 hc
    refine lv_iconst (v := (-1)) hx hb d_M_found_24 (by decide) ?_
    exact tr_iret hx hb hr hlocks hI hw d_M_found_25
  · have hw := hw.2 hc
    refine lv_aload_n hx hb d_M_found_16 rfl (lv_at hl 0 rfl) ?_
    refine lv_iload_n hx hb d_M_found_17 rfl (lv_at hl 2 rfl) ?_
    refine tr_goi (w := wdM a cA) hI hA (va_runV (As := [.int x2]) (rest := []) ⟨hx, hb, hml, hown, hts⟩ (c_M_arrival l dC dI cA a _ _ _ _) (cwV 1 hts (wsA_goodV wA_724 wA_726 wA_18 wA_40 wA_727) rfl rfl rfl (by decide +kernel) ⟨Nat.le_of_ble_eq_true rfl, Nat.le_of_ble_eq_true rfl⟩) (tr_preV (ci := 9) (q0 := 0) hI rfl (wdM_o0 a cA _) rfl hN hw) rfl rfl hl.1 rfl (lv_room (Nat.le_of_ble_eq_true rfl)) d_M_found_18 ⟨Nat.zero_le _, Nat.zero_le _⟩) (fun r18 u18 H locs hw hI => ?_)
    refine lv_goto (tgt := 25) hx hb d_M_found_21 (by decide) ?_
    exact tr_iret hx hb hr hlocks hI hw d_M_found_25
def w_M_earliest (post : Int32 → tS → Prop) (x1 : Int32) (x2 : Int32) (x3 : Int32) (u : tS) : Prop := (w_M_isAsked (fun r4 u4 => ((r4 = 0 → (post (-2) u4)) ∧ (¬ r4 = 0 → (w_M_found (fun r14 u14 => (post r14 u14)) x1 x2 x3 u4)))) x1 x2 x3 u)
set_option maxRecDepth 100000 in
set_option maxHeartbeats 4000000 in
theorem c_M_earliest (l : Launch) (dC : Nat → ClassId) (dI : Nat → Nat → Nat) (cA : ClassId) (a : Nat → Nat) (u : tS) (x1 : Int32) (x2 : Int32) (x3 : Int32) (post : Int32 → tS → Prop) (sz : Nat) : Met l y_M_earliest ws_M_earliest ({ frames := 6, cells := 0, slots := 0, locals := 134 }) (va_Pc [.ref (a 0), .int x1, .int x2, .int x3] (tP (dC, dI) twCl [(cA, .int)] (wdM a cA) u sz (w_M_earliest post x1 x2 x3 u))) (va_Qi post (tB (dC, dI) twCl [(cA, .int)] (va_A (wdM a cA u) sz) (wdM a cA)) (va_A (wdM a cA u) sz)) 0 0 (va_A (wdM a cA u) sz) := by
  refine Met.ofW (cc := b_M_earliest) (maxL := 4) (ret := (some .int)) (by decide) rfl ?_
  intro p e s m args below meth c s₁ B hml hv
  obtain ⟨rfl, hsz, hP, hK, hD0, hN, hw⟩ := hv
  have hx := B.exec
  have hb := B.bytes
  have hr := B.returns
  have hts : ∀ w ∈ wsA, w.before _ s = true := fun w h => atoms_spec (ws := ws_M_earliest) B.pre w (List.mem_cons_of_mem _ h)
  have hown : s.vm.findClass R_M = some m.cls := findClass_of_methodNamed B.named
  have hlocks := B.notSynchronized
  subst hsz
  have hD := hD0.self (sz := s.heap.size)
  generalize hAe : va_A (wdM a cA u) s.heap.size = A at hD ⊢
  have hA : ∀ q : Nat, s.heap.size ≤ q → A q := fun q h => by rw [← hAe]; exact Or.inr h
  have hS : va_S A s.heap s.heap [] := va_S.rf
  have hI : tX (dC, dI) twCl [(cA, .int)] A s s.heap [] (wdM a cA u) := ⟨hK, hP, hD, hS⟩
  have hC : tC p s m meth c ([.ref (a 0), .int x1, .int x2, .int x3] : List Value).toArray b_M_earliest 4 (some .int) wsA R_M A := ⟨hx, hb, hr, hml, hown, hts, hlocks, hA, hN⟩
  have hl := lv_entry ([.ref (a 0), .int x1, .int x2, .int x3]) (n := 4) (Nat.le_of_ble_eq_true rfl)
  rw [lg_entry_eq]
  generalize (lg_sl ([.ref (a 0), .int x1, .int x2, .int x3]) ++ List.replicate (4 - (lg_sl ([.ref (a 0), .int x1, .int x2, .int x3])).length) Slot.unset).toArray = ls at hl ⊢
  have hl : lv_has ls 4 [(0, .ref (a 0)), (1, .int x1), (2, .int x2), (3, .int x3)] := hl
  have hw : (w_M_isAsked (fun r4 u4 => ((r4 = 0 → (post (-2) u4)) ∧ (¬ r4 = 0 → (w_M_found (fun r14 u14 => (post r14 u14)) x1 x2 x3 u4)))) x1 x2 x3 u) := hw
  refine lv_aload_n hx hb d_M_earliest_0 rfl (lv_at hl 0 rfl) ?_
  refine lv_iload_n hx hb d_M_earliest_1 rfl (lv_at hl 1 rfl) ?_
  refine lv_iload_n hx hb d_M_earliest_2 rfl (lv_at hl 2 rfl) ?_
  refine lv_iload_n hx hb d_M_earliest_3 rfl (lv_at hl 3 rfl) ?_
  refine tr_goi (w := wdM a cA) hI hA (va_runV (As := [.int x1, .int x2, .int x3]) (rest := []) ⟨hx, hb, hml, hown, hts⟩ (c_M_isAsked l dC dI cA a _ _ _ _ _ _) (cwV 3 hts (wsA_goodV wA_703 wA_705 wA_13 wA_40 wA_706) rfl rfl rfl (by decide +kernel) ⟨Nat.le_of_ble_eq_true rfl, Nat.le_of_ble_eq_true rfl⟩) (tr_preV (ci := 9) (q0 := 0) hI rfl (wdM_o0 a cA _) rfl hN hw) rfl rfl hl.1 rfl (lv_room (Nat.le_of_ble_eq_true rfl)) d_M_earliest_4 ⟨Nat.zero_le _, Nat.zero_le _⟩) (fun r4 u4 H locs hw hI => ?_)
  refine lv_if_eq (tgt := 20) hx hb d_M_earliest_7 (by decide) (fun hc => ?_) (fun hc => ?_)
  · have hw := hw.1 hc
    refine lv_bipush (v := (-2)) hx hb d_M_earliest_20 (by decide) ?_
    exact tr_iret hx hb hr hlocks hI hw d_M_earliest_22
  · have hw := hw.2 hc
    refine lv_aload_n hx hb d_M_earliest_10 rfl (lv_at hl 0 rfl) ?_
    refine lv_iload_n hx hb d_M_earliest_11 rfl (lv_at hl 1 rfl) ?_
    refine lv_iload_n hx hb d_M_earliest_12 rfl (lv_at hl 2 rfl) ?_
    refine lv_iload_n hx hb d_M_earliest_13 rfl (lv_at hl 3 rfl) ?_
    refine tr_goi (w := wdM a cA) hI hA (va_runV (As := [.int x1, .int x2, .int x3]) (rest := []) ⟨hx, hb, hml, hown, hts⟩ (c_M_found l dC dI cA a _ _ _ _ _ _) (cwV 3 hts (wsA_goodV wA_707 wA_709 wA_14 wA_40 wA_710) rfl rfl rfl (by decide +kernel) ⟨Nat.le_of_ble_eq_true rfl, Nat.le_of_ble_eq_true rfl⟩) (tr_preV (ci := 9) (q0 := 0) hI rfl (wdM_o0 a cA _) rfl hN hw) rfl rfl hl.1 rfl (lv_room (Nat.le_of_ble_eq_true rfl)) d_M_earliest_14 ⟨Nat.zero_le _, Nat.zero_le _⟩) (fun r14 u14 H locs hw hI => ?_)
    refine lv_goto (tgt := 22) hx hb d_M_earliest_17 (by decide) ?_
    exact tr_iret hx hb hr hlocks hI hw d_M_earliest_22
