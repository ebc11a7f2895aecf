/-- the states that the constructors leave -/
def ct_u (f : Nat → Int32) : tS := (fun _ => 0, va_up (fun _ _ => 0) 12 f)
def ct_v : tS := (fun _ => 0, fun _ _ => 0)
set_option maxRecDepth 100000 in
set_option maxHeartbeats 8000000 in
/-- THE LAW, from its entry, over a tie between states that each call keeps -/
theorem start_of {Rel : tS → tS → Prop} (hok : lw_ok Rel) (h0 : ∀ f : Nat → Int32, (∀ j : Nat, j < 144 → f j = 1000000) → Rel (ct_u f) ct_v) {p : Program} {e : Env} {s : State} {m : MethodId} {below : List Frame} {meth : Method} {c : Code} (l : Launch) {b L : Nat} {xs : Nat → Int32} (hL : L ≤ 3072) (C0 : lw_At p s m meth c b L xs) : W p l e room_1 s m #[Value.ref b] below meth c s.heap [] 0 0 (lw_Z below #[Value.ref b] s) (entryFrame m ([Value.ref b] : List Value).toArray 4) := by
  obtain ⟨hx, hb, hr, hml, hown0, hts0, hX, hbl, hlocks, hgv⟩ := id C0
  have hown : s.vm.findClass R_L = some m.cls := hown0
  have hts : ∀ w ∈ wsA, w.before #[Value.ref b] s = true := fun w h => hts0 w (wsA_tbl w h)
  have hN : tN s := ⟨va_Nw.of rfl (hts0 _ (List.mem_of_getElem? (i := 310) (by decide +kernel))), va_Nw.of rfl (hts0 _ (List.mem_of_getElem? (i := 379) (by decide +kernel)))⟩
  have hA : ∀ q : Nat, s.heap.size ≤ q → (fun q : Nat => s.heap.size ≤ q) q := fun _ h => h
  have hbA : ¬ (fun q : Nat => s.heap.size ≤ q) b := Nat.not_le.mpr hbl
  obtain ⟨c0, iS0, hKn0⟩ := u_known (C := R_T) (T := F_T) (N := 6) (n := 6) hts in_T (hts _ wA_44)
  obtain ⟨c1, iS1, hKn1⟩ := u_known (C := R_Ne) (T := F_Ne) (N := 5) (n := 5) hts in_Ne (hts _ wA_52)
  obtain ⟨c2, iS2, hKn2⟩ := u_known (C := R_Ri) (T := F_Ri) (N := 7) (n := 7) hts in_Ri (hts _ wA_58)
  obtain ⟨c3, iS3, hKn3⟩ := u_known (C := R_Bo) (T := F_Bo) (N := 3) (n := 3) hts in_Bo (hts _ wA_106)
  obtain ⟨c4, iS4, hKn4⟩ := u_known (C := R_Wa) (T := F_Wa) (N := 5) (n := 5) hts in_Wa (hts _ wA_128)
  obtain ⟨c5, iS5, hKn5⟩ := u_known (C := R_Ar) (T := F_Ar) (N := 2) (n := 2) hts in_Ar (hts _ wA_192)
  obtain ⟨c6, iS6, hKn6⟩ := u_known (C := R_Sp) (T := F_Sp) (N := 2) (n := 2) hts in_Sp (hts _ wA_205)
  obtain ⟨c7, iS7, hKn7⟩ := u_known (C := R_St) (T := F_St) (N := 3) (n := 3) hts in_St (hts _ wA_219)
  obtain ⟨c8, iS8, hKn8⟩ := u_known (C := R_Ac) (T := F_Ac) (N := 5) (n := 5) hts in_Ac (hts _ wA_238)
  obtain ⟨c9, iS9, hKn9⟩ := u_known (C := R_M) (T := F_M) (N := 22) (n := 22) hts in_M (hts _ wA_584)
  obtain ⟨dC, dI, hKc⟩ : ∃ (dC : Nat → ClassId) (dI : Nat → Nat → Nat), ∀ (k : Nat) (q : vw_C), twCl[k]? = some q → u_Kn s q.1 q.2.1 q.2.2 (dC k) (dI k) := by
    refine ⟨fun k => ([c0, c1, c2, c3, c4, c5, c6, c7, c8, c9] : List ClassId).getD k c0, fun k => ([iS0, iS1, iS2, iS3, iS4, iS5, iS6, iS7, iS8, iS9] : List (Nat → Nat)).getD k iS0, ?_⟩
    intro k q hq
    match k, hq with
    | 0, hq => cases hq; exact hKn0
    | 1, hq => cases hq; exact hKn1
    | 2, hq => cases hq; exact hKn2
    | 3, hq => cases hq; exact hKn3
    | 4, hq => cases hq; exact hKn4
    | 5, hq => cases hq; exact hKn5
    | 6, hq => cases hq; exact hKn6
    | 7, hq => cases hq; exact hKn7
    | 8, hq => cases hq; exact hKn8
    | 9, hq => cases hq; exact hKn9
    | k + 10, hq => simp [twCl] at hq
  obtain ⟨cA, kA, comp, hA1, hA2, hA3⟩ := Cond.arrayClass_spec (hts _ wA_104)
  have hS : va_S (fun q : Nat => s.heap.size ≤ q) s.heap s.heap [] := va_S.rf
  have hK : va_K (dC, dI) twCl [(cA, .int)] s := ⟨hKc, fun k q h => by
    match k, h with
    | 0, h => cases h; exact ⟨fun n z => ⟨fun k h => (by cases h), kA, hA2, comp, hA3⟩, hA1⟩
    | k + 1, h => simp at h⟩
  have hP : va_P (dC, dI) twCl [] s.heap := fun k q h => by simp at h
  have hD : va_D (fun q : Nat => s.heap.size ≤ q) [] := ⟨fun i j p q h => by simp at h, fun k q h => by simp at h⟩
  have hl := lv_entry ([.ref b]) (n := 4) (Nat.le_of_ble_eq_true rfl)
  rw [lg_entry_eq]
  generalize (lg_sl ([.ref b]) ++ List.replicate (4 - (lg_sl ([.ref b])).length) Slot.unset).toArray = ls at hl ⊢
  have hl : lv_has ls 4 [(0, .ref b)] := hl
  refine va_new (ci := 0) (fs := [.null, .null, .null, .null, .null, .null]) (C := R_T) (T := F_T) (N := 6) hx hb hts in_T ft_T ft_T_ok hown (hts _ wA_43) (hts _ wA_44) (hts _ wA_30) hK hP hD hS hA rfl (fun j hj => by rcases (show j = 0 ∨ j = 1 ∨ j = 2 ∨ j = 3 ∨ j = 4 ∨ j = 5 by omega) with rfl | rfl | rfl | rfl | rfl | rfl <;> rfl) (Nat.le_of_ble_eq_true rfl) (Nat.le_of_ble_eq_true rfl) d_L_law_0 (fun h1 H hP hD hS => ?_)
  have hP : va_P (dC, dI) twCl [(h1, .inr (0, [.null, .null, .null, .null, .null, .null]))] H := hP
  have hD : va_D (fun q : Nat => s.heap.size ≤ q) [(h1, .inr (0, [.null, .null, .null, .null, .null, .null]))] := hD
  refine W.widen (k := 1) (n := 6) (Nat.le_refl _) (Nat.le_refl _) ?_
  refine lv_dup hx hb d_L_law_3 rfl ?_
  have hPc := hP.sub (ws' := [(h1, .inr (0, [.null, .null, .null, .null, .null, .null]))]) [0] rfl
  have hDc := hD.sub (ws' := [(h1, .inr (0, [.null, .null, .null, .null, .null, .null]))]) [0] (by decide) rfl
  have hFc := va_free (wc := [(h1, .inr (0, [.null, .null, .null, .null, .null, .null]))]) hD hS hA [0] rfl
  refine va_callv (va_runI (As := []) (rest := [.ref h1]) ⟨hx, hb, hml, hown, hts⟩ (c_T_init l dC dI cA h1 H.size) (cwI 0 hts (wsA_good wA_47) rfl rfl rfl (hts _ wA_30) (hts _ wA_45) (hts _ wA_46) rfl (by decide +kernel) ⟨Nat.le_of_ble_eq_true rfl, Nat.le_of_ble_eq_true rfl⟩) ⟨cP_blind _, fun U hU hW => ⟨rfl, by rw [hU], by rw [hU]; exact hPc, va_K.moved hW.alike hK, hDc.weaken (fun _ _ _ _ => trivial), tN_warm hW hN⟩⟩ rfl rfl hl.1 rfl (lv_room (Nat.le_of_ble_eq_true rfl)) d_L_law_4 ⟨Nat.le_of_ble_eq_true rfl, Nat.le_of_ble_eq_true rfl⟩) hS (fun q _ h => hFc q h) hFc (fun u t H1 locs ht hvm hw hB hz1 hk1 hS => ?_)
  obtain ⟨q1, f1, hf1, hP1, hK1, hD1⟩ := hB
  rw [ht] at hP1
  obtain ⟨hP, hD⟩ := va_join (wr := []) (w1 := cw_T h1 cA q1 f1) hP hD [0] [] rfl rfl (by decide) (by decide) hk1 hFc hP1 hD1
  generalize H1 = H at hP hS ⊢
  have hP : va_P (dC, dI) twCl (cw_T h1 cA q1 f1) H := hP
  have hD : va_D (fun q : Nat => s.heap.size ≤ q) (cw_T h1 cA q1 f1) := hD
  refine W.widen (k := 35) (n := 3553) (Nat.le_refl _) (Nat.le_refl _) ?_
  refine lv_astore_n (lv' := [(1, .ref h1), (0, .ref b)]) hx hb d_L_law_7 rfl hl (by decide) rfl (fun ls hl => ?_)
  refine va_new (ci := 9) (fs := [.int 0, .null, .int 0, .null, .null, .null, .null, .null, .null, .int 0, .null, .null, .null, .int 0, .null, .null, .int 0, .null, .null, .null, .null, .int 0]) (C := R_M) (T := F_M) (N := 22) hx hb hts in_M ft_M ft_M_ok hown (hts _ wA_583) (hts _ wA_584) (hts _ wA_40) hK hP hD hS hA rfl (fun j hj => by rcases (show j = 0 ∨ j = 1 ∨ j = 2 ∨ j = 3 ∨ j = 4 ∨ j = 5 ∨ j = 6 ∨ j = 7 ∨ j = 8 ∨ j = 9 ∨ j = 10 ∨ j = 11 ∨ j = 12 ∨ j = 13 ∨ j = 14 ∨ j = 15 ∨ j = 16 ∨ j = 17 ∨ j = 18 ∨ j = 19 ∨ j = 20 ∨ j = 21 by omega) with rfl | rfl | rfl | rfl | rfl | rfl | rfl | rfl | rfl | rfl | rfl | rfl | rfl | rfl | rfl | rfl | rfl | rfl | rfl | rfl | rfl | rfl <;> rfl) (Nat.le_of_ble_eq_true rfl) (Nat.le_of_ble_eq_true rfl) d_L_law_8 (fun h2 H hP hD hS => ?_)
  have hP : va_P (dC, dI) twCl (cw_T h1 cA q1 f1 ++ [(h2, .inr (9, [.int 0, .null, .int 0, .null, .null, .null, .null, .null, .null, .int 0, .null, .null, .null, .int 0, .null, .null, .int 0, .null, .null, .null, .null, .int 0]))]) H := hP
  have hD : va_D (fun q : Nat => s.heap.size ≤ q) (cw_T h1 cA q1 f1 ++ [(h2, .inr (9, [.int 0, .null, .int 0, .null, .null, .null, .null, .null, .null, .int 0, .null, .null, .null, .int 0, .null, .null, .int 0, .null, .null, .null, .null, .int 0]))]) := hD
  refine W.widen (k := 36) (n := 3575) (Nat.le_refl _) (Nat.le_refl _) ?_
  refine lv_dup hx hb d_L_law_11 rfl ?_
  have hPc := hP.sub (ws' := [(h2, .inr (9, [.int 0, .null, .int 0, .null, .null, .null, .null, .null, .null, .int 0, .null, .null, .null, .int 0, .null, .null, .int 0, .null, .null, .null, .null, .int 0]))]) [35] rfl
  have hDc := hD.sub (ws' := [(h2, .inr (9, [.int 0, .null, .int 0, .null, .null, .null, .null, .null, .null, .int 0, .null, .null, .null, .int 0, .null, .null, .int 0, .null, .null, .null, .null, .int 0]))]) [35] (by decide) rfl
  have hFc := va_free (wc := [(h2, .inr (9, [.int 0, .null, .int 0, .null, .null, .null, .null, .null, .null, .int 0, .null, .null, .null, .int 0, .null, .null, .int 0, .null, .null, .null, .null, .int 0]))]) hD hS hA [35] rfl
  refine va_callv (va_runI (As := []) (rest := [.ref h2]) ⟨hx, hb, hml, hown, hts⟩ (c_M_init l dC dI cA h2 H.size) (cwI 0 hts (wsA_good wA_587) rfl rfl rfl (hts _ wA_40) (hts _ wA_585) (hts _ wA_586) rfl (by decide +kernel) ⟨Nat.le_of_ble_eq_true rfl, Nat.le_of_ble_eq_true rfl⟩) ⟨cP_blind _, fun U hU hW => ⟨rfl, by rw [hU], by rw [hU]; exact hPc, va_K.moved hW.alike hK, hDc.weaken (fun _ _ _ _ => trivial), tN_warm hW hN⟩⟩ rfl rfl hl.1 rfl (lv_room (Nat.le_of_ble_eq_true rfl)) d_L_law_12 ⟨Nat.le_of_ble_eq_true rfl, Nat.le_of_ble_eq_true rfl⟩) hS (fun q _ h => hFc q h) hFc (fun u t H1 locs ht hvm hw hB hz1 hk1 hS => ?_)
  obtain ⟨q2, f2, hf2, hP1, hK1, hD1⟩ := hB
  rw [ht] at hP1
  obtain ⟨hP, hD⟩ := va_join (wr := cw_T h1 cA q1 f1) (w1 := cw_M h2 cA q2 f2) hP hD [35] [0, 1, 2, 3, 4, 5, 6, 7, 8, 9, 10, 11, 12, 13, 14, 15, 16, 17, 18, 19, 20, 21, 22, 23, 24, 25, 26, 27, 28, 29, 30, 31, 32, 33, 34] rfl rfl (by decide) (by decide) hk1 hFc hP1 hD1
  generalize H1 = H at hP hS ⊢
  have hP : va_P (dC, dI) twCl (cw_T h1 cA q1 f1 ++ cw_M h2 cA q2 f2) H := hP
  have hD : va_D (fun q : Nat => s.heap.size ≤ q) (cw_T h1 cA q1 f1 ++ cw_M h2 cA q2 f2) := hD
  refine W.widen (k := 52) (n := 5715) (Nat.le_refl _) (Nat.le_refl _) ?_
  refine lv_astore_n (lv' := [(2, .ref h2), (1, .ref h1), (0, .ref b)]) hx hb d_L_law_15 rfl hl (by decide) rfl (fun ls hl => ?_)
  refine lv_iconst (v := 0) hx hb d_L_law_16 (by decide) ?_
  refine lv_istore_n (lv' := [(3, .int 0), (2, .ref h2), (1, .ref h1), (0, .ref b)]) hx hb d_L_law_17 rfl hl (by decide) rfl (fun ls hl => ?_)
  have hP9 := hP.sub (ws' := wdX (fun k => ([h1, (q1 0), (q1 2), (q1 9), (q1 12), (q1 17), (q1 20), (q1 23), (q1 26), (q1 29), (q1 1), (q1 3), (q1 4), (q1 5), (q1 6), (q1 7), (q1 8), (q1 10), (q1 11), (q1 13), (q1 14), (q1 15), (q1 16), (q1 18), (q1 19), (q1 21), (q1 22), (q1 24), (q1 25), (q1 27), (q1 28), (q1 30), (q1 31), (q1 32), (q1 33)] : List Nat).getD k 0) cA (ct_u f1) ++ wdM (fun k => ([h2, (q2 0), (q2 1), (q2 2), (q2 3), (q2 4), (q2 5), (q2 6), (q2 7), (q2 8), (q2 9), (q2 10), (q2 11), (q2 12), (q2 13), (q2 14), (q2 15)] : List Nat).getD k 0) cA ct_v) [0, 1, 3, 10, 13, 18, 21, 24, 27, 30, 2, 4, 5, 6, 7, 8, 9, 11, 12, 14, 15, 16, 17, 19, 20, 22, 23, 25, 26, 28, 29, 31, 32, 33, 34, 35, 36, 37, 38, 39, 40, 41, 42, 43, 44, 45, 46, 47, 48, 49, 50, 51] rfl
  have hD9 := hD.sub (ws' := wdX (fun k => ([h1, (q1 0), (q1 2), (q1 9), (q1 12), (q1 17), (q1 20), (q1 23), (q1 26), (q1 29), (q1 1), (q1 3), (q1 4), (q1 5), (q1 6), (q1 7), (q1 8), (q1 10), (q1 11), (q1 13), (q1 14), (q1 15), (q1 16), (q1 18), (q1 19), (q1 21), (q1 22), (q1 24), (q1 25), (q1 27), (q1 28), (q1 30), (q1 31), (q1 32), (q1 33)] : List Nat).getD k 0) cA (ct_u f1) ++ wdM (fun k => ([h2, (q2 0), (q2 1), (q2 2), (q2 3), (q2 4), (q2 5), (q2 6), (q2 7), (q2 8), (q2 9), (q2 10), (q2 11), (q2 12), (q2 13), (q2 14), (q2 15)] : List Nat).getD k 0) cA ct_v) [0, 1, 3, 10, 13, 18, 21, 24, 27, 30, 2, 4, 5, 6, 7, 8, 9, 11, 12, 14, 15, 16, 17, 19, 20, 22, 23, 25, 26, 28, 29, 31, 32, 33, 34, 35, 36, 37, 38, 39, 40, 41, 42, 43, 44, 45, 46, 47, 48, 49, 50, 51] (by decide) rfl
  exact law_loop (a := (fun k => ([h1, (q1 0), (q1 2), (q1 9), (q1 12), (q1 17), (q1 20), (q1 23), (q1 26), (q1 29), (q1 1), (q1 3), (q1 4), (q1 5), (q1 6), (q1 7), (q1 8), (q1 10), (q1 11), (q1 13), (q1 14), (q1 15), (q1 16), (q1 18), (q1 19), (q1 21), (q1 22), (q1 24), (q1 25), (q1 27), (q1 28), (q1 30), (q1 31), (q1 32), (q1 33)] : List Nat).getD k 0)) (b2 := (fun k => ([h2, (q2 0), (q2 1), (q2 2), (q2 3), (q2 4), (q2 5), (q2 6), (q2 7), (q2 8), (q2 9), (q2 10), (q2 11), (q2 12), (q2 13), (q2 14), (q2 15)] : List Nat).getD k 0)) hok hL C0 hN (L + 7) 0 (by omega) (by omega) (ct_u f1) ct_v H _ ls (h0 f1 hf1) ⟨hK, hP9, hD9, hS⟩ (lv_sub hl [3, 2, 1, 0] rfl)
