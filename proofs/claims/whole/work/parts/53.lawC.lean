theorem lw_step {i L : Nat} (hL : L ≤ 3072) (hi : i + 6 ≤ L) (j : Int32) (h0 : 0 ≤ j) (h5 : j ≤ 5) : vp_in (nI i + j) L := by
  obtain ⟨k, hk, rfl⟩ := nI_of2 (M := 5) (n := 5) rfl (by intro h; have := Int32.lt_iff_toInt_lt.mp h; have := Int32.le_iff_toInt_le.mp h0; omega) h5
  rw [nI_add]
  exact vp_in_nI (by omega) (by omega)
set_option maxRecDepth 100000 in
set_option maxHeartbeats 4000000 in
/-- THE LAW'S LOOP, from its head, between states that Rel ties -/
theorem law_loop {p : Program} {l : Launch} {e : Env} {s : State} {m : MethodId} {below : List Frame} {meth : Method} {c : Code} {dC : Nat → ClassId} {dI : Nat → Nat → Nat} {cA : ClassId} {a b2 : Nat → Nat} {b L : Nat} {xs : Nat → Int32} {Rel : tS → tS → Prop} (hok : lw_ok Rel) (hL : L ≤ 3072) (C0 : lw_At p s m meth c b L xs) (hN : tN s) :
    ∀ (n i : Nat), i ≤ L + 6 → L + 7 ≤ i + n → ∀ (u v : tS) (H : Heap) (locs : List Loc) (ls : Array Slot), Rel u v → tX (dC, dI) twCl [(cA, .int)] (fun q => s.heap.size ≤ q) s H locs (wdX a cA u ++ wdM b2 cA v) → lv_has ls 4 [(0, .ref b), (1, .ref (a 0)), (2, .ref (b2 0)), (3, .int (nI i))] → W p l e room_1 s m #[Value.ref b] below meth c H locs 52 5715 (lw_Z below #[Value.ref b] s) (F0 m 18 ls []) := by
  obtain ⟨hx, hb, hr, hml, hown0, hts0, hX, hbl, hlocks, hgv⟩ := id C0
  have hbA : ¬ (fun q : Nat => s.heap.size ≤ q) b := Nat.not_le.mpr hbl
  obtain ⟨g0, g1, g2, g3, g4, g5, g6, g7, g8, g9, g10, g11, g12, g13, g14, g15, g16, g17⟩ := hok
  intro n
  induction n with
  | zero => intro i h1 h2; exact absurd h2 (by omega)
  | succ n ih =>
    intro i hi hn u v H locs ls hR hI hl
    refine lv_iload_n hx hb d_L_law_18 rfl (lv_at hl 3 rfl) ?_
    refine lv_aload_n hx hb d_L_law_19 rfl (lv_at hl 0 rfl) ?_
    refine va_slen hx hb hX hbl hbA hI.2.2.2 d_L_law_20 ?_
    refine lv_bipush (v := 6) hx hb d_L_law_21 (by decide) ?_
    refine lv_isub hx hb d_L_law_23 ?_
    refine lv_icmp_gt (tgt := 830) hx hb d_L_law_24 (by decide) (fun hc => ?_) (fun hc => ?_)
    · refine lv_iconst (v := 1) hx hb d_L_law_830 (by decide) ?_
      refine va_forget (fun q hq => hI.2.2.2.2.2 q hq) ?_
      refine W.widen (k := 52) (n := 5715) (Nat.le_refl 52) (Nat.le_refl 5715) ?_
      exact lw_ret hx hb hr hlocks d_L_law_831
    · have hlt : i + 6 ≤ L := by
        rcases Nat.lt_or_ge L (i + 6) with q | q
        · refine absurd (Int32.lt_iff_toInt_lt.mpr ?_) hc
          have e6 : (6 : Int32) = nI 6 := rfl
          show (nI L - 6).toInt < (nI i).toInt
          rw [e6, pk_sub_toInt (by omega) (by omega), nI_toInt (by omega)]
          omega
        · exact q
      have hin := lw_step hL hlt
      have tail : ∀ (u v : tS) (H : Heap) (locs : List Loc) (ls : Array Slot), Rel u v → tX (dC, dI) twCl [(cA, .int)] (fun q => s.heap.size ≤ q) s H locs (wdX a cA u ++ wdM b2 cA v) → lv_has ls 4 [(0, .ref b), (1, .ref (a 0)), (2, .ref (b2 0)), (3, .int (nI i))] → W p l e room_1 s m #[Value.ref b] below meth c H locs 52 5715 (lw_Z below #[Value.ref b] s) (F0 m 824 ls []) := by
        intro u v H locs ls hR hI hl
        refine lv_iinc (v := nI (i + 6)) (lv' := [(3, .int (nI (i + 6))), (0, .ref b), (1, .ref (a 0)), (2, .ref (b2 0))]) hx hb d_L_law_824 hl (k := 3) rfl (nI_add i 6) (by decide) rfl (fun ls hl => ?_)
        refine lv_goto (tgt := 18) hx hb d_L_law_827 (by decide) ?_
        exact ih (i + 6) (by omega) (by omega) u v H locs ls hR hI (lv_sub hl [1, 2, 3, 0] rfl)
      refine lv_aload_n hx hb d_L_law_27 rfl (lv_at hl 0 rfl) ?_
      refine lv_iload_n hx hb d_L_law_28 rfl (lv_at hl 3 rfl) ?_
      refine va_sld hx hb hX hbl hbA hI.2.2.2 (vp_in_nI (by omega) (by omega)) d_L_law_29 ?_
      refine lv_bipush (v := 31) hx hb d_L_law_30 (by decide) ?_
      refine lv_iand hx hb d_L_law_32 ?_
      refine lv_topi (fun z hz => ?_)
      by_cases hc0 : z = 0
      · refine lv_tableIn (tgt := 120) hx hb d_L_law_33 (by rw [hc0]; decide) (by rw [hc0]; decide) (by rw [hc0]; rfl) (by decide) ?_
        exact lw_case_0 C0 hN (nI i) hin tail u v H locs ls (g0 u v hR) hI hl
      by_cases hc1 : z = 1
      · refine lv_tableIn (tgt := 133) hx hb d_L_law_33 (by rw [hc1]; decide) (by rw [hc1]; decide) (by rw [hc1]; rfl) (by decide) ?_
        exact lw_case_1 C0 hN (nI i) hin tail u v H locs ls (g1 u v _ hR) hI hl
      by_cases hc2 : z = 2
      · refine lv_tableIn (tgt := 156) hx hb d_L_law_33 (by rw [hc2]; decide) (by rw [hc2]; decide) (by rw [hc2]; rfl) (by decide) ?_
        exact lw_case_2 C0 hN (nI i) hin tail u v H locs ls (g2 u v _ _ hR) hI hl
      by_cases hc3 : z = 3
      · refine lv_tableIn (tgt := 189) hx hb d_L_law_33 (by rw [hc3]; decide) (by rw [hc3]; decide) (by rw [hc3]; rfl) (by decide) ?_
        exact lw_case_3 C0 hN (nI i) hin tail u v H locs ls (g3 u v _ _ _ _ _ hR) hI hl
      by_cases hc4 : z = 4
      · refine lv_tableIn (tgt := 252) hx hb d_L_law_33 (by rw [hc4]; decide) (by rw [hc4]; decide) (by rw [hc4]; rfl) (by decide) ?_
        exact lw_case_4 C0 hN (nI i) hin tail u v H locs ls (g4 u v _ _ _ hR) hI hl
      by_cases hc5 : z = 5
      · refine lv_tableIn (tgt := 295) hx hb d_L_law_33 (by rw [hc5]; decide) (by rw [hc5]; decide) (by rw [hc5]; rfl) (by decide) ?_
        exact lw_case_5 C0 hN (nI i) hin tail u v H locs ls (g5 u v _ _ _ hR) hI hl
      by_cases hc6 : z = 6
      · refine lv_tableIn (tgt := 338) hx hb d_L_law_33 (by rw [hc6]; decide) (by rw [hc6]; decide) (by rw [hc6]; rfl) (by decide) ?_
        exact lw_case_6 C0 hN (nI i) hin tail u v H locs ls (g6 u v _ _ _ hR) hI hl
      by_cases hc7 : z = 7
      · refine lv_tableIn (tgt := 381) hx hb d_L_law_33 (by rw [hc7]; decide) (by rw [hc7]; decide) (by rw [hc7]; rfl) (by decide) ?_
        exact lw_case_7 C0 hN (nI i) hin tail u v H locs ls (g7 u v _ _ _ hR) hI hl
      by_cases hc8 : z = 8
      · refine lv_tableIn (tgt := 424) hx hb d_L_law_33 (by rw [hc8]; decide) (by rw [hc8]; decide) (by rw [hc8]; rfl) (by decide) ?_
        exact lw_case_8 C0 hN (nI i) hin tail u v H locs ls (g8 u v _ _ _ _ hR) hI hl
      by_cases hc9 : z = 9
      · refine lv_tableIn (tgt := 477) hx hb d_L_law_33 (by rw [hc9]; decide) (by rw [hc9]; decide) (by rw [hc9]; rfl) (by decide) ?_
        exact lw_case_9 C0 hN (nI i) hin tail u v H locs ls (g9 u v _ _ _ _ hR) hI hl
      by_cases hc10 : z = 10
      · refine lv_tableIn (tgt := 530) hx hb d_L_law_33 (by rw [hc10]; decide) (by rw [hc10]; decide) (by rw [hc10]; rfl) (by decide) ?_
        exact lw_case_10 C0 hN (nI i) hin tail u v H locs ls (g10 u v _ _ _ _ hR) hI hl
      by_cases hc11 : z = 11
      · refine lv_tableIn (tgt := 583) hx hb d_L_law_33 (by rw [hc11]; decide) (by rw [hc11]; decide) (by rw [hc11]; rfl) (by decide) ?_
        exact lw_case_11 C0 hN (nI i) hin tail u v H locs ls (g11 u v _ _ hR) hI hl
      by_cases hc12 : z = 12
      · refine lv_tableIn (tgt := 616) hx hb d_L_law_33 (by rw [hc12]; decide) (by rw [hc12]; decide) (by rw [hc12]; rfl) (by decide) ?_
        exact lw_case_12 C0 hN (nI i) hin tail u v H locs ls (g12 u v _ _ _ hR) hI hl
      by_cases hc13 : z = 13
      · refine lv_tableIn (tgt := 659) hx hb d_L_law_33 (by rw [hc13]; decide) (by rw [hc13]; decide) (by rw [hc13]; rfl) (by decide) ?_
        exact lw_case_13 C0 hN (nI i) hin tail u v H locs ls (g13 u v _ _ _ hR) hI hl
      by_cases hc14 : z = 14
      · refine lv_tableIn (tgt := 702) hx hb d_L_law_33 (by rw [hc14]; decide) (by rw [hc14]; decide) (by rw [hc14]; rfl) (by decide) ?_
        exact lw_case_14 C0 hN (nI i) hin tail u v H locs ls (g14 u v _ _ hR) hI hl
      by_cases hc15 : z = 15
      · refine lv_tableIn (tgt := 735) hx hb d_L_law_33 (by rw [hc15]; decide) (by rw [hc15]; decide) (by rw [hc15]; rfl) (by decide) ?_
        exact lw_case_15 C0 hN (nI i) hin tail u v H locs ls (g15 u v _ _ hR) hI hl
      by_cases hc16 : z = 16
      · refine lv_tableIn (tgt := 768) hx hb d_L_law_33 (by rw [hc16]; decide) (by rw [hc16]; decide) (by rw [hc16]; rfl) (by decide) ?_
        exact lw_case_16 C0 hN (nI i) hin tail u v H locs ls (g16 u v _ _ hR) hI hl
      by_cases hc17 : z = 17
      · refine lv_tableIn (tgt := 801) hx hb d_L_law_33 (by rw [hc17]; decide) (by rw [hc17]; decide) (by rw [hc17]; rfl) (by decide) ?_
        exact lw_case_17 C0 hN (nI i) hin tail u v H locs ls (g17 u v _ hR) hI hl
      refine lv_tableOut (tgt := 824) hx hb d_L_law_33 ?_ (by decide) ?_
      · have a0 := lv_neT hc0 (show (0 : Int32).toInt = 0 from rfl); have a1 := lv_neT hc1 (show (1 : Int32).toInt = 1 from rfl); have a2 := lv_neT hc2 (show (2 : Int32).toInt = 2 from rfl); have a3 := lv_neT hc3 (show (3 : Int32).toInt = 3 from rfl); have a4 := lv_neT hc4 (show (4 : Int32).toInt = 4 from rfl); have a5 := lv_neT hc5 (show (5 : Int32).toInt = 5 from rfl); have a6 := lv_neT hc6 (show (6 : Int32).toInt = 6 from rfl); have a7 := lv_neT hc7 (show (7 : Int32).toInt = 7 from rfl); have a8 := lv_neT hc8 (show (8 : Int32).toInt = 8 from rfl); have a9 := lv_neT hc9 (show (9 : Int32).toInt = 9 from rfl); have a10 := lv_neT hc10 (show (10 : Int32).toInt = 10 from rfl); have a11 := lv_neT hc11 (show (11 : Int32).toInt = 11 from rfl); have a12 := lv_neT hc12 (show (12 : Int32).toInt = 12 from rfl); have a13 := lv_neT hc13 (show (13 : Int32).toInt = 13 from rfl); have a14 := lv_neT hc14 (show (14 : Int32).toInt = 14 from rfl); have a15 := lv_neT hc15 (show (15 : Int32).toInt = 15 from rfl); have a16 := lv_neT hc16 (show (16 : Int32).toInt = 16 from rfl); have a17 := lv_neT hc17 (show (17 : Int32).toInt = 17 from rfl); omega
      · exact tail u v H locs ls hR hI hl
