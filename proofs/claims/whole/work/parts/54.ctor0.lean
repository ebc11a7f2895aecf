def cP (D : va_G) (cA : ClassId) (ws : va_W) (sz : Nat) (U : State) : Prop := U.heap.size = sz ∧ va_P D twCl ws U.heap ∧ va_K D twCl [(cA, .int)] U ∧ va_D (fun _ => True) ws ∧ tN U
theorem cP_blind {D : va_G} {cA : ClassId} {ws : va_W} {sz : Nat} (av : List Value) : FrameBlind (va_Pc av (cP D cA ws sz)) := fun a U g mk q => by
  obtain ⟨q0, q1, qP, qK, qD, qN⟩ := q
  exact ⟨q0, q1, qP, va_K.moved (u := U) (U := U.calling g mk a) (Vm.Alike.refl U.vm) qK, qD, va_Nw.same rfl (U := U.calling g mk a) rfl qN.1, va_Nw.same rfl (U := U.calling g mk a) rfl qN.2⟩
def cB (D : va_G) (cA : ClassId) (A : Nat → Prop) (F : (Nat → Int32) → Prop) (ws : (Nat → Nat) → (Nat → Int32) → va_W) (t : State) : Prop := ∃ (q : Nat → Nat) (f : Nat → Int32), F f ∧ va_P D twCl (ws q f) t.heap ∧ va_K D twCl [(cA, .int)] t ∧ va_D A (ws q f)
section CR
variable {p : Program} {l : Launch} {e : Env} {R : Room} {s : State} {m : MethodId} {args : Array Value} {below : List Frame} {meth : Method} {c : Code} {H H0 : Heap} {locs : List Loc} {cells slots : Nat} {Q : State → Prop} {pc : Nat} {ls : Array Slot} {rest : List Value} {cc : ByteArray}
variable {D : va_G} {cl : List vw_C} {A : Nat → Prop} {ws : va_W} {cA : ClassId}
theorem tr_newa (hexec : p.tables.exec = Jvm.exec) (hb : c.code = cc) (harr : (Cond.arrayClass .int).before args s = true) (hK : va_K D cl [(cA, .int)] s) (hP : va_P D cl ws H) (hD : va_D A ws) (hS : va_S A H0 H locs) (hA : ∀ q, H0.size ≤ q → A q)
    {n : Int32} (N' : Nat) (hn : ¬ n < 0) (hN : n.toNatClampNeg = N') (hbytes : N' * componentBytes .int ≤ 536870912) (hcells : cells + 1 ≤ R.cells) (hslots : slots + N' ≤ R.slots) (hdg : decode cc pc = .ok (.newarray .int, 2))
    (kk : ∀ (q : Nat) (H1 : Heap), va_P D cl (ws ++ [(q, .inl (cA, N', .inl (fun _ => 0)))]) H1 → va_D A (ws ++ [(q, .inl (cA, N', .inl (fun _ => 0)))]) → va_S A H0 H1 locs →
      W p l e R s m args below meth c H1 locs (cells + 1) (slots + N') Q (F0 m (pc + 2) ls (.ref q :: rest))) : W p l e R s m args below meth c H locs cells slots Q (F0 m pc ls (.int n :: rest)) := by
  refine va_newa (atype := .int) (ty := .int) (a0 := (N', .inl (fun _ => 0))) hexec hb harr rfl hK hP hD hS hA (fun _ => rfl) hn hN hbytes hcells hslots hdg (fun q cA' H1 hK1 hP1 hD1 hS1 => ?_)
  have h1 := (hK1.2 1 (cA', .int) rfl).2
  have h2 := (hK.2 0 (cA, .int) rfl).2
  have e : cA' = cA := Option.some.inj (h1.symm.trans h2)
  subst e
  exact kk q H1 hP1 hD1 hS1
end CR
set_option maxRecDepth 100000 in
set_option maxHeartbeats 4000000 in
theorem k_J_fillG_5 {p : Program} {l : Launch} {e : Env} {s : State} {m : MethodId} {args : Array Value} {below : List Frame} {meth : Method} {c : Code} {dC : Nat → ClassId} {dI : Nat → Nat → Nat} {cA : ClassId} {A : Nat → Prop} {w : tS → va_W} {b0 q0 : Nat} (hq : ∀ u : tS, (w u)[q0]? = some (b0, .inl (cA, 144, .inl (u.2 12)))) (hset : ∀ (u : tS) (i x : Int32), (w u).set q0 (b0, .inl (cA, 144, .inl (upd (u.2 12) i.toNatClampNeg x))) = w (tA u 12 i x)) (hC : tC p s m meth c args b_J_fill 4 none wsA R_J A) (post : tS → Prop) : ∀ n : Nat, ∀ (x1 x2 x3 : Int32) (u : tS) (H : Heap) (locs : List Loc) (ls : Array Slot), w_J_fill_5 post n x1 x2 x3 u → tX (dC, dI) twCl [(cA, .int)] A s H locs (w u) → lv_has ls 4 [(0, .ref b0), (1, .int x1), (2, .int x2), (3, .int x3)] → W p l e ({ frames := 0, cells := 0, slots := 0, locals := 0 }) s m args below meth c H locs 0 0 (MQ below (va_Qv post (tB (dC, dI) twCl [(cA, .int)] A w) A) args s 0 0 A) (F0 m 5 ls []) := by
  obtain ⟨hx, hb, hr, hml, hown, hts, hlocks, hA, hN⟩ := id hC
  intro n
  induction n with
  | zero => intro x1 x2 x3 u H locs ls hw; exact False.elim hw
  | succ n ih =>
    intro x1 x2 x3 u H locs ls hw hI hl
    refine lv_iload_n hx hb d_J_fill_5 rfl (lv_at hl 2 rfl) ?_
    refine lv_iload_n hx hb d_J_fill_6 rfl (lv_at hl 3 rfl) ?_
    refine lv_icmp_ge (tgt := 20) hx hb d_J_fill_7 (by decide) (fun hc => ?_) (fun hc => ?_)
    · have hw := hw.1 hc
      exact tr_vret hx hb hr hlocks hI hw d_J_fill_20
    · have hw := hw.2 hc
      refine lv_aload_n hx hb d_J_fill_10 rfl (lv_at hl 0 rfl) ?_
      refine lv_iload_n hx hb d_J_fill_11 rfl (lv_at hl 2 rfl) ?_
      refine lv_iload_n hx hb d_J_fill_12 rfl (lv_at hl 1 rfl) ?_
      obtain ⟨hi, hw⟩ := hw
      refine tr_iast (w := w) hx hb hI q0 0 12 (hq _) rfl (hset _ _ _) hi d_J_fill_13 (fun H locs hI => ?_)
      refine lv_iinc (v := (x2 + 1)) (lv' := [(2, .int (x2 + 1)), (0, .ref b0), (1, .int x1), (3, .int x3)]) hx hb d_J_fill_14 hl (k := 2) rfl rfl (by decide) rfl (fun ls hl => ?_)
      refine lv_goto (tgt := 5) hx hb d_J_fill_17 (by decide) ?_
      exact ih _ _ _ _ _ _ ls hw hI (lv_sub hl [1, 2, 0, 3] rfl)
set_option maxRecDepth 100000 in
set_option maxHeartbeats 4000000 in
theorem c_J_fillG (l : Launch) (dC : Nat → ClassId) (dI : Nat → Nat → Nat) (cA : ClassId) (w : tS → va_W) (b0 q0 : Nat) (hq : ∀ u : tS, (w u)[q0]? = some (b0, .inl (cA, 144, .inl (u.2 12)))) (hset : ∀ (u : tS) (i x : Int32), (w u).set q0 (b0, .inl (cA, 144, .inl (upd (u.2 12) i.toNatClampNeg x))) = w (tA u 12 i x)) (u : tS) (x1 : Int32) (post : tS → Prop) (sz : Nat) : Met l y_J_fill ws_J_fill ({ frames := 0, cells := 0, slots := 0, locals := 0 }) (va_Pc [.ref b0, .int x1] (tP (dC, dI) twCl [(cA, .int)] w u sz (w_J_fill post x1 u))) (va_Qv post (tB (dC, dI) twCl [(cA, .int)] (va_A (w u) sz) w) (va_A (w u) sz)) 0 0 (va_A (w u) sz) := by
  refine Met.ofW (cc := b_J_fill) (maxL := 4) (ret := none) (by decide) rfl ?_
  intro p e s m args below meth c s₁ B hml hv
  obtain ⟨rfl, hsz, hP, hK, hD0, hN, hw⟩ := hv
  have hx := B.exec
  have hb := B.bytes
  have hr := B.returns
  have hts : ∀ w ∈ wsA, w.before _ s = true := fun w h => atoms_spec (ws := ws_J_fill) B.pre w (List.mem_cons_of_mem _ h)
  have hown : s.vm.findClass R_J = some m.cls := findClass_of_methodNamed B.named
  have hlocks := B.notSynchronized
  subst hsz
  have hD := hD0.self (sz := s.heap.size)
  generalize hAe : va_A (w u) s.heap.size = A at hD ⊢
  have hA : ∀ q : Nat, s.heap.size ≤ q → A q := fun q h => by rw [← hAe]; exact Or.inr h
  have hS : va_S A s.heap s.heap [] := va_S.rf
  have hI : tX (dC, dI) twCl [(cA, .int)] A s s.heap [] (w u) := ⟨hK, hP, hD, hS⟩
  have hC : tC p s m meth c ([.ref b0, .int x1] : List Value).toArray b_J_fill 4 none wsA R_J A := ⟨hx, hb, hr, hml, hown, hts, hlocks, hA, hN⟩
  have hl := lv_entry ([.ref b0, .int x1]) (n := 4) (Nat.le_of_ble_eq_true rfl)
  rw [lg_entry_eq]
  generalize (lg_sl ([.ref b0, .int x1]) ++ List.replicate (4 - (lg_sl ([.ref b0, .int x1])).length) Slot.unset).toArray = ls at hl ⊢
  have hl : lv_has ls 4 [(0, .ref b0), (1, .int x1)] := hl
  have hw : (∃ k, w_J_fill_5 post k x1 0 144 u) := hw
  refine lv_iconst (v := 0) hx hb d_J_fill_0 (by decide) ?_
  refine lv_istore_n (lv' := [(2, .int 0), (0, .ref b0), (1, .int x1)]) hx hb d_J_fill_1 rfl hl (by decide) rfl (fun ls hl => ?_)
  refine lv_aload_n hx hb d_J_fill_2 rfl (lv_at hl 1 rfl) ?_
  refine va_alen (D := (dC, dI)) (v := 144) hx hb hI.1 hI.2.1 q0 0 (hq _) rfl rfl d_J_fill_3 ?_
  refine lv_istore_n (lv' := [(3, .int 144), (2, .int 0), (0, .ref b0), (1, .int x1)]) hx hb d_J_fill_4 rfl hl (by decide) rfl (fun ls hl => ?_)
  obtain ⟨k, hw⟩ := hw
  exact k_J_fillG_5 hq hset hC post k _ _ _ _ _ _ ls hw hI (lv_sub hl [2, 3, 1, 0] rfl)
theorem ct_fill_loop (post : tS → Prop) : ∀ (d n i : Nat) (u : tS), d + i = 144 → d < n → (∀ j : Nat, j < i → u.2 12 j = 1000000) → (∀ u1 : tS, (∀ j : Nat, j < 144 → u1.2 12 j = 1000000) → post u1) → w_J_fill_5 post n 1000000 (nI i) 144 u := by
  intro d
  induction d with
  | zero =>
    intro n i u h1 h2 h3 h4
    obtain ⟨n, rfl⟩ : ∃ k, n = k + 1 := ⟨n - 1, by omega⟩
    have e : i = 144 := by omega
    subst e
    exact ⟨fun _ => h4 u h3, fun h => absurd (show (144 : Int32) ≤ nI 144 by decide) h⟩
  | succ d ih =>
    intro n i u h1 h2 h3 h4
    obtain ⟨n, rfl⟩ : ∃ k, n = k + 1 := ⟨n - 1, by omega⟩
    refine ⟨fun h => absurd h (show ¬ nI 144 ≤ nI i from nI_ge (by omega) (by omega)), fun _ => ⟨vp_in_nI (by omega) (by omega), ?_⟩⟩
    rw [nI_1]
    refine ih n (i + 1) _ (by omega) (by omega) (fun j hj => ?_) h4
    show va_up u.2 12 (upd (u.2 12) (nI i).toNatClampNeg 1000000) 12 j = 1000000
    rw [nI_clamp (by omega)]
    show upd (u.2 12) i 1000000 j = 1000000
    by_cases e : j = i
    · subst e; exact pk_us
    · rw [pk_un e]; exact h3 j (by omega)
theorem ct_fill (u : tS) : w_J_fill (fun u1 => ∀ j : Nat, j < 144 → u1.2 12 j = 1000000) 1000000 u :=
  ⟨145, ct_fill_loop _ 144 145 0 u rfl (by omega) (fun j hj => absurd hj (by omega)) (fun _ h => h)⟩
