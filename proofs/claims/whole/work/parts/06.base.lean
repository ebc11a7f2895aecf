/-- the nest's words: within() is called from two classes beside its own -/
def tN (U : State) : Prop := va_Nw (.methodLinkNest R_Ne 47 y_T_within "TimedWays") U ∧ va_Nw (.methodLinkNest R_Ri 34 y_T_within "TimedWays") U
theorem tN_warm {s U : State} (hW : s.WarmedH U.vm) (h : tN s) : tN U := ⟨va_Nw.warmM hW h.1, va_Nw.warmM hW h.2⟩
/-! STATES AND WORLDS. A state: the int fields by number, the int arrays by number. A world: a function from states to cells. -/
abbrev tS : Type := (Nat → Int32) × (Nat → Nat → Int32)
def tI (u : tS) (k : Nat) (v : Int32) : tS := (upd u.1 k v, u.2)
def tA (u : tS) (j : Nat) (i v : Int32) : tS := (u.1, va_up u.2 j (upd (u.2 j) i.toNatClampNeg v))
/-- the first n of array j0 into array j1 -/
def tY (u : tS) (j0 j1 n : Nat) : tS := (u.1, va_up u.2 j1 (va_cpy (u.2 j0) (u.2 j1) 0 0 n))
def tX (D : va_G) (cl : List vw_C) (tys : List (ClassId × FieldType)) (A : Nat → Prop) (s : State) (H : Heap) (locs : List Loc) (ws : va_W) : Prop := va_K D cl tys s ∧ va_P D cl ws H ∧ va_D A ws ∧ va_S A s.heap H locs
def tC (p : Program) (s : State) (m : MethodId) (meth : Method) (c : Code) (args : Array Value) (cc : ByteArray) (nL : Nat) (ret : Option FieldType) (Ts : List Cond) (own : String) (A : Nat → Prop) : Prop :=
  p.tables.exec = Jvm.exec ∧ c.code = cc ∧ meth.sig.returnType = ret ∧ c.maxLocals = nL ∧ s.vm.findClass own = some m.cls ∧ (∀ w ∈ Ts, w.before args s = true) ∧ meth.locks = false ∧ (∀ q : Nat, s.heap.size ≤ q → A q) ∧ tN s
def tB (D : va_G) (cl : List vw_C) (tys : List (ClassId × FieldType)) (A : Nat → Prop) (w : tS → va_W) (u : tS) (t : State) : Prop := va_P D cl (w u) t.heap ∧ va_K D cl tys t ∧ va_D A (w u)
def tP (D : va_G) (cl : List vw_C) (tys : List (ClassId × FieldType)) (w : tS → va_W) (u : tS) (sz : Nat) (wp : Prop) (U : State) : Prop := U.heap.size = sz ∧ va_P D cl (w u) U.heap ∧ va_K D cl tys U ∧ va_D (fun _ => True) (w u) ∧ tN U ∧ wp
theorem tP_blind {D : va_G} {cl : List vw_C} {tys : List (ClassId × FieldType)} {w : tS → va_W} {u : tS} {sz : Nat} {wp : Prop} (av : List Value) : FrameBlind (va_Pc av (tP D cl tys w u sz wp)) := fun a U g mk q => by
  obtain ⟨q0, q1, qP, qK, qD, qN, qw⟩ := q
  exact ⟨q0, q1, qP, va_K.moved (u := U) (U := U.calling g mk a) (Vm.Alike.refl U.vm) qK, qD, ⟨va_Nw.same rfl (U := U.calling g mk a) rfl qN.1, va_Nw.same rfl (U := U.calling g mk a) rfl qN.2⟩, qw⟩
section TR
variable {p : Program} {l : Launch} {e : Env} {R : Room} {s : State} {m : MethodId} {args : Array Value} {below : List Frame} {meth : Method} {c : Code} {H : Heap} {locs : List Loc} {cells slots : Nat} {Q : State → Prop} {pc : Nat} {ls : Array Slot} {rest : List Value} {cc : ByteArray}
variable {D : va_G} {cl : List vw_C} {tys : List (ClassId × FieldType)} {A : Nat → Prop} {w : tS → va_W} {u : tS}
theorem tr_iast (hx : p.tables.exec = Jvm.exec) (hb : c.code = cc) (hI : tX D cl tys A s H locs (w u)) (q0 t0 j : Nat) {b n : Nat} {cA : ClassId} {i x : Int32} (hq : (w u)[q0]? = some (b, .inl (cA, n, .inl (u.2 j)))) (ht : tys[t0]? = some (cA, .int)) (hset : (w u).set q0 (b, .inl (cA, n, .inl (upd (u.2 j) i.toNatClampNeg x))) = w (tA u j i x)) (hin : vp_in i n) (hdg : decode cc pc = .ok (.iastore, 1))
    (kk : ∀ (H1 : Heap) (locs1 : List Loc), tX D cl tys A s H1 locs1 (w (tA u j i x)) → W p l e R s m args below meth c H1 locs1 cells slots Q (F0 m (pc + 1) ls rest)) : W p l e R s m args below meth c H locs cells slots Q (F0 m pc ls (.int x :: .int i :: .ref b :: rest)) := by
  obtain ⟨hK, hP, hD, hS⟩ := hI
  refine va_iast hx hb hK hP hD hS q0 t0 hq ht hin hdg (fun H1 locs1 hP1 hD1 hS1 => kk H1 locs1 ⟨hK, ?_, ?_, hS1⟩)
  · rw [← hset]; exact hP1
  · rw [← hset]; exact hD1
theorem tr_put (hx : p.tables.exec = Jvm.exec) (hb : c.code = cc) {own C : String} {T : u_T} {N ci index : Nat} {Ts : List Cond} (hts : ∀ w ∈ Ts, w.before args s = true) (hin : ∀ w ∈ u_ws C T N, w ∈ Ts) (ty0 : Nat → FieldType) (hty : ∀ k, k < N → parseFieldDescriptor (T k).2.2.1 = some (ty0 k)) (hnm : ∀ a, a < N → ∀ b, b < N → a ≠ b → (T a).2.1 ≠ (T b).2.1) (hown : s.vm.findClass own = some m.cls) (hI : tX D cl tys A s H locs (w u)) (q0 j : Nat) {b : Nat} {fs : List Value} {v : Int32} (hq : (w u)[q0]? = some (b, .inr (ci, fs))) (hc : cl[ci]? = some (C, T, N)) (k : Nat) (hk : k < N) (hlink : (Cond.fieldLink own index (T k).1 (T k).2.1 (T k).2.2.1).before args s = true) (hfin : (T k).2.2.2 = false) (hd : parseFieldDescriptor (T k).2.2.1 = some .int) (hl : k < fs.length) (hset : (w u).set q0 (b, .inr (ci, fs.set k (.int v))) = w (tI u j v)) (hdg : decode cc pc = .ok (.putfield index, 3))
    (kk : ∀ (H1 : Heap) (locs1 : List Loc), tX D cl tys A s H1 locs1 (w (tI u j v)) → W p l e R s m args below meth c H1 locs1 cells slots Q (F0 m (pc + 3) ls rest)) : W p l e R s m args below meth c H locs cells slots Q (F0 m pc ls (.int v :: .ref b :: rest)) := by
  obtain ⟨hK, hP, hD, hS⟩ := hI
  refine va_put (ty := .int) (v := .int v) hx hb hts hin ty0 hty hnm hown hK hP hD hS q0 hq hc k hk hlink (fun _ h9 => h9) hfin hd rfl rfl hl hdg (fun H1 locs1 hP1 hD1 hS1 => kk H1 locs1 ⟨hK, ?_, ?_, hS1⟩)
  · rw [← hset]; exact hP1
  · rw [← hset]; exact hD1
theorem tr_copy {own : String} {index : Nat} (hx : p.tables.exec = Jvm.exec) (hb : c.code = cc) (hml : c.maxLocals = ls.size) (hown : s.vm.findClass own = some m.cls) (hlink : (Cond.methodLink own index arraycopyName).before args s = true) (hnat : (Cond.native arraycopyName).before args s = true) (hstat : (Cond.static arraycopyName).before args s = true) (hini : (Cond.initialized "java/lang/System").before args s = true)
    (hI : tX D cl tys A s H locs (w u)) (q0 q1 j0 j1 t0 : Nat) {b0 b n0 n1 k : Nat} {cA : ClassId} {n : Int32} (hq0 : (w u)[q0]? = some (b0, .inl (cA, n0, .inl (u.2 j0)))) (hq1 : (w u)[q1]? = some (b, .inl (cA, n1, .inl (u.2 j1)))) (ht : tys[t0]? = some (cA, .int)) (hset : (w u).set q1 (b, .inl (cA, n1, .inl (va_cpy (u.2 j0) (u.2 j1) 0 0 k))) = w (tY u j0 j1 k)) (hn : n.toNatClampNeg = k) (h3 : ¬ n < 0) (h4 : k ≤ n0) (h5 : k ≤ n1)
    (hframes : 1 ≤ R.frames) (hlocals : (rest.map fun v => v.category).sum + (nativeFrameWords "java/lang/System" "arraycopy" 5 + 11) ≤ R.locals) (hdg : decode cc pc = .ok (.invokestatic index, 3))
    (kk : ∀ (H1 : Heap) (locs1 : List Loc), tX D cl tys A s H1 locs1 (w (tY u j0 j1 k)) → W p l e R s m args below meth c H1 locs1 cells slots Q (F0 m (pc + 3) ls rest)) : W p l e R s m args below meth c H locs cells slots Q (F0 m pc ls (.int n :: .int 0 :: .ref b :: .int 0 :: .ref b0 :: rest)) := by
  obtain ⟨hK, hP, hD, hS⟩ := hI
  have e0 : (0 : Int32).toNatClampNeg = 0 := by decide
  refine va_copyi hx hb hml hown hlink hnat hstat hini hK hP hD hS q0 q1 t0 t0 hq0 hq1 ht ht rfl (by decide) (by decide) h3 (by rw [e0, hn]; omega) (by rw [e0, hn]; omega) (fun i _ => rfl) hframes hlocals hdg (fun H1 locs1 hP1 hD1 hS1 => kk H1 locs1 ⟨hK, ?_, ?_, hS1⟩)
  · rw [e0, hn, hset] at hP1; exact hP1
  · rw [e0, hn, hset] at hD1; exact hD1
theorem tr_putz (hx : p.tables.exec = Jvm.exec) (hb : c.code = cc) {own C : String} {T : u_T} {N ci index : Nat} {Ts : List Cond} (hts : ∀ w ∈ Ts, w.before args s = true) (hin : ∀ w ∈ u_ws C T N, w ∈ Ts) (ty0 : Nat → FieldType) (hty : ∀ k, k < N → parseFieldDescriptor (T k).2.2.1 = some (ty0 k)) (hnm : ∀ a, a < N → ∀ b, b < N → a ≠ b → (T a).2.1 ≠ (T b).2.1) (hown : s.vm.findClass own = some m.cls) (hI : tX D cl tys A s H locs (w u)) (q0 j : Nat) {b : Nat} {fs : List Value} {v : Int32} (hq : (w u)[q0]? = some (b, .inr (ci, fs))) (hc : cl[ci]? = some (C, T, N)) (k : Nat) (hk : k < N) (hlink : (Cond.fieldLink own index (T k).1 (T k).2.1 (T k).2.2.1).before args s = true) (hfin : (T k).2.2.2 = false) (hd : parseFieldDescriptor (T k).2.2.1 = some .boolean) (hn : narrow .boolean (.int v) = .int v) (hfit : fits .boolean (.int v) = true) (hl : k < fs.length) (hset : (w u).set q0 (b, .inr (ci, fs.set k (.int v))) = w (tI u j v)) (hdg : decode cc pc = .ok (.putfield index, 3))
    (kk : ∀ (H1 : Heap) (locs1 : List Loc), tX D cl tys A s H1 locs1 (w (tI u j v)) → W p l e R s m args below meth c H1 locs1 cells slots Q (F0 m (pc + 3) ls rest)) : W p l e R s m args below meth c H locs cells slots Q (F0 m pc ls (.int v :: .ref b :: rest)) := by
  obtain ⟨hK, hP, hD, hS⟩ := hI
  refine va_put (ty := .boolean) (v := .int v) hx hb hts hin ty0 hty hnm hown hK hP hD hS q0 hq hc k hk hlink (fun _ h9 => h9) hfin hd hn hfit hl hdg (fun H1 locs1 hP1 hD1 hS1 => kk H1 locs1 ⟨hK, ?_, ?_, hS1⟩)
  · rw [← hset]; exact hP1
  · rw [← hset]; exact hD1
theorem tr_iret {post : Int32 → tS → Prop} {v : Int32} (hx : p.tables.exec = Jvm.exec) (hb : c.code = cc) (hr : meth.sig.returnType = some .int) (hlocks : meth.locks = false) (hI : tX D cl tys A s H locs (w u)) (hw : post v u) (hdg : decode cc pc = .ok (.ireturn, 1)) : W p l e R s m args below meth c H locs 0 0 (MQ below (va_Qi post (tB D cl tys A w) A) args s 0 0 A) (F0 m pc ls [.int v]) := by
  obtain ⟨hK, hP, hD, hS⟩ := hI
  exact W.iret (v := v) hx hb hr (fun t ht hW => ⟨⟨v, u, rfl, hw, by rw [ht]; exact hP, va_K.moved hW.alike hK, hD⟩, hS.F ht⟩) hS.2.2 hdg
theorem tr_zret {post : Int32 → tS → Prop} {v : Int32} (hx : p.tables.exec = Jvm.exec) (hb : c.code = cc) (hr : meth.sig.returnType = some .boolean) (hlocks : meth.locks = false) (hI : tX D cl tys A s H locs (w u)) (hn : narrow .boolean (.int v) = .int v) (hw : post v u) (hdg : decode cc pc = .ok (.ireturn, 1)) : W p l e R s m args below meth c H locs 0 0 (MQ below (va_Qi post (tB D cl tys A w) A) args s 0 0 A) (F0 m pc ls [.int v]) := by
  obtain ⟨hK, hP, hD, hS⟩ := hI
  exact W.zret (v := v) hx hb hr hn (fun t ht hW => ⟨⟨v, u, rfl, hw, by rw [ht]; exact hP, va_K.moved hW.alike hK, hD⟩, hS.F ht⟩) hS.2.2 hdg
theorem tr_vret {post : tS → Prop} (hx : p.tables.exec = Jvm.exec) (hb : c.code = cc) (hr : meth.sig.returnType = none) (hlocks : meth.locks = false) (hI : tX D cl tys A s H locs (w u)) (hw : post u) (hdg : decode cc pc = .ok (.return_, 1)) : W p l e R s m args below meth c H locs 0 0 (MQ below (va_Qv post (tB D cl tys A w) A) args s 0 0 A) (F0 m pc ls []) := by
  obtain ⟨hK, hP, hD, hS⟩ := hI
  exact W.vret hx hb hr (fun t ht hW => ⟨⟨u, rfl, hw, by rw [ht]; exact hP, va_K.moved hW.alike hK, hD⟩, hS.F ht⟩) hS.2.2 hdg
theorem tX_free (hI : tX D cl tys A s H locs (w u)) (hA : ∀ q : Nat, s.heap.size ≤ q → A q) : ∀ q, va_A (w u) H.size q → A q := by
  obtain ⟨hK, hP, hD, hS⟩ := hI
  intro q h
  rcases h with ⟨k, x, h⟩ | h
  · exact hD.2 k _ h
  · exact hA q (Nat.le_trans hS.1 h)
theorem tr_goi {post : Int32 → tS → Prop} {a0 : Array Value} {st0 : List Value} (hI : tX D cl tys A s H locs (w u)) (hA : ∀ q : Nat, s.heap.size ≤ q → A q)
    (hrun : va_Run p l e R s m args below meth c H locs cells slots 0 0 (F0 m pc ls st0) rest (va_Qi post (tB D cl tys (va_A (w u) H.size) w) (va_A (w u) H.size) a0) (va_A (w u) H.size))
    (kk : ∀ (r : Int32) (u1 : tS) (H1 : Heap) (locs1 : List Loc), post r u1 → tX D cl tys A s H1 locs1 (w u1) → W p l e R s m args below meth c H1 locs1 cells slots Q (F0 m (pc + 3) ls (.int r :: rest))) : W p l e R s m args below meth c H locs cells slots Q (F0 m pc ls st0) := by
  have hF := tX_free hI hA
  obtain ⟨hK, hP, hD, hS⟩ := hI
  refine va_calli hrun hS (fun q _ h => hF q h) hF (fun r u1 t H1 locs1 ht hvm hp hB hz hk hS1 => ?_)
  obtain ⟨hP1, hK1, hD1⟩ := hB
  rw [ht] at hP1
  exact kk r u1 H1 locs1 hp ⟨hK, hP1, hD1.weaken (fun _ q _ h => hF q.1 h), hS1⟩
theorem tr_gov {post : tS → Prop} {a0 : Array Value} {st0 : List Value} (hI : tX D cl tys A s H locs (w u)) (hA : ∀ q : Nat, s.heap.size ≤ q → A q)
    (hrun : va_Run p l e R s m args below meth c H locs cells slots 0 0 (F0 m pc ls st0) rest (va_Qv post (tB D cl tys (va_A (w u) H.size) w) (va_A (w u) H.size) a0) (va_A (w u) H.size))
    (kk : ∀ (u1 : tS) (H1 : Heap) (locs1 : List Loc), post u1 → tX D cl tys A s H1 locs1 (w u1) → W p l e R s m args below meth c H1 locs1 cells slots Q (F0 m (pc + 3) ls rest)) : W p l e R s m args below meth c H locs cells slots Q (F0 m pc ls st0) := by
  have hF := tX_free hI hA
  obtain ⟨hK, hP, hD, hS⟩ := hI
  refine va_callv hrun hS (fun q _ h => hF q h) hF (fun u1 t H1 locs1 ht hvm hp hB hz hk hS1 => ?_)
  obtain ⟨hP1, hK1, hD1⟩ := hB
  rw [ht] at hP1
  exact kk u1 H1 locs1 hp ⟨hK, hP1, hD1.weaken (fun _ q _ h => hF q.1 h), hS1⟩
/-- a callee's start, an object's method -/
theorem tr_preV {C : String} {b : Nat} {As : List Value} {wp : Prop} {ci q0 : Nat} {q : vw_C} {fs : List Value} (hI : tX D cl tys A s H locs (w u)) (hc : cl[ci]? = some q) (hq : (w u)[q0]? = some (b, .inr (ci, fs))) (hC : q.1 = C) (hN : tN s) (hw : wp) : PreV s H C b (va_Pc (.ref b :: As) (tP D cl tys w u H.size wp)) As := by
  obtain ⟨hK, hP, hD, hS⟩ := hI
  subst hC
  exact ⟨tP_blind _, va_recv hK hP hc hq, fun U hU hW => ⟨rfl, by rw [hU], by rw [hU]; exact hP, va_K.moved hW.alike hK, hD.weaken (fun _ _ _ _ => trivial), tN_warm hW hN, hw⟩⟩
theorem tr_preS {As : List Value} {wp : Prop} (hI : tX D cl tys A s H locs (w u)) (hN : tN s) (hw : wp) : PreS s H (va_Pc As (tP D cl tys w u H.size wp)) As := by
  obtain ⟨hK, hP, hD, hS⟩ := hI
  exact ⟨tP_blind _, fun U hU hW => ⟨rfl, by rw [hU], by rw [hU]; exact hP, va_K.moved hW.alike hK, hD.weaken (fun _ _ _ _ => trivial), tN_warm hW hN, hw⟩⟩
end TR
theorem tab_out2 {x : Int32} (h0 : ¬ x = 0) (h1 : ¬ x = 1) : x.toInt < 0 ∨ 1 < x.toInt := by
  have a0 := lv_neT h0 (show (0 : Int32).toInt = 0 from rfl); have a1 := lv_neT h1 (show (1 : Int32).toInt = 1 from rfl); omega
theorem tab_out3 {x : Int32} (h0 : ¬ x = 0) (h1 : ¬ x = 1) (h2 : ¬ x = 2) : x.toInt < 0 ∨ 2 < x.toInt := by
  have a0 := tab_out2 h0 h1; have a1 := lv_neT h2 (show (2 : Int32).toInt = 2 from rfl); omega
theorem tab_out4 {x : Int32} (h0 : ¬ x = 0) (h1 : ¬ x = 1) (h2 : ¬ x = 2) (h3 : ¬ x = 3) : x.toInt < 0 ∨ 3 < x.toInt := by
  have a0 := tab_out3 h0 h1 h2; have a1 := lv_neT h3 (show (3 : Int32).toInt = 3 from rfl); omega
theorem tab_out5 {x : Int32} (h0 : ¬ x = 0) (h1 : ¬ x = 1) (h2 : ¬ x = 2) (h3 : ¬ x = 3) (h4 : ¬ x = 4) : x.toInt < 0 ∨ 4 < x.toInt := by
  have a0 := tab_out4 h0 h1 h2 h3; have a1 := lv_neT h4 (show (4 : Int32).toInt = 4 from rfl); omega
theorem tab_out6 {x : Int32} (h0 : ¬ x = 0) (h1 : ¬ x = 1) (h2 : ¬ x = 2) (h3 : ¬ x = 3) (h4 : ¬ x = 4) (h5 : ¬ x = 5) : x.toInt < 0 ∨ 5 < x.toInt := by
  have a0 := tab_out5 h0 h1 h2 h3 h4; have a1 := lv_neT h5 (show (5 : Int32).toInt = 5 from rfl); omega
