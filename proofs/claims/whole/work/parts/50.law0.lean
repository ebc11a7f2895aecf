-- ===== end of PART A; then your names; then what follows =====
/-! THE CLAIM OUT OF ONE WALK OF THE LAW'S BODY. Your part is whole_start (and what it stands on); all else here is the same for every law, but numbers. -/
def R_law : String := "TimedWaysLaw"
def lw_P (b : Addr) (xs : List Int32) (args : Array Value) (s : State) : Prop := args = #[.ref b] ∧ s.IntsAt b xs ∧ xs.length ≤ 3072 ∧ (Jvm.Cond.and given_1 narrow_1).before args s = true
def lw_Q (_ : Array Value) (s : State) (o : Outcome) (t : State) : Prop := o = .returned (some (.int 1)) ∧ Framed s o t [] 52 5715
def lw_Z (below : List Frame) (a : Array Value) (s : State) : State → Prop := fun t => ∃ o, t.status = .running ∧ Ended t below o ∧ lw_Q a s o t
/-- the law's own end, with 1 on the stack, nothing written that was there before, its room as the claim has it -/
theorem lw_ret {p : Program} {l : Launch} {e : Env} {s : State} {m : MethodId} {below : List Frame} {meth : Method} {c : Code} {b : Nat} (hx : p.tables.exec = Jvm.exec) (hb : c.code = code) (hr : meth.sig.returnType = ret) (hlocks : meth.locks = false) {pc : Nat} {H : Heap} {ls : Array Slot} (hdg : decode code pc = .ok (.ireturn, 1)) : W p l e room_1 s m #[Value.ref b] below meth c H [] 52 5715 (lw_Z below #[Value.ref b] s) (F0 m pc ls [.int 1]) := by
  intro T hT X
  obtain ⟨fs, hret, hrun, hended, hW, hframe⟩ := X.leave (v := some (.int 1)) (hlocks := hlocks) (fun h => by rw [hr] at h; cases h)
  have hmeth' : T.vm.method? m = some meth := X.method'
  refine ⟨T.setFrames fs, ?_, .returned (some (.int 1)), hrun, hended, rfl, ⟨_, rfl⟩, hW, hframe⟩
  jvm_step X.here [X.here.top, hx, hb, hdg, hmeth', hr, ret, narrow_b1]
  (try refine ⟨rfl, ?_⟩); (try refine ⟨rfl, ?_⟩)
  first | (intro acts; rw [hret _ acts rfl rfl rfl]) | rw [hret _ _ rfl rfl rfl]
  exact Steps.refl _
/-- what holds at the law's entry: the machine, the code, the tables' words (any of lw_tbl by 'hts w (by decide +kernel)'), the script of L ints xs at the cell b, what the Statement gives of the start (any of its parts by flat_of_before) -/
def lw_At (p : Program) (s : State) (m : MethodId) (meth : Method) (c : Code) (b L : Nat) (xs : Nat → Int32) : Prop :=
  p.tables.exec = Jvm.exec ∧ c.code = code ∧ meth.sig.returnType = ret ∧ c.maxLocals = 4 ∧ s.vm.findClass R_law = some m.cls ∧ (∀ w ∈ lw_tbl, w.before #[Value.ref b] s = true) ∧ va_X b L xs s s.heap ∧ b < s.heap.size ∧ meth.locks = false ∧ (Jvm.Cond.and given_1 narrow_1).before #[Value.ref b] s = true
theorem va_D_fst {A : Nat → Prop} {ws ws' : va_W} (h : ws'.map Prod.fst = ws.map Prod.fst) (hD : va_D A ws) : va_D A ws' := by
  have key : ∀ (k : Nat) (q : Nat × va_E), ws'[k]? = some q → ∃ q0, ws[k]? = some q0 ∧ q0.1 = q.1 := by
    intro k q hk
    have h1 : (ws'.map Prod.fst)[k]? = some q.1 := by rw [List.getElem?_map, hk]; rfl
    rw [h, List.getElem?_map] at h1
    cases hz : ws[k]? with
    | none => rw [hz] at h1; cases h1
    | some z => rw [hz] at h1; exact ⟨z, rfl, Option.some.inj h1⟩
  refine ⟨fun i j x y hi hj hxy => ?_, fun k q hk => ?_⟩
  · obtain ⟨x0, h1, h2⟩ := key i x hi
    obtain ⟨y0, h3, h4⟩ := key j y hj
    exact hD.1 i j x0 y0 h1 h3 (h2.trans (hxy.trans h4.symm))
  · obtain ⟨q0, h1, h2⟩ := key k q hk
    rw [← h2]; exact hD.2 k q0 h1
theorem va_app_l {w1 w2 : va_W} {k : Nat} {q : Nat × va_E} (h : w1[k]? = some q) : (w1 ++ w2)[k]? = some q := by
  rw [List.getElem?_append_left (List.getElem?_eq_some_iff.mp h).1]; exact h
theorem va_app_r {w1 w2 : va_W} {k : Nat} {q : Nat × va_E} (h : w2[k]? = some q) : (w1 ++ w2)[w1.length + k]? = some q := by
  rw [List.getElem?_append_right (Nat.le_add_right _ _), Nat.add_sub_cancel_left]; exact h
section LG
variable {p : Program} {l : Launch} {e : Env} {R : Room} {s : State} {m : MethodId} {args : Array Value} {below : List Frame} {meth : Method} {c : Code} {H : Heap} {locs : List Loc} {cells slots : Nat} {Q : State → Prop} {pc : Nat} {ls : Array Slot} {rest : List Value} {cc : ByteArray}
variable {D : va_G} {cl : List vw_C} {tys : List (ClassId × FieldType)} {A : Nat → Prop}
theorem tX_left {w1 w2 : va_W} (h : tX D cl tys A s H locs (w1 ++ w2)) : tX D cl tys A s H locs w1 := by
  obtain ⟨hK, hP, hD, hS⟩ := h
  exact ⟨hK, fun k q hk => hP k q (va_app_l hk), ⟨fun i j x y hi hj hxy => hD.1 i j x y (va_app_l hi) (va_app_l hj) hxy, fun k q hk => hD.2 k q (va_app_l hk)⟩, hS⟩
theorem tX_right {w1 w2 : va_W} (h : tX D cl tys A s H locs (w1 ++ w2)) : tX D cl tys A s H locs w2 := by
  obtain ⟨hK, hP, hD, hS⟩ := h
  exact ⟨hK, fun k q hk => hP _ q (va_app_r hk), ⟨fun i j x y hi hj hxy => by have := hD.1 _ _ x y (va_app_r hi) (va_app_r hj) hxy; omega, fun k q hk => hD.2 _ q (va_app_r hk)⟩, hS⟩
theorem lw_goL {w1 : tS → va_W} {w2 : va_W} {u : tS} {post : Int32 → tS → Prop} {a0 : Array Value} {st0 : List Value} (hfst : ∀ u', (w1 u').map Prod.fst = (w1 u).map Prod.fst) (hI : tX D cl tys A s H locs (w1 u ++ w2)) (hA : ∀ q : Nat, s.heap.size ≤ q → A q)
    (hrun : va_Run p l e R s m args below meth c H locs cells slots 0 0 (F0 m pc ls st0) rest (va_Qi post (tB D cl tys (va_A (w1 u) H.size) w1) (va_A (w1 u) H.size) a0) (va_A (w1 u) H.size))
    (kk : ∀ (r : Int32) (u1 : tS) (H1 : Heap) (locs1 : List Loc), post r u1 → tX D cl tys A s H1 locs1 (w1 u1 ++ w2) → W p l e R s m args below meth c H1 locs1 cells slots Q (F0 m (pc + 3) ls (.int r :: rest))) : W p l e R s m args below meth c H locs cells slots Q (F0 m pc ls st0) := by
  have hF := tX_free (w := w1) (tX_left hI) hA
  obtain ⟨hK, hP, hD, hS⟩ := hI
  refine va_calli hrun hS (fun q _ h => hF q h) hF (fun r u1 t H1 locs1 ht hvm hp hB hz hk hS1 => ?_)
  obtain ⟨hP1, hK1, hD1⟩ := hB
  rw [ht] at hP1
  refine kk r u1 H1 locs1 hp ⟨hK, hP1.app ?_, va_D_fst (by rw [List.map_append, List.map_append, hfst u1]) hD, hS1⟩
  intro k q hq
  refine (hP _ q (va_app_r hq)).kept (hk q.1 (hP _ q (va_app_r hq)).lt ?_)
  rintro (⟨j, x, hj⟩ | hj)
  · have h1 := hD.1 _ _ (q.1, x) q (va_app_l hj) (va_app_r hq) rfl
    have h2 := (List.getElem?_eq_some_iff.mp hj).1
    omega
  · exact absurd (hP _ q (va_app_r hq)).lt (by omega)
theorem lw_goR {w1 : va_W} {w2 : tS → va_W} {u : tS} {post : Int32 → tS → Prop} {a0 : Array Value} {st0 : List Value} (hfst : ∀ u', (w2 u').map Prod.fst = (w2 u).map Prod.fst) (hI : tX D cl tys A s H locs (w1 ++ w2 u)) (hA : ∀ q : Nat, s.heap.size ≤ q → A q)
    (hrun : va_Run p l e R s m args below meth c H locs cells slots 0 0 (F0 m pc ls st0) rest (va_Qi post (tB D cl tys (va_A (w2 u) H.size) w2) (va_A (w2 u) H.size) a0) (va_A (w2 u) H.size))
    (kk : ∀ (r : Int32) (u1 : tS) (H1 : Heap) (locs1 : List Loc), post r u1 → tX D cl tys A s H1 locs1 (w1 ++ w2 u1) → W p l e R s m args below meth c H1 locs1 cells slots Q (F0 m (pc + 3) ls (.int r :: rest))) : W p l e R s m args below meth c H locs cells slots Q (F0 m pc ls st0) := by
  have hF := tX_free (w := w2) (tX_right hI) hA
  obtain ⟨hK, hP, hD, hS⟩ := hI
  refine va_calli hrun hS (fun q _ h => hF q h) hF (fun r u1 t H1 locs1 ht hvm hp hB hz hk hS1 => ?_)
  obtain ⟨hP1, hK1, hD1⟩ := hB
  rw [ht] at hP1
  refine kk r u1 H1 locs1 hp ⟨hK, va_P.app ?_ hP1, va_D_fst (by rw [List.map_append, List.map_append, hfst u1]) hD, hS1⟩
  intro k q hq
  refine (hP _ q (va_app_l hq)).kept (hk q.1 (hP _ q (va_app_l hq)).lt ?_)
  rintro (⟨j, x, hj⟩ | hj)
  · have h1 := hD.1 _ _ (q.1, x) q (va_app_r hj) (va_app_l hq) rfl
    have h2 := (List.getElem?_eq_some_iff.mp hq).1
    omega
  · exact absurd (hP _ q (va_app_l hq)).lt (by omega)
end LG
