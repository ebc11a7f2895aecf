/-! WALKS -/
theorem st_eta (u : tS) (j : Nat) : ((u.1, va_up u.2 j (u.2 j)) : tS) = u := by
  obtain ⟨a, b⟩ := u
  show (a, va_up b j (b j)) = (a, b)
  congr 1
  funext k; unfold va_up; split
  · rename_i e; rw [e]
  · rfl
theorem st_rd {α : Type} (f : Nat → α) (j : Nat) (x : α) : va_up f j x j = x := by unfold va_up; rw [if_pos rfl]
theorem st_ne {α : Type} (f : Nat → α) {j k : Nat} (x : α) (h : k ≠ j) : va_up f j x k = f k := by unfold va_up; rw [if_neg h]
theorem st_A (u : tS) (j : Nat) (F : Nat → Int32) (i x : Int32) : tA (u.1, va_up u.2 j F) j i x = (u.1, va_up u.2 j (upd F i.toNatClampNeg x)) := by
  unfold tA
  show (u.1, va_up (va_up u.2 j F) j (upd (va_up u.2 j F j) i.toNatClampNeg x)) = _
  rw [st_rd, bx_uu]
theorem z_12 {a b : Nat} : nI a * 12 + nI b = nI (12 * a + b) := by rw [show (12 : Int32) = nI 12 from rfl, pk_mul, nI_add, Nat.mul_comm]
theorem sp_atLeastOne {post : Int32 → tS → Prop} {u : tS} {a b : Nat} (ha : a < 12) (hb : b < 12) (h : ∀ r : Int32, r.toInt = gS u a b → post r u) : w_Wa_atLeastOne post (nI a) (nI b) u := by
  unfold w_Wa_atLeastOne
  rw [z_12, nI_clamp (by omega)]
  exact ⟨vp_in_nI (by omega) (by omega), h _ (by unfold gS; rw [if_pos ⟨ha, hb⟩])⟩
theorem sp_anyNumber {post : Int32 → tS → Prop} {u : tS} {a b : Nat} (ha : a < 12) (hb : b < 12) (h : ∀ r : Int32, r.toInt = mA (gS u) a b → post r u) : w_Wa_anyNumber post (nI a) (nI b) u := by
  refine ⟨fun e => ?_, fun e => sp_atLeastOne ha hb (fun r hr => h r ?_)⟩
  · have e := (nI_eq (by omega) (by omega)).mp e
    subst e; exact h 0 (by rw [mA_self]; rfl)
  · rw [mA_ne (fun q => e (by rw [q]))]; exact hr
/-- the new shortest rows -/
def gN (D : Nat → Nat → Int) (f t : Nat) (m : Int) (x y : Nat) : Int := if mA D x f + m + mA D t y < D x y then mA D x f + m + mA D t y else D x y
theorem gN_t {D : Nat → Nat → Int} {f t : Nat} {m : Int} (hD : ∀ x y, 0 ≤ D x y) (hm : 1 ≤ m) {y : Nat} (hy : t ≠ y) : gN D f t m t y = D t y := by
  unfold gN; rw [mA_ne hy, if_neg]
  have : 0 ≤ mA D t f := by unfold mA; split; omega; exact hD _ _
  omega
theorem z_idx {a b x y : Nat} (hb : b < 12) (hy : y < 12) (h : 12 * a + b = 12 * x + y) : a = x ∧ b = y := by omega
set_option maxHeartbeats 1000000 in
theorem sp_shorten {post : tS → Prop} {u : tS} {f t m : Nat} (hf : f < 12) (ht : t < 12) (hm : 1 ≤ m ∧ m ≤ 600) (hD : ∀ x y, 0 ≤ gS u x y ∧ gS u x y ≤ 1000000)
    (h : ∀ F : Nat → Int32, (∀ x y, x < 12 → y < 12 → (F (12 * x + y)).toInt = gN (gS u) f t m x y) → post (u.1, va_up u.2 12 F)) : w_Wa_shorten post (nI f) (nI t) (nI m) u := by
  have hA : ∀ x y, 0 ≤ mA (gS u) x y ∧ mA (gS u) x y ≤ 1000000 := fun x y => by unfold mA; split; omega; exact hD _ _
  have hN : ∀ x y, 0 ≤ gN (gS u) f t m x y ∧ gN (gS u) f t m x y ≤ 1000000 := fun x y => by
    have := hA x f; have := hA t y; have := hD x y; unfold gN; split <;> omega
  suffices hh : ∃ n, w_Wa_shorten_3 post n (nI f) (nI t) (nI m) (nI 0) (u.1, va_up u.2 12 (u.2 12)) by
    obtain ⟨n, hn⟩ := hh
    rw [st_eta] at hn
    exact ⟨n, hn⟩
  refine pk_loop (fun n x F => w_Wa_shorten_3 post n (nI f) (nI t) (nI m) (nI x) (u.1, va_up u.2 12 F)) (fun x F => ∀ a b, a < 12 → b < 12 → (F (12 * a + b)).toInt = if a < x then gN (gS u) f t m a b else gS u a b) 12 0 (u.2 12) (by omega)
    (fun a b ha hb => by rw [if_neg (by omega)]; unfold gS; rw [if_pos ⟨ha, hb⟩])
    (fun n F hI => ⟨fun _ => h F (fun x y hx hy => by rw [hI x y hx hy, if_pos hx]), fun c => absurd (show (12 : Int32) ≤ nI 12 by decide) c⟩)
    (fun n x F hx hI hw => ⟨fun c => absurd c (show ¬ nI 12 ≤ nI x from nI_ge hx (by omega)), fun _ => sp_anyNumber hx hf (fun r hr => ?_)⟩)
  · -- the row x
    have gF : ∀ a b, a < 12 → b < 12 → gS (u.1, va_up u.2 12 F) a b = if a < x then gN (gS u) f t m a b else gS u a b := fun a b ha hb => by
      rw [← hI a b ha hb]; unfold gS; rw [if_pos ⟨ha, hb⟩]; show (va_up u.2 12 F 12 _).toInt = _; rw [st_rd]
    have er : r.toInt = mA (gS u) x f := by
      rw [hr]; unfold mA; split
      · rfl
      · rw [gF x f hx hf, if_neg (by omega)]
    have e5 : (r + nI m).toInt = mA (gS u) x f + m := by
      have := hA x f; rw [zi_add] <;> rw [er, zi_n (by omega)] <;> omega
    refine pk_loop (fun n' y F => w_Wa_shorten_24 post (w_Wa_shorten_3 post n) n' (nI f) (nI t) (nI m) (nI x) (r + nI m) (nI y) (u.1, va_up u.2 12 F)) (fun y F => ∀ a b, a < 12 → b < 12 → (F (12 * a + b)).toInt = if a < x ∨ (a = x ∧ b < y) then gN (gS u) f t m a b else gS u a b) 12 0 F (by omega)
      (fun a b ha hb => by rw [hI a b ha hb]; by_cases q : a < x; rw [if_pos q, if_pos (Or.inl q)]; rw [if_neg q, if_neg (by omega)])
      (fun n' F hI => ⟨fun _ => ?_, fun c => absurd (show (12 : Int32) ≤ nI 12 by decide) c⟩)
      (fun n' y F hy hI hw' => ⟨fun c => absurd c (show ¬ nI 12 ≤ nI y from nI_ge hy (by omega)), fun _ => sp_anyNumber ht hy (fun r2 hr2 => ?_)⟩)
    · rw [nI_1]
      refine hw F (fun a b ha hb => ?_)
      rw [hI a b ha hb]; by_cases q : a < x + 1
      · rw [if_pos q, if_pos (by omega)]
      · rw [if_neg q, if_neg (by omega)]
    · have er2 : r2.toInt = mA (gS u) t y := by
        rw [hr2]; unfold mA; split
        · rfl
        · rename_i hne
          unfold gS; rw [if_pos ⟨ht, hy⟩, if_pos ⟨ht, hy⟩]
          show (va_up u.2 12 F 12 _).toInt = _
          rw [st_rd, hI t y ht hy]; split
          · rw [gN_t (fun x y => (hD x y).1) (by omega) hne]; unfold gS; rw [if_pos ⟨ht, hy⟩]
          · unfold gS; rw [if_pos ⟨ht, hy⟩]
      have es : (r + nI m + r2).toInt = mA (gS u) x f + m + mA (gS u) t y := by
        have := hA x f; have := hA t y; rw [zi_add] <;> rw [e5, er2] <;> omega
      have iv : vp_in (nI (12 * x + y)) 144 := vp_in_nI (by omega) (by omega)
      rw [z_12]
      refine ⟨iv, iv, ?_⟩
      rw [nI_1, st_A]
      refine hw' _ (fun a b ha hb => ?_)
      show (upd F (nI (12 * x + y)).toNatClampNeg (if r + nI m + r2 < va_up u.2 12 F 12 (nI (12 * x + y)).toNatClampNeg then r + nI m + r2 else va_up u.2 12 F 12 (nI (12 * x + y)).toNatClampNeg) (12 * a + b)).toInt = _
      rw [nI_clamp (by omega), st_rd]
      by_cases q : 12 * a + b = 12 * x + y
      · obtain ⟨rfl, rfl⟩ := z_idx hb hy q
        rw [pk_us, if_pos (Or.inr ⟨rfl, by omega⟩), zi_if]
        have ho := hI a b ha hb
        rw [if_neg (by omega)] at ho
        unfold gN
        have : (r + nI m + r2 < F (12 * a + b)) ↔ (mA (gS u) a f + m + mA (gS u) t b < gS u a b) := by rw [zi_lt, es, ho]
        by_cases c : r + nI m + r2 < F (12 * a + b)
        · rw [if_pos c, if_pos (this.mp c), es]
        · rw [if_neg c, if_neg (fun z => c (this.mpr z)), ho]
      · rw [pk_un q, hI a b ha hb]
        by_cases q2 : a < x ∨ (a = x ∧ b < y)
        · rw [if_pos q2, if_pos (by omega)]
        · rw [if_neg q2, if_neg (by omega)]
theorem sp_areTwo {post : Int32 → tS → Prop} {x y : Int32} {u : tS} {g : nT} (hg : nOk g) (hu : nV u g) (h1 : zS g x → zS g y → ¬ x = y → post 1 u) (h0 : ¬ (zS g x ∧ zS g y ∧ ¬ x = y) → post 0 u) : w_M_areTwo post x y u :=
  sp_isStop hg hu (fun a => q1 (sp_isStop hg hu (fun b => q1 ⟨fun c => h0 (fun k => k.2.2 c), fun c => h1 a b c⟩) (fun b => q0 (h0 (fun k => b k.2.1))))) (fun a => q0 (h0 (fun k => a k.1)))
/-- one walk more -/
def gWalk (g : nT) (f t m : Nat) : nT := (nSt g, nRi g, nWa g + 1, nCh g, nRf g, nRt g, nRm g, nRk g, nRd g, nLa g, fun j => if j = nWa g then f else nWf g j, fun j => if j = nWa g then t else nWt g j, fun j => if j = nWa g then m else nWk g j)
theorem gWalk_W (g : nT) (f t m : Nat) : gW (gWalk g f t m) = fun y x d => gW g y x d ∨ (y = f ∧ x = t ∧ d = (m : Int)) := by
  funext y x d; apply propext
  constructor
  · rintro ⟨w, hw, h1, h2, h3⟩
    have hw : w < nWa g + 1 := hw
    have h1 : y = if w = nWa g then f else nWf g w := h1
    have h2 : x = if w = nWa g then t else nWt g w := h2
    have h3 : d = ((if w = nWa g then m else nWk g w : Nat) : Int) := h3
    by_cases e : w = nWa g
    · rw [if_pos e] at h1 h2 h3; exact Or.inr ⟨h1, h2, h3⟩
    · rw [if_neg e] at h1 h2 h3; exact Or.inl ⟨w, by omega, h1, h2, h3⟩
  · rintro (⟨w, hw, h1, h2, h3⟩ | ⟨h1, h2, h3⟩)
    · have e : w ≠ nWa g := by omega
      refine ⟨w, Nat.lt_succ_of_lt hw, ?_, ?_, ?_⟩
      · show y = if w = nWa g then f else nWf g w
        rw [if_neg e]; exact h1
      · show x = if w = nWa g then t else nWt g w
        rw [if_neg e]; exact h2
      · show d = ((if w = nWa g then m else nWk g w : Nat) : Int)
        rw [if_neg e]; exact h3
    · refine ⟨nWa g, Nat.lt_succ_self _, ?_, ?_, ?_⟩
      · show y = if nWa g = nWa g then f else nWf g (nWa g)
        rw [if_pos rfl]; exact h1
      · show x = if nWa g = nWa g then t else nWt g (nWa g)
        rw [if_pos rfl]; exact h2
      · show d = ((if nWa g = nWa g then m else nWk g (nWa g) : Nat) : Int)
        rw [if_pos rfl]; exact h3
theorem gW_b {g : nT} (hg : nOk g) {y x : Nat} {d : Int} (h : gW g y x d) : 1 ≤ d ∧ d ≤ 600 ∧ y < 12 ∧ x < 12 ∧ y < nSt g ∧ x < nSt g := by
  obtain ⟨w, hw, rfl, rfl, rfl⟩ := h
  have := hg.2.2.2.2.2.2 w hw; have := hg.1; omega
theorem gS_b {u : tS} {g : nT} (hg : nOk g) (h : mD 1000000 (gW g) (gS u)) (x y : Nat) : 1 ≤ gS u x y ∧ gS u x y ≤ 1000000 := ⟨mD_pos (by decide) (fun _ _ _ hw => (gW_b hg hw).1) h x y, h.1 x y⟩
theorem Rel_walk {u v : tS} {g : nT} {nb : Nat} {dp : Nat → Nat} (hg : nOk g) (hu : nU u g) (hv : nV v g) (hb : nB u g nb dp) (hd : mD 1000000 (gW g) (gS u)) (hp : nP u v) (ha : nA u v) {f t m : Nat} (hf : f < nSt g) (ht : t < nSt g) (hft : f ≠ t) (hm : 1 ≤ m ∧ m ≤ 600) (hn : nWa g < 30) {u' v' : tS}
    (e1 : ∀ k, k ≠ 3 → u'.1 k = u.1 k) (e2 : u'.1 3 = nI (nWa g + 1)) (e3 : ∀ j, j ≠ 9 → j ≠ 10 → j ≠ 11 → j ≠ 12 → u'.2 j = u.2 j) (e4 : u'.2 9 = upd (u.2 9) (nWa g) (nI f)) (e5 : u'.2 10 = upd (u.2 10) (nWa g) (nI t)) (e6 : u'.2 11 = upd (u.2 11) (nWa g) (nI m))
    (e7 : ∀ x y, x < 12 → y < 12 → (u'.2 12 (12 * x + y)).toInt = gN (gS u) f t m x y)
    (f1 : ∀ k, k ≠ 2 → v'.1 k = v.1 k) (f2 : v'.1 2 = nI (nWa g + 1)) (f3 : ∀ j, j ≠ 7 → j ≠ 8 → j ≠ 9 → v'.2 j = v.2 j) (f4 : v'.2 7 = upd (v.2 7) (nWa g) (nI f)) (f5 : v'.2 8 = upd (v.2 8) (nWa g) (nI t)) (f6 : v'.2 9 = upd (v.2 9) (nWa g) (nI m)) : Rel u' v' := by
  have hst := hg.1
  refine ⟨gWalk g f t m, nb, dp, ?_, ?_, ?_, ?_, ?_, ?_, ?_⟩
  · obtain ⟨a1, a2, a3, a4, a5, a6, a7⟩ := hg
    refine ⟨a1, a2, by show nWa g + 1 ≤ 30; omega, a4, a5, a6, fun w hw => ?_⟩
    show (if w = nWa g then f else nWf g w) < nSt g ∧ (if w = nWa g then t else nWt g w) < nSt g ∧ (if w = nWa g then f else nWf g w) ≠ (if w = nWa g then t else nWt g w) ∧ 1 ≤ (if w = nWa g then m else nWk g w) ∧ (if w = nWa g then m else nWk g w) ≤ 600
    by_cases e : w = nWa g
    · simp only [if_pos e]; exact ⟨hf, ht, hft, hm⟩
    · simp only [if_neg e]; exact a7 w (by have : w < nWa g + 1 := hw; omega)
  · obtain ⟨u1, u2, u3, u4, u5, u6, u7⟩ := hu
    refine ⟨by rw [e1 0 (by omega)]; exact u1, by rw [e1 1 (by omega)]; exact u2, e2, fun j hj => by rw [e3 0 (by omega) (by omega) (by omega) (by omega)]; exact u4 j hj, fun r hr => ?_, fun r d hr hd => ?_, fun w hw => ?_⟩
    · rw [e3 1 (by omega) (by omega) (by omega) (by omega), e3 2 (by omega) (by omega) (by omega) (by omega), e3 3 (by omega) (by omega) (by omega) (by omega), e3 4 (by omega) (by omega) (by omega) (by omega), e3 5 (by omega) (by omega) (by omega) (by omega)]; exact u5 r hr
    · rw [e3 6 (by omega) (by omega) (by omega) (by omega)]; exact u6 r d hr hd
    · show u'.2 9 w = nI (if w = nWa g then f else nWf g w) ∧ u'.2 10 w = nI (if w = nWa g then t else nWt g w) ∧ u'.2 11 w = nI (if w = nWa g then m else nWk g w)
      rw [e4, e5, e6]
      by_cases e : w = nWa g
      · subst e; simp only [if_pos]; exact ⟨pk_us, pk_us, pk_us⟩
      · simp only [if_neg e, pk_un e]; exact u7 w (by have : w < nWa g + 1 := hw; omega)
  · obtain ⟨u1, u2, u3, u4, u5, u6, u7⟩ := hv
    refine ⟨by rw [f1 0 (by omega)]; exact u1, by rw [f1 1 (by omega)]; exact u2, f2, fun j hj => by rw [f3 0 (by omega) (by omega) (by omega)]; exact u4 j hj, fun r hr => ?_, fun r d hr hd => ?_, fun w hw => ?_⟩
    · rw [f3 1 (by omega) (by omega) (by omega), f3 2 (by omega) (by omega) (by omega), f3 3 (by omega) (by omega) (by omega), f3 4 (by omega) (by omega) (by omega), f3 5 (by omega) (by omega) (by omega)]; exact u5 r hr
    · rw [f3 6 (by omega) (by omega) (by omega)]; exact u6 r d hr hd
    · show v'.2 7 w = nI (if w = nWa g then f else nWf g w) ∧ v'.2 8 w = nI (if w = nWa g then t else nWt g w) ∧ v'.2 9 w = nI (if w = nWa g then m else nWk g w)
      rw [f4, f5, f6]
      by_cases e : w = nWa g
      · subst e; simp only [if_pos]; exact ⟨pk_us, pk_us, pk_us⟩
      · simp only [if_neg e, pk_un e]; exact u7 w (by have : w < nWa g + 1 := hw; omega)
  · unfold nB at *; rw [e1 2 (by omega), e3 7 (by omega) (by omega) (by omega) (by omega), e3 8 (by omega) (by omega) (by omega) (by omega)]; exact hb
  · have k := mD_add (by decide) (fun _ _ _ hw => (gW_b hg hw).1) hd f t (m : Int) (by omega)
    have es : gS u' = (fun x y => if mA (gS u) x f + (m : Int) + mA (gS u) t y < gS u x y then mA (gS u) x f + m + mA (gS u) t y else gS u x y) := by
      funext x y
      by_cases q : x < 12 ∧ y < 12
      · have := e7 x y q.1 q.2; unfold gN at this; rw [← this]; show gS u' x y = _; unfold gS; rw [if_pos q]
      · have b1 := gS_b hg hd
        have o : ∀ a b, ¬ (a < 12 ∧ b < 12) → gS u a b = 1000000 := fun a b z => by unfold gS; rw [if_neg z]
        have nn : ∀ a b, 0 ≤ mA (gS u) a b := fun a b => by unfold mA; split; omega; have := b1 a b; omega
        rw [show gS u' x y = 1000000 by unfold gS; rw [if_neg q], o x y q, if_neg]
        by_cases z : x < 12
        · have : mA (gS u) t y = 1000000 := by rw [mA_ne (by omega), o t y (by omega)]
          have := nn x f; omega
        · have : mA (gS u) x f = 1000000 := by rw [mA_ne (by omega), o x f (by omega)]
          have := nn t y; omega
    rw [gWalk_W, es]; exact k
  · unfold nP at *; rw [e1 4 (by omega), f1 3 (by omega), e3 19 (by omega) (by omega) (by omega) (by omega), e3 20 (by omega) (by omega) (by omega) (by omega), f3 10 (by omega) (by omega) (by omega), f3 11 (by omega) (by omega) (by omega)]; exact hp
  · unfold nA at *; rw [e1 5 (by omega), f1 4 (by omega), e3 21 (by omega) (by omega) (by omega) (by omega), e3 22 (by omega) (by omega) (by omega) (by omega), e3 23 (by omega) (by omega) (by omega) (by omega), e3 24 (by omega) (by omega) (by omega) (by omega), f3 12 (by omega) (by omega) (by omega)]; exact ha
theorem pr_walk (u v : tS) (x1 x2 x3 : Int32) (h : Rel u v) : w_T_walk (fun r1 u1 => w_M_walk (fun r2 v1 => r1 = r2 ∧ Rel u1 v1) x1 x2 x3 v) x1 x2 x3 u := by
  obtain ⟨g, nb, dp, hg, hu, hv, hb, hd, hp, ha⟩ := id h
  have g1 := hg.1; have g3 := hg.2.2.1
  have hn := hu.2.2.1; have hm := hv.2.2.1
  have bad : ¬ (zS g x1 ∧ zS g x2 ∧ ¬ x1 = x2 ∧ zIn x3 1 600) → w_M_walk (fun r2 v1 => (-2) = r2 ∧ Rel u v1) x1 x2 x3 v := fun hn =>
    sp_areTwo hg hv (fun a b c => q1 (sp_isIn (fun d => absurd ⟨a, b, c, d⟩ hn) (fun _ => q0 ⟨rfl, h⟩))) (fun _ => q0 ⟨rfl, h⟩)
  refine sp_hasStops hg hu (fun a b => q1 ⟨fun c => bad (fun k => k.2.2.1 c), fun c => sp_within (fun d => q1 ⟨fun e => ?_, fun e => ?_⟩) (fun d => q0 (bad (fun k => d k.2.2.2)))⟩) (fun k => q0 (bad (fun z => k ⟨z.1, z.2.1⟩)))
  · rw [hn] at e
    have hlt : nWa g < 30 := (nI_ltI (by omega) (by omega)).mp (show nI (nWa g) < nI 30 from e)
    obtain ⟨f, hf, rfl⟩ := z_S a
    obtain ⟨t, ht, rfl⟩ := z_S b
    obtain ⟨k, k1, k2, rfl⟩ := z_of d (by decide)
    have k3 : 1 ≤ k ∧ k ≤ 600 := by have : (600 : Int32).toInt = 600 := rfl; have : (1 : Int32).toInt = 1 := rfl; omega
    have iv : vp_in (nI (nWa g)) 30 := vp_in_nI hlt (by omega)
    have hft : f ≠ t := fun q => c (by rw [q])
    unfold w_Wa_add
    simp only [tA_1, hn]
    refine ⟨iv, iv, iv, ?_⟩
    refine sp_shorten (by omega) (by omega) k3 (fun x y => by have := gS_b hg hd x y; exact ⟨by show 0 ≤ gS u x y; omega, this.2⟩) (fun F hF => ?_)
    refine sp_areTwo hg hv (fun _ _ _ => q1 (sp_isIn (fun _ => q1 ⟨fun q => ?_, fun q => ?_⟩) (fun q => absurd d q))) (fun q => absurd ⟨a, b, c⟩ q)
    · rw [hm] at q; exact absurd ((nI_eq (by omega) (by omega)).mp (show nI (nWa g) = nI 30 from q)) (by omega)
    · simp only [tA_1, hm, tI_eq]
      refine ⟨iv, iv, iv, ?_, ?_⟩
      · trivial
      · rw [nI_1]
        have cl : (nI (nWa g)).toNatClampNeg = nWa g := nI_clamp (by omega)
        refine Rel_walk hg hu hv hb hd hp ha hf ht hft k3 hlt (fun k hk => ?_) ?_ (fun j h1 h2 h3 h4 => ?_) ?_ ?_ ?_ (fun x y hx hy => ?_) (fun k hk => ?_) ?_ (fun j h1 h2 h3 => ?_) ?_ ?_ ?_
        · exact tI_ne _ _ hk
        · rfl
        · show va_up _ 12 F j = _
          rw [st_ne _ _ h4, tI_2, tA_ne _ _ _ h3, tA_ne _ _ _ h2, tA_ne _ _ _ h1]
        · show upd (u.2 9) (nI (nWa g)).toNatClampNeg (nI f) = _
          rw [cl]
        · show upd (u.2 10) (nI (nWa g)).toNatClampNeg (nI t) = _
          rw [cl]
        · show upd (u.2 11) (nI (nWa g)).toNatClampNeg (nI k) = _
          rw [cl]
        · exact hF x y hx hy
        · exact tI_ne _ _ hk
        · exact tI_eq _ _ _
        · rw [tI_2, tA_ne _ _ _ h3, tA_ne _ _ _ h2, tA_ne _ _ _ h1]
        · show upd (v.2 7) (nI (nWa g)).toNatClampNeg (nI f) = _
          rw [cl]
        · show upd (v.2 8) (nI (nWa g)).toNatClampNeg (nI t) = _
          rw [cl]
        · show upd (v.2 9) (nI (nWa g)).toNatClampNeg (nI k) = _
          rw [cl]
  · rw [hn] at e
    have hge : nWa g = 30 := by
      have : ¬ nWa g < 30 := fun q => e (show nI (nWa g) < nI 30 from nI_lt q (by omega))
      omega
    exact sp_areTwo hg hv (fun _ _ _ => q1 (sp_isIn (fun _ => q1 ⟨fun _ => ⟨rfl, h⟩, fun q => absurd (by rw [hm, hge]; rfl) q⟩) (fun q => absurd d q))) (fun q => absurd ⟨a, b, c⟩ q)
