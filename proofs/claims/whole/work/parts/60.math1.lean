/-! THE MATHEMATICS: least rows of walks, arrivals as the greatest closed pair. N: 'never'. Wk y x d: a walk from y to x of d minutes. Dp y x l v: a departure that goes, from y to x, leaving at l, arriving at v. -/
def mE (Wk : Nat → Nat → Int → Prop) (x : Nat) (e : Nat → Int) : Prop := (∀ y d, Wk x y d → e y ≤ d) ∧ ∀ z y d, Wk z y d → e y ≤ e z + d
def mD (N : Int) (Wk : Nat → Nat → Int → Prop) (D : Nat → Nat → Int) : Prop := (∀ x y, D x y ≤ N) ∧ (∀ x, mE Wk x (D x)) ∧ ∀ x (e : Nat → Int), (∀ y, e y ≤ N) → mE Wk x e → ∀ y, e y ≤ D x y
def mA (D : Nat → Nat → Int) (x y : Nat) : Int := if x = y then 0 else D x y
theorem mA_self {D : Nat → Nat → Int} (x : Nat) : mA D x x = 0 := by simp [mA]
theorem mA_ne {D : Nat → Nat → Int} {x y : Nat} (h : x ≠ y) : mA D x y = D x y := by simp [mA, h]
theorem mD_pos {N : Int} {Wk : Nat → Nat → Int → Prop} {D : Nat → Nat → Int} (hN : 1 ≤ N) (hd : ∀ y x d, Wk y x d → 1 ≤ d) (h : mD N Wk D) (x y : Nat) : 1 ≤ D x y :=
  h.2.2 x (fun _ => 1) (fun _ => hN) ⟨fun y d hw => hd _ _ _ hw, fun z y d hw => by have := hd _ _ _ hw; (try dsimp only); omega⟩ y
theorem mA_nn {N : Int} {Wk : Nat → Nat → Int → Prop} {D : Nat → Nat → Int} (hN : 1 ≤ N) (hd : ∀ y x d, Wk y x d → 1 ≤ d) (h : mD N Wk D) (x y : Nat) : 0 ≤ mA D x y := by
  unfold mA; split
  · exact Int.le_refl 0
  · have := mD_pos hN hd h x y; omega
theorem mA_le {N : Int} {Wk : Nat → Nat → Int → Prop} {D : Nat → Nat → Int} (hN : 1 ≤ N) (hd : ∀ y x d, Wk y x d → 1 ≤ d) (h : mD N Wk D) (x y : Nat) : mA D x y ≤ D x y := by
  unfold mA; split
  · have := mD_pos hN hd h x y; omega
  · exact Int.le_refl _
/-- a walk behind a row -/
theorem mD_app {N : Int} {Wk : Nat → Nat → Int → Prop} {D : Nat → Nat → Int} (h : mD N Wk D) {z y : Nat} {d : Int} (hw : Wk z y d) (x : Nat) : D x y ≤ mA D x z + d := by
  unfold mA; split
  · rename_i e; subst e; have := (h.2.1 x).1 y d hw; omega
  · exact (h.2.1 x).2 z y d hw
theorem mA_app {N : Int} {Wk : Nat → Nat → Int → Prop} {D : Nat → Nat → Int} (hN : 1 ≤ N) (hd : ∀ y x d, Wk y x d → 1 ≤ d) (h : mD N Wk D) {z y : Nat} {d : Int} (hw : Wk z y d) (x : Nat) : mA D x y ≤ mA D x z + d :=
  Int.le_trans (mA_le hN hd h x y) (mD_app h hw x)
/-- a row behind a row: any function that is closed is no more than what a row adds -/
theorem mD_via {N : Int} {Wk : Nat → Nat → Int → Prop} {D : Nat → Nat → Int} (hd : ∀ y x d, Wk y x d → 1 ≤ d) (h : mD N Wk D) (g : Nat → Int) (b : Int) (x : Nat) (hg1 : ∀ y d, Wk x y d → g y ≤ b + d) (hg2 : ∀ z y d, Wk z y d → g y ≤ g z + d) (y : Nat) (hy : g y ≤ b + N) : g y ≤ b + D x y := by
  have k := h.2.2 x (fun y => if g y - b ≤ N then g y - b else N) (fun y => by (try dsimp only); split <;> omega)
    ⟨fun y d hw => by have := hg1 y d hw; (try dsimp only); split <;> omega, fun z y d hw => by have := hg2 z y d hw; have := hd _ _ _ hw; (try dsimp only); split <;> split <;> omega⟩ y
  try dsimp only at k
  split at k <;> omega
theorem mD_tri {N : Int} {Wk : Nat → Nat → Int → Prop} {D : Nat → Nat → Int} (hN : 1 ≤ N) (hd : ∀ y x d, Wk y x d → 1 ≤ d) (h : mD N Wk D) (x z y : Nat) : D x y ≤ D x z + D z y :=
  mD_via hd h (D x) (D x z) z (fun y d hw => (h.2.1 x).2 z y d hw) (fun a b d hw => (h.2.1 x).2 a b d hw) y (by have := h.1 x y; have := mD_pos hN hd h x z; omega)
theorem mA_tri {N : Int} {Wk : Nat → Nat → Int → Prop} {D : Nat → Nat → Int} (hN : 1 ≤ N) (hd : ∀ y x d, Wk y x d → 1 ≤ d) (h : mD N Wk D) (x z y : Nat) : mA D x y ≤ mA D x z + mA D z y := by
  by_cases h1 : x = z
  · subst h1; rw [mA_self]; omega
  · by_cases h2 : z = y
    · subst h2; rw [mA_self]; omega
    · rw [mA_ne h1, mA_ne h2]; exact Int.le_trans (mA_le hN hd h x y) (mD_tri hN hd h x z y)
/-- a walk ahead of a row -/
theorem mD_pre {N : Int} {Wk : Nat → Nat → Int → Prop} {D : Nat → Nat → Int} (hN : 1 ≤ N) (hd : ∀ y x d, Wk y x d → 1 ≤ d) (h : mD N Wk D) {x z : Nat} {d : Int} (hw : Wk x z d) (y : Nat) : D x y ≤ d + mA D z y := by
  have h1 := (h.2.1 x).1 z d hw
  unfold mA; split
  · rename_i e; subst e; omega
  · have := mD_tri hN hd h x z y; omega
/-- one walk more -/
theorem mD_add {N : Int} {Wk : Nat → Nat → Int → Prop} {D : Nat → Nat → Int} (hN : 1 ≤ N) (hd : ∀ y x d, Wk y x d → 1 ≤ d) (h : mD N Wk D) (f t : Nat) (m : Int) (hm : 1 ≤ m) :
    mD N (fun y x d => Wk y x d ∨ (y = f ∧ x = t ∧ d = m)) (fun x y => if mA D x f + m + mA D t y < D x y then mA D x f + m + mA D t y else D x y) := by
  refine ⟨fun x y => ?_, fun x => ⟨fun y d hw => ?_, fun z y d hw => ?_⟩, fun x e he hc y => ?_⟩
  · have := h.1 x y; try dsimp only
    split <;> omega
  · try dsimp only
    rcases hw with hw | ⟨rfl, rfl, rfl⟩
    · have := (h.2.1 x).1 y d hw; split <;> omega
    · rw [mA_self, mA_self]; split <;> omega
  · try dsimp only
    rcases hw with hw | ⟨rfl, rfl, rfl⟩
    · have h1 := (h.2.1 x).2 z y d hw; have h2 := mA_app hN hd h hw t
      split <;> split <;> omega
    · have h1 := mA_le hN hd h x z; have h2 := mA_self (D := D) y; have h3 := mA_nn hN hd h y z
      rw [h2]; split <;> split <;> omega
  · have hc' : mE Wk x e := ⟨fun y d hw => hc.1 y d (Or.inl hw), fun z y d hw => hc.2 z y d (Or.inl hw)⟩
    have k1 := h.2.2 x e he hc' y
    have k2 : e t ≤ mA D x f + m := by
      unfold mA; split
      · rename_i ex; subst ex; have := hc.1 t m (Or.inr ⟨rfl, rfl, rfl⟩); omega
      · have := hc.2 f t m (Or.inr ⟨rfl, rfl, rfl⟩); have := h.2.2 x e he hc' f; omega
    have k3 : e y ≤ mA D x f + m + mA D t y := by
      by_cases ex : t = y
      · subst ex; rw [mA_self]; omega
      · rw [mA_ne ex]
        have hn := mA_nn hN hd h x f
        exact mD_via hd h e (mA D x f + m) t (fun y d hw => by have := hc.2 t y d (Or.inl hw); omega) (fun a b d hw => hc.2 a b d (Or.inl hw)) y (by have := he y; omega)
    try dsimp only
    split <;> omega
/-- a closed pair: W f at most t; walks; departures that may be taken -/
def mC (Wk : Nat → Nat → Int → Prop) (Dp : Nat → Nat → Int → Int → Prop) (ch : Nat → Int) (f : Nat) (t : Int) (R V : Nat → Int) : Prop :=
  V f ≤ t ∧ (∀ y x d, Wk y x d → V x ≤ R y + d ∧ V x ≤ V y + d) ∧ ∀ y x l v, Dp y x l v → V y ≤ l ∨ R y + ch y ≤ l → R x ≤ v
def mG (N : Int) (Wk : Nat → Nat → Int → Prop) (Dp : Nat → Nat → Int → Int → Prop) (ch : Nat → Int) (f : Nat) (t : Int) (R V : Nat → Int) : Prop :=
  (∀ x, R x ≤ N ∧ V x ≤ N) ∧ mC Wk Dp ch f t R V ∧ ∀ R' V' : Nat → Int, (∀ x, R' x ≤ N ∧ V' x ≤ N) → mC Wk Dp ch f t R' V' → ∀ x, R' x ≤ R x ∧ V' x ≤ V x
theorem mG_one {N : Int} {Wk : Nat → Nat → Int → Prop} {Dp : Nat → Nat → Int → Int → Prop} {ch : Nat → Int} {f : Nat} {t : Int} {R V R' V' : Nat → Int} (h : mG N Wk Dp ch f t R V) (h' : mG N Wk Dp ch f t R' V') (x : Nat) : R x = R' x ∧ V x = V' x := by
  have a := h.2.2 R' V' h'.1 h'.2.1 x; have b := h'.2.2 R V h.1 h.2.1 x
  exact ⟨Int.le_antisymm b.1 a.1, Int.le_antisymm b.2 a.2⟩
