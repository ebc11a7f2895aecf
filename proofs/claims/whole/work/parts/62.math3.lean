/-! COUNTING, AND WHAT IS ATTAINED -/
/-- how many j below n have g j below τ -/
def mN (g : Nat → Int) (τ : Int) : Nat → Nat
  | 0 => 0
  | n + 1 => mN g τ n + if g n < τ then 1 else 0
theorem mN_le (g : Nat → Int) (τ : Int) (n : Nat) : mN g τ n ≤ n := by
  induction n with
  | zero => exact Nat.le_refl _
  | succ n ih => unfold mN; split <;> omega
theorem mN_mono (g g' : Nat → Int) (τ τ' : Int) (n : Nat) (h : ∀ j, j < n → g j < τ → g' j < τ') : mN g τ n ≤ mN g' τ' n := by
  induction n with
  | zero => exact Nat.le_refl _
  | succ n ih =>
    have h1 := ih (fun j hj => h j (by omega)); have h2 := h n (by omega)
    unfold mN; split <;> split <;> omega
theorem mN_lt (g g' : Nat → Int) (τ τ' : Int) (n j : Nat) (h : ∀ j, j < n → g j < τ → g' j < τ') (hj : j < n) (h1 : ¬ g j < τ) (h2 : g' j < τ') : mN g τ n + 1 ≤ mN g' τ' n := by
  induction n with
  | zero => omega
  | succ n ih =>
    unfold mN
    by_cases e : j = n
    · subst e
      have := mN_mono g g' τ τ' j (fun i hi => h i (by omega))
      rw [if_neg h1, if_pos h2]; omega
    · have h3 := ih (fun i hi => h i (by omega)) (by omega); have h4 := h n (by omega)
      split <;> split <;> omega
section MG
variable {N : Int} {Wk : Nat → Nat → Int → Prop} {Dp : Nat → Nat → Int → Int → Prop} {ch : Nat → Int} {f : Nat} {t : Int} {R V : Nat → Int}
theorem mG_low (hd : ∀ y x d, Wk y x d → 1 ≤ d) (hl : ∀ y x l v, Dp y x l v → l < v) (hch : ∀ x, 0 ≤ ch x) (ht : t ≤ N) (h : mG N Wk Dp ch f t R V) (x : Nat) : t ≤ R x ∧ t ≤ V x :=
  h.2.2 (fun _ => t) (fun _ => t) (fun _ => ⟨ht, ht⟩) ⟨Int.le_refl _, fun y x d hw => by have := hd _ _ _ hw; (try dsimp only); exact ⟨by omega, by omega⟩, fun y x l v hq hc => by have := hl _ _ _ _ hq; have := hch y; (try dsimp only at hc ⊢); rcases hc with hc | hc <;> omega⟩ x
theorem mG_from (hd : ∀ y x d, Wk y x d → 1 ≤ d) (hl : ∀ y x l v, Dp y x l v → l < v) (hch : ∀ x, 0 ≤ ch x) (ht : t ≤ N) (h : mG N Wk Dp ch f t R V) : V f = t :=
  Int.le_antisymm h.2.1.1 (mG_low hd hl hch ht h f).2
/-- the last act of a way to x by walk -/
theorem mG_lastW (h : mG N Wk Dp ch f t R V) {x : Nat} (hx : V x < N) (hf : x ≠ f) : ∃ y d, Wk y x d ∧ (V x = R y + d ∨ V x = V y + d) := by
  refine Classical.byContradiction (fun hn => ?_)
  have no : ∀ y d, Wk y x d → V x ≠ R y + d ∧ V x ≠ V y + d := fun y d hw => ⟨fun e => hn ⟨y, d, hw, Or.inl e⟩, fun e => hn ⟨y, d, hw, Or.inr e⟩⟩
  have k := (h.2.2 R (fun z => if z = x then V z + 1 else V z) (fun z => ⟨(h.1 z).1, ?_⟩) ⟨?_, fun y z d hw => ?_, fun y z l v hq hc => ?_⟩ x).2
  · (try dsimp only at k); rw [if_pos rfl] at k; omega
  · (try dsimp only); split
    · rename_i e; subst e; omega
    · exact (h.1 z).2
  · (try dsimp only); rw [if_neg (fun e => hf e.symm)]; exact h.2.1.1
  · have a := h.2.1.2.1 y z d hw
    by_cases e : z = x
    · subst e; have b := no y d hw; (try dsimp only); rw [if_pos rfl]
      refine ⟨by omega, ?_⟩
      split <;> omega
    · (try dsimp only); rw [if_neg e]; refine ⟨a.1, ?_⟩; split <;> omega
  · refine h.2.1.2.2 y z l v hq ?_
    rcases hc with hc | hc
    · left; (try dsimp only at hc); split at hc <;> omega
    · exact Or.inr hc
/-- the last act of a way to x by ride -/
theorem mG_lastD (h : mG N Wk Dp ch f t R V) {x : Nat} (hx : R x < N) : ∃ y l v, Dp y x l v ∧ (V y ≤ l ∨ R y + ch y ≤ l) ∧ R x = v := by
  refine Classical.byContradiction (fun hn => ?_)
  have no : ∀ y l v, Dp y x l v → (V y ≤ l ∨ R y + ch y ≤ l) → R x ≠ v := fun y l v hq hc e => hn ⟨y, l, v, hq, hc, e⟩
  have k := (h.2.2 (fun z => if z = x then R z + 1 else R z) V (fun z => ⟨?_, (h.1 z).2⟩) ⟨h.2.1.1, fun y z d hw => ?_, fun y z l v hq hc => ?_⟩ x).1
  · (try dsimp only at k); rw [if_pos rfl] at k; omega
  · (try dsimp only); split
    · rename_i e; subst e; omega
    · exact (h.1 z).1
  · have a := h.2.1.2.1 y z d hw; refine ⟨?_, a.2⟩; (try dsimp only); split <;> omega
  · have hc' : V y ≤ l ∨ R y + ch y ≤ l := by
      rcases hc with hc | hc
      · exact Or.inl hc
      · right; (try dsimp only at hc); split at hc <;> omega
    have a := h.2.1.2.2 y z l v hq hc'
    (try dsimp only); split
    · rename_i e; subst e; have := no y l v hq hc'; omega
    · exact a
end MG
/-- a row of walks that there is, is short: at most 600 for each stop -/
theorem mD_short {N : Int} {Wk : Nat → Nat → Int → Prop} {D : Nat → Nat → Int} (hN : 1 ≤ N) (hd : ∀ y x d, Wk y x d → 1 ≤ d ∧ d ≤ 600 ∧ y < 12) (h : mD N Wk D) (x : Nat) : ∀ (k : Nat) (y : Nat), D x y < N → D x y ≤ k → D x y ≤ 600 * ((mN (D x) (D x y) 12 : Nat) + 1) := by
  have hd1 : ∀ y x d, Wk y x d → 1 ≤ d := fun y x d hw => (hd y x d hw).1
  intro k
  induction k with
  | zero => intro y h1 h2; have := mD_pos hN hd1 h x y; omega
  | succ k ih =>
    intro y h1 h2
    have ex : ∃ z d, Wk z y d ∧ ((z = x ∧ D x y = d) ∨ D x y = D x z + d) := by
      refine Classical.byContradiction (fun hn => ?_)
      have no : ∀ z d, Wk z y d → ¬ (z = x ∧ D x y = d) ∧ D x y ≠ D x z + d := fun z d hw => ⟨fun e => hn ⟨z, d, hw, Or.inl e⟩, fun e => hn ⟨z, d, hw, Or.inr e⟩⟩
      have q := h.2.2 x (fun z => if z = y then D x z + 1 else D x z) (fun z => by
          have := h.1 x z; (try dsimp only); split
          · rename_i e; subst e; omega
          · exact this) ⟨fun z d hw => ?_, fun a b d hw => ?_⟩ y
      · (try dsimp only at q); rw [if_pos rfl] at q; omega
      · have := (h.2.1 x).1 z d hw; (try dsimp only); split
        · rename_i e; subst e; have := (no x d hw).1; omega
        · exact this
      · have h3 := (h.2.1 x).2 a b d hw; try dsimp only
        by_cases e : b = y
        · subst e; have := (no a d hw).2; rw [if_pos rfl]; split <;> omega
        · rw [if_neg e]; split <;> omega
    obtain ⟨z, d, hw, e | e⟩ := ex
    · have := hd _ _ _ hw; omega
    · have hdd := hd _ _ _ hw
      have hz := ih z (by omega) (by omega)
      have := mN_lt (D x) (D x) (D x z) (D x y) 12 z (fun j _ hj => by omega) hdd.2.2 (by omega) (by omega)
      omega
theorem mD_fin {N : Int} {Wk : Nat → Nat → Int → Prop} {D : Nat → Nat → Int} (hN : 1 ≤ N) (hd : ∀ y x d, Wk y x d → 1 ≤ d ∧ d ≤ 600 ∧ y < 12) (h : mD N Wk D) (x y : Nat) : D x y = N ∨ D x y ≤ 7800 := by
  by_cases e : D x y = N
  · exact Or.inl e
  · right
    have h1 := h.1 x y
    have h2 := mD_short hN hd h x (D x y).toNat y (by omega) (by omega)
    have h3 := mN_le (D x) (D x y) 12
    omega
