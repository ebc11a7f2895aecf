/-! WAYS WITH AT MOST k DEPARTURES. K x v: an arrival by ride at x at v is to be had -/
def mP (Wk : Nat → Nat → Int → Prop) (f : Nat) (t : Int) (K : Nat → Int → Prop) (R V : Nat → Int) : Prop := V f ≤ t ∧ (∀ y x d, Wk y x d → V x ≤ R y + d ∧ V x ≤ V y + d) ∧ ∀ x v, K x v → R x ≤ v
def mH (N : Int) (Wk : Nat → Nat → Int → Prop) (f : Nat) (t : Int) (K : Nat → Int → Prop) (R V : Nat → Int) : Prop :=
  (∀ x, R x ≤ N ∧ V x ≤ N) ∧ mP Wk f t K R V ∧ ∀ R' V' : Nat → Int, (∀ x, R' x ≤ N ∧ V' x ≤ N) → mP Wk f t K R' V' → ∀ x, R' x ≤ R x ∧ V' x ≤ V x
def mK (Dp : Nat → Nat → Int → Int → Prop) (ch : Nat → Int) (R V : Nat → Int) (x : Nat) (v : Int) : Prop := ∃ y l, Dp y x l v ∧ (V y ≤ l ∨ R y + ch y ≤ l)
def mL (N : Int) (Wk : Nat → Nat → Int → Prop) (Dp : Nat → Nat → Int → Int → Prop) (ch : Nat → Int) (f : Nat) (t : Int) : Nat → (Nat → Int) → (Nat → Int) → Prop
  | 0, R, V => mH N Wk f t (fun _ _ => False) R V
  | k + 1, R, V => ∃ R0 V0, mL N Wk Dp ch f t k R0 V0 ∧ mH N Wk f t (mK Dp ch R0 V0) R V
section ML
variable {N : Int} {Wk : Nat → Nat → Int → Prop} {Dp : Nat → Nat → Int → Int → Prop} {ch : Nat → Int} {f : Nat} {t : Int}
theorem mH_mono {K K' : Nat → Int → Prop} {R V R' V' : Nat → Int} (h : mH N Wk f t K R V) (h' : mH N Wk f t K' R' V') (hk : ∀ x v, K x v → K' x v) (x : Nat) : R' x ≤ R x ∧ V' x ≤ V x :=
  h.2.2 R' V' h'.1 ⟨h'.2.1.1, h'.2.1.2.1, fun x v q => h'.2.1.2.2 x v (hk x v q)⟩ x
theorem mH_one {K : Nat → Int → Prop} {R V R' V' : Nat → Int} (h : mH N Wk f t K R V) (h' : mH N Wk f t K R' V') : R = R' ∧ V = V' := by
  constructor <;> funext x
  · exact Int.le_antisymm (mH_mono h' h (fun _ _ q => q) x).1 (mH_mono h h' (fun _ _ q => q) x).1
  · exact Int.le_antisymm (mH_mono h' h (fun _ _ q => q) x).2 (mH_mono h h' (fun _ _ q => q) x).2
theorem mL_one : ∀ (k : Nat) {R V R' V' : Nat → Int}, mL N Wk Dp ch f t k R V → mL N Wk Dp ch f t k R' V' → R = R' ∧ V = V'
  | 0, _, _, _, _, h, h' => mH_one h h'
  | k + 1, R, V, R', V', ⟨R0, V0, h0, h⟩, ⟨R1, V1, h1, h'⟩ => by
    obtain ⟨rfl, rfl⟩ := mL_one k h0 h1
    exact mH_one h h'
theorem mK_mono {R V R' V' : Nat → Int} (h : ∀ x, R' x ≤ R x ∧ V' x ≤ V x) (x : Nat) (v : Int) (hk : mK Dp ch R V x v) : mK Dp ch R' V' x v := by
  obtain ⟨y, l, hq, hc⟩ := hk
  have := h y
  exact ⟨y, l, hq, by rcases hc with hc | hc; exact Or.inl (by omega); exact Or.inr (by omega)⟩
theorem mL_step : ∀ (k : Nat) {R0 V0 R V : Nat → Int}, mL N Wk Dp ch f t k R0 V0 → mH N Wk f t (mK Dp ch R0 V0) R V → ∀ x, R x ≤ R0 x ∧ V x ≤ V0 x
  | 0, R0, V0, R, V, h0, h => mH_mono h0 h (fun _ _ q => q.elim)
  | k + 1, R0, V0, R, V, ⟨R1, V1, h1, h0⟩, h => mH_mono h0 h (fun x v q => mK_mono (mL_step k h1 h0) x v q)
theorem mL_b : ∀ (k : Nat) {R V : Nat → Int}, mL N Wk Dp ch f t k R V → (∀ x, R x ≤ N ∧ V x ≤ N) ∧ V f ≤ t ∧ ∀ y x d, Wk y x d → V x ≤ R y + d ∧ V x ≤ V y + d
  | 0, _, _, h => ⟨h.1, h.2.1.1, h.2.1.2.1⟩
  | _ + 1, _, _, ⟨_, _, _, h⟩ => ⟨h.1, h.2.1.1, h.2.1.2.1⟩
/-- an arrival by ride is had by a departure -/
theorem mH_ride {K : Nat → Int → Prop} {R V : Nat → Int} (h : mH N Wk f t K R V) {x : Nat} (hx : R x < N) : K x (R x) := by
  refine Classical.byContradiction (fun hn => ?_)
  have k := (h.2.2 (fun z => if z = x then R z + 1 else R z) V (fun z => ⟨?_, (h.1 z).2⟩) ⟨h.2.1.1, fun y z d hw => ?_, fun z v q => ?_⟩ x).1
  · (try dsimp only at k); rw [if_pos rfl] at k; omega
  · (try dsimp only); split
    · rename_i e; subst e; omega
    · exact (h.1 z).1
  · have a := h.2.1.2.1 y z d hw; refine ⟨?_, a.2⟩; (try dsimp only); split <;> omega
  · have a := h.2.1.2.2 z v q
    (try dsimp only); split
    · rename_i e; subst e
      by_cases e2 : R z = v
      · subst e2; exact absurd q hn
      · omega
    · exact a
/-- what is earlier by walk, is so by a ride that is earlier -/
theorem mH_walk {K' : Nat → Int → Prop} {R V R' V' : Nat → Int} (hd : ∀ y x d, Wk y x d → 1 ≤ d) (b1 : ∀ x, R x ≤ N ∧ V x ≤ N) (b2 : V f ≤ t) (b3 : ∀ y x d, Wk y x d → V x ≤ R y + d ∧ V x ≤ V y + d) (h' : mH N Wk f t K' R' V') (hm : ∀ x, R' x ≤ R x ∧ V' x ≤ V x) {y : Nat} (hy : V' y < V y) : ∃ x, R' x < R x ∧ R' x ≤ V' y := by
  refine Classical.byContradiction (fun hn => ?_)
  have no : ∀ x, R' x = R x ∨ V' y < R' x := fun x => by
    by_cases e : R' x = R x
    · exact Or.inl e
    · have := hm x
      rcases (show R' x ≤ V' y ∨ V' y < R' x by omega) with z | z
      · exact absurd ⟨x, by omega, z⟩ hn
      · exact Or.inr z
  have k := (h'.2.2 R' (fun z => if V' z ≤ V' y then (if V z < V' y + 1 then V z else V' y + 1) else V' z) (fun z => ⟨(h'.1 z).1, ?_⟩) ⟨?_, fun b z d hw => ⟨?_, ?_⟩, h'.2.1.2.2⟩ y).2
  · (try dsimp only at k); rw [if_pos (Int.le_refl _)] at k; split at k <;> omega
  · have := (b1 z).2; have := (h'.1 z).2; (try dsimp only); split <;> (try split) <;> omega
  · have := b2; have := h'.2.1.1; (try dsimp only); split <;> (try split) <;> omega
  · have a := b3 b z d hw; have c := h'.2.1.2.1 b z d hw; have n := no b; have := hd _ _ _ hw
    (try dsimp only); split
    · split <;> rcases n with n | n <;> omega
    · exact c.1
  · have a := b3 b z d hw; have c := h'.2.1.2.1 b z d hw; have := hd _ _ _ hw; have := hm b; have := hm z
    (try dsimp only); split <;> split <;> (try split) <;> (try split) <;> omega
/-- what gets earlier at step k + 1 has k stops ahead of it -/
theorem mL_count (hd : ∀ y x d, Wk y x d → 1 ≤ d) (hl : ∀ y x l v, Dp y x l v → l < v ∧ v < N ∧ x < 12) (hch : ∀ x, 0 ≤ ch x) : ∀ (k : Nat) {R0 V0 R V : Nat → Int}, mL N Wk Dp ch f t k R0 V0 → mH N Wk f t (mK Dp ch R0 V0) R V → ∀ x, R x < R0 x → k ≤ mN R (R x) 12
  | 0, _, _, _, _, _, _ => fun _ _ => Nat.zero_le _
  | k + 1, R0, V0, R, V, ⟨R1, V1, h1, h0⟩, h => by
    intro x hx
    have m01 := mL_step k h1 h0
    have m0 := mL_step (k + 1) ⟨R1, V1, h1, h0⟩ h
    have hxN := (h0.1 x).1
    obtain ⟨y, l, hq, hc⟩ := mH_ride h (show R x < N by omega)
    have hlv := hl _ _ _ _ hq
    -- not to be had a step before
    have hno : ¬ (V1 y ≤ l ∨ R1 y + ch y ≤ l) := fun hc1 => by
      have := h0.2.1.2.2 x (R x) ⟨y, l, hq, hc1⟩; omega
    have ex : ∃ z, R0 z < R1 z ∧ R0 z ≤ l := by
      have hch := hch y
      rcases hc with hc | hc
      · have b := mL_b k h1
        obtain ⟨z, z1, z2⟩ := mH_walk hd b.1 b.2.1 b.2.2 h0 m01 (y := y) (by omega)
        exact ⟨z, z1, by omega⟩
      · exact ⟨y, by omega, by omega⟩
    obtain ⟨z, z1, z2⟩ := ex
    have ih := mL_count hd hl hch k h1 h0 z z1
    have hz12 : z < 12 := by
      have := (h0.1 z).1; have := ((mL_b k h1).1 z).1
      obtain ⟨_, _, hq2, _⟩ := mH_ride h0 (show R0 z < N by omega)
      exact (hl _ _ _ _ hq2).2.2
    have := mN_lt R0 R (R0 z) (R x) 12 z (fun j _ hj => by have := (m0 j).1; omega) hz12 (by omega) (by have := (m0 z).1; omega)
    omega
end ML
