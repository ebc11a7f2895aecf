/-! INT32 BY INTEGERS -/
theorem zi_add {x y : Int32} (h1 : -2147483648 ≤ x.toInt + y.toInt) (h2 : x.toInt + y.toInt < 2147483648) : (x + y).toInt = x.toInt + y.toInt := by
  rw [Int32.toInt_add]; exact Int.bmod_eq_of_le (by omega) (by omega)
theorem zi_sub {x y : Int32} (h1 : -2147483648 ≤ x.toInt - y.toInt) (h2 : x.toInt - y.toInt < 2147483648) : (x - y).toInt = x.toInt - y.toInt := by
  rw [Int32.toInt_sub]; exact Int.bmod_eq_of_le (by omega) (by omega)
theorem zi_mul {x y : Int32} (h1 : -2147483648 ≤ x.toInt * y.toInt) (h2 : x.toInt * y.toInt < 2147483648) : (x * y).toInt = x.toInt * y.toInt := by
  rw [Int32.toInt_mul]; exact Int.bmod_eq_of_le (by omega) (by omega)
theorem zi_lt {x y : Int32} : x < y ↔ x.toInt < y.toInt := Int32.lt_iff_toInt_lt
theorem zi_le {x y : Int32} : x ≤ y ↔ x.toInt ≤ y.toInt := Int32.le_iff_toInt_le
theorem zi_eq {x y : Int32} : x = y ↔ x.toInt = y.toInt := Int32.toInt_inj.symm
theorem zi_lo (x : Int32) : -2147483648 ≤ x.toInt := Int32.le_toInt x
theorem zi_hi (x : Int32) : x.toInt < 2147483648 := Int32.toInt_lt x
theorem zi_cl (x : Int32) : x.toNatClampNeg = x.toInt.toNat := rfl
theorem zi_n {n : Nat} (h : n < 2147483648) : (nI n).toInt = n := nI_toInt h
theorem zi_nI {x : Int32} {n : Nat} (h : x.toInt = n) : x = nI n := by
  have := zi_hi x
  rw [zi_eq, zi_n (by omega)]; exact h
theorem zi_if {x y : Int32} {c : Prop} [Decidable c] : (if c then x else y).toInt = if c then x.toInt else y.toInt := by split <;> rfl
theorem zi_bool {r : Int32} (h : r = 0 ∨ r = 1) : narrow .boolean (.int r) = .int r := by rcases h with rfl | rfl <;> rfl
/-! STATES -/
theorem tI_1 (u : tS) (k : Nat) (v : Int32) : (tI u k v).1 = upd u.1 k v := rfl
theorem tI_2 (u : tS) (k : Nat) (v : Int32) : (tI u k v).2 = u.2 := rfl
theorem tA_1 (u : tS) (j : Nat) (i v : Int32) : (tA u j i v).1 = u.1 := rfl
theorem tA_2 (u : tS) (j : Nat) (i v : Int32) : (tA u j i v).2 = va_up u.2 j (upd (u.2 j) i.toNatClampNeg v) := rfl
theorem tI_eq (u : tS) (k : Nat) (v : Int32) : (tI u k v).1 k = v := by rw [tI_1]; exact pk_us
theorem tI_ne (u : tS) {k j : Nat} (v : Int32) (h : j ≠ k) : (tI u k v).1 j = u.1 j := by rw [tI_1]; exact pk_un h
theorem tA_ne (u : tS) {j k : Nat} (i v : Int32) (h : k ≠ j) : (tA u j i v).2 k = u.2 k := by rw [tA_2]; unfold va_up; rw [if_neg h]
theorem tA_eq (u : tS) (j : Nat) (i v : Int32) : (tA u j i v).2 j = upd (u.2 j) i.toNatClampNeg v := by rw [tA_2]; unfold va_up; rw [if_pos rfl]
/-! THE NETWORK, as numbers -/
abbrev nT : Type := Nat × Nat × Nat × (Nat → Nat) × (Nat → Nat) × (Nat → Nat) × (Nat → Nat) × (Nat → Nat) × (Nat → Nat) × (Nat → Int) × (Nat → Nat) × (Nat → Nat) × (Nat → Nat)
def nSt (g : nT) : Nat := g.1
def nRi (g : nT) : Nat := g.2.1
def nWa (g : nT) : Nat := g.2.2.1
def nCh (g : nT) : Nat → Nat := g.2.2.2.1
def nRf (g : nT) : Nat → Nat := g.2.2.2.2.1
def nRt (g : nT) : Nat → Nat := g.2.2.2.2.2.1
def nRm (g : nT) : Nat → Nat := g.2.2.2.2.2.2.1
def nRk (g : nT) : Nat → Nat := g.2.2.2.2.2.2.2.1
def nRd (g : nT) : Nat → Nat := g.2.2.2.2.2.2.2.2.1
def nLa (g : nT) : Nat → Int := g.2.2.2.2.2.2.2.2.2.1
def nWf (g : nT) : Nat → Nat := g.2.2.2.2.2.2.2.2.2.2.1
def nWt (g : nT) : Nat → Nat := g.2.2.2.2.2.2.2.2.2.2.2.1
def nWk (g : nT) : Nat → Nat := g.2.2.2.2.2.2.2.2.2.2.2.2
/-- the ride of a departure leaves on its day -/
def nOn (g : nT) (r d : Nat) : Prop := nRd g r / 2 ^ d % 2 = 1
def nLv (g : nT) (k : Nat) : Int := 1440 * ((k % 7 : Nat) : Int) + nRm g (k / 7) + nLa g k
def nOk (g : nT) : Prop := nSt g ≤ 12 ∧ nRi g ≤ 40 ∧ nWa g ≤ 30 ∧ (∀ j, j < nSt g → nCh g j ≤ 60) ∧
  (∀ r, r < nRi g → nRf g r < nSt g ∧ nRt g r < nSt g ∧ nRf g r ≠ nRt g r ∧ nRm g r ≤ 1439 ∧ 1 ≤ nRk g r ∧ nRk g r ≤ 1440 ∧ 1 ≤ nRd g r ∧ nRd g r ≤ 127) ∧
  (∀ r d, r < nRi g → d < 7 → -1 ≤ nLa g (7 * r + d) ∧ nLa g (7 * r + d) ≤ 300 ∧ (¬ nOn g r d → nLa g (7 * r + d) = -1)) ∧
  ∀ w, w < nWa g → nWf g w < nSt g ∧ nWt g w < nSt g ∧ nWf g w ≠ nWt g w ∧ 1 ≤ nWk g w ∧ nWk g w ≤ 600
/-- what the class holds of it -/
def nU (u : tS) (g : nT) : Prop := u.1 0 = nI (nSt g) ∧ u.1 1 = nI (nRi g) ∧ u.1 3 = nI (nWa g) ∧ (∀ j, j < nSt g → u.2 0 j = nI (nCh g j)) ∧
  (∀ r, r < nRi g → u.2 1 r = nI (nRf g r) ∧ u.2 2 r = nI (nRt g r) ∧ u.2 3 r = nI (nRm g r) ∧ u.2 4 r = nI (nRk g r) ∧ u.2 5 r = nI (nRd g r)) ∧
  (∀ r d, r < nRi g → d < 7 → (u.2 6 (7 * r + d)).toInt = nLa g (7 * r + d)) ∧
  ∀ w, w < nWa g → u.2 9 w = nI (nWf g w) ∧ u.2 10 w = nI (nWt g w) ∧ u.2 11 w = nI (nWk g w)
/-- what the reference holds of it -/
def nV (v : tS) (g : nT) : Prop := v.1 0 = nI (nSt g) ∧ v.1 1 = nI (nRi g) ∧ v.1 2 = nI (nWa g) ∧ (∀ j, j < nSt g → v.2 0 j = nI (nCh g j)) ∧
  (∀ r, r < nRi g → v.2 1 r = nI (nRf g r) ∧ v.2 2 r = nI (nRt g r) ∧ v.2 3 r = nI (nRm g r) ∧ v.2 4 r = nI (nRk g r) ∧ v.2 5 r = nI (nRd g r)) ∧
  (∀ r d, r < nRi g → d < 7 → nOn g r d → (v.2 6 (7 * r + d)).toInt = nLa g (7 * r + d)) ∧
  ∀ w, w < nWa g → v.2 7 w = nI (nWf g w) ∧ v.2 8 w = nI (nWt g w) ∧ v.2 9 w = nI (nWk g w)
/-- the board: nb departures that go, at place p the departure dp p, sorted -/
def nB (u : tS) (g : nT) (nb : Nat) (dp : Nat → Nat) : Prop := u.1 2 = nI nb ∧ nb ≤ 7 * nRi g ∧ (∀ p, p < nb → dp p < 7 * nRi g ∧ nLa g (dp p) ≠ -1 ∧ u.2 7 p = nI (dp p) ∧ (u.2 8 p).toInt = nLv g (dp p)) ∧
  (∀ p q, p < q → q < nb → nLv g (dp p) < nLv g (dp q) ∨ (nLv g (dp p) = nLv g (dp q) ∧ dp p < dp q)) ∧
  ∀ k, k < 7 * nRi g → nLa g k ≠ -1 → ∃ p, p < nb ∧ dp p = k
/-- walks, departures, changes as the mathematics has them -/
def gW (g : nT) (y x : Nat) (d : Int) : Prop := ∃ w, w < nWa g ∧ y = nWf g w ∧ x = nWt g w ∧ d = nWk g w
def gD (g : nT) (y x : Nat) (l v : Int) : Prop := ∃ k, k < 7 * nRi g ∧ nLa g k ≠ -1 ∧ y = nRf g (k / 7) ∧ x = nRt g (k / 7) ∧ l = nLv g k ∧ v = nLv g k + nRk g (k / 7)
def gC (g : nT) (x : Nat) : Int := nCh g x
/-- the shortest rows of walks, as the class holds them -/
def gS (u : tS) (x y : Nat) : Int := if x < 12 ∧ y < 12 then (u.2 12 (12 * x + y)).toInt else 1000000
/-- steps and acts: the same, but that the class holds 1000000 for none, and five rows of acts -/
def nP (u v : tS) : Prop := ∃ n : Nat, n ≤ 601 ∧ u.1 4 = nI n ∧ v.1 3 = nI n ∧ ∀ i, i < n → u.2 19 i = v.2 10 i ∧ v.2 11 i = (if u.2 20 i < 1000000 then u.2 20 i else -1)
def nA (u v : tS) : Prop := ∃ n : Nat, n ≤ 24 ∧ u.1 5 = nI n ∧ v.1 4 = nI n ∧ ∀ i, i < n → v.2 12 (5 * i) = (if u.2 22 i = -1 then 0 else 1) ∧ v.2 12 (5 * i + 1) = u.2 21 i ∧ v.2 12 (5 * i + 2) = u.2 22 i ∧ v.2 12 (5 * i + 3) = u.2 23 i ∧ v.2 12 (5 * i + 4) = u.2 24 i
/-- THE TIE between the class and the reference -/
def Rel (u v : tS) : Prop := ∃ (g : nT) (nb : Nat) (dp : Nat → Nat), nOk g ∧ nU u g ∧ nV v g ∧ nB u g nb dp ∧ mD 1000000 (gW g) (gS u) ∧ nP u v ∧ nA u v
theorem Rel_0 (f : Nat → Int32) (hf : ∀ j : Nat, j < 144 → f j = 1000000) : Rel (ct_u f) ct_v := by
  refine ⟨(0, 0, 0, fun _ => 0, fun _ => 0, fun _ => 0, fun _ => 0, fun _ => 0, fun _ => 0, fun _ => 0, fun _ => 0, fun _ => 0, fun _ => 0), 0, fun _ => 0, ?_, ?_, ?_, ?_, ?_, ?_, ?_⟩
  · refine ⟨by decide, by decide, by decide, ?_, ?_, ?_, ?_⟩ <;> intro a <;> first | (intro h; exact absurd h (Nat.not_lt_zero _)) | (intro b h; exact absurd h (Nat.not_lt_zero _))
  · refine ⟨rfl, rfl, rfl, ?_, ?_, ?_, ?_⟩ <;> intro a <;> first | (intro h; exact absurd h (Nat.not_lt_zero _)) | (intro b h; exact absurd h (Nat.not_lt_zero _))
  · refine ⟨rfl, rfl, rfl, ?_, ?_, ?_, ?_⟩ <;> intro a <;> first | (intro h; exact absurd h (Nat.not_lt_zero _)) | (intro b h; exact absurd h (Nat.not_lt_zero _))
  · refine ⟨rfl, Nat.zero_le _, fun p h => absurd h (Nat.not_lt_zero _), fun p q _ h => absurd h (Nat.not_lt_zero _), fun k h => absurd h (Nat.not_lt_zero _)⟩
  · have e : ∀ x y, gS (ct_u f) x y = 1000000 := fun x y => by
      unfold gS; split
      · show (f (12 * x + y)).toInt = 1000000
        rw [hf _ (by omega)]; rfl
      · rfl
    have no : ∀ {y x d}, ¬ gW (0, 0, 0, fun _ => 0, fun _ => 0, fun _ => 0, fun _ => 0, fun _ => 0, fun _ => 0, fun _ => 0, fun _ => 0, fun _ => 0, fun _ => 0) y x d := fun h => by
      obtain ⟨w, h, _⟩ := h; exact absurd h (Nat.not_lt_zero _)
    refine ⟨fun x y => by rw [e]; exact Int.le_refl _, fun x => ⟨fun y d h => absurd h no, fun z y d h => absurd h no⟩, fun x a ha _ y => by rw [e]; exact ha y⟩
  · exact ⟨0, by omega, rfl, rfl, fun i h => absurd h (Nat.not_lt_zero _)⟩
  · exact ⟨0, by omega, rfl, rfl, fun i h => absurd h (Nat.not_lt_zero _)⟩
