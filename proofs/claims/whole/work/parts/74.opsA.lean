/-! FROM THE END: onward ends -/
def mI (P : Nat → Prop) [DecidablePred P] (g : Nat → Int) (b : Int) : Nat → Int
  | 0 => b
  | n + 1 => if P n ∧ g n < mI P g b n then g n else mI P g b n
theorem mI_b (P : Nat → Prop) [DecidablePred P] (g : Nat → Int) (b : Int) (n : Nat) : mI P g b n ≤ b := by
  induction n with
  | zero => exact Int.le_refl _
  | succ n ih => unfold mI; split <;> omega
theorem mI_g (P : Nat → Prop) [DecidablePred P] (g : Nat → Int) (b : Int) (n i : Nat) (hi : i < n) (hp : P i) : mI P g b n ≤ g i := by
  induction n with
  | zero => omega
  | succ n ih =>
    unfold mI
    by_cases e : i = n
    · subst e; split
      · exact Int.le_refl _
      · rename_i h
        by_cases q : g i < mI P g b i
        · exact absurd ⟨hp, q⟩ h
        · omega
    · have := ih (by omega); split <;> omega
theorem mI_at (P : Nat → Prop) [DecidablePred P] (g : Nat → Int) (b : Int) (n : Nat) : mI P g b n = b ∨ ∃ i, i < n ∧ P i ∧ mI P g b n = g i := by
  induction n with
  | zero => exact Or.inl rfl
  | succ n ih =>
    unfold mI; split
    · rename_i h; exact Or.inr ⟨n, by omega, h.1, rfl⟩
    · rcases ih with e | ⟨i, h1, h2, h3⟩
      · exact Or.inl e
      · exact Or.inr ⟨i, by omega, h2, h3⟩
section OE
variable {N : Int} {D : Nat → Nat → Int} {n : Nat} {yy xx : Nat → Nat} {ll vv : Nat → Int} {ch : Nat → Int} {z : Nat}
theorem mO_one {on on' : Nat → Int} {q : Nat} (hi : ∀ i, i < n → vv q + mg ch D (xx q) (yy i) ≤ ll i → on i = on' i) (h : mO N D n yy xx ll vv ch z on q) (h' : mO N D n yy xx ll vv ch z on' q) : on q = on' q := by
  obtain ⟨a1, a2, a3, a4⟩ := h
  obtain ⟨b1, b2, b3, b4⟩ := h'
  refine Int.le_antisymm ?_ ?_
  · rcases b4 with e | e | ⟨i, i1, i2, e⟩
    · omega
    · omega
    · rw [e, ← hi i i1 i2]; exact a3 i i1 i2
  · rcases a4 with e | e | ⟨i, i1, i2, e⟩
    · omega
    · omega
    · rw [e, hi i i1 i2]; exact b3 i i1 i2
/-- there are such ends -/
theorem mO_ex (hlN : ∀ q, q < n → ll q < N) (hlv : ∀ q, q < n → ll q < vv q) (hA : ∀ x, 0 ≤ mA D x z) (hg : ∀ x y, 0 ≤ mg ch D x y) (hs : ∀ q i, q < n → i < n → ll q < ll i → q < i) :
    ∃ on : Nat → Int, ∀ q, q < n → mO N D n yy xx ll vv ch z on q ∧ ll q < on q := by
  have key : ∀ k, k ≤ n → ∃ on : Nat → Int, ∀ q, n - k ≤ q → q < n → mO N D n yy xx ll vv ch z on q ∧ ll q < on q := by
    intro k
    induction k with
    | zero => intro _; exact ⟨fun _ => 0, fun q h1 h2 => by omega⟩
    | succ k ih =>
      intro hk
      obtain ⟨on, hon⟩ := ih (by omega)
      obtain ⟨q0, hq0⟩ : ∃ q0, q0 = n - (k + 1) := ⟨_, rfl⟩
      have fol : ∀ q i, q < n → i < n → vv q + mg ch D (xx q) (yy i) ≤ ll i → q < i := fun q i h1 h2 h3 => hs q i h1 h2 (by have := hlv q h1; have := hg (xx q) (yy i); omega)
      have hdec : DecidablePred (fun i => vv q0 + mg ch D (xx q0) (yy i) ≤ ll i) := fun i => inferInstance
      obtain ⟨w, hw⟩ : ∃ w, w = mI (fun i => vv q0 + mg ch D (xx q0) (yy i) ≤ ll i) on (if vv q0 + mA D (xx q0) z < N then vv q0 + mA D (xx q0) z else N) n := ⟨_, rfl⟩
      refine ⟨fun q => if q = q0 then w else on q, fun q h1 h2 => ?_⟩
      have ne : ∀ i, q < i → i ≠ q0 := fun i h => by omega
      by_cases e : q = q0
      · subst e
        have b1 := mI_b (fun i => vv q + mg ch D (xx q) (yy i) ≤ ll i) on (if vv q + mA D (xx q) z < N then vv q + mA D (xx q) z else N) n
        have b3 := mI_at (fun i => vv q + mg ch D (xx q) (yy i) ≤ ll i) on (if vv q + mA D (xx q) z < N then vv q + mA D (xx q) z else N) n
        rw [← hw] at b1 b3
        have hlq := hlv q h2; have hAq := hA (xx q); have hlNq := hlN q h2
        refine ⟨⟨?_, ?_, fun i i1 i2 => ?_, ?_⟩, ?_⟩
        · (try dsimp only); rw [if_pos rfl]; split at b1 <;> omega
        · (try dsimp only); rw [if_pos rfl]; split at b1 <;> omega
        · have := fol q i h2 i1 i2
          have b2 := mI_g (fun i => vv q + mg ch D (xx q) (yy i) ≤ ll i) on (if vv q + mA D (xx q) z < N then vv q + mA D (xx q) z else N) n i i1 i2
          (try dsimp only); rw [if_pos rfl, if_neg (ne i this), hw]; exact b2
        · (try dsimp only); rw [if_pos rfl]
          rcases b3 with b3 | ⟨i, i1, i2, i3⟩
          · split at b3
            · exact Or.inr (Or.inl b3)
            · exact Or.inl b3
          · have := fol q i h2 i1 i2
            exact Or.inr (Or.inr ⟨i, i1, i2, by rw [if_neg (ne i this)]; exact i3⟩)
        · (try dsimp only); rw [if_pos rfl]
          rcases b3 with b3 | ⟨i, i1, i2, i3⟩
          · split at b3 <;> omega
          · have h3 := fol q i h2 i1 i2
            have := (hon i (by omega) i1).2
            have := hg (xx q) (yy i)
            have i2 : vv q + mg ch D (xx q) (yy i) ≤ ll i := i2
            omega
      · have := hon q (by omega) h2
        obtain ⟨⟨a1, a2, a3, a4⟩, a5⟩ := this
        (try dsimp only)
        refine ⟨⟨?_, ?_, fun i i1 i2 => ?_, ?_⟩, ?_⟩
        · (try dsimp only); rw [if_neg e]; exact a1
        · (try dsimp only); rw [if_neg e]; exact a2
        · have := fol q i h2 i1 i2
          (try dsimp only); rw [if_neg e, if_neg (by omega)]; exact a3 i i1 i2
        · (try dsimp only); rw [if_neg e]
          rcases a4 with a4 | a4 | ⟨i, i1, i2, i3⟩
          · exact Or.inl a4
          · exact Or.inr (Or.inl a4)
          · have := fol q i h2 i1 i2
            exact Or.inr (Or.inr ⟨i, i1, i2, by rw [if_neg (by omega)]; exact i3⟩)
        · (try dsimp only); rw [if_neg e]; exact a5
  obtain ⟨on, h⟩ := key n (Nat.le_refl _)
  exact ⟨on, fun q hq => h q (by omega) hq⟩
end OE
/-- what a look from the end says of the arrival at z of ways from f at t -/
def mZ (N : Int) (D : Nat → Nat → Int) (n : Nat) (yy : Nat → Nat) (ll : Nat → Int) (on : Nat → Int) (f z : Nat) (t e : Int) : Prop :=
  e ≤ N ∧ e ≤ t + mA D f z ∧ (∀ i, i < n → t + mA D f (yy i) ≤ ll i → e ≤ on i) ∧ (e = N ∨ e = t + mA D f z ∨ ∃ i, i < n ∧ t + mA D f (yy i) ≤ ll i ∧ e = on i)
theorem mZ_eq {N : Int} {Wk : Nat → Nat → Int → Prop} {D : Nat → Nat → Int} {n : Nat} {yy xx : Nat → Nat} {ll vv : Nat → Int} {ch : Nat → Int} {f z : Nat} {t e : Int} {R V on : Nat → Int} (hN : 1 ≤ N) (hd : ∀ y x d, Wk y x d → 1 ≤ d) (hD : mD N Wk D) (ht : 0 ≤ t) (hv0 : ∀ q, q < n → 0 ≤ vv q)
    (hG : mG N Wk (mQ n yy xx ll vv) ch f t R V) (hon : ∀ q, q < n → mO N D n yy xx ll vv ch z on q) (hll : ∀ q, q < n → ll q < N) (hch : ∀ x, 0 ≤ ch x) (hs : ∀ q i, q < n → i < n → ll q < ll i → q < i) (hlv : ∀ q, q < n → ll q < vv q)
    (he : mZ N D n yy ll on f z t e) : mn (R z) (V z) = e := by
  obtain ⟨e1, e2, e3, e4⟩ := he
  have ge := mO_ge hN hd hD hG hon hll hch e e1 e2 e3
  have hg0 : ∀ x y, 0 ≤ mg ch D x y := fun x y => by
    have := mD_pos hN hd hD x y; have := hch x; unfold mg; split <;> (try split) <;> omega
  have hV : ∀ y, V y ≤ t + mA D f y := fun y => by
    have h1 := hG.2.1.1
    by_cases q : f = y
    · subst q; rw [mA_self]; omega
    · rw [mA_ne q]
      exact mD_via hd hD V t f (fun y d hw => by have := (hG.2.1.2.1 f y d hw).2; omega) (fun a b d hw => (hG.2.1.2.1 a b d hw).2) y (by have := (hG.1 y).2; omega)
  have le : R z ≤ e ∨ V z ≤ e := by
    rcases e4 with q | q | ⟨i, i1, i2, q⟩
    · have := (hG.1 z).1; left; omega
    · right; have := hV z; omega
    · have hx : R (xx i) ≤ vv i := hG.2.1.2.2 _ _ _ _ ⟨i, i1, rfl, rfl, rfl, rfl⟩ (Or.inl (Int.le_trans (hV (yy i)) i2))
      have := mO_le hd hD hv0 hG.1 hG.2.1 hon hs hlv hg0 n i i1 (by omega) hx
      rw [q]; exact this
  unfold mn; split <;> omega
