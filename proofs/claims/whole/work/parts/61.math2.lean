/-! ONE LOOK ALONG THE DEPARTURES, in the order of their leaving -/
def mQ (n : Nat) (yy xx : Nat → Nat) (ll vv : Nat → Int) (y x : Nat) (l v : Int) : Prop := ∃ q, q < n ∧ y = yy q ∧ x = xx q ∧ l = ll q ∧ v = vv q
def mJ (N : Int) (Wk : Nat → Nat → Int → Prop) (n : Nat) (yy xx : Nat → Nat) (ll vv : Nat → Int) (ch : Nat → Int) (f : Nat) (t : Int) (p : Nat) (R V : Nat → Int) : Prop :=
  (∀ x, R x ≤ N ∧ V x ≤ N) ∧ V f ≤ t ∧ (∀ y x d, Wk y x d → V x ≤ R y + d ∧ V x ≤ V y + d) ∧ (∀ q, q < p → V (yy q) ≤ ll q ∨ R (yy q) + ch (yy q) ≤ ll q → R (xx q) ≤ vv q) ∧
  ∀ R' V' : Nat → Int, (∀ x, R' x ≤ N ∧ V' x ≤ N) → mC Wk (mQ n yy xx ll vv) ch f t R' V' → ∀ x, R' x ≤ R x ∧ V' x ≤ V x
theorem mJ_0 {N : Int} {Wk : Nat → Nat → Int → Prop} {D : Nat → Nat → Int} {n : Nat} {yy xx : Nat → Nat} {ll vv : Nat → Int} {ch : Nat → Int} {f : Nat} {t : Int} (hN : 1 ≤ N) (hd : ∀ y x d, Wk y x d → 1 ≤ d) (h : mD N Wk D) (ht : 0 ≤ t) (htN : t ≤ N) :
    mJ N Wk n yy xx ll vv ch f t 0 (fun _ => N) (fun x => if t + mA D f x < N then t + mA D f x else N) := by
  refine ⟨fun x => ⟨Int.le_refl _, ?_⟩, ?_, fun y x d hw => ⟨?_, ?_⟩, fun q hq => absurd hq (by omega), fun R' V' hb hc x => ⟨(hb x).1, ?_⟩⟩
  · (try dsimp only); split <;> omega
  · (try dsimp only); rw [mA_self]; split <;> omega
  · have := hd _ _ _ hw; (try dsimp only); split <;> omega
  · have := mA_app hN hd h hw f; have := hd _ _ _ hw; (try dsimp only); split <;> split <;> omega
  · have h1 := hc.1; have h2 := (hb x).2
    have : V' x ≤ t + mA D f x := by
      by_cases e : f = x
      · subst e; rw [mA_self]; omega
      · rw [mA_ne e]
        exact mD_via hd h V' t f (fun y d hw => by have := (hc.2.1 f y d hw).2; omega) (fun a b d hw => (hc.2.1 a b d hw).2) x (by omega)
    (try dsimp only); split <;> omega
theorem mJ_skip {N : Int} {Wk : Nat → Nat → Int → Prop} {n : Nat} {yy xx : Nat → Nat} {ll vv : Nat → Int} {ch : Nat → Int} {f : Nat} {t : Int} {p : Nat} {R V : Nat → Int} (h : mJ N Wk n yy xx ll vv ch f t p R V) (hs : V (yy p) ≤ ll p ∨ R (yy p) + ch (yy p) ≤ ll p → R (xx p) ≤ vv p) : mJ N Wk n yy xx ll vv ch f t (p + 1) R V := by
  refine ⟨h.1, h.2.1, h.2.2.1, fun q hq => ?_, h.2.2.2.2⟩
  by_cases e : q = p
  · subst e; exact hs
  · exact h.2.2.2.1 q (by omega)
theorem mJ_take {N : Int} {Wk : Nat → Nat → Int → Prop} {D : Nat → Nat → Int} {n : Nat} {yy xx : Nat → Nat} {ll vv : Nat → Int} {ch : Nat → Int} {f : Nat} {t : Int} {p : Nat} {R V : Nat → Int} (hN : 1 ≤ N) (hd : ∀ y x d, Wk y x d → 1 ≤ d) (hD : mD N Wk D)
    (hch : ∀ q, q < n → 0 ≤ ch (yy q)) (hso : ∀ q, q < p → ll q ≤ ll p) (hlv : ll p < vv p) (hp : p < n) (hv0 : 0 ≤ vv p) (h : mJ N Wk n yy xx ll vv ch f t p R V) (hm : V (yy p) ≤ ll p ∨ R (yy p) + ch (yy p) ≤ ll p) (hlt : vv p < R (xx p)) :
    mJ N Wk n yy xx ll vv ch f t (p + 1) (fun x => if x = xx p then vv p else R x) (fun o => if vv p + D (xx p) o < V o then vv p + D (xx p) o else V o) := by
  obtain ⟨h1, h2, h3, h4, h5⟩ := h
  refine ⟨fun x => ⟨?_, ?_⟩, ?_, fun y x d hw => ⟨?_, ?_⟩, fun q hq => ?_, fun R' V' hb hc x => ?_⟩
  · have := (h1 x).1; have := (h1 (xx p)).1; (try dsimp only); split <;> omega
  · have := (h1 x).2; (try dsimp only); split <;> omega
  · (try dsimp only); split <;> omega
  · have a := (h3 y x d hw).1; have b := (hD.2.1 (xx p)).1 x d
    try dsimp only
    by_cases e : y = xx p
    · subst e; have := b hw; rw [if_pos rfl]; split <;> omega
    · rw [if_neg e]; split <;> omega
  · have a := (h3 y x d hw).2; have b := (hD.2.1 (xx p)).2 y x d hw
    (try dsimp only); split <;> split <;> omega
  · intro hc
    have hql : ll q ≤ ll p := by
      by_cases e : q = p
      · subst e; exact Int.le_refl _
      · exact hso q (by omega)
    have hqn : q < n := by omega
    have hcq := hch q hqn
    have hpos := mD_pos hN hd hD (xx p) (yy q)
    have hc' : V (yy q) ≤ ll q ∨ R (yy q) + ch (yy q) ≤ ll q := by
      rcases hc with hc | hc
      · left; (try dsimp only at hc); split at hc <;> omega
      · right; (try dsimp only at hc); split at hc <;> omega
    by_cases e : q = p
    · subst e; (try dsimp only); rw [if_pos rfl]; exact Int.le_refl _
    · have := h4 q (by omega) hc'; (try dsimp only); split
      · rename_i e2; rw [e2] at this; omega
      · exact this
  · have k := h5 R' V' hb hc
    have kx : R' (xx p) ≤ vv p := by
      refine hc.2.2 (yy p) (xx p) (ll p) (vv p) ⟨p, hp, rfl, rfl, rfl, rfl⟩ ?_
      have := k (yy p); rcases hm with hm | hm
      · left; omega
      · right; omega
    refine ⟨?_, ?_⟩
    · have := (k x).1; (try dsimp only); split
      · rename_i e; rw [e]; exact kx
      · exact this
    · have k2 := (k x).2
      have : V' x ≤ vv p + D (xx p) x := mD_via hd hD V' (vv p) (xx p) (fun y d hw => by have := (hc.2.1 (xx p) y d hw).1; omega) (fun a b d hw => (hc.2.1 a b d hw).2) x (by have := (hb x).2; omega)
      (try dsimp only); split <;> omega
theorem mJ_end {N : Int} {Wk : Nat → Nat → Int → Prop} {n : Nat} {yy xx : Nat → Nat} {ll vv : Nat → Int} {ch : Nat → Int} {f : Nat} {t : Int} {R V : Nat → Int} (h : mJ N Wk n yy xx ll vv ch f t n R V) : mG N Wk (mQ n yy xx ll vv) ch f t R V := by
  refine ⟨h.1, ⟨h.2.1, h.2.2.1, ?_⟩, h.2.2.2.2⟩
  rintro y x l v ⟨q, hq, rfl, rfl, rfl, rfl⟩ hc
  exact h.2.2.2.1 q hq hc
/-! LOOKED AT FROM THE END: the first end of ways that begin with a departure -/
def mg (ch : Nat → Int) (D : Nat → Nat → Int) (x y : Nat) : Int := if x = y then (if D x y < ch x then D x y else ch x) else D x y
/-- on q is the least of: its arrival and a row of walks to z; on i of those that may follow -/
def mO (N : Int) (D : Nat → Nat → Int) (n : Nat) (yy xx : Nat → Nat) (ll vv : Nat → Int) (ch : Nat → Int) (z : Nat) (on : Nat → Int) (q : Nat) : Prop :=
  on q ≤ N ∧ on q ≤ vv q + mA D (xx q) z ∧ (∀ i, i < n → vv q + mg ch D (xx q) (yy i) ≤ ll i → on q ≤ on i) ∧
  (on q = N ∨ on q = vv q + mA D (xx q) z ∨ ∃ i, i < n ∧ vv q + mg ch D (xx q) (yy i) ≤ ll i ∧ on q = on i)
theorem mO_le {N : Int} {Wk : Nat → Nat → Int → Prop} {D : Nat → Nat → Int} {n : Nat} {yy xx : Nat → Nat} {ll vv : Nat → Int} {ch : Nat → Int} {f z : Nat} {t : Int} {R V on : Nat → Int} (hd : ∀ y x d, Wk y x d → 1 ≤ d) (hD : mD N Wk D) (hNv : ∀ q, q < n → 0 ≤ vv q)
    (hR : ∀ x, R x ≤ N ∧ V x ≤ N) (hC : mC Wk (mQ n yy xx ll vv) ch f t R V) (hon : ∀ q, q < n → mO N D n yy xx ll vv ch z on q) (hs : ∀ q i, q < n → i < n → ll q < ll i → q < i) (hlv : ∀ q, q < n → ll q < vv q) (hgn : ∀ x y, 0 ≤ mg ch D x y) :
    ∀ k q, q < n → n ≤ q + k → R (xx q) ≤ vv q → R z ≤ on q ∨ V z ≤ on q := by
  intro k
  induction k with
  | zero => intro q h1 h2; omega
  | succ k ih =>
    intro q hq hk hr
    obtain ⟨o1, o2, o3, o4⟩ := hon q hq
    have hVx : ∀ y, V y ≤ vv q + D (xx q) y := fun y =>
      mD_via hd hD V (vv q) (xx q) (fun y d hw => by have := (hC.2.1 (xx q) y d hw).1; omega) (fun a b d hw => (hC.2.1 a b d hw).2) y (by have := (hR y).2; have := hNv q hq; omega)
    rcases o4 with o4 | o4 | ⟨i, hi, ho, o4⟩
    · right; have := (hR z).2; omega
    · by_cases e : xx q = z
      · left; subst e; rw [mA_self] at o4; omega
      · right; rw [mA_ne e] at o4; have := hVx z; omega
    · have hqi : q < i := hs q i hq hi (by have := hlv q hq; have := hgn (xx q) (yy i); omega)
      have hx : R (xx i) ≤ vv i := by
        refine hC.2.2 (yy i) (xx i) (ll i) (vv i) ⟨i, hi, rfl, rfl, rfl, rfl⟩ ?_
        have hv := hVx (yy i)
        unfold mg at ho
        split at ho
        · rename_i e
          split at ho
          · left; omega
          · right; rw [← e]; omega
        · left; omega
      have := ih i hi (by omega) hx
      omega
/-- the greatest of some numbers, and of b -/
def mX (P : Nat → Prop) [DecidablePred P] (g : Nat → Int) (b : Int) : Nat → Int
  | 0 => b
  | n + 1 => if P n ∧ mX P g b n < g n then g n else mX P g b n
theorem mX_b (P : Nat → Prop) [DecidablePred P] (g : Nat → Int) (b : Int) (n : Nat) : b ≤ mX P g b n := by
  induction n with
  | zero => exact Int.le_refl _
  | succ n ih => unfold mX; split <;> omega
theorem mX_g (P : Nat → Prop) [DecidablePred P] (g : Nat → Int) (b : Int) (n i : Nat) (hi : i < n) (hp : P i) : g i ≤ mX P g b n := by
  induction n with
  | zero => omega
  | succ n ih =>
    unfold mX
    by_cases e : i = n
    · subst e; split
      · exact Int.le_refl _
      · rename_i h; have := Classical.not_and_iff_not_or_not.mp h; rcases this with z | z
        · exact absurd hp z
        · omega
    · have := ih (by omega); split <;> omega
theorem mX_le (P : Nat → Prop) [DecidablePred P] (g : Nat → Int) (b c : Int) (n : Nat) (hb : b ≤ c) (hg : ∀ i, i < n → P i → g i ≤ c) : mX P g b n ≤ c := by
  induction n with
  | zero => exact hb
  | succ n ih =>
    have := ih (fun i hi => hg i (by omega)); unfold mX; split
    · rename_i h; exact hg n (by omega) h.1
    · exact this
/-- V0: what is at most a row of walks from f at t, and at most on i of those that can be come to by walks; then no end is earlier -/
theorem mO_ge {N : Int} {Wk : Nat → Nat → Int → Prop} {D : Nat → Nat → Int} {n : Nat} {yy xx : Nat → Nat} {ll vv : Nat → Int} {ch : Nat → Int} {f z : Nat} {t : Int} {R V on : Nat → Int} (hN : 1 ≤ N) (hd : ∀ y x d, Wk y x d → 1 ≤ d) (hD : mD N Wk D)
    (hG : mG N Wk (mQ n yy xx ll vv) ch f t R V) (hon : ∀ q, q < n → mO N D n yy xx ll vv ch z on q) (hll : ∀ q, q < n → ll q < N) (hch : ∀ x, 0 ≤ ch x)
    (V0 : Int) (h0 : V0 ≤ N) (h1 : V0 ≤ t + mA D f z) (h2 : ∀ i, i < n → t + mA D f (yy i) ≤ ll i → V0 ≤ on i) : V0 ≤ R z ∧ V0 ≤ V z := by
  have hgD : ∀ x y, mg ch D x y ≤ D x y := fun x y => by unfold mg; split <;> (try split) <;> omega
  have hg0 : ∀ x y, 0 ≤ mg ch D x y := fun x y => by
    have := mD_pos hN hd hD x y; have := hch x; unfold mg; split <;> (try split) <;> omega
  have hgc : ∀ x, mg ch D x x ≤ ch x := fun x => by unfold mg; rw [if_pos rfl]; split <;> omega
  have A0 := fun x y => mA_nn hN hd hD x y
  have key := hG.2.2 (fun x => mX (fun i => on i < V0) (fun i => ll i + 1 - mg ch D x (yy i)) (V0 - mA D x z) n)
    (fun x => mX (fun i => on i < V0) (fun i => ll i + 1 - mA D x (yy i)) (V0 - mA D x z) n) (fun x => ⟨?_, ?_⟩) ⟨?_, fun y x d hw => ⟨?_, ?_⟩, ?_⟩ z
  · have b1 := mX_b (fun i => on i < V0) (fun i => ll i + 1 - mg ch D z (yy i)) (V0 - mA D z z) n
    have b2 := mX_b (fun i => on i < V0) (fun i => ll i + 1 - mA D z (yy i)) (V0 - mA D z z) n
    rw [mA_self] at b1 b2
    try dsimp only at key
    rw [mA_self] at key
    omega
  · exact mX_le _ _ _ _ _ (by have := A0 x z; omega) (fun i hi _ => by have := hll i hi; have := hg0 x (yy i); (try dsimp only); omega)
  · exact mX_le _ _ _ _ _ (by have := A0 x z; omega) (fun i hi _ => by have := hll i hi; have := A0 x (yy i); (try dsimp only); omega)
  · exact mX_le _ _ _ _ _ (by omega) (fun i hi hp => by
      try dsimp only at hp ⊢
      rcases Int.lt_or_le (ll i) (t + mA D f (yy i)) with q | q
      · omega
      · have := h2 i hi q; omega)
  · refine mX_le _ _ _ _ _ ?_ (fun i hi hp => ?_)
    · have b1 := mX_b (fun i => on i < V0) (fun i => ll i + 1 - mg ch D y (yy i)) (V0 - mA D y z) n
      have := mD_pre hN hd hD hw z; have := mA_le hN hd hD y z; (try dsimp only); omega
    · have b1 := mX_g (fun i => on i < V0) (fun i => ll i + 1 - mg ch D y (yy i)) (V0 - mA D y z) n i hi hp
      have := mD_pre hN hd hD hw (yy i); have := hgD y (yy i); try dsimp only at b1 ⊢; omega
  · refine mX_le _ _ _ _ _ ?_ (fun i hi hp => ?_)
    · have b1 := mX_b (fun i => on i < V0) (fun i => ll i + 1 - mA D y (yy i)) (V0 - mA D y z) n
      have := mD_pre hN hd hD hw z; have := mA_le hN hd hD y z; (try dsimp only); omega
    · have b1 := mX_g (fun i => on i < V0) (fun i => ll i + 1 - mA D y (yy i)) (V0 - mA D y z) n i hi hp
      have := mD_pre hN hd hD hw (yy i); have := mA_le hN hd hD y (yy i); try dsimp only at b1 ⊢; omega
  · rintro y x l v ⟨q, hq, rfl, rfl, rfl, rfl⟩ hc
    obtain ⟨o1, o2, o3, o4⟩ := hon q hq
    rcases Int.lt_or_le (on q) V0 with hlt | hle
    · exfalso
      have b1 := mX_g (fun i => on i < V0) (fun i => ll i + 1 - mg ch D (yy q) (yy i)) (V0 - mA D (yy q) z) n q hq hlt
      have b2 := mX_g (fun i => on i < V0) (fun i => ll i + 1 - mA D (yy q) (yy i)) (V0 - mA D (yy q) z) n q hq hlt
      try dsimp only at b1 b2 hc
      rw [mA_self] at b2
      have := hgc (yy q)
      rcases hc with hc | hc <;> omega
    · refine mX_le _ _ _ _ _ (by omega) (fun i hi hp => ?_)
      try dsimp only at hp ⊢
      rcases Int.lt_or_le (ll i) (vv q + mg ch D (xx q) (yy i)) with z | z
      · omega
      · have := o3 i hi z; omega
