/-! SCRATCH ROWS may change -/
def eU (u u' : tS) : Prop := u'.1 = u.1 ∧ ∀ j, ¬ (13 ≤ j ∧ j ≤ 18) → u'.2 j = u.2 j
def eV (v v' : tS) : Prop := (∀ k, k ≠ 5 → v'.1 k = v.1 k) ∧ ∀ j, ¬ (13 ≤ j ∧ j ≤ 15) → v'.2 j = v.2 j
theorem eU_rf (u : tS) : eU u u := ⟨rfl, fun _ _ => rfl⟩
theorem eV_rf (u : tS) : eV u u := ⟨fun _ _ => rfl, fun _ _ => rfl⟩
theorem eU_tr {u v w : tS} (h : eU u v) (h' : eU v w) : eU u w := ⟨h'.1.trans h.1, fun j hj => (h'.2 j hj).trans (h.2 j hj)⟩
theorem eV_tr {u v w : tS} (h : eV u v) (h' : eV v w) : eV u w := ⟨fun k hk => (h'.1 k hk).trans (h.1 k hk), fun j hj => (h'.2 j hj).trans (h.2 j hj)⟩
theorem eU_A {u : tS} {j : Nat} (i x : Int32) (h : 13 ≤ j ∧ j ≤ 18) : eU u (tA u j i x) := ⟨rfl, fun k hk => tA_ne u i x (fun e => hk (by rw [e]; exact h))⟩
theorem eV_A {u : tS} {j : Nat} (i x : Int32) (h : 13 ≤ j ∧ j ≤ 15) : eV u (tA u j i x) := ⟨fun _ _ => rfl, fun k hk => tA_ne u i x (fun e => hk (by rw [e]; exact h))⟩
theorem eV_I (u : tS) (x : Int32) : eV u (tI u 5 x) := ⟨fun k hk => tI_ne u x hk, fun _ _ => rfl⟩
theorem nU_e {u u' : tS} {g : nT} (e : eU u u') (h : nU u g) : nU u' g := by
  obtain ⟨e1, e2⟩ := e
  unfold nU at *
  rw [e1, e2 0 (by omega), e2 1 (by omega), e2 2 (by omega), e2 3 (by omega), e2 4 (by omega), e2 5 (by omega), e2 6 (by omega), e2 9 (by omega), e2 10 (by omega), e2 11 (by omega)]
  exact h
theorem nV_e {u u' : tS} {g : nT} (e : eV u u') (h : nV u g) : nV u' g := by
  obtain ⟨e1, e2⟩ := e
  unfold nV at *
  rw [e1 0 (by omega), e1 1 (by omega), e1 2 (by omega), e2 0 (by omega), e2 1 (by omega), e2 2 (by omega), e2 3 (by omega), e2 4 (by omega), e2 5 (by omega), e2 6 (by omega), e2 7 (by omega), e2 8 (by omega), e2 9 (by omega)]
  exact h
theorem nB_e {u u' : tS} {g : nT} {nb : Nat} {dp : Nat → Nat} (e : eU u u') (h : nB u g nb dp) : nB u' g nb dp := by
  obtain ⟨e1, e2⟩ := e
  unfold nB at *
  rw [e1, e2 7 (by omega), e2 8 (by omega)]
  exact h
theorem gS_e {u u' : tS} (e : eU u u') : gS u' = gS u := by
  funext x y; unfold gS; rw [e.2 12 (by omega)]
theorem Rel_e {u u' v v' : tS} (e : eU u u') (f : eV v v') (h : Rel u v) : Rel u' v' := by
  obtain ⟨g, nb, dp, h1, h2, h3, h4, h5, h6, h7⟩ := h
  refine ⟨g, nb, dp, h1, nU_e e h2, nV_e f h3, nB_e e h4, by rw [gS_e e]; exact h5, ?_, ?_⟩
  · unfold nP at *; rw [e.1, f.1 3 (by omega), e.2 19 (by omega), e.2 20 (by omega), f.2 10 (by omega), f.2 11 (by omega)]; exact h6
  · unfold nA at *; rw [e.1, f.1 4 (by omega), e.2 21 (by omega), e.2 22 (by omega), e.2 23 (by omega), e.2 24 (by omega), f.2 12 (by omega)]; exact h7
/-! QUESTIONS: what is asked of a number -/
def zIn (x : Int32) (a b : Int) : Prop := a ≤ x.toInt ∧ x.toInt ≤ b
def zS (g : nT) (x : Int32) : Prop := 0 ≤ x.toInt ∧ x.toInt < nSt g
def zR (g : nT) (x : Int32) : Prop := 0 ≤ x.toInt ∧ x.toInt < nRi g
theorem sp_within {post : Int32 → tS → Prop} {x a b : Int32} {u : tS} (h1 : zIn x a.toInt b.toInt → post 1 u) (h0 : ¬ zIn x a.toInt b.toInt → post 0 u) : w_T_within post x a b u := by
  unfold w_T_within; unfold zIn at *
  refine ⟨fun c => h0 (fun k => ?_), fun c => ⟨fun d => h0 (fun k => ?_), fun d => h1 ?_⟩⟩ <;> rw [zi_lt] at * <;> (try rw [zi_lt] at *) <;> omega
theorem sp_isIn {post : Int32 → tS → Prop} {x a b : Int32} {u : tS} (h1 : zIn x a.toInt b.toInt → post 1 u) (h0 : ¬ zIn x a.toInt b.toInt → post 0 u) : w_M_isIn post x a b u := sp_within h1 h0
theorem z_pred {n : Nat} (h : n ≤ 601) : (nI n - 1).toInt = (n : Int) - 1 := by
  rw [zi_sub] <;> rw [zi_n (by omega)] <;> (try rw [show (1 : Int32).toInt = 1 from rfl]) <;> omega
theorem sp_below {post : Int32 → tS → Prop} {x c : Int32} {u : tS} {n : Nat} (hc : c = nI n) (hn : n ≤ 601) (h1 : 0 ≤ x.toInt ∧ x.toInt < n → post 1 u) (h0 : ¬ (0 ≤ x.toInt ∧ x.toInt < n) → post 0 u) : w_T_within post x 0 (c - 1) u := by
  subst hc
  refine sp_within (fun k => h1 ?_) (fun k => h0 (fun q => k ?_)) <;> unfold zIn at * <;> rw [z_pred hn, show (0 : Int32).toInt = 0 from rfl] at * <;> omega
theorem sp_belowM {post : Int32 → tS → Prop} {x c : Int32} {u : tS} {n : Nat} (hc : c = nI n) (hn : n ≤ 601) (h1 : 0 ≤ x.toInt ∧ x.toInt < n → post 1 u) (h0 : ¬ (0 ≤ x.toInt ∧ x.toInt < n) → post 0 u) : w_M_isIn post x 0 (c - 1) u := sp_below hc hn h1 h0
theorem sp_hasStop {post : Int32 → tS → Prop} {x : Int32} {u : tS} {g : nT} (hg : nOk g) (hu : nU u g) (h1 : zS g x → post 1 u) (h0 : ¬ zS g x → post 0 u) : w_Ne_hasStop post x u :=
  sp_below hu.1 (by have := hg.1; omega) (fun k => ⟨rfl, h1 k⟩) (fun k => ⟨rfl, h0 k⟩)
theorem sp_isStop {post : Int32 → tS → Prop} {x : Int32} {u : tS} {g : nT} (hg : nOk g) (hu : nV u g) (h1 : zS g x → post 1 u) (h0 : ¬ zS g x → post 0 u) : w_M_isStop post x u :=
  sp_belowM hu.1 (by have := hg.1; omega) (fun k => ⟨rfl, h1 k⟩) (fun k => ⟨rfl, h0 k⟩)
theorem sp_has {post : Int32 → tS → Prop} {x : Int32} {u : tS} {g : nT} (hg : nOk g) (hu : nU u g) (h1 : zR g x → post 1 u) (h0 : ¬ zR g x → post 0 u) : w_Ri_has post x u :=
  sp_below hu.2.1 (by have := hg.2.1; omega) (fun k => ⟨rfl, h1 k⟩) (fun k => ⟨rfl, h0 k⟩)
theorem sp_isRide {post : Int32 → tS → Prop} {x : Int32} {u : tS} {g : nT} (hg : nOk g) (hu : nV u g) (h1 : zR g x → post 1 u) (h0 : ¬ zR g x → post 0 u) : w_M_isRide post x u :=
  sp_belowM hu.2.1 (by have := hg.2.1; omega) (fun k => ⟨rfl, h1 k⟩) (fun k => ⟨rfl, h0 k⟩)
theorem sp_hasStops {post : Int32 → tS → Prop} {x y : Int32} {u : tS} {g : nT} (hg : nOk g) (hu : nU u g) (h1 : zS g x → zS g y → post 1 u) (h0 : ¬ (zS g x ∧ zS g y) → post 0 u) : w_Ne_hasStops post x y u :=
  sp_hasStop hg hu (fun a => ⟨fun e => absurd e (by decide), fun _ => sp_hasStop hg hu (fun b => ⟨fun e => absurd e (by decide), fun _ => h1 a b⟩) (fun b => ⟨fun _ => h0 (fun k => b k.2), fun e => absurd rfl e⟩)⟩) (fun a => ⟨fun _ => h0 (fun k => a k.1), fun e => absurd rfl e⟩)
theorem sp_isTime {post : Int32 → tS → Prop} {x : Int32} {u : tS} (h1 : zIn x 0 10079 → post 1 u) (h0 : ¬ zIn x 0 10079 → post 0 u) : w_T_isTime post x u := sp_within (fun k => ⟨rfl, h1 k⟩) (fun k => ⟨rfl, h0 k⟩)
theorem sp_isBy {post : Int32 → tS → Prop} {x : Int32} {u : tS} (h1 : zIn x 0 20000 → post 1 u) (h0 : ¬ zIn x 0 20000 → post 0 u) : w_T_isBy post x u := sp_within (fun k => ⟨rfl, h1 k⟩) (fun k => ⟨rfl, h0 k⟩)
/-- a question's answer is asked at once -/
theorem q1 {A B : Prop} (h : B) : ((1 : Int32) = 0 → A) ∧ (¬ (1 : Int32) = 0 → B) := ⟨fun e => absurd e (by decide), fun _ => h⟩
theorem q0 {A B : Prop} (h : A) : ((0 : Int32) = 0 → A) ∧ (¬ (0 : Int32) = 0 → B) := ⟨fun _ => h, fun e => absurd rfl e⟩
theorem sp_isAsked {post : Int32 → tS → Prop} {x y t : Int32} {u : tS} {g : nT} (hg : nOk g) (hu : nV u g) (h1 : zS g x → zS g y → zIn t 0 10079 → post 1 u) (h0 : ¬ (zS g x ∧ zS g y ∧ zIn t 0 10079) → post 0 u) : w_M_isAsked post x y t u := by
  unfold w_M_isAsked
  exact sp_isStop hg hu (fun a => q1 (sp_isStop hg hu (fun b => q1 (sp_isIn (fun c => q1 (h1 a b c)) (fun c => q0 (h0 (fun k => c k.2.2))))) (fun b => q0 (h0 (fun k => b k.2.1))))) (fun a => q0 (h0 (fun k => a k.1)))
/-! clear -/
theorem sp_fill {post : tS → Prop} {u : tS} (h : ∀ f : Nat → Int32, (∀ j : Nat, j < 144 → f j = 1000000) → post (u.1, va_up u.2 12 f)) : w_J_fill post 1000000 u := by
  have key : ∀ (d n i : Nat) (f : Nat → Int32), d + i = 144 → d < n → (∀ j : Nat, j < i → f j = 1000000) → w_J_fill_5 post n 1000000 (nI i) 144 (u.1, va_up u.2 12 f) := by
    intro d
    induction d with
    | zero =>
      intro n i f h1 h2 h3
      obtain ⟨n, rfl⟩ : ∃ k, n = k + 1 := ⟨n - 1, by omega⟩
      have e : i = 144 := by omega
      subst e
      exact ⟨fun _ => h f h3, fun h => absurd (show (144 : Int32) ≤ nI 144 by decide) h⟩
    | succ d ih =>
      intro n i f h1 h2 h3
      obtain ⟨n, rfl⟩ : ∃ k, n = k + 1 := ⟨n - 1, by omega⟩
      refine ⟨fun h => absurd h (show ¬ nI 144 ≤ nI i from nI_ge (by omega) (by omega)), fun _ => ⟨vp_in_nI (by omega) (by omega), ?_⟩⟩
      rw [nI_1]
      have e : tA (u.1, va_up u.2 12 f) 12 (nI i) 1000000 = (u.1, va_up u.2 12 (upd f i 1000000)) := by
        unfold tA; rw [nI_clamp (by omega)]
        show (u.1, va_up (va_up u.2 12 f) 12 (upd (va_up u.2 12 f 12) i 1000000)) = _
        rw [show va_up u.2 12 f 12 = f by unfold va_up; rw [if_pos rfl], bx_uu]
      rw [e]
      refine ih n (i + 1) _ (by omega) (by omega) (fun j hj => ?_)
      by_cases e : j = i
      · subst e; exact pk_us
      · rw [pk_un e]; exact h3 j (by omega)
  have e : u = (u.1, va_up u.2 12 (u.2 12)) := by
    obtain ⟨a, b⟩ := u
    show (a, b) = (a, va_up b 12 (b 12))
    congr 1
    funext j; unfold va_up; split
    · rename_i e; rw [e]
    · rfl
  refine ⟨145, ?_⟩
  rw [e]
  exact key 144 145 0 (u.2 12) rfl (by omega) (fun j hj => absurd hj (by omega))
