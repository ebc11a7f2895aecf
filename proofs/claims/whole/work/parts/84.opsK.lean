/-! THE BOARD -/
def b2 (lv : Nat → Int) (a k : Nat) : Prop := lv a < lv k ∨ (lv a = lv k ∧ a < k)
def nS (u : tS) (lv : Nat → Int) (S : Nat → Prop) (nb : Nat) (dp : Nat → Nat) : Prop := u.1 2 = nI nb ∧ nb ≤ 280 ∧ (∀ p, p < nb → S (dp p) ∧ dp p < 280 ∧ u.2 7 p = nI (dp p) ∧ (u.2 8 p).toInt = lv (dp p)) ∧ (∀ p q, p < q → q < nb → b2 lv (dp p) (dp q)) ∧ ∀ k, S k → ∃ p, p < nb ∧ dp p = k
def b8 (u : tS) (c : Nat) (D L : Nat → Int32) : tS := (upd u.1 2 (nI c), va_up (va_up u.2 7 D) 8 L)
theorem b8_1 (u : tS) (c : Nat) (D L : Nat → Int32) : (b8 u c D L).1 2 = nI c := by
  show upd u.1 2 (nI c) 2 = nI c
  exact pk_us
theorem b8_1n (u : tS) (c : Nat) (D L : Nat → Int32) {k : Nat} (h : k ≠ 2) : (b8 u c D L).1 k = u.1 k := by
  show upd u.1 2 (nI c) k = u.1 k
  exact pk_un h
theorem b8_7 (u : tS) (c : Nat) (D L : Nat → Int32) : (b8 u c D L).2 7 = D := rfl
theorem b8_8 (u : tS) (c : Nat) (D L : Nat → Int32) : (b8 u c D L).2 8 = L := rfl
theorem b8_ne (u : tS) (c : Nat) (D L : Nat → Int32) {j : Nat} (h1 : j ≠ 7) (h2 : j ≠ 8) : (b8 u c D L).2 j = u.2 j := by
  show va_up (va_up u.2 7 D) 8 L j = _
  rw [st_ne _ _ h2, st_ne _ _ h1]
theorem b8_I (u : tS) (c c' : Nat) (D L : Nat → Int32) : tI (b8 u c D L) 2 (nI c') = b8 u c' D L := by
  unfold b8 tI
  congr 1
  funext k
  show upd (upd u.1 2 (nI c)) 2 (nI c') k = upd u.1 2 (nI c') k
  by_cases e : k = 2
  · subst e; rw [pk_us, pk_us]
  · rw [pk_un e, pk_un e, pk_un e]
theorem b8_A7 (u : tS) (c : Nat) (D L : Nat → Int32) (i x : Int32) : tA (b8 u c D L) 7 i x = b8 u c (upd D i.toNatClampNeg x) L := by
  unfold tA b8
  congr 1
  funext k
  show va_up (va_up (va_up u.2 7 D) 8 L) 7 (upd D i.toNatClampNeg x) k = _
  unfold va_up
  by_cases a : k = 7
  · rw [if_pos a, if_neg (by omega), if_pos a]
  · rw [if_neg a, if_neg a, if_neg a]
theorem b8_A8 (u : tS) (c : Nat) (D L : Nat → Int32) (i x : Int32) : tA (b8 u c D L) 8 i x = b8 u c D (upd L i.toNatClampNeg x) := by
  unfold tA b8
  congr 1
  show va_up (va_up (va_up u.2 7 D) 8 L) 8 (upd L i.toNatClampNeg x) = _
  rw [bx_uu]
theorem b8_eta {u : tS} {c : Nat} (h : u.1 2 = nI c) : b8 u c (u.2 7) (u.2 8) = u := by
  obtain ⟨a, b⟩ := u
  have h : a 2 = nI c := h
  show (upd a 2 (nI c), va_up (va_up b 7 (b 7)) 8 (b 8)) = (a, b)
  congr 1
  · funext k; by_cases e : k = 2
    · subst e; rw [pk_us, h]
    · exact pk_un e
  · funext k; unfold va_up; split
    · rename_i e; rw [e]
    · split
      · rename_i e; rw [e]
      · rfl
/-- but the board nothing is another -/
def eB (u u' : tS) : Prop := (∀ k, k ≠ 2 → u'.1 k = u.1 k) ∧ ∀ j, j ≠ 7 → j ≠ 8 → u'.2 j = u.2 j
theorem eB_rf (u : tS) : eB u u := ⟨fun _ _ => rfl, fun _ _ _ => rfl⟩
theorem eB_tr {u v w : tS} (h : eB u v) (h' : eB v w) : eB u w := ⟨fun k hk => (h'.1 k hk).trans (h.1 k hk), fun j a b => (h'.2 j a b).trans (h.2 j a b)⟩
theorem b8_e (u : tS) (c : Nat) (D L : Nat → Int32) : eB u (b8 u c D L) := ⟨fun _ h => b8_1n u c D L h, fun _ a b => b8_ne u c D L a b⟩
theorem sp_isBehind {post : Int32 → tS → Prop} {u : tS} {i k a : Nat} {τ : Int32} (hi : i < 280) (hk : k < 280) (ha : a < 280) (hD : u.2 7 i = nI a) {la : Int} (hL : (u.2 8 i).toInt = la) (h1 : τ.toInt < la ∨ (la = τ.toInt ∧ k < a) → post 1 u) (h0 : ¬ (τ.toInt < la ∨ (la = τ.toInt ∧ k < a)) → post 0 u) : w_Bo_isBehind post (nI i) τ (nI k) u := by
  have iv : vp_in (nI i) 280 := vp_in_nI hi (by omega)
  unfold w_Bo_isBehind
  rw [nI_clamp (by omega), hD]
  refine ⟨iv, fun c => h1 (Or.inl ?_), fun c => ⟨iv, fun d => ⟨iv, fun e => h0 ?_, fun e => h1 ?_⟩, fun d => h0 ?_⟩⟩
  · rw [zi_lt, hL] at c; exact c
  · rw [zi_lt, hL] at c; rw [zi_eq, hL] at d; rw [zi_le, zi_n (by omega), zi_n (by omega)] at e; omega
  · rw [zi_eq, hL] at d; rw [zi_le, zi_n (by omega), zi_n (by omega)] at e; right; omega
  · rw [zi_lt, hL] at c; rw [zi_eq, hL] at d; omega
set_option maxHeartbeats 2000000 in
theorem sp_putIn {post : tS → Prop} {u : tS} {lv : Nat → Int} {S : Nat → Prop} {nb : Nat} {dp : Nat → Nat} (hb : nS u lv S nb dp) {k m : Nat} {l : Int} (hk : k < 280) (hS : ¬ S k) (hm : m ≤ 1439) (hu3 : u.2 3 (k / 7) = nI m) (hu6 : (u.2 6 k).toInt = l) (hl : -1 ≤ l ∧ l ≤ 300) (hlv : l ≠ -1 → lv k = 1440 * ((k % 7 : Nat) : Int) + m + l)
    (h0 : l = -1 → post u) (h1 : l ≠ -1 → ∀ (u' : tS) (dp' : Nat → Nat), eB u u' → nS u' lv (fun x => S x ∨ x = k) (nb + 1) dp' → post u') : w_Bo_putIn post (nI k) u := by
  obtain ⟨s1, s2', s3, s4, s5⟩ := hb
  have inj : ∀ p p', p < nb → p' < nb → dp p = dp p' → p = p' := fun p p' hp hp' e => by
    rcases Nat.lt_trichotomy p p' with y | y | y
    · have := s4 p p' y hp'; unfold b2 at this; rw [e] at this; omega
    · exact y
    · have := s4 p' p y hp; unfold b2 at this; rw [e] at this; omega
  -- there is room
  have room : nb < 280 := by
    have c := kB_board (dp := dp) (nb := nb) (M := 280) (G := fun x => decide (∃ p, p < nb ∧ dp p = x)) (q := fun _ => true) (fun p hp => ⟨(s3 p hp).2.1, by simp; exact ⟨p, hp, rfl⟩⟩) inj (fun x hx hG => by simpa using hG)
    rw [kB_all] at c
    have a := kB_add (p := fun x => decide (∃ p, p < nb ∧ dp p = x) && true) (q := fun x => decide (x = k)) (r := fun x => decide (∃ p, p < nb ∧ dp p = x) || decide (x = k)) (n := 280) (fun i _ => by
      simp only [Bool.and_true, Bool.or_eq_true, decide_eq_true_eq]
      refine ⟨by simp, ?_⟩
      rintro ⟨⟨p, hp, e⟩, rfl⟩
      exact hS (by rw [← e]; exact (s3 p hp).1))
    have b := kB_1 (p := fun x => decide (x = k)) hk (by simp) (fun j _ hj => by simpa using hj)
    have d := kB_le (fun x => decide (∃ p, p < nb ∧ dp p = x) || decide (x = k)) 280
    omega
  refine sp_goes hk hu6 (fun hne => q1 ⟨fun _ => sp_leaves hk hm hu3 hu6 hl (fun r hr => ?_), fun c => absurd (by rw [s1]; exact (show nI nb < nI 280 from nI_lt room (by omega))) c⟩) (fun e => q0 (h0 e))
  have elv : r.toInt = lv k := by rw [hr, hlv hne]
  rw [s1]
  -- what is put in at last
  have fin : ∀ (j : Nat) (D L : Nat → Int32), j ≤ nb → (∀ i, i < j → D i = u.2 7 i ∧ L i = u.2 8 i) → (∀ i, j < i → i ≤ nb → D i = u.2 7 (i - 1) ∧ L i = u.2 8 (i - 1)) → (∀ i, j ≤ i → i < nb → b2 lv k (dp i)) → (∀ i, i < j → b2 lv (dp i) k) → w_Bo_putIn_87 post (nI k) r (nI j) (b8 u nb D L) := by
    intro j D L hj e1 e2 e3 e4
    unfold w_Bo_putIn_87
    have iv : vp_in (nI j) 280 := vp_in_nI (by omega) (by omega)
    rw [b8_A7, b8_A8, b8_1, nI_1, b8_I, nI_clamp (by omega)]
    refine ⟨iv, iv, h1 hne _ (fun i => if i < j then dp i else if i = j then k else dp (i - 1)) (b8_e u (nb + 1) _ _) ⟨b8_1 _ _ _ _, by omega, fun p hp => ?_, fun p q hpq hq => ?_, fun x hx => ?_⟩⟩
    · rw [b8_7, b8_8]
      (try dsimp only)
      rcases Nat.lt_trichotomy p j with y | y | y
      · rw [if_pos y, pk_un (by omega), pk_un (by omega), (e1 p y).1, (e1 p y).2]
        have := s3 p (by omega); exact ⟨Or.inl this.1, this.2⟩
      · subst y; rw [if_neg (by omega), if_pos rfl, pk_us, pk_us]
        exact ⟨Or.inr rfl, hk, rfl, elv⟩
      · rw [if_neg (by omega), if_neg (by omega), pk_un (by omega), pk_un (by omega), (e2 p y (by omega)).1, (e2 p y (by omega)).2]
        have := s3 (p - 1) (by omega); exact ⟨Or.inl this.1, this.2⟩
    · (try dsimp only)
      rcases Nat.lt_trichotomy p j with y | y | y
      · rw [if_pos y]
        rcases Nat.lt_trichotomy q j with z | z | z
        · rw [if_pos z]; exact s4 p q hpq (by omega)
        · subst z; rw [if_neg (by omega), if_pos rfl]; exact e4 p y
        · rw [if_neg (by omega), if_neg (by omega)]; exact s4 p (q - 1) (by omega) (by omega)
      · subst y; rw [if_neg (by omega), if_pos rfl, if_neg (by omega), if_neg (by omega)]; exact e3 (q - 1) (by omega) (by omega)
      · rw [if_neg (by omega), if_neg (by omega), if_neg (by omega), if_neg (by omega)]; exact s4 (p - 1) (q - 1) (by omega) (by omega)
    · rcases hx with hx | hx
      · obtain ⟨p, hp, e⟩ := s5 x hx
        rcases Nat.lt_or_ge p j with y | y
        · exact ⟨p, by omega, by (try dsimp only); rw [if_pos y]; exact e⟩
        · exact ⟨p + 1, by omega, by (try dsimp only); rw [if_neg (by omega), if_neg (by omega), Nat.add_sub_cancel]; exact e⟩
      · exact ⟨j, by omega, by (try dsimp only); rw [if_neg (by omega), if_pos rfl]; exact hx.symm⟩
  have key := pk_loopD (σ := (Nat → Int32) × (Nat → Int32)) (fun n j p => w_Bo_putIn_31 post n (nI k) r (nI j) (b8 u nb p.1 p.2))
    (fun j p => j ≤ nb ∧ (∀ i, i < j → p.1 i = u.2 7 i ∧ p.2 i = u.2 8 i) ∧ (∀ i, j < i → i ≤ nb → p.1 i = u.2 7 (i - 1) ∧ p.2 i = u.2 8 (i - 1)) ∧ (∀ i, j ≤ i → i < nb → b2 lv k (dp i)))
    (fun n p hI => ⟨fun _ => fin 0 p.1 p.2 (by omega) hI.2.1 hI.2.2.1 hI.2.2.2 (fun i hi => absurd hi (by omega)), fun c => absurd (show nI 0 ≤ 0 by decide) c⟩)
    (fun n j p hI hw => ?_) nb (u.2 7, u.2 8) ⟨Nat.le_refl _, fun i _ => ⟨rfl, rfl⟩, fun i a b => absurd a (by omega), fun i a b => absurd a (by omega)⟩
  · refine ⟨nb + 1, ?_⟩
    have := key; (try dsimp only at this)
    rw [b8_eta s1] at this; exact this
  · obtain ⟨D, L⟩ := p
    obtain ⟨i1, i2, i3, i4⟩ := hI
    have i2 : ∀ i, i < j + 1 → D i = u.2 7 i ∧ L i = u.2 8 i := i2
    have i3 : ∀ i, j + 1 < i → i ≤ nb → D i = u.2 7 (i - 1) ∧ L i = u.2 8 (i - 1) := i3
    have hj : j < nb := by omega
    obtain ⟨t1, t2, t3, t4⟩ := s3 j hj
    have ej : nI (j + 1) - 1 = nI j := nI_pred j
    have e7 : (b8 u nb D L).2 7 j = nI (dp j) := by rw [b8_7, (i2 j (by omega)).1]; exact t3
    have e8 : ((b8 u nb D L).2 8 j).toInt = lv (dp j) := by rw [b8_8, (i2 j (by omega)).2]; exact t4
    show w_Bo_putIn_31 post (n + 1) (nI k) r (nI (j + 1)) (b8 u nb D L)
    refine ⟨fun c => absurd c (nI_nle (by omega) (by omega)), fun _ => ?_⟩
    rw [ej]
    refine sp_isBehind (by omega) hk t2 e7 e8 (fun m => q1 ?_) (fun m => q0 ?_)
    · rw [elv] at m
      have ivj : vp_in (nI j) 280 := vp_in_nI (by omega) (by omega)
      have ivj1 : vp_in (nI (j + 1)) 280 := vp_in_nI (by omega) (by omega)
      refine ⟨ivj, ivj1, ivj, ivj1, ?_⟩
      have em : nI (j + 1) + (-1) = nI j := by rw [z_m1]; exact ej
      rw [em, b8_A7, b8_A8, b8_7, b8_8, nI_clamp (by omega), nI_clamp (by omega)]
      refine hw (upd D (j + 1) (D j), upd L (j + 1) (L j)) ⟨by omega, fun i hi => ?_, fun i a b => ?_, fun i a b => ?_⟩
      · show upd D (j + 1) (D j) i = _ ∧ upd L (j + 1) (L j) i = _
        rw [pk_un (by omega), pk_un (by omega)]; exact i2 i (by omega)
      · show upd D (j + 1) (D j) i = _ ∧ upd L (j + 1) (L j) i = _
        by_cases e : i = j + 1
        · subst e; rw [pk_us, pk_us, Nat.add_sub_cancel]; exact i2 j (by omega)
        · rw [pk_un e, pk_un e]; exact i3 i (by omega) b
      · by_cases e : i = j
        · subst e; unfold b2; omega
        · exact i4 i (by omega) b
    · rw [elv] at m
      refine fin (j + 1) D L (by omega) i2 i3 i4 (fun i hi => ?_)
      have kj : b2 lv (dp j) k := by
        have : dp j ≠ k := fun e => hS (by rw [← e]; exact t1)
        unfold b2; omega
      by_cases e : i = j
      · subst e; exact kj
      · have := s4 i j (by omega) hj
        unfold b2 at *; omega
