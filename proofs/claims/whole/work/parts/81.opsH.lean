/-! fewest -/
section WT
variable {N : Int} {Wk : Nat → Nat → Int → Prop} {D : Nat → Nat → Int} {f x : Nat} {t τ : Int} {X Y : Nat → Int}
theorem wk_take (hN : 1 ≤ N) (hd : ∀ y x d, Wk y x d → 1 ≤ d) (hD : mD N Wk D) (h1 : ∀ z, X z ≤ N ∧ Y z ≤ N) (h2 : Y f ≤ t) (h3 : ∀ y z d, Wk y z d → Y z ≤ X y + d ∧ Y z ≤ Y y + d) (hlt : τ < X x) :
    (∀ z, (if z = x then τ else X z) ≤ N ∧ (if τ + D x z < Y z then τ + D x z else Y z) ≤ N) ∧ (if τ + D x f < Y f then τ + D x f else Y f) ≤ t ∧ (∀ y z d, Wk y z d → (if τ + D x z < Y z then τ + D x z else Y z) ≤ (if y = x then τ else X y) + d ∧ (if τ + D x z < Y z then τ + D x z else Y z) ≤ (if τ + D x y < Y y then τ + D x y else Y y) + d) := by
  refine ⟨fun z => ⟨?_, ?_⟩, ?_, fun y z d hw => ⟨?_, ?_⟩⟩
  · have := (h1 z).1; have := (h1 x).1; split <;> omega
  · have := (h1 z).2; split <;> omega
  · split <;> omega
  · have a := (h3 y z d hw).1; have b := (hD.2.1 x).1 z d
    by_cases e : y = x
    · subst e; have := b hw; rw [if_pos rfl]; split <;> omega
    · rw [if_neg e]; split <;> omega
  · have a := (h3 y z d hw).2; have b := (hD.2.1 x).2 y z d hw
    split <;> split <;> omega
theorem wk_ub (hd : ∀ y x d, Wk y x d → 1 ≤ d) (hD : mD N Wk D) (hτ : 0 ≤ τ) {R' V' : Nat → Int} (hb : ∀ z, R' z ≤ N ∧ V' z ≤ N) (hw : ∀ y z d, Wk y z d → V' z ≤ R' y + d ∧ V' z ≤ V' y + d) (hle : ∀ z, R' z ≤ X z ∧ V' z ≤ Y z) (hx : R' x ≤ τ) (z : Nat) : R' z ≤ (if z = x then τ else X z) ∧ V' z ≤ (if τ + D x z < Y z then τ + D x z else Y z) := by
  refine ⟨?_, ?_⟩
  · split
    · rename_i e; rw [e]; exact hx
    · exact (hle z).1
  · have k2 := (hle z).2
    have : V' z ≤ τ + D x z := mD_via hd hD V' τ x (fun y d hq => by have := (hw x y d hq).1; omega) (fun a b d hq => (hw a b d hq).2) z (by have := (hb z).2; omega)
    split <;> omega
end WT
theorem sp_mayTake2 {post : Int32 → tS → Prop} {u : tS} {y c : Nat} {l : Int32} {Ry Vy : Int} (hy : y < 12) (hR : (u.2 15 y).toInt = Ry) (hV : (u.2 16 y).toInt = Vy) (hc : u.2 0 y = nI c) (hc' : c ≤ 60) (hb : 0 ≤ Ry ∧ Ry ≤ 1000000) (h1 : Vy ≤ l.toInt ∨ Ry + c ≤ l.toInt → post 1 u) (h0 : ¬ (Vy ≤ l.toInt ∨ Ry + c ≤ l.toInt) → post 0 u) : w_Ar_mayTake2 post (nI y) l u := by
  have iv : vp_in (nI y) 12 := vp_in_nI hy (by omega)
  unfold w_Ar_mayTake2
  rw [nI_clamp (by omega)]
  have es : (u.2 15 y + u.2 0 y).toInt = Ry + c := by rw [zi_add] <;> rw [hR, hc, zi_n (by omega)] <;> omega
  refine ⟨iv, fun q => h1 ?_, fun q => ⟨iv, iv, fun z => h0 ?_, fun z => h1 ?_⟩⟩
  · rw [zi_le, hV] at q; exact Or.inl q
  · rw [zi_le, hV] at q; rw [zi_lt, es] at z; omega
  · rw [zi_lt, es] at z; right; omega
theorem iA_cap {W : Nat → Int32} (hW : okR W) (x : Nat) : iA W x ≤ 1000000 := by unfold iA; split; rename_i q; exact (hW x q).2; exact Int.le_refl _
set_option maxHeartbeats 1000000 in
/-- one departure more, from what stood before (in the rows 15 and 16) -/
theorem sp_addOne2 {post : tS → Prop} {u : tS} {g : nT} {nb : Nat} {dp : Nat → Nat} (hg : nOk g) (hu : nU u g) (hb : nB u g nb dp) (hd : mD 1000000 (gW g) (gS u)) {f t : Nat} {R V : Nat → Int32} (hR : okR R) (hV : okR V) (e15 : ∀ x, x < 12 → u.2 15 x = R x) (e16 : ∀ x, x < 12 → u.2 16 x = V x)
    (c1 : iA V f ≤ t) (c2 : ∀ y x d, gW g y x d → iA V x ≤ iA R y + d ∧ iA V x ≤ iA V y + d) (hUB : ∀ R' V', (∀ x, R' x ≤ 1000000 ∧ V' x ≤ 1000000) → mP (gW g) f t (mK (gD g) (gC g) (iA R) (iA V)) R' V' → ∀ x, R' x ≤ iA R x ∧ V' x ≤ iA V x)
    (h : ∀ R1 V1 : Nat → Int32, okR R1 → okR V1 → mH 1000000 (gW g) f t (mK (gD g) (gC g) (iA R) (iA V)) (iA R1) (iA V1) → post (s2 u R1 V1)) : w_Ar_addOneDeparture2 post (s2 u R V) := by
  have g1 := hg.1; have g2 := hg.2.1; have hn2 := hb.2.1
  have w1 : ∀ y x d, gW g y x d → 1 ≤ d := fun _ _ _ hw => (gW_b hg hw).1
  have far : ∀ x o, ¬ o < 12 → gS u x o = 1000000 := fun x o q => by unfold gS; rw [if_neg (by omega)]
  refine pk_loop (σ := (Nat → Int32) × (Nat → Int32)) (fun n p q => w_Ar_addOneDeparture2_2 post n (nI p) (s2 u q.1 q.2))
    (fun p q => okR q.1 ∧ okR q.2 ∧ iA q.2 f ≤ t ∧ (∀ y x d, gW g y x d → iA q.2 x ≤ iA q.1 y + d ∧ iA q.2 x ≤ iA q.2 y + d) ∧ (∀ i, i < p → (iA V (bY g dp i) ≤ bL g dp i ∨ iA R (bY g dp i) + gC g (bY g dp i) ≤ bL g dp i) → iA q.1 (bX g dp i) ≤ bV g dp i) ∧ (∀ R' V', (∀ x, R' x ≤ 1000000 ∧ V' x ≤ 1000000) → mP (gW g) f t (mK (gD g) (gC g) (iA R) (iA V)) R' V' → ∀ x, R' x ≤ iA q.1 x ∧ V' x ≤ iA q.2 x)) nb 0 (R, V) (by omega)
    ⟨hR, hV, c1, c2, fun i hi => absurd hi (by omega), hUB⟩
    (fun n q hI => ⟨fun _ => ?_, fun c => absurd (show (s2 u q.1 q.2).1 2 ≤ nI nb by rw [s2_1, hb.1]; exact nI_le (Nat.le_refl _) (by omega)) c⟩)
    (fun n p q hp hI hw => ⟨fun c => absurd c (by rw [s2_1, hb.1]; exact nI_ge hp (by omega)), fun _ => ?_⟩)
  · obtain ⟨i1, i2, i3, i4, i5, i6⟩ := hI
    refine h q.1 q.2 i1 i2 ⟨fun x => ⟨iA_cap i1 x, iA_cap i2 x⟩, ⟨i3, i4, ?_⟩, i6⟩
    rintro x w ⟨y, l, hq, hc⟩
    rw [← nB_Q hb] at hq
    obtain ⟨i, hi, rfl, rfl, rfl, rfl⟩ := hq
    exact i5 i hi hc
  · obtain ⟨X, Y⟩ := q
    obtain ⟨i1, i2, i3, i4, i5, i6⟩ := hI
    have i1 : okR X := i1
    have i2 : okR Y := i2
    obtain ⟨p1, p2, p3, p4, p5, p6, p7, p8, p9, p10, p11, p12, p13, p14, p15, p16⟩ := nB_p hg hu hb hp
    have iv1 : vp_in (nI (dp p / 7)) 40 := vp_in_nI p3 (by omega)
    have cl1 : (nI (dp p / 7)).toNatClampNeg = dp p / 7 := nI_clamp (by omega)
    refine sp_rideAt p1 p2 (by rw [s2_ne _ _ _ (by omega) (by omega)]; exact p6) ⟨vp_in_nI p1 (by omega), iv1, ?_⟩
    rw [cl1, nI_clamp (by omega), s2_ne _ _ _ (by omega) (by omega), s2_ne _ _ _ (by omega) (by omega), p8, nI_1]
    have yi : bY g dp p < 12 := by omega
    have xi : bX g dp p < 12 := by omega
    have skip : ((iA V (bY g dp p) ≤ bL g dp p ∨ iA R (bY g dp p) + gC g (bY g dp p) ≤ bL g dp p) → iA X (bX g dp p) ≤ bV g dp p) → w_Ar_addOneDeparture2_2 post n (nI (p + 1)) (s2 u X Y) := fun hs => hw (X, Y) ⟨i1, i2, i3, i4, fun i hi hc => by
      by_cases e : i = p
      · subst e; exact hs hc
      · exact i5 i (by omega) hc, i6⟩
    refine sp_mayTake2 (Ry := iA R (bY g dp p)) (Vy := iA V (bY g dp p)) (c := nCh g (bY g dp p)) yi (by rw [iA_in yi, s2_ne _ _ _ (by omega) (by omega), e15 _ yi]) (by rw [iA_in yi, s2_ne _ _ _ (by omega) (by omega), e16 _ yi]) (by rw [s2_ne _ _ _ (by omega) (by omega)]; exact hu.2.2.2.1 _ p4) (hg.2.2.2.1 _ p4) (by rw [iA_in yi]; exact hR _ yi) (fun m => q1 ⟨iv1, iv1, ?_⟩) (fun m => q0 (skip (fun z => absurd (by rw [p7]; exact z) m)))
    rw [s2_ne _ _ _ (by omega) (by omega), s2_ne _ _ _ (by omega) (by omega), p9, p10]
    rw [p7] at m
    have ea : (u.2 8 p + nI (nRk g (dp p / 7))).toInt = bV g dp p := by
      rw [zi_add] <;> rw [p7, zi_n (by omega)] <;> omega
    refine sp_arrive hg hu hd xi (by rw [ea]; omega) i2 (fun c => skip (fun _ => ?_)) (fun c Y' hY' => hw (_, Y') ?_)
    · rw [ea] at c; (try dsimp only at c); rw [iA_in xi]; omega
    · rw [ea] at c hY'
      have hY' : ∀ o, o < 12 → (Y' o).toInt = if bV g dp p + gS u (bX g dp p) o < (Y o).toInt then bV g dp p + gS u (bX g dp p) o else (Y o).toInt := hY'
      have eX := iA_upd (V := X) (z := u.2 8 p + nI (nRk g (dp p / 7))) xi
      rw [ea] at eX
      have eY : iA Y' = fun o => if bV g dp p + gS u (bX g dp p) o < iA Y o then bV g dp p + gS u (bX g dp p) o else iA Y o := by
        funext o
        by_cases q : o < 12
        · rw [iA_in q, iA_in q, hY' o q]
        · unfold iA; rw [if_neg q, if_neg q, if_neg (by rw [far _ o q]; omega)]
      have lt : bV g dp p < iA X (bX g dp p) := by rw [iA_in xi]; exact c
      have tk := wk_take (f := f) (t := (t : Int)) (x := bX g dp p) (τ := bV g dp p) (by decide) w1 hd (fun z => ⟨iA_cap i1 z, iA_cap i2 z⟩) i3 i4 lt
      show okR (upd X (bX g dp p) (u.2 8 p + nI (nRk g (dp p / 7)))) ∧ okR Y' ∧ iA Y' f ≤ t ∧ (∀ y x d, gW g y x d → iA Y' x ≤ iA (upd X (bX g dp p) (u.2 8 p + nI (nRk g (dp p / 7)))) y + d ∧ iA Y' x ≤ iA Y' y + d) ∧ (∀ i, i < p + 1 → (iA V (bY g dp i) ≤ bL g dp i ∨ iA R (bY g dp i) + gC g (bY g dp i) ≤ bL g dp i) → iA (upd X (bX g dp p) (u.2 8 p + nI (nRk g (dp p / 7)))) (bX g dp i) ≤ bV g dp i) ∧ (∀ R' V', (∀ x, R' x ≤ 1000000 ∧ V' x ≤ 1000000) → mP (gW g) f t (mK (gD g) (gC g) (iA R) (iA V)) R' V' → ∀ x, R' x ≤ iA (upd X (bX g dp p) (u.2 8 p + nI (nRk g (dp p / 7)))) x ∧ V' x ≤ iA Y' x)
      refine ⟨fun x hx => ?_, fun x hx => ?_, ?_, ?_, fun i hi hc => ?_, fun R' V' hb' hP x => ?_⟩
      · by_cases e : x = bX g dp p
        · subst e; rw [pk_us, ea]; omega
        · rw [pk_un e]; exact i1 x hx
      · have := gS_b hg hd (bX g dp p) x; have := i2 x hx
        rw [hY' x hx]; split <;> omega
      · rw [eY]; exact tk.2.1
      · rw [eX, eY]; exact tk.2.2
      · rw [eX]; (try dsimp only); split
        · rename_i e
          by_cases ei : i = p
          · subst ei; exact Int.le_refl _
          · have := i5 i (by omega) hc
            have this : iA X (bX g dp i) ≤ bV g dp i := this
            rw [e] at this; omega
        · rename_i e
          by_cases ei : i = p
          · subst ei; exact absurd rfl e
          · exact i5 i (by omega) hc
      · rw [eX, eY]
        refine wk_ub w1 hd (by omega) hb' hP.2.1 (i6 R' V' hb' hP) (hP.2.2 _ _ ⟨bY g dp p, bL g dp p, ?_, m⟩) x
        have := hb.2.2.1 p hp
        exact ⟨dp p, this.1, this.2.1, rfl, rfl, rfl, rfl⟩
/-! the levels of the class -/
theorem gD_b {g : nT} (hg : nOk g) : ∀ y x l v, gD g y x l v → l < v ∧ v < 1000000 ∧ x < 12 := by
  rintro y x l v ⟨k, hk, hl, rfl, rfl, rfl, rfl⟩
  have g5 := hg.2.2.2.2.1 (k / 7) (by omega); have b := nLv_b hg hk hl; have := hg.1
  omega
theorem mL_stop {g : nT} {f t : Nat} (hg : nOk g) {n : Nat} {R0 V0 R V : Nat → Int} (h0 : mL 1000000 (gW g) (gD g) (gC g) f t n R0 V0) (h : mH 1000000 (gW g) f t (mK (gD g) (gC g) R0 V0) R V) {z : Nat} (hlt : mn (R z) (V z) < mn (R0 z) (V0 z)) : n + 1 ≤ 12 := by
  have w1 : ∀ y x d, gW g y x d → 1 ≤ d := fun _ _ _ hw => (gW_b hg hw).1
  have st := mL_step n h0 h
  have b0 := mL_b n h0
  have ex : ∃ x, R x < R0 x := by
    by_cases q : R z < R0 z
    · exact ⟨z, q⟩
    · have s1 := st z
      have hv : V z < V0 z := by unfold mn at hlt; split at hlt <;> split at hlt <;> omega
      obtain ⟨x, hx, -⟩ := mH_walk w1 b0.1 b0.2.1 b0.2.2 h st hv
      exact ⟨x, hx⟩
  obtain ⟨x, hx⟩ := ex
  have k := mL_count w1 (gD_b hg) (fun x => by unfold gC; omega) n h0 h x hx
  have hx12 : x < 12 := by
    have := (b0.1 x).1
    obtain ⟨y, l, hq, -⟩ := mH_ride h (show R x < 1000000 by omega)
    exact (gD_b hg _ _ _ _ hq).2.2
  have := mN_lt R (fun _ => 0) (R x) 1 12 x (fun j _ _ => by decide) hx12 (by omega) (by decide)
  have := mN_le (fun _ => (0 : Int)) 1 12
  omega
