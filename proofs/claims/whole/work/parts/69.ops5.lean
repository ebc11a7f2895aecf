/-! ARRIVALS OF THE CLASS -/
def s2 (u : tS) (R V : Nat → Int32) : tS := (u.1, va_up (va_up u.2 13 R) 14 V)
theorem s2_eta (u : tS) : s2 u (u.2 13) (u.2 14) = u := by
  obtain ⟨a, b⟩ := u
  show (a, va_up (va_up b 13 (b 13)) 14 (b 14)) = (a, b)
  congr 1
  funext k; unfold va_up; split
  · rename_i e; rw [e]
  · split
    · rename_i e; rw [e]
    · rfl
theorem s2_1 (u : tS) (R V : Nat → Int32) : (s2 u R V).1 = u.1 := rfl
theorem s2_13 (u : tS) (R V : Nat → Int32) : (s2 u R V).2 13 = R := rfl
theorem s2_14 (u : tS) (R V : Nat → Int32) : (s2 u R V).2 14 = V := rfl
theorem s2_ne (u : tS) (R V : Nat → Int32) {j : Nat} (h1 : j ≠ 13) (h2 : j ≠ 14) : (s2 u R V).2 j = u.2 j := by
  show va_up (va_up u.2 13 R) 14 V j = _
  rw [st_ne _ _ h2, st_ne _ _ h1]
theorem s2_A13 (u : tS) (R V : Nat → Int32) (i x : Int32) : tA (s2 u R V) 13 i x = s2 u (upd R i.toNatClampNeg x) V := by
  unfold tA s2
  congr 1
  funext k
  show va_up (va_up (va_up u.2 13 R) 14 V) 13 (upd R i.toNatClampNeg x) k = _
  unfold va_up
  by_cases a : k = 13
  · rw [if_pos a, if_neg (by omega), if_pos a]
  · rw [if_neg a, if_neg a, if_neg a]
theorem s2_A14 (u : tS) (R V : Nat → Int32) (i x : Int32) : tA (s2 u R V) 14 i x = s2 u R (upd V i.toNatClampNeg x) := by
  unfold tA s2
  congr 1
  show va_up (va_up (va_up u.2 13 R) 14 V) 14 (upd V i.toNatClampNeg x) = _
  rw [bx_uu]
theorem s2_e (u : tS) (R V : Nat → Int32) : eU u (s2 u R V) := ⟨rfl, fun j hj => s2_ne u R V (by omega) (by omega)⟩
theorem s2_S (u : tS) (R V : Nat → Int32) : gS (s2 u R V) = gS u := gS_e (s2_e u R V)
/-- a row of times as integers, never beyond the stops -/
def iA (R : Nat → Int32) (x : Nat) : Int := if x < 12 then (R x).toInt else 1000000
theorem iA_in {R : Nat → Int32} {x : Nat} (h : x < 12) : iA R x = (R x).toInt := by unfold iA; rw [if_pos h]
theorem z_M : (1000000 : Int32).toInt = 1000000 := rfl
theorem sp_begin {post : tS → Prop} {u : tS} {f t : Nat} (hf : f < 12) (ht : t ≤ 20000) (hD : ∀ x y, 0 ≤ gS u x y ∧ gS u x y ≤ 1000000)
    (h : ∀ R V : Nat → Int32, (∀ x, x < 12 → (R x).toInt = 1000000 ∧ (V x).toInt = if (t : Int) + mA (gS u) f x < 1000000 then (t : Int) + mA (gS u) f x else 1000000) → post (s2 u R V)) : w_Ar_begin post (nI f) (nI t) u := by
  have hA : ∀ x y, 0 ≤ mA (gS u) x y ∧ mA (gS u) x y ≤ 1000000 := fun x y => by unfold mA; split; omega; exact hD _ _
  suffices hh : ∃ n, w_Ar_begin_3 post n (nI f) (nI t) (nI 0) (s2 u (u.2 13) (u.2 14)) by
    obtain ⟨n, hn⟩ := hh
    rw [s2_eta] at hn
    exact ⟨n, hn⟩
  refine pk_loop (σ := (Nat → Int32) × (Nat → Int32)) (fun n x p => w_Ar_begin_3 post n (nI f) (nI t) (nI x) (s2 u p.1 p.2)) (fun x p => ∀ y, y < x → (p.1 y).toInt = 1000000 ∧ (p.2 y).toInt = if (t : Int) + mA (gS u) f y < 1000000 then (t : Int) + mA (gS u) f y else 1000000) 12 0 (u.2 13, u.2 14) (by omega)
    (fun y hy => absurd hy (by omega))
    (fun n p hI => ⟨fun _ => h p.1 p.2 (fun x hx => hI x hx), fun c => absurd (show (12 : Int32) ≤ nI 12 by decide) c⟩)
    (fun n x p hx hI hw => ⟨fun c => absurd c (show ¬ nI 12 ≤ nI x from nI_ge hx (by omega)), fun _ => ⟨vp_in_nI hx (by omega), ?_⟩⟩)
  rw [s2_A13]
  refine sp_anyNumber hf hx (fun r hr => ⟨vp_in_nI hx (by omega), ?_⟩)
  rw [s2_S] at hr
  rw [s2_A14, nI_1, nI_clamp (by omega)]
  refine hw (upd p.1 x 1000000, upd p.2 x _) (fun y hy => ?_)
  show (upd p.1 x 1000000 y).toInt = 1000000 ∧ (upd p.2 x _ y).toInt = _
  by_cases e : y = x
  · subst e
    have es : (nI t + r).toInt = t + mA (gS u) f y := by
      have := hA f y; rw [zi_add] <;> rw [hr, zi_n (by omega)] <;> omega
    have : (nI t + r < 1000000) ↔ (t : Int) + mA (gS u) f y < 1000000 := by rw [zi_lt, es, z_M]
    rw [pk_us, pk_us, zi_if]
    refine ⟨rfl, ?_⟩
    by_cases c : nI t + r < 1000000
    · rw [if_pos c, if_pos (this.mp c), es]
    · rw [if_neg c, if_neg (fun z => c (this.mpr z))]; rfl
  · rw [pk_un e, pk_un e]; exact hI y (by omega)
theorem sp_mayTake {post : Int32 → tS → Prop} {u : tS} {y c : Nat} {l : Int32} {Ry Vy : Int} (hy : y < 12) (hR : (u.2 13 y).toInt = Ry) (hV : (u.2 14 y).toInt = Vy) (hc : u.2 0 y = nI c) (hc' : c ≤ 60) (hb : 0 ≤ Ry ∧ Ry ≤ 1000000) (h1 : Vy ≤ l.toInt ∨ Ry + c ≤ l.toInt → post 1 u) (h0 : ¬ (Vy ≤ l.toInt ∨ Ry + c ≤ l.toInt) → post 0 u) : w_Ar_mayTake post (nI y) l u := by
  have iv : vp_in (nI y) 12 := vp_in_nI hy (by omega)
  unfold w_Ar_mayTake
  rw [nI_clamp (by omega)]
  have es : (u.2 13 y + u.2 0 y).toInt = Ry + c := by rw [zi_add] <;> rw [hR, hc, zi_n (by omega)] <;> omega
  refine ⟨iv, fun q => h1 ?_, fun q => ⟨iv, iv, fun z => h0 ?_, fun z => h1 ?_⟩⟩
  · rw [zi_le, hV] at q; exact Or.inl q
  · rw [zi_le, hV] at q; rw [zi_lt, es] at z; omega
  · rw [zi_lt, es] at z; right; omega
theorem gS_far {u : tS} {g : nT} (hg : nOk g) (h : mD 1000000 (gW g) (gS u)) (x : Nat) {o : Nat} (ho : nSt g ≤ o) : gS u x o = 1000000 := by
  refine Int.le_antisymm (h.1 x o) ?_
  have k := h.2.2 x (fun y => if y = o then 1000000 else gS u x y) (fun y => by (try dsimp only); split; omega; exact h.1 x y) ⟨fun y d hw => ?_, fun z y d hw => ?_⟩ o
  · (try dsimp only at k); rw [if_pos rfl] at k; exact k
  · have := gW_b hg hw; (try dsimp only); rw [if_neg (by omega)]; exact (h.2.1 x).1 y d hw
  · have := gW_b hg hw; (try dsimp only); rw [if_neg (by omega), if_neg (by omega)]; exact (h.2.1 x).2 z y d hw
theorem sp_arrive {post : tS → Prop} {u : tS} {g : nT} (hg : nOk g) (hu : nU u g) (hd : mD 1000000 (gW g) (gS u)) {R V : Nat → Int32} {x : Nat} {τ : Int32} (hx : x < 12) (hτ : 0 ≤ τ.toInt ∧ τ.toInt ≤ 20000) (hV : ∀ o, o < 12 → 0 ≤ (V o).toInt ∧ (V o).toInt ≤ 1000000)
    (h1 : ¬ τ.toInt < (R x).toInt → post (s2 u R V)) (h2 : τ.toInt < (R x).toInt → ∀ V' : Nat → Int32, (∀ o, o < 12 → (V' o).toInt = if τ.toInt + gS u x o < (V o).toInt then τ.toInt + gS u x o else (V o).toInt) → post (s2 u (upd R x τ) V')) : w_Ar_arrive post (nI x) τ (s2 u R V) := by
  have iv : vp_in (nI x) 12 := vp_in_nI hx (by omega)
  have g1 := hg.1
  unfold w_Ar_arrive
  rw [nI_clamp (by omega), s2_13]
  refine ⟨iv, fun c => ⟨iv, ?_⟩, fun c => h1 (fun q => c (by rw [zi_lt]; exact q))⟩
  rw [zi_lt] at c
  rw [s2_A13, nI_clamp (by omega)]
  refine pk_loop (fun n o V' => w_Ar_arrive_21 post n (nI x) τ (nI o) (s2 u (upd R x τ) V')) (fun o V' => ∀ a, a < 12 → (V' a).toInt = if a < o ∧ τ.toInt + gS u x a < (V a).toInt then τ.toInt + gS u x a else (V a).toInt) (nSt g) 0 V (by omega)
    (fun a ha => by rw [if_neg (by omega)])
    (fun n V' hI => ⟨fun _ => h2 c V' (fun o ho => ?_), fun q => absurd (show (s2 u (upd R x τ) V').1 0 ≤ nI (nSt g) by rw [s2_1, hu.1]; exact nI_le (Nat.le_refl _) (by omega)) q⟩)
    (fun n o V' ho hI hw => ⟨fun q => absurd q (by rw [s2_1, hu.1]; exact nI_ge ho (by omega)), fun _ => ⟨vp_in_nI (by omega) (by omega), sp_atLeastOne hx (by omega) (fun r hr => ⟨vp_in_nI (by omega) (by omega), ?_⟩)⟩⟩)
  · rw [hI o ho]
    by_cases q : o < nSt g
    · by_cases z : τ.toInt + gS u x o < (V o).toInt
      · rw [if_pos ⟨q, z⟩, if_pos z]
      · rw [if_neg (fun k => z k.2), if_neg z]
    · have := gS_far hg hd x (show nSt g ≤ o by omega); have := hV o ho
      rw [if_neg (fun k => q k.1), if_neg (by omega)]
  · rw [s2_S] at hr
    rw [s2_A14, nI_1, nI_clamp (by omega)]
    refine hw _ (fun a ha => ?_)
    rw [s2_14]
    by_cases e : a = o
    · subst e
      have b := gS_b hg hd x a
      have es : (τ + r).toInt = τ.toInt + gS u x a := by rw [zi_add] <;> rw [hr] <;> omega
      have eo : (V' a).toInt = (V a).toInt := by rw [hI a ha, if_neg (by omega)]
      have : (τ + r < V' a) ↔ τ.toInt + gS u x a < (V a).toInt := by rw [zi_lt, es, eo]
      rw [pk_us, zi_if]
      by_cases q : τ + r < V' a
      · rw [if_pos q, if_pos ⟨by omega, this.mp q⟩, es]
      · rw [if_neg q, if_neg (fun k => q (this.mpr k.2)), eo]
    · rw [pk_un e, hI a ha]
      by_cases q : a < o ∧ τ.toInt + gS u x a < (V a).toInt
      · rw [if_pos q, if_pos ⟨by omega, q.2⟩]
      · rw [if_neg q, if_neg (fun k => q ⟨by omega, k.2⟩)]
/-- the board's departures, as the mathematics has them -/
theorem nB_Q {u : tS} {g : nT} {nb : Nat} {dp : Nat → Nat} (hb : nB u g nb dp) : mQ nb (fun p => nRf g (dp p / 7)) (fun p => nRt g (dp p / 7)) (fun p => nLv g (dp p)) (fun p => nLv g (dp p) + nRk g (dp p / 7)) = gD g := by
  funext y x l v; apply propext
  constructor
  · rintro ⟨p, hp, rfl, rfl, rfl, rfl⟩
    have := hb.2.2.1 p hp
    exact ⟨dp p, this.1, this.2.1, rfl, rfl, rfl, rfl⟩
  · rintro ⟨k, hk, hl, rfl, rfl, rfl, rfl⟩
    obtain ⟨p, hp, rfl⟩ := hb.2.2.2.2 k hk hl
    exact ⟨p, hp, rfl, rfl, rfl, rfl⟩
theorem sp_rideAt {post : Int32 → tS → Prop} {u : tS} {p k : Nat} (hp : p < 280) (hk : k < 280) (hu : u.2 7 p = nI k) (h : post (nI (k / 7)) u) : w_Bo_rideAt post (nI p) u := by
  refine ⟨vp_in_nI hp (by omega), ?_⟩
  rw [nI_clamp (by omega), hu, z_d7 (by omega)]; exact h
set_option maxHeartbeats 1000000 in
theorem sp_find {post : tS → Prop} {u : tS} {g : nT} {nb : Nat} {dp : Nat → Nat} (hg : nOk g) (hu : nU u g) (hb : nB u g nb dp) (hd : mD 1000000 (gW g) (gS u)) {f t : Nat} (hf : f < nSt g) (ht : t ≤ 10079)
    (h : ∀ R V : Nat → Int32, mG 1000000 (gW g) (gD g) (gC g) f t (iA R) (iA V) → post (s2 u R V)) : w_Ar_find post (nI f) (nI t) u := by
  have g1 := hg.1; have g2 := hg.2.1
  have w1 : ∀ y x d, gW g y x d → 1 ≤ d := fun _ _ _ hw => (gW_b hg hw).1
  have hbu := hb.2.1
  refine sp_begin (by omega) (by omega) (fun x y => by have := gS_b hg hd x y; omega) (fun R0 V0 h0 => ?_)
  have far : ∀ x o, ¬ o < 12 → gS u x o = 1000000 := fun x o q => by unfold gS; rw [if_neg (by omega)]
  have j0 : mJ 1000000 (gW g) nb (fun p => nRf g (dp p / 7)) (fun p => nRt g (dp p / 7)) (fun p => nLv g (dp p)) (fun p => nLv g (dp p) + nRk g (dp p / 7)) (gC g) f t 0 (iA R0) (iA V0) := by
    have k := mJ_0 (n := nb) (yy := fun p => nRf g (dp p / 7)) (xx := fun p => nRt g (dp p / 7)) (ll := fun p => nLv g (dp p)) (vv := fun p => nLv g (dp p) + nRk g (dp p / 7)) (ch := gC g) (f := f) (t := (t : Int)) (by decide) w1 hd (by omega) (by omega)
    have eR : iA R0 = fun _ => 1000000 := by funext x; unfold iA; split; rename_i q; exact (h0 x q).1; rfl
    have eV : iA V0 = fun x => if (t : Int) + mA (gS u) f x < 1000000 then (t : Int) + mA (gS u) f x else 1000000 := by
      funext x; unfold iA; split
      · rename_i q; exact (h0 x q).2
      · rename_i q; rw [mA_ne (by omega), far f x q, if_neg (by omega)]
    rw [eR, eV]; exact k
  refine pk_loop (σ := (Nat → Int32) × (Nat → Int32)) (fun n p q => w_Ar_addOneDeparture_2 (fun u10 => post u10) n (nI p) (s2 u q.1 q.2)) (fun p q => mJ 1000000 (gW g) nb (fun p => nRf g (dp p / 7)) (fun p => nRt g (dp p / 7)) (fun p => nLv g (dp p)) (fun p => nLv g (dp p) + nRk g (dp p / 7)) (gC g) f t p (iA q.1) (iA q.2) ∧ ∀ x, x < 12 → 0 ≤ (q.1 x).toInt ∧ 0 ≤ (q.2 x).toInt) nb 0 (R0, V0) (by omega)
    ⟨j0, fun x hx => by
      have := h0 x hx; have b : 0 ≤ mA (gS u) f x := mA_nn (by decide) w1 hd f x
      refine ⟨by show 0 ≤ (R0 x).toInt; omega, ?_⟩
      show 0 ≤ (V0 x).toInt
      rw [this.2]; split <;> omega⟩
    (fun n q hI => ⟨fun _ => ?_, fun c => absurd (show (s2 u q.1 q.2).1 2 ≤ nI nb by rw [s2_1, hb.1]; exact nI_le (Nat.le_refl _) (by omega)) c⟩)
    (fun n p q hp hI hw => ⟨fun c => absurd c (by rw [s2_1, hb.1]; exact nI_ge hp (by omega)), fun _ => ?_⟩)
  · refine h q.1 q.2 ?_
    have := mJ_end hI.1
    rw [nB_Q hb] at this; exact this
  · obtain ⟨R, V⟩ := q
    obtain ⟨hJ, hpos⟩ := hI
    have hB := hb.2.2.1 p hp
    have hr : dp p / 7 < nRi g := by omega
    have g5 := hg.2.2.2.2.1 (dp p / 7) hr
    have U := hu.2.2.2.2.1 (dp p / 7) hr
    have lv := nLv_b hg hB.1 hB.2.1
    have iv1 : vp_in (nI (dp p / 7)) 40 := vp_in_nI (by omega) (by omega)
    have cl1 : (nI (dp p / 7)).toNatClampNeg = dp p / 7 := nI_clamp (by omega)
    refine sp_rideAt (k := dp p) (by omega) (by omega) (by rw [s2_ne _ _ _ (by omega) (by omega)]; exact hB.2.2.1) ⟨vp_in_nI (by omega) (by omega), iv1, ?_⟩
    rw [cl1, nI_clamp (by omega), s2_ne _ _ _ (by omega) (by omega), s2_ne _ _ _ (by omega) (by omega), U.1, nI_1]
    have bR : ∀ x, x < 12 → (R x).toInt ≤ 1000000 ∧ (V x).toInt ≤ 1000000 := fun x hx => by
      have := hJ.1 x; rw [iA_in hx, iA_in hx] at this; exact this
    have yi : nRf g (dp p / 7) < 12 := by omega
    have xi : nRt g (dp p / 7) < 12 := by omega
    refine sp_mayTake (Ry := iA R (nRf g (dp p / 7))) (Vy := iA V (nRf g (dp p / 7))) (c := nCh g (nRf g (dp p / 7))) yi (by rw [iA_in yi]; rfl) (by rw [iA_in yi]; rfl) (by rw [s2_ne _ _ _ (by omega) (by omega)]; exact hu.2.2.2.1 _ g5.1) (hg.2.2.2.1 _ g5.1) (by rw [iA_in yi]; exact ⟨(hpos _ yi).1, (bR _ yi).1⟩) (fun m => q1 ⟨iv1, iv1, ?_⟩) (fun m => q0 ?_)
    · rw [s2_ne _ _ _ (by omega) (by omega), s2_ne _ _ _ (by omega) (by omega), U.2.1, U.2.2.2.1]
      rw [hB.2.2.2] at m
      have ea : (u.2 8 p + nI (nRk g (dp p / 7))).toInt = nLv g (dp p) + nRk g (dp p / 7) := by
        rw [zi_add] <;> rw [hB.2.2.2, zi_n (by omega)] <;> omega
      refine sp_arrive hg hu hd xi (by rw [ea]; omega) (fun o ho => ⟨(hpos o ho).2, (bR o ho).2⟩) (fun c => hw (R, V) ⟨mJ_skip hJ (fun _ => ?_), hpos⟩) (fun c V' hV' => hw (_, V') ⟨?_, fun x hx => ⟨?_, ?_⟩⟩)
      · show iA R (nRt g (dp p / 7)) ≤ nLv g (dp p) + nRk g (dp p / 7)
        rw [iA_in xi]; rw [ea] at c; (try dsimp only at c); omega
      · rw [ea] at c hV'
        have k := mJ_take (D := gS u) (by decide) w1 hd (fun q _ => by show (0 : Int) ≤ nCh g _; omega) (fun q hq => by
            show nLv g (dp q) ≤ nLv g (dp p)
            have := hb.2.2.2.1 q p hq hp; omega) (by show nLv g (dp p) < nLv g (dp p) + nRk g (dp p / 7); omega) hp (by show 0 ≤ nLv g (dp p) + nRk g (dp p / 7); omega) hJ m (by show nLv g (dp p) + nRk g (dp p / 7) < iA R (nRt g (dp p / 7)); rw [iA_in xi]; exact c)
        have eR : iA (upd R (nRt g (dp p / 7)) (u.2 8 p + nI (nRk g (dp p / 7)))) = fun x => if x = nRt g (dp p / 7) then nLv g (dp p) + nRk g (dp p / 7) else iA R x := by
          funext x
          by_cases e : x = nRt g (dp p / 7)
          · subst e; rw [if_pos rfl, iA_in xi, pk_us, ea]
          · rw [if_neg e]; unfold iA; rw [pk_un e]
        have eV : iA V' = fun o => if nLv g (dp p) + nRk g (dp p / 7) + gS u (nRt g (dp p / 7)) o < iA V o then nLv g (dp p) + nRk g (dp p / 7) + gS u (nRt g (dp p / 7)) o else iA V o := by
          funext o
          by_cases q : o < 12
          · rw [iA_in q, iA_in q, hV' o q]
          · unfold iA; rw [if_neg q, if_neg q, if_neg (by rw [far _ o q]; omega)]
        show mJ _ _ _ _ _ _ _ _ _ _ _ (iA (upd R (nRt g (dp p / 7)) (u.2 8 p + nI (nRk g (dp p / 7))))) (iA V')
        rw [eR, eV]; exact k
      · show 0 ≤ (upd R (nRt g (dp p / 7)) (u.2 8 p + nI (nRk g (dp p / 7))) x).toInt
        by_cases e : x = nRt g (dp p / 7)
        · subst e; rw [pk_us, ea]; omega
        · rw [pk_un e]; exact (hpos x hx).1
      · show 0 ≤ (V' x).toInt
        rw [hV' x hx, ea]
        have := gS_b hg hd (nRt g (dp p / 7)) x; have := (hpos x hx).2
        split <;> omega
    · rw [hB.2.2.2] at m
      exact hw (R, V) ⟨mJ_skip hJ (fun z => absurd z m), hpos⟩
