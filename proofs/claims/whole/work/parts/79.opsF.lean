/-! fastest, profile -/
def zP (x y : Int32) : Prop := 0 ≤ x.toInt ∧ x.toInt ≤ y.toInt ∧ y.toInt ≤ 10079 ∧ y.toInt - x.toInt ≤ 600
theorem sp_isSpan {post : Int32 → tS → Prop} {x y : Int32} {u : tS} (h1 : zP x y → post 1 u) (h0 : ¬ zP x y → post 0 u) : w_T_isSpan post x y u := by
  refine sp_isTime (fun a => q1 (sp_isTime (fun b => q1 (sp_within (fun c => q1 (h1 ?_)) (fun c => q0 (h0 (fun k => c ?_))))) (fun b => q0 (h0 (fun k => b ⟨?_, k.2.2.1⟩))))) (fun a => q0 (h0 (fun k => a ⟨k.1, ?_⟩)))
  · have es : (y - x).toInt = y.toInt - x.toInt := by have := a.1; have := a.2; have := b.1; have := b.2; rw [zi_sub] <;> omega
    have c1 := c.1; have c2 := c.2
    rw [es, show (0 : Int32).toInt = 0 from rfl] at c1; rw [es, show (600 : Int32).toInt = 600 from rfl] at c2
    exact ⟨a.1, by omega, b.2, c2⟩
  · have es : (y - x).toInt = y.toInt - x.toInt := by have := a.1; have := a.2; have := b.1; have := b.2; rw [zi_sub] <;> omega
    obtain ⟨k1, k2, k3, k4⟩ := k
    unfold zIn; rw [es, show (0 : Int32).toInt = 0 from rfl, show (600 : Int32).toInt = 600 from rfl]; omega
  · have := k.1; have := k.2.1; omega
  · have := k.2.1; have := k.2.2.1; omega
theorem sp_isSpanM {post : Int32 → tS → Prop} {x y a b : Int32} {v : tS} {g : nT} (hg : nOk g) (hv : nV v g) (h1 : zS g a → zS g b → zP x y → post 1 v) (h0 : ¬ (zS g a ∧ zS g b ∧ zP x y) → post 0 v) : w_M_isSpan post a b x y v := by
  refine sp_isAsked hg hv (fun sa sb c => q1 (sp_isIn (fun d => q1 ⟨fun e => h0 (fun k => ?_), fun e => h1 sa sb ?_⟩) (fun d => q0 (h0 (fun k => d ⟨k.2.2.2.1, k.2.2.2.2.1⟩))))) (fun k => q0 (h0 (fun z => k ⟨z.1, z.2.1, z.2.2.1, ?_⟩)))
  · have c1 := c.1; have c2 := c.2; have d1 := d.1; have d2 := d.2
    have es : (y - x).toInt = y.toInt - x.toInt := by rw [show (10079 : Int32).toInt = 10079 from rfl] at d2; rw [zi_sub] <;> omega
    rw [zi_lt, es, show (600 : Int32).toInt = 600 from rfl] at e
    have := k.2.2.2.2.2; omega
  · have c1 := c.1; have c2 := c.2; have d1 := d.1; have d2 := d.2
    rw [show (10079 : Int32).toInt = 10079 from rfl] at d2
    have es : (y - x).toInt = y.toInt - x.toInt := by rw [zi_sub] <;> omega
    rw [zi_lt, es, show (600 : Int32).toInt = 600 from rfl] at e
    exact ⟨c1, d1, d2, by omega⟩
  · have := z.2.2.2.1; have := z.2.2.2.2.1; omega
theorem z_P {x y : Int32} (h : zP x y) : ∃ F L : Nat, x = nI F ∧ y = nI L ∧ F ≤ L ∧ L ≤ F + 600 ∧ L ≤ 10079 := by
  obtain ⟨a, b, c, d⟩ := h
  exact ⟨x.toInt.toNat, y.toInt.toNat, zi_nI (by omega), zi_nI (by omega), by omega, by omega, by omega⟩
/-- the least so far -/
def fL (e : Nat → Int) (F : Nat) : Nat → Int
  | 0 => 1000000
  | k + 1 => if e k < 1000000 ∧ e k - (F + k) < fL e F k then e k - (F + k) else fL e F k
theorem fL_s (e : Nat → Int) (F k : Nat) : fL e F (k + 1) = if e k < 1000000 ∧ e k - (F + k) < fL e F k then e k - (F + k) else fL e F k := rfl
theorem fL_b {e : Nat → Int} {F : Nat} (he : ∀ k, (F : Int) + k ≤ e k) (k : Nat) : 0 ≤ fL e F k ∧ fL e F k ≤ 1000000 := by
  induction k with
  | zero => exact ⟨show (0 : Int) ≤ 1000000 by decide, Int.le_refl _⟩
  | succ k ih => have := he k; unfold fL; split <;> omega
theorem mZ_low {u : tS} {g : nT} {nb : Nat} {dp : Nat → Nat} {on : Nat → Int} {f z : Nat} {t e : Int} (hg : nOk g) (hd : mD 1000000 (gW g) (gS u)) (hon : ∀ q, q < nb → bL g dp q < on q) (ht : t ≤ 1000000) (h : mZ 1000000 (gS u) nb (bY g dp) (bL g dp) on f z t e) : t ≤ e := by
  have nn := fun x y => mA_nn (D := gS u) (by decide) (fun _ _ _ hw => (gW_b hg hw).1) hd x y
  rcases h.2.2.2 with q | q | ⟨i, i1, i2, q⟩
  · omega
  · have := nn f z; omega
  · have := nn f (bY g dp i); have := hon i i1; omega
set_option maxHeartbeats 1000000 in
theorem pr_fastest (u v : tS) (x1 x2 x3 x4 : Int32) (h : Rel u v) : w_T_fastest (fun r1 u1 => w_M_fastest (fun r2 v1 => r1 = r2 ∧ Rel u1 v1) x1 x2 x3 x4 v) x1 x2 x3 x4 u := by
  obtain ⟨g, nb, dp, hg, hu, hv, hb, hd, hp, ha⟩ := id h
  have g1 := hg.1
  have bad : ¬ (zS g x1 ∧ zS g x2 ∧ zP x3 x4) → w_M_fastest (fun r2 v1 => (-2) = r2 ∧ Rel u v1) x1 x2 x3 x4 v := fun hn => sp_isSpanM hg hv (fun a b c => absurd ⟨a, b, c⟩ hn) (fun _ => q0 ⟨rfl, h⟩)
  refine sp_hasStops hg hu (fun a b => q1 (sp_isSpan (fun c => q1 ?_) (fun c => q0 (bad (fun k => c k.2.2))))) (fun k => q0 (bad (fun z => k ⟨z.1, z.2.1⟩)))
  obtain ⟨f, hf, rfl⟩ := z_S a
  obtain ⟨x, hx, rfl⟩ := z_S b
  obtain ⟨F, L, rfl, rfl, c1, c2, c3⟩ := z_P c
  obtain ⟨on, hon⟩ := on_ex hg hu hb hd x
  refine sp_spanFind hg hu hb hd hx hf c1 c2 c3 hon (fun O E hE => ?_)
  obtain ⟨e, he⟩ : ∃ e : Nat → Int, e = fun k => if k ≤ L - F then (E k).toInt else F + k := ⟨_, rfl⟩
  have eE : ∀ k, k ≤ L - F → (E k).toInt = e k := fun k hk => by rw [he]; (try dsimp only); rw [if_pos hk]
  have elow : ∀ k, (F : Int) + k ≤ e k := fun k => by
    rw [he]; (try dsimp only); split
    · rename_i q; have := mZ_low hg hd (fun q hq => (hon q hq).2) (by omega) (hE k q); omega
    · omega
  have ehi : ∀ k, k ≤ L - F → e k ≤ 1000000 := fun k hk => by rw [← eE k hk]; exact (hE k hk).1
  -- the class
  suffices hh : ∀ r : Int32, r.toInt = fL e F (L - F + 1) → w_T_orNone (fun r50 u50 => w_M_fastest (fun r2 v1 => r50 = r2 ∧ Rel u50 v1) (nI f) (nI x) (nI F) (nI L) v) r (s7 u O E) by
    refine pk_loop (fun n t r => w_Sp_leastMinutes_6 (fun r47 u47 => w_T_orNone (fun r50 u50 => w_M_fastest (fun r2 v1 => r50 = r2 ∧ Rel u50 v1) (nI f) (nI x) (nI F) (nI L) v) r47 u47) n (nI F) (nI L) r (nI t) (s7 u O E)) (fun t r => F ≤ t ∧ r.toInt = fL e F (t - F)) (L + 1) F 1000000 (by omega) ⟨Nat.le_refl _, by rw [Nat.sub_self]; rfl⟩
      (fun n r hI => ⟨fun _ => hh r (by rw [hI.2, show L + 1 - F = L - F + 1 by omega]), fun q => absurd (nI_lt (by omega) (by omega)) q⟩)
      (fun n t r ht hI hw => ⟨fun q => absurd q (nI_nlt (by omega) (by omega)), fun _ => ?_⟩)
    obtain ⟨i1, i2⟩ := hI
    have ei : nI t - nI F = nI (t - F) := pk_sub i1
    rw [ei, s7_18, nI_clamp (by omega), nI_1]
    have hk : t - F ≤ L - F := by omega
    have fb := fL_b elow (t - F)
    refine ⟨vp_in_nI (by omega) (by omega), fun q => hw r ⟨by omega, ?_⟩, fun q => hw _ ⟨by omega, ?_⟩⟩
    · rw [zi_le, eE _ hk, z_M] at q
      rw [i2, show t + 1 - F = t - F + 1 by omega, fL_s, if_neg (by omega)]
    · rw [zi_le, eE _ hk, z_M] at q
      have lo := elow (t - F)
      have es : (E (t - F) - nI t).toInt = e (t - F) - (F + ((t - F : Nat) : Int)) := by
        rw [zi_sub] <;> rw [eE _ hk, zi_n (by omega)] <;> omega
      rw [show t + 1 - F = t - F + 1 by omega, fL_s, zi_if, es, i2]
      by_cases y : E (t - F) - nI t < r
      · rw [if_pos y, if_pos ⟨by omega, by rw [zi_lt, es, i2] at y; exact y⟩]
      · rw [if_neg y, if_neg (fun k => y (by rw [zi_lt, es, i2]; exact k.2))]
  intro r hr
  -- the reference
  suffices hm : ∀ z : Int32, z.toInt = (if fL e F (L - F + 1) < 1000000 then fL e F (L - F + 1) else -1) → w_M_fastest (fun r2 v1 => z = r2 ∧ Rel (s7 u O E) v1) (nI f) (nI x) (nI F) (nI L) v by
    refine ⟨fun q => hm r ?_, fun q => hm (-1) ?_⟩
    · rw [zi_lt, hr, z_M] at q; rw [if_pos q, hr]
    · rw [zi_lt, hr, z_M] at q; rw [if_neg q]; rfl
  intro z hz
  refine sp_isSpanM hg hv (fun _ _ _ => q1 ?_) (fun k => absurd ⟨a, b, c⟩ k)
  refine pk_loop (σ := tS × Int32) (fun n t p => w_M_fastest_21 (fun r2 v1 => z = r2 ∧ Rel (s7 u O E) v1) n (nI f) (nI x) (nI L) p.2 (nI t) p.1) (fun t p => F ≤ t ∧ eV v p.1 ∧ p.2.toInt = (if fL e F (t - F) < 1000000 then fL e F (t - F) else -1)) (L + 1) F (v, -1) (by omega) ⟨Nat.le_refl _, eV_rf v, by rw [Nat.sub_self]; rfl⟩
    (fun n p hI => ⟨fun _ => ⟨?_, Rel_e (s7_e u O E) hI.2.1 h⟩, fun q => absurd (nI_lt (by omega) (by omega)) q⟩)
    (fun n t p ht hI hw => ⟨fun q => absurd q (nI_nlt (by omega) (by omega)), fun _ => ?_⟩)
  · have := hI.2.2; rw [show L + 1 - F = L - F + 1 by omega] at this; rw [zi_eq, hz, this]
  · obtain ⟨v', best⟩ := p
    obtain ⟨i1, i2, i3⟩ := hI
    have i3 : best.toInt = (if fL e F (t - F) < 1000000 then fL e F (t - F) else -1) := i3
    have hk : t - F ≤ L - F := by omega
    have fb := fL_b elow (t - F)
    refine sp_found hg (nV_e i2 hv) hf hx (by omega) (fun v2 R V b2 r2 e2 o1 o2 hG hr2 => ?_)
    have hZ := hE _ hk
    rw [show F + (t - F) = t by omega] at hZ
    have eq := on_eq hg hu hb hd hon hG hZ
    rw [eq, eE _ hk] at hr2
    have lo := elow (t - F)
    have e3 := eV_tr i2 (m3_E R V b2 e2)
    rw [nI_1]
    refine ⟨fun q => ?_, fun q => ?_⟩
    · rw [zi_eq, hr2, show (-1 : Int32).toInt = -1 from rfl] at q
      have : ¬ e (t - F) < 1000000 := fun y => by rw [if_pos y] at q; omega
      refine hw (_, best) ⟨by omega, e3, ?_⟩
      show best.toInt = _
      have e4 : fL e F (t + 1 - F) = fL e F (t - F) := by rw [show t + 1 - F = t - F + 1 by omega, fL_s, if_neg (fun y => this y.1)]
      rw [i3, e4]
    · rw [zi_eq, hr2, show (-1 : Int32).toInt = -1 from rfl] at q
      have lt : e (t - F) < 1000000 := Classical.byContradiction (fun y => by rw [if_neg y] at q; exact q rfl)
      rw [if_pos lt] at hr2
      have es : (r2 - nI t).toInt = e (t - F) - (F + ((t - F : Nat) : Int)) := by
        rw [zi_sub] <;> rw [hr2, zi_n (by omega)] <;> omega
      have upd1 : e (t - F) - (F + ((t - F : Nat) : Int)) < fL e F (t - F) → w_M_fastest_21 (fun r2 v1 => z = r2 ∧ Rel (s7 u O E) v1) n (nI f) (nI x) (nI L) (r2 - nI t) (nI (t + 1)) (m3 v2 R V b2) := fun y => by
        refine hw (_, r2 - nI t) ⟨by omega, e3, ?_⟩
        show (r2 - nI t).toInt = _
        have e4 : fL e F (t + 1 - F) = e (t - F) - (F + ((t - F : Nat) : Int)) := by rw [show t + 1 - F = t - F + 1 by omega, fL_s, if_pos ⟨lt, y⟩]
        rw [es, e4, if_pos (by omega)]
      have keep : ¬ e (t - F) - (F + ((t - F : Nat) : Int)) < fL e F (t - F) → w_M_fastest_21 (fun r2 v1 => z = r2 ∧ Rel (s7 u O E) v1) n (nI f) (nI x) (nI L) best (nI (t + 1)) (m3 v2 R V b2) := fun y => by
        refine hw (_, best) ⟨by omega, e3, ?_⟩
        show best.toInt = _
        have e4 : fL e F (t + 1 - F) = fL e F (t - F) := by rw [show t + 1 - F = t - F + 1 by omega, fL_s, if_neg (fun k => y k.2)]
        rw [i3, e4]
      unfold w_M_fastest_60
      rw [nI_1]
      refine ⟨fun y => upd1 ?_, fun y => ⟨fun w => keep ?_, fun w => upd1 ?_⟩⟩
      · have y : best = -1 := y
        rw [y, show (-1 : Int32).toInt = -1 from rfl] at i3
        split at i3 <;> omega
      · have w : best ≤ r2 - nI t := w
        have y : ¬ best = -1 := y
        rw [zi_le, es, i3] at w
        rw [zi_eq, i3, show (-1 : Int32).toInt = -1 from rfl] at y
        split at w <;> omega
      · have w : ¬ best ≤ r2 - nI t := w
        have y : ¬ best = -1 := y
        rw [zi_le, es, i3] at w
        rw [zi_eq, i3, show (-1 : Int32).toInt = -1 from rfl] at y
        split at w
        · omega
        · rename_i k; rw [if_neg k] at y; omega
