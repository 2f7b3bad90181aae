-- doubles: the value in units of the least one, comparisons, sums and differences
abbrev fz (x : UInt64) : Int := FP.Core.zval FP.Core.b64 (FP.Core.val64 x)
abbrev fz_n (x : UInt64) : Prop := FP.Core.val64 x ≠ FP.Core.Datum.nan
theorem fz_ne {x : UInt64} (h : x.toNat ≤ 9218868437227405312) : fz_n x := by
  show FP.Core.val64 x ≠ FP.Core.Datum.nan
  rw [FP.Core.ne_nan, Nat.mod_eq_of_lt (by omega)]
  exact h
theorem fz_units {x : UInt64} (h : x.toNat ≤ 9218868437227405312) : fz x = (FP.Core.unitsOf FP.Core.b64 x.toNat : Int) := by
  have h1 := FP.Core.zval_decode FP.Core.good_b64 (FP.Core.lt_full64 x) (fz_ne h)
  show FP.Core.zval FP.Core.b64 (FP.Core.decode FP.Core.b64 x.toNat) = _
  rw [h1, FP.Core.mag_toNat64, Nat.mod_eq_of_lt (by omega), FP.Core.half_b64, decide_eq_false (by omega)]
  rfl
theorem fz_le_bits {x y : UInt64} (hx : x.toNat ≤ 9218868437227405312) (hy : y.toNat ≤ 9218868437227405312) : fz x ≤ fz y ↔ x.toNat ≤ y.toNat := by
  rw [fz_units hx, fz_units hy, Int.ofNat_le]
  exact FP.Core.unitsOf_le_iff
theorem fz_lt_bits {x y : UInt64} (hx : x.toNat ≤ 9218868437227405312) (hy : y.toNat ≤ 9218868437227405312) : fz x < fz y ↔ x.toNat < y.toNat := by
  rw [fz_units hx, fz_units hy, Int.ofNat_lt]
  exact FP.Core.unitsOf_lt_iff
theorem fz_cmp3 {x y : UInt64} (hx : fz_n x) (hy : fz_n y) : (fz x < fz y ∧ FP.dcmp x y = some Ordering.lt) ∨ (fz x = fz y ∧ FP.dcmp x y = some Ordering.eq) ∨ (fz y < fz x ∧ FP.dcmp x y = some Ordering.gt) := by
  have e : FP.dcmp x y = some (compare (fz x) (fz y)) := FP.Core.order_zval FP.Core.good_b64 (FP.Core.val64_fits x) (FP.Core.val64_fits y) hx hy
  rw [e]
  generalize fz x = a
  generalize fz y = b
  rcases Int.lt_trichotomy a b with h | h | h
  · exact Or.inl ⟨h, by simp only [compare, compareOfLessAndEq, if_pos h]⟩
  · exact Or.inr (Or.inl ⟨h, by subst h; simp [compare, compareOfLessAndEq]⟩)
  · have h1 : ¬ a < b := by omega
    have h2 : ¬ a = b := by omega
    exact Or.inr (Or.inr ⟨h, by simp only [compare, compareOfLessAndEq, if_neg h1, if_neg h2]⟩)
theorem fz_gt {x y : UInt64} (hx : fz_n x) (hy : fz_n y) : la_gt x y = true ↔ fz y < fz x := by
  unfold la_gt
  rcases fz_cmp3 hx hy with ⟨h, e⟩ | ⟨h, e⟩ | ⟨h, e⟩
  · rw [e]; exact iff_of_false (by decide +kernel) (by omega)
  · rw [e]; exact iff_of_false (by decide +kernel) (by omega)
  · rw [e]; exact iff_of_true (by decide +kernel) h
theorem fz_lt {x y : UInt64} (hx : fz_n x) (hy : fz_n y) : la_lt x y = true ↔ fz x < fz y := by
  unfold la_lt
  rcases fz_cmp3 hx hy with ⟨h, e⟩ | ⟨h, e⟩ | ⟨h, e⟩
  · rw [e]; exact iff_of_true (by decide +kernel) h
  · rw [e]; exact iff_of_false (by decide +kernel) (by omega)
  · rw [e]; exact iff_of_false (by decide +kernel) (by omega)
/-- a number from +0.0 to 20.0 -/
def zn_p (x : UInt64) : Prop := x.toNat ≤ 4626322717216342016
theorem zn_le {x : UInt64} (h : zn_p x) : x.toNat ≤ 9218868437227405312 := Nat.le_trans h (by decide)
theorem zn_fin {x : UInt64} (h : zn_p x) : FP.Core.DFin x := by
  rw [FP.Core.fin_bits, Nat.mod_eq_of_lt (by unfold zn_p at h; omega)]
  unfold zn_p at h
  omega
theorem zn_of_ne {x : UInt64} (h : fz_n x) : vf_n64 x := by
  have h1 := (FP.Core.ne_nan x).mp h
  unfold vf_n64
  rw [UInt64.le_iff_toNat_le, UInt64.toNat_and]
  show x.toNat &&& (2 ^ 63 - 1) ≤ 9218868437227405312
  rw [Nat.and_two_pow_sub_one_eq_mod]
  exact h1
theorem zn_n64 {x : UInt64} (h : zn_p x) : vf_n64 x := zn_of_ne (fz_ne (zn_le h))
theorem zn_loss (z : Int32) : zn_p (la_loss z) := by
  unfold la_loss zn_p
  split <;> decide +kernel
theorem zn_new (k : Int32) : zn_p (la_new k) := by
  unfold la_new zn_p
  split
  · decide +kernel
  · split <;> decide +kernel
theorem zn_w75 (k : Int32) : vf_n64 (FP.dmul 4604930618986332160 (la_new k)) := by
  unfold la_new vf_n64
  split
  · decide +kernel
  · split <;> decide +kernel
theorem fz_sub {x v : UInt64} (hx : FP.Core.DFin x) (hv : FP.Core.DFin v) : ∃ (sg : Bool) (n : Nat) (e : Int), FP.Core.val64 (FP.dsub x v) = FP.Core.round FP.Core.b64 (.fin sg n e) ∧ FP.Core.b64.qmin ≤ e ∧ FP.Core.signed sg (FP.Core.inUnits n e FP.Core.b64.qmin) = fz x - fz v := by
  obtain ⟨s, c, q, ex⟩ := hx
  obtain ⟨t, d, r, ev⟩ := hv
  have f1 : FP.Core.fits FP.Core.b64 (.fin s c q) := by rw [← ex]; exact FP.Core.val64_fits x
  have f2 : FP.Core.fits FP.Core.b64 (.fin (!t) d r) := by
    have h := FP.Core.negate_fits (FP.Core.val64_fits v)
    rw [ev] at h
    exact h
  obtain ⟨sg, n, e, h1, h2, h3⟩ := FP.Core.sum_units f1 f2
  refine ⟨sg, n, e, ?_, h2, ?_⟩
  · have h := FP.Core.val64_dsub x v
    rw [ex, ev] at h
    rw [← h1]
    exact h
  · have h4 : FP.Core.zval FP.Core.b64 (.fin (!t) d r) = - fz v := by
      have h5 := FP.Core.zval_negate FP.Core.b64 (FP.Core.val64 v)
      rw [ev] at h5
      show FP.Core.zval FP.Core.b64 (FP.Core.negate (.fin t d r)) = - FP.Core.zval FP.Core.b64 (FP.Core.val64 v)
      rw [ev]
      exact h5
    rw [h3, h4]
    show FP.Core.zval FP.Core.b64 (.fin s c q) + _ = FP.Core.zval FP.Core.b64 (FP.Core.val64 x) - _
    rw [ex]
    omega
theorem fz_add {x v : UInt64} (hx : FP.Core.DFin x) (hv : FP.Core.DFin v) : ∃ (sg : Bool) (n : Nat) (e : Int), FP.Core.val64 (FP.dadd x v) = FP.Core.round FP.Core.b64 (.fin sg n e) ∧ FP.Core.b64.qmin ≤ e ∧ FP.Core.signed sg (FP.Core.inUnits n e FP.Core.b64.qmin) = fz x + fz v := by
  obtain ⟨s, c, q, ex⟩ := hx
  obtain ⟨t, d, r, ev⟩ := hv
  have f1 : FP.Core.fits FP.Core.b64 (.fin s c q) := by rw [← ex]; exact FP.Core.val64_fits x
  have f2 : FP.Core.fits FP.Core.b64 (.fin t d r) := by rw [← ev]; exact FP.Core.val64_fits v
  obtain ⟨sg, n, e, h1, h2, h3⟩ := FP.Core.sum_units f1 f2
  refine ⟨sg, n, e, ?_, h2, ?_⟩
  · have h := FP.Core.val64_dadd x v
    rw [ex, ev] at h
    rw [← h1]
    exact h
  · rw [h3]
    show _ = FP.Core.zval FP.Core.b64 (FP.Core.val64 x) + FP.Core.zval FP.Core.b64 (FP.Core.val64 v)
    rw [ex, ev]
theorem fz_rn {r : UInt64} {sg : Bool} {n : Nat} {e : Int} (h : FP.Core.val64 r = FP.Core.round FP.Core.b64 (.fin sg n e)) : fz_n r := by
  intro h1
  rw [h] at h1
  have h2 := FP.Core.round_nan.mp h1
  cases h2
theorem fz_r_le {r y : UInt64} {sg : Bool} {n : Nat} {e : Int} (h : FP.Core.val64 r = FP.Core.round FP.Core.b64 (.fin sg n e)) (he : FP.Core.b64.qmin ≤ e) (hy : fz_n y) (hv : FP.Core.signed sg (FP.Core.inUnits n e FP.Core.b64.qmin) ≤ fz y) : fz r ≤ fz y := by
  show FP.Core.zval FP.Core.b64 (FP.Core.val64 r) ≤ _
  rw [h]
  refine FP.Core.zval_round_le FP.Core.good_b64 (FP.Core.val64_fits y) hy (Int.le_refl _) he ?_
  rw [Int.sub_self]
  show _ ≤ _ * ((2 ^ 0 : Nat) : Int)
  rw [Nat.pow_zero, Int.natCast_one, Int.mul_one]
  exact hv
theorem fz_r_ge {r y : UInt64} {sg : Bool} {n : Nat} {e : Int} (h : FP.Core.val64 r = FP.Core.round FP.Core.b64 (.fin sg n e)) (he : FP.Core.b64.qmin ≤ e) (hy : fz_n y) (hv : fz y ≤ FP.Core.signed sg (FP.Core.inUnits n e FP.Core.b64.qmin)) : fz y ≤ fz r := by
  show _ ≤ FP.Core.zval FP.Core.b64 (FP.Core.val64 r)
  rw [h]
  refine FP.Core.zval_round_ge FP.Core.good_b64 (FP.Core.val64_fits y) hy (Int.le_refl _) he ?_
  rw [Int.sub_self]
  show _ * ((2 ^ 0 : Nat) : Int) ≤ _
  rw [Nat.pow_zero, Int.natCast_one, Int.mul_one]
  exact hv
theorem fz_pos_bits {r : UInt64} (hn : fz_n r) (h : 0 < fz r) : r.toNat ≤ 9218868437227405312 := by
  have h1 := FP.Core.zval_decode FP.Core.good_b64 (FP.Core.lt_full64 r) hn
  have h2 := (FP.Core.ne_nan r).mp hn
  have h3 : fz r = FP.Core.signed (decide (FP.Core.half FP.Core.b64 ≤ r.toNat)) (FP.Core.unitsOf FP.Core.b64 (FP.Core.mag FP.Core.b64 r.toNat)) := h1
  by_cases h4 : FP.Core.half FP.Core.b64 ≤ r.toNat
  · rw [decide_eq_true h4] at h3
    have h5 : fz r = -((FP.Core.unitsOf FP.Core.b64 (FP.Core.mag FP.Core.b64 r.toNat) : Nat) : Int) := h3
    omega
  · rw [FP.Core.half_b64] at h4
    rw [Nat.mod_eq_of_lt (by omega)] at h2
    exact h2
theorem fz_sgn_bits {r : UInt64} (hn : fz_n r) (h : FP.Core.sgn (FP.Core.val64 r) = false) : r.toNat ≤ 9218868437227405312 := by
  have h1 := FP.Core.sgn_bits hn
  rw [h] at h1
  have h2 := (FP.Core.ne_nan r).mp hn
  have h3 : ¬ 2 ^ 63 ≤ r.toNat := of_decide_eq_false h1.symm
  rw [Nat.mod_eq_of_lt (by omega)] at h2
  exact h2
theorem fz_0 : fz 0 = 0 := by
  rw [fz_units (by decide)]
  decide +kernel
theorem fz_1 : fz 1 = 1 := by
  rw [fz_units (by decide)]
  decide +kernel
theorem zn_subn {x v : UInt64} (h : zn_p x) (hv : zn_p v) : fz_n (FP.dsub x v) := by
  obtain ⟨sg, n, e, h1, -, -⟩ := fz_sub (zn_fin h) (zn_fin hv)
  exact fz_rn h1
theorem zn_sub_gt {x v : UInt64} (h : zn_p x) (hv : zn_p v) (hg : fz v < fz x) : zn_p (FP.dsub x v) ∧ 0 < fz (FP.dsub x v) := by
  obtain ⟨sg, n, e, h1, h2, h3⟩ := fz_sub (zn_fin h) (zn_fin hv)
  have hn := fz_rn h1
  have v0 : 0 ≤ fz v := by rw [fz_units (zn_le hv)]; exact Int.natCast_nonneg _
  have g1 : fz 1 ≤ fz (FP.dsub x v) := fz_r_ge h1 h2 (fz_ne (by decide)) (by rw [h3, fz_1]; omega)
  rw [fz_1] at g1
  have g2 : fz (FP.dsub x v) ≤ fz x := fz_r_le h1 h2 (fz_ne (zn_le h)) (by rw [h3]; omega)
  have g3 := fz_pos_bits hn (by omega)
  exact ⟨Nat.le_trans ((fz_le_bits g3 (zn_le h)).mp g2) h, by omega⟩
theorem zn_sub_le {x v : UInt64} (h : zn_p x) (hv : zn_p v) (hg : fz x ≤ fz v) : fz (FP.dsub x v) ≤ 0 := by
  obtain ⟨sg, n, e, h1, h2, h3⟩ := fz_sub (zn_fin h) (zn_fin hv)
  have g := fz_r_le (y := 0) h1 h2 (fz_ne (by decide)) (by rw [h3, fz_0]; omega)
  rw [fz_0] at g
  exact g
theorem zn_mul97 {x : UInt64} (h : zn_p x) : zn_p (FP.dmul x 4606912202822375178) := by
  obtain ⟨s, c, q, ex⟩ := zn_fin h
  obtain ⟨t, d, r, ev⟩ : FP.Core.DFin 4606912202822375178 := by rw [FP.Core.fin_bits]; decide
  have f1 : FP.Core.fits FP.Core.b64 (.fin s c q) := by rw [← ex]; exact FP.Core.val64_fits x
  have f2 : FP.Core.fits FP.Core.b64 (.fin t d r) := by rw [← ev]; exact FP.Core.val64_fits _
  obtain ⟨h1, h2, h3⟩ := FP.Core.product_units f1 f2
  have hx0 := zn_le h
  have s1 : s = false := by
    have g := FP.Core.sgn_bits (fz_ne hx0)
    rw [ex, decide_eq_false (by omega)] at g
    exact g
  have t1 : t = false := by
    have g := FP.Core.sgn_bits (a := 4606912202822375178) (fz_ne (by decide))
    rw [ev, decide_eq_false (by decide)] at g
    exact g
  subst s1
  subst t1
  have hr : FP.Core.val64 (FP.dmul x 4606912202822375178) = FP.Core.round FP.Core.b64 (.fin (false != false) (c * d) (q + r)) := by
    have g := FP.Core.val64_dmul x 4606912202822375178
    rw [ex, ev, h1] at g
    exact g
  have hn := fz_rn hr
  have hs : FP.Core.sgn (FP.Core.val64 (FP.dmul x 4606912202822375178)) = false := by
    rw [hr]
    exact FP.Core.sgn_roundRatio _ _ _ _ _
  have g3 := fz_sgn_bits hn hs
  have hd : FP.Core.zmag FP.Core.b64 (.fin false d r) ≤ 2 ^ 1074 := by
    rw [← ev, FP.Core.zmag_bits (fz_ne (by decide))]
    decide +kernel
  have g2 : fz (FP.dmul x 4606912202822375178) ≤ fz x := by
    show FP.Core.zval FP.Core.b64 (FP.Core.val64 (FP.dmul x 4606912202822375178)) ≤ _
    rw [hr]
    refine FP.Core.zval_round_le FP.Core.good_b64 (e0 := 2 * FP.Core.b64.qmin) (FP.Core.val64_fits x) (fz_ne hx0) (by rw [FP.Core.qmin_b64]; decide) h2 ?_
    have e1 : FP.Core.signed (false != false) (FP.Core.inUnits (c * d) (q + r) (2 * FP.Core.b64.qmin)) = ((FP.Core.zmag FP.Core.b64 (.fin false c q) * FP.Core.zmag FP.Core.b64 (.fin false d r) : Nat) : Int) := by
      rw [h3]
      rfl
    have e2 : FP.Core.zval FP.Core.b64 (FP.Core.val64 x) = ((FP.Core.zmag FP.Core.b64 (.fin false c q) : Nat) : Int) := by
      rw [ex]
      rfl
    rw [e1, e2, show (FP.Core.b64.qmin - 2 * FP.Core.b64.qmin).toNat = 1074 by rw [FP.Core.qmin_b64]; decide, ← Int.natCast_mul, Int.ofNat_le]
    exact Nat.mul_le_mul_left _ hd
  exact Nat.le_trans ((fz_le_bits g3 hx0).mp g2) h
/-- a number without sign, below the start of a block of exponents -/
def zn_K (K : Nat) (x : UInt64) : Prop := x.toNat < K * 2 ^ 52
theorem zn_K_of {x : UInt64} (h : zn_p x) : zn_K 1028 x := Nat.lt_of_le_of_lt h (by decide)
theorem zn_K_mono {K L : Nat} {x : UInt64} (h : zn_K K x) (hl : K ≤ L) : zn_K L x := Nat.lt_of_lt_of_le h (Nat.mul_le_mul_right _ hl)
theorem zn_K_le {K : Nat} {x : UInt64} (h : zn_K K x) (hK : K ≤ 2047) : x.toNat < 9218868437227405312 := Nat.lt_of_lt_of_le h (Nat.le_trans (Nat.mul_le_mul_right _ hK) (by decide))
theorem zn_K_fin {K : Nat} {x : UInt64} (h : zn_K K x) (hK : K ≤ 2047) : FP.Core.DFin x := by
  have h1 := zn_K_le h hK
  rw [FP.Core.fin_bits, Nat.mod_eq_of_lt (by omega)]
  exact h1
theorem zn_addK {K : Nat} {x y : UInt64} (h : zn_K K x) (hy : zn_K K y) (hK : K ≤ 2040) : zn_K (K + 2) (FP.dadd x y) ∧ fz_n (FP.dadd x y) := by
  have hx1 := zn_K_le h (by omega)
  have hy1 := zn_K_le hy (by omega)
  obtain ⟨sg, n, e, h1, h2, h3⟩ := fz_add (zn_K_fin h (by omega)) (zn_K_fin hy (by omega))
  have hn := fz_rn h1
  have m := FP.Core.dadd_mag (a := x) (b := y) (K := K) (by rw [Nat.mod_eq_of_lt (by omega)]; exact h) (by rw [Nat.mod_eq_of_lt (by omega)]; exact hy) (by omega)
  have x0 : 0 ≤ fz x := by rw [fz_units (by omega)]; exact Int.natCast_nonneg _
  have y0 : 0 ≤ fz y := by rw [fz_units (by omega)]; exact Int.natCast_nonneg _
  have hs : FP.Core.sgn (FP.Core.val64 (FP.dadd x y)) = false := by
    obtain ⟨s, c, q, ex⟩ := zn_K_fin h (by omega)
    obtain ⟨t, d, r, ev⟩ := zn_K_fin hy (by omega)
    have s1 : s = false := by
      have g := FP.Core.sgn_bits (fz_ne (Nat.le_of_lt hx1))
      rw [ex, decide_eq_false (by omega)] at g
      exact g
    have t1 : t = false := by
      have g := FP.Core.sgn_bits (fz_ne (Nat.le_of_lt hy1))
      rw [ev, decide_eq_false (by omega)] at g
      exact g
    subst s1
    subst t1
    have g := FP.Core.val64_dadd x y
    rw [ex, ev] at g
    have g1 : FP.Core.val64 (FP.dadd x y) = FP.Core.roundRatio FP.Core.b64 (FP.Core.sumSign false false (FP.Core.sumUnits false c q false d r (min q r))) (FP.Core.sumUnits false c q false d r (min q r)).natAbs 1 (min q r) := g
    rw [g1, FP.Core.sgn_roundRatio]
    unfold FP.Core.sumSign
    split
    · rfl
    · refine decide_eq_false ?_
      unfold FP.Core.sumUnits
      show ¬ ((FP.Core.inUnits c q (min q r) : Nat) : Int) + ((FP.Core.inUnits d r (min q r) : Nat) : Int) < 0
      omega
  have g3 := fz_sgn_bits hn hs
  refine ⟨?_, hn⟩
  have m2 : (FP.dadd x y).toNat % 2 ^ 63 < (K + 2) * 2 ^ 52 := m
  rw [Nat.mod_eq_of_lt (by omega)] at m2
  exact m2
theorem zn_add25 {x : UInt64} (h : zn_p x) : fz_n (FP.dadd x 4612811918334230528) ∧ (FP.dadd x 4612811918334230528).toNat ≤ 9218868437227405312 := by
  obtain ⟨h1, h2⟩ := zn_addK (K := 1028) (zn_K_of h) (zn_K_of (x := 4612811918334230528) (by unfold zn_p; decide)) (by decide)
  exact ⟨h2, Nat.le_of_lt (zn_K_le h1 (by decide))⟩
theorem zn_add0 {x : UInt64} (h : x.toNat ≤ 9218868437227405312) : FP.dadd x 0 = x := by
  refine FP.Core.dadd_zero (fz_ne h) (fun e => ?_)
  rw [e] at h
  exact absurd h (by decide)
theorem zn_up {f : Nat → UInt64} {k : Nat} {x : UInt64} {j : Nat} (hx : zn_p x) (h : zn_p (f j)) : zn_p (vf_upd f k x j) := by
  unfold vf_upd
  split
  · exact hx
  · exact h
theorem zn_0 : zn_p 0 := by unfold zn_p; decide
theorem zn_b1 {x : UInt64} (z : Int32) (h : zn_p x) : zn_p (la_b1 x z) := by
  unfold la_b1
  split
  · rename_i g
    exact (zn_sub_gt h (zn_loss z) ((fz_gt (fz_ne (zn_le h)) (fz_ne (zn_le (zn_loss z)))).mp g)).1
  · exact zn_0
theorem zn_sub_v {x v : UInt64} {z : Int32} (hv : la_loss z = v) (h : zn_p x) : vf_n64 (FP.dsub x v) := by
  subst hv
  exact zn_of_ne (zn_subn h (zn_loss z))
/-- what is left, told the other way -/
theorem zn_b1_m {x : UInt64} (z : Int32) (h : zn_p x) : la_b1 x z = if la_gt (FP.dsub x (la_loss z)) 0 = true then FP.dsub x (la_loss z) else 0 := by
  have hl := zn_loss z
  have n1 := fz_ne (zn_le h)
  have n2 := fz_ne (zn_le hl)
  have n3 := zn_subn h hl
  have n4 : fz_n 0 := fz_ne (by decide)
  unfold la_b1
  by_cases g : la_gt x (la_loss z) = true
  · have g1 := (zn_sub_gt h hl ((fz_gt n1 n2).mp g)).2
    rw [if_pos g, if_pos ((fz_gt n3 n4).mpr (by rw [fz_0]; exact g1))]
  · have g1 : fz x ≤ fz (la_loss z) := Int.not_lt.mp (fun q => g ((fz_gt n1 n2).mpr q))
    have g2 := zn_sub_le h hl g1
    rw [if_neg g, if_neg (fun q => by have g3 := (fz_gt n3 n4).mp q; rw [fz_0] at g3; omega)]
theorem zn_burn {pl le : Nat → Int32} {ch : Nat → UInt64} {n : Nat} (h : ∀ i, i < n → zn_p (ch i)) : ∀ j i, i < n → zn_p (la_burn pl le ch j i)
  | 0, i, hi => h i hi
  | j + 1, i, hi => by
    rw [la_burn]
    split
    · unfold vf_upd
      split
      · rename_i _ e
        subst e
        exact zn_b1 _ (zn_burn h i i hi)
      · exact zn_burn h j i hi
    · exact zn_burn h j i hi
theorem zn_l1 {x y : UInt64} (h : zn_p x) (hy : zn_p y) : zn_p (la_l1 x y) := by
  unfold la_l1
  split
  · rename_i g
    obtain ⟨g1, g2⟩ := zn_add25 h
    have g3 := (fz_lt g1 (fz_ne (zn_le hy))).mp g
    exact Nat.le_trans (Nat.le_of_lt ((fz_lt_bits g2 (zn_le hy)).mp g3)) hy
  · exact hy
theorem zn_lo {pl : Nat → Int32} {ch ca : Nat → UInt64} {n : Nat} (h : ∀ i, i < n → zn_p (ch i)) (hc : ∀ i, i < n → zn_p (ca i)) : ∀ j i, i < n → zn_p ((la_lo pl ch ca j).1 i)
  | 0, i, hi => h i hi
  | j + 1, i, hi => by
    rw [la_lo]
    split
    · show zn_p (vf_upd (la_lo pl ch ca j).1 j (la_l1 ((la_lo pl ch ca j).1 j) (ca j)) i)
      unfold vf_upd
      split
      · rename_i _ e
        subst e
        exact zn_l1 (zn_lo h hc i i hi) (hc i hi)
      · exact zn_lo h hc j i hi
    · exact zn_lo h hc j i hi
theorem zn_sum {pl : Nat → Int32} {f : Nat → UInt64} {n : Nat} (h : ∀ i, i < n → zn_p (f i)) (hn : n ≤ 40) : ∀ j, j ≤ n → zn_K (1028 + 2 * j) (la_sum pl f j)
  | 0, _ => by rw [la_sum]; exact zn_K_of zn_0
  | j + 1, hj => by
    have ih := zn_sum (pl := pl) h hn j (by omega)
    rw [la_sum]
    split
    · exact (zn_addK ih (zn_K_mono (zn_K_of (h j (by omega))) (by omega)) (by omega)).1
    · exact zn_K_mono ih (by omega)
theorem zn_sum_n {pl : Nat → Int32} {f : Nat → UInt64} {n : Nat} (h : ∀ i, i < n → zn_p (f i)) (hn : n ≤ 40) {j : Nat} (hj : j < n) : vf_n64 (FP.dadd (la_sum pl f j) (f j)) :=
  zn_of_ne (zn_addK (K := 1028 + 2 * j) (zn_sum h hn j (by omega)) (zn_K_mono (zn_K_of (h j hj)) (by omega)) (by omega)).2
