/-! FLOATS: 64ths as floats are exact -/
/-- k 64ths, as both the class and the reference make them -/
def fq (k : Int) : UInt32 := FP.fdiv (FP.i2f (Int32.ofInt k)) 1115684864
def R6 (k : Int) : FP.Core.Datum := FP.Core.roundRatio FP.Core.b32 (decide (k < 0)) k.natAbs 1 (-6)
theorem fq_64 : FP.Core.val32 1115684864 = .fin false (2 ^ 23) (-17) := by decide +kernel
theorem fq_i2f {k : Int} (h : -16777216 < k ∧ k < 16777216) : ∃ c q, FP.Core.val32 (FP.i2f (Int32.ofInt k)) = .fin (decide (k < 0)) c q ∧ FP.Core.Whole k (.fin (decide (k < 0)) c q) := by
  have h1 : (Int32.ofInt k).toInt64.toInt = k := by rw [Int32.toInt_toInt64, oi_T (by omega)]
  have e : FP.i2f (Int32.ofInt k) = FP.Core.l2f (Int32.ofInt k).toInt64 := FP.Core.i2f_l2f _
  obtain ⟨c, q, hs⟩ := FP.Core.l2f_shape (Int32.ofInt k).toInt64
  have hw := FP.Core.l2f_whole (a := (Int32.ofInt k).toInt64) (by unfold FP.Core.Small24; rw [h1]; exact h)
  rw [h1] at hs hw
  rw [hs] at hw
  exact ⟨c, q, by rw [e]; exact hs, hw⟩
theorem fq_val {k : Int} (h : -16777216 < k ∧ k < 16777216) : FP.Core.val32 (fq k) = R6 k := by
  obtain ⟨c, q, hv, hw⟩ := fq_i2f h
  have e : FP.Core.val32 (fq k) = FP.Core.quotient FP.Core.b32 (FP.Core.val32 (FP.i2f (Int32.ofInt k))) (FP.Core.val32 1115684864) := FP.Core.val32_fdiv _ _
  rw [e, hv, fq_64]
  show FP.Core.roundRatio FP.Core.b32 ((decide (k < 0)) != false) c (2 ^ 23) (q - (-17)) = _
  rw [Bool.bne_false]
  refine FP.Core.roundRatio_congr (by decide) (by decide) ?_
  have h9 := FP.Core.whole_natAbs hw
  rcases Int.lt_or_le q 0 with hq | hq
  · have e1 : q.toNat = 0 := by omega
    obtain ⟨n, hn⟩ : ∃ n : Nat, q = -(n : Int) := ⟨(-q).toNat, by omega⟩
    subst hn
    have e2 : (- -(n : Int)).toNat = n := by omega
    rw [e1, e2, Nat.pow_zero, Nat.mul_one] at h9
    subst h9
    rcases Nat.lt_or_ge 23 n with hn | hn
    · have e3 : (-(n : Int) - -17 - -6).toNat = 0 := by omega
      have e4 : (-6 - (-(n : Int) - -17)).toNat = n - 23 := by omega
      have e5 : 2 ^ n = 2 ^ 23 * 2 ^ (n - 23) := by rw [← Nat.pow_add]; congr 1; omega
      rw [e3, e4, e5]
      simp only [Nat.mul_one, Nat.pow_zero, Nat.mul_assoc]
    · have e3 : (-(n : Int) - -17 - -6).toNat = 23 - n := by omega
      have e4 : (-6 - (-(n : Int) - -17)).toNat = 0 := by omega
      have e5 : 2 ^ 23 = 2 ^ n * 2 ^ (23 - n) := by rw [← Nat.pow_add]; congr 1; omega
      rw [e3, e4, e5]
      simp only [Nat.mul_one, Nat.pow_zero, Nat.mul_assoc]
  · obtain ⟨n, hn⟩ : ∃ n : Nat, q = (n : Int) := ⟨q.toNat, by omega⟩
    subst hn
    have e2 : (-(n : Int)).toNat = 0 := by omega
    rw [Int.toNat_natCast, e2, Nat.pow_zero, Nat.mul_one] at h9
    have e3 : ((n : Int) - -17 - -6).toNat = n + 23 := by omega
    have e4 : (-6 - ((n : Int) - -17)).toNat = 0 := by omega
    rw [e3, e4, ← h9, Nat.pow_add]
    simp only [Nat.mul_one, Nat.pow_zero, Nat.mul_assoc]
theorem R6_shape {k : Int} (h : -16777216 < k ∧ k < 16777216) : ∃ c q, R6 k = .fin (decide (k < 0)) c q ∧ FP.Core.Whole k (.fin (decide (k < 0)) c (q + 6)) := by
  by_cases hk : k = 0
  · subst hk
    refine ⟨0, FP.Core.b32.qmin, rfl, ?_⟩
    show FP.Core.signed _ (0 * _) = 0 * _
    rw [Nat.zero_mul, FP.Core.signed_zero, Int.zero_mul]
  · obtain ⟨c, q, hv, hw⟩ := fq_i2f h
    have hf := FP.Core.val32_fits (FP.i2f (Int32.ofInt k))
    rw [hv] at hf
    obtain ⟨f1, f2, f3, f4⟩ := hf
    have h9 := FP.Core.whole_natAbs hw
    have hp : FP.Core.b32.p = 24 := rfl
    have hqm : FP.Core.b32.qmin = -149 := by decide
    have hqx : FP.Core.b32.qmax = 104 := by decide
    rw [hp] at f1
    rw [hqm] at f2 f4
    rw [hqx] at f3
    have hq24 : -24 < q := by
      rcases Int.lt_or_le (-24) q with h1 | h1
      · exact h1
      · exfalso
        have e1 : q.toNat = 0 := by omega
        rw [e1, Nat.pow_zero, Nat.mul_one] at h9
        have h2 : 2 ^ 24 ≤ 2 ^ (-q).toNat := Nat.pow_le_pow_right (by decide) (by omega)
        have h3 : 1 * 2 ^ (-q).toNat ≤ k.natAbs * 2 ^ (-q).toNat := Nat.mul_le_mul_right _ (by omega)
        omega
    refine ⟨c, q - 6, ?_, by rw [show q - 6 + 6 = q by omega]; exact hw⟩
    refine FP.Core.roundRatio_exact FP.Core.good_b32 (by decide) ⟨by rw [hp]; exact f1, by rw [hqm]; omega, by rw [hqx]; omega, Or.inr (f4.resolve_left (by omega))⟩ ?_
    rw [show (-6 - (q - 6)).toNat = (-q).toNat by omega, show (q - 6 - -6).toNat = q.toNat by omega, Nat.mul_one, h9]
theorem R6_nan {k : Int} : R6 k ≠ .nan := by
  unfold R6
  rcases FP.Core.roundRatio_cases FP.Core.b32 (decide (k < 0)) k.natAbs 1 (-6) with ⟨c, q, h⟩ | h <;> rw [h] <;> exact FP.Core.Datum.noConfusion
/-- a sum of 64ths, exactly -/
theorem R6_sum {i j : Int} {s t : Bool} {c d : Nat} {q r : Int} (hx : FP.Core.Whole i (.fin s c (q + 6))) (hy : FP.Core.Whole j (.fin t d (r + 6))) (hz : i + j = 0 → (s && t) = false) :
    FP.Core.round FP.Core.b32 (FP.Core.exactSum (.fin s c q) (.fin t d r)) = R6 (i + j) := by
  have hw := FP.Core.whole_sum hx hy
  have hU : FP.Core.sumUnits s c (q + 6) t d (r + 6) (min (q + 6) (r + 6)) = FP.Core.sumUnits s c q t d r (min q r) := by
    have hm : min (q + 6) (r + 6) = min q r + 6 := by omega
    unfold FP.Core.sumUnits FP.Core.inUnits
    rw [hm, show q + 6 - (min q r + 6) = q - min q r by omega, show r + 6 - (min q r + 6) = r - min q r by omega]
  have e1 : FP.Core.exactSum (.fin s c (q + 6)) (.fin t d (r + 6)) = .fin (FP.Core.sumSign s t (FP.Core.sumUnits s c q t d r (min q r))) (FP.Core.sumUnits s c q t d r (min q r)).natAbs (min q r + 6) := by
    show FP.Core.Datum.fin _ _ _ = _
    rw [hU]
    congr 1
    omega
  rw [e1] at hw
  have e2 : FP.Core.exactSum (.fin s c q) (.fin t d r) = .fin (FP.Core.sumSign s t (FP.Core.sumUnits s c q t d r (min q r))) (FP.Core.sumUnits s c q t d r (min q r)).natAbs (min q r) := rfl
  rw [e2]
  have h9 := FP.Core.whole_natAbs hw
  have hsg : FP.Core.sumSign s t (FP.Core.sumUnits s c q t d r (min q r)) = decide (i + j < 0) := by
    by_cases h : i + j = 0
    · have h1 := (FP.Core.whole_zero hw).mpr h
      have h2 : FP.Core.sumUnits s c q t d r (min q r) = 0 := by omega
      unfold FP.Core.sumSign
      rw [if_pos h2, hz h, h]; rfl
    · exact FP.Core.whole_sign hw h
  rw [hsg]
  show FP.Core.roundRatio FP.Core.b32 (decide (i + j < 0)) _ 1 (min q r) = _
  refine FP.Core.roundRatio_congr (by decide) (by decide) ?_
  rw [show (min q r - -6).toNat = (min q r + 6).toNat by omega, show (-6 - min q r).toNat = (-(min q r + 6)).toNat by omega, Nat.mul_one, Nat.mul_one]
  exact h9
theorem fq_nan {k : Int} (h : -16777216 < k ∧ k < 16777216) : FP.Core.val32 (fq k) ≠ .nan := by rw [fq_val h]; exact R6_nan
theorem fq_inj {x : UInt32} {k : Int} (h : -16777216 < k ∧ k < 16777216) (hx : FP.Core.val32 x = R6 k) : x = fq k :=
  FP.Core.val32_inj (by rw [hx]; exact R6_nan) (by rw [hx, fq_val h])
theorem fq_add {i j : Int} (hi : -16777216 < i ∧ i < 16777216) (hj : -16777216 < j ∧ j < 16777216) (h : -16777216 < i + j ∧ i + j < 16777216) : FP.fadd (fq i) (fq j) = fq (i + j) := by
  refine fq_inj h ?_
  have e : FP.Core.val32 (FP.fadd (fq i) (fq j)) = FP.Core.round FP.Core.b32 (FP.Core.exactSum (FP.Core.val32 (fq i)) (FP.Core.val32 (fq j))) := FP.Core.val32_fadd _ _
  rw [e, fq_val hi, fq_val hj]
  obtain ⟨c, q, e1, w1⟩ := R6_shape hi
  obtain ⟨d, r, e2, w2⟩ := R6_shape hj
  rw [e1, e2]
  refine R6_sum w1 w2 (fun hz => ?_)
  rw [Bool.and_eq_false_iff]; simp; omega
theorem fq_sub {i j : Int} (hi : -16777216 < i ∧ i < 16777216) (hj : -16777216 < j ∧ j < 16777216) (h : -16777216 < i - j ∧ i - j < 16777216) : FP.fsub (fq i) (fq j) = fq (i - j) := by
  refine fq_inj h ?_
  have e : FP.Core.val32 (FP.fsub (fq i) (fq j)) = FP.Core.round FP.Core.b32 (FP.Core.exactSum (FP.Core.val32 (fq i)) (FP.Core.negate (FP.Core.val32 (fq j)))) := FP.Core.val32_fsub _ _
  rw [e, fq_val hi, fq_val hj]
  obtain ⟨c, q, e1, w1⟩ := R6_shape hi
  obtain ⟨d, r, e2, w2⟩ := R6_shape hj
  rw [e1, e2]
  have w3 := FP.Core.whole_negate w2
  simp only [FP.Core.negate] at w3 ⊢
  have hh := R6_sum w1 w3 (fun hz => by rw [Bool.and_eq_false_iff]; simp; omega)
  rw [← Int.sub_eq_add_neg] at hh
  exact hh
theorem fq_cmp {i j : Int} (hi : -16777216 < i ∧ i < 16777216) (hj : -16777216 < j ∧ j < 16777216) : FP.fcmp (fq i) (fq j) = some (compare i j) := by
  have e : FP.fcmp (fq i) (fq j) = FP.Core.order (FP.Core.val32 (fq i)) (FP.Core.val32 (fq j)) := rfl
  rw [e, fq_val hi, fq_val hj]
  obtain ⟨c, q, e1, w1⟩ := R6_shape hi
  obtain ⟨d, r, e2, w2⟩ := R6_shape hj
  rw [e1, e2, ← FP.Core.order_whole w1 w2]
  simp only [FP.Core.order]
  have hm : min (q + 6) (r + 6) = min q r + 6 := by omega
  unfold FP.Core.inUnits
  rw [hm, show q + 6 - (min q r + 6) = q - min q r by omega, show r + 6 - (min q r + 6) = r - min q r by omega]
theorem fq_neg {k : Int} (h : -16777216 < k ∧ k < 16777216) (h0 : k ≠ 0) : FP.fneg (fq k) = fq (-k) := by
  refine fq_inj (by omega) ?_
  rw [FP.val32_fneg, fq_val h]
  unfold R6
  rw [FP.Core.negate_roundRatio, Int.natAbs_neg]
  congr 1
  by_cases hk : k < 0
  · have h2 : ¬ -k < 0 := by omega
    rw [decide_eq_true hk, decide_eq_false h2]; rfl
  · have h2 : -k < 0 := by omega
    rw [decide_eq_false hk, decide_eq_true h2]; rfl
theorem fq_0 : fq 0 = FP.fconst0 := by decide +kernel
theorem n32_of {x : UInt32} (h : FP.Core.val32 x ≠ .nan) : vf_n32 x := by
  unfold vf_n32
  have h1 : FP.Core.fIsNaN x = false := (FP.Core.notNaN_iff32 x).mpr h
  have h2 : ¬ 2139095040 < x.toNat % 2 ^ 31 := fun h3 => by
    rw [(FP.Core.isNaN_bits32 x).mpr h3] at h1
    exact absurd h1 (by decide)
  rw [UInt32.le_iff_toNat_le, FP.Core.mask_toNat32]
  show x.toNat % 2 ^ 31 ≤ 2139095040
  omega
theorem fq_n32 {k : Int} (h : -16777216 < k ∧ k < 16777216) : vf_n32 (fq k) := n32_of (fq_nan h)
