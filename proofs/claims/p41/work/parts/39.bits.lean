/-! THE BITS OF A WEIGHT; BADGES COUNTED -/
section LW
variable {p : Program} {l : Launch} {e : Env} {R : Room} {s : State} {m : MethodId} {args : Array Value} {below : List Frame} {meth : Method} {c : Code} {T : State} {locs : List Loc} {cells slots : Nat}
theorem lw_int (X : Stand p l e R s m args below meth c T locs cells slots) (hexec : p.tables.exec = Jvm.exec) {own : String} {index : Nat} {v : Int32} (hown : s.vm.findClass own = some m.cls)
    (hconst : (Jvm.Cond.constant own index v).before args s = true) {g : JFrame} (hg : g.method = m) (hdg : decode c.code g.pc = .ok (.ldc_w index, 3)) :
    ∀ target, Steps p.tables e below (T.setTop { g with pc := g.pc + 3, stack := .int v :: g.stack }) target → Steps p.tables e below (T.setTop g) target := by
  obtain ⟨k, cf, bytes, hk, hcf, hcp, hb⟩ := Cond.constant_spec hown hconst
  obtain ⟨k', hk', he⟩ := X.warmed.alike.2.2 _ _ hk
  intro target hrest
  subst hg
  jvm_step X.here [hexec, hdg, Op.ldc_w.wp_int (s := T) (f := g) X.here.top hk' (by rw [he]; exact hcf) hcp, hb]
  exact hrest
theorem lw_flt (X : Stand p l e R s m args below meth c T locs cells slots) (hexec : p.tables.exec = Jvm.exec) {own : String} {index : Nat} {b : UInt32} (hown : s.vm.findClass own = some m.cls)
    (hconst : (Jvm.Cond.constantFloat own index b).before args s = true) {g : JFrame} (hg : g.method = m) (hdg : decode c.code g.pc = .ok (.ldc_w index, 3)) :
    ∀ target, Steps p.tables e below (T.setTop { g with pc := g.pc + 3, stack := .float b :: g.stack }) target → Steps p.tables e below (T.setTop g) target := by
  obtain ⟨k, cf, hk, hcf, hcp⟩ := Cond.constantFloat_spec hown hconst
  obtain ⟨k', hk', he⟩ := X.warmed.alike.2.2 _ _ hk
  intro target hrest
  subst hg
  jvm_step X.here [hexec, hdg, Op.ldc_w.wp_float (s := T) (f := g) X.here.top hk' (by rw [he]; exact hcf) hcp]
  exact hrest
end LW
section RW
variable {G : GG} {E : EE} {own : String} {b : ByteArray} {k n pc : Nat} {L : List (Nat × Value)} {st : List Value} {m : Mm}
theorem ga_ldcW (ok : OK0 G E own b) {index : Nat} {z : Int} (d : decode b pc = .ok (.ldc_w index, 3)) (hw : Jvm.Cond.constant own index (Int32.ofInt z) ∈ BIG)
    (kk : WA G E k n (pc + 3) L (vI z :: st) m) : WA G E k n pc L st m := by
  intro H locs ls hW hS hl T hT X
  obtain ⟨t, a, b1⟩ := kk H locs ls hW hS hl T hT X
  exact ⟨t, lw_int X ok.x ok.o (ok.w _ hw) rfl (by rw [ok.b]; exact d) t a, b1⟩
theorem ga_ldcWf (ok : OK0 G E own b) {index : Nat} {z : UInt32} (d : decode b pc = .ok (.ldc_w index, 3)) (hw : Jvm.Cond.constantFloat own index z ∈ BIG)
    (kk : WA G E k n (pc + 3) L (.float z :: st) m) : WA G E k n pc L st m := by
  intro H locs ls hW hS hl T hT X
  obtain ⟨t, a, b1⟩ := kk H locs ls hW hS hl T hT X
  exact ⟨t, lw_flt X ok.x ok.o (ok.w _ hw) rfl (by rw [ok.b]; exact d) t a, b1⟩
theorem ga_iorZ (ok : OK0 G E own b) {x y z : Int} (d : decode b pc = .ok (.ior, 1)) (hz : Int32.ofInt x ||| Int32.ofInt y = Int32.ofInt z)
    (kk : WA G E k n (pc + 1) L (vI z :: st) m) : WA G E k n pc L (vI y :: vI x :: st) m := by
  intro H locs ls hW hS hl
  have h := kk H locs ls hW hS hl
  refine lv_ior ok.x ok.b d ?_
  rw [hz]
  exact h
def zAnd (x y : Int) : Int := (Int32.ofInt x &&& Int32.ofInt y).toInt
def zShr (x y : Int) : Int := ((Int32.ofInt x).toUInt32 >>> ((Int32.ofInt y).toUInt32 &&& Int32.toUInt32 31)).toInt32.toInt
theorem ga_iandZ (ok : OK0 G E own b) {x y : Int} (d : decode b pc = .ok (.iand, 1))
    (kk : WA G E k n (pc + 1) L (vI (zAnd x y) :: st) m) : WA G E k n pc L (vI y :: vI x :: st) m := by
  intro H locs ls hW hS hl
  have h := kk H locs ls hW hS hl
  refine lv_iand ok.x ok.b d ?_
  rw [show Int32.ofInt x &&& Int32.ofInt y = Int32.ofInt (zAnd x y) from (Int32.ofInt_toInt _).symm]
  exact h
theorem ga_iushrZ (ok : OK0 G E own b) {x y : Int} (d : decode b pc = .ok (.iushr, 1))
    (kk : WA G E k n (pc + 1) L (vI (zShr x y) :: st) m) : WA G E k n pc L (vI y :: vI x :: st) m := by
  intro H locs ls hW hS hl
  have h := kk H locs ls hW hS hl
  exact lv_iushr ok.x ok.b d (show _ = Int32.ofInt (zShr x y) from (Int32.ofInt_toInt _).symm) h
end RW
/-! floats in their normal form -/
theorem n_t : FP.Core.b32.tails = 8388608 := by decide
theorem n_fits {s : Bool} {C : Nat} {q : Int} (hC : 8388608 ≤ C ∧ C < 16777216) (hq : -149 ≤ q ∧ q ≤ 104) : FP.Core.fits FP.Core.b32 (.fin s C q) :=
  ⟨by show C < 2 ^ 24; omega, by show -149 ≤ q; omega, by show q ≤ 104; omega, Or.inr (by rw [n_t]; exact hC.1)⟩
theorem n_1 : FP.Core.val32 FP.fconst1 = .fin false (2 ^ 23) (-23) := by decide +kernel
theorem n_2 : FP.Core.val32 FP.fconst2 = .fin false (2 ^ 23) (-22) := by decide +kernel
theorem n_8 : FP.Core.val32 1258291200 = .fin false (2 ^ 23) 0 := by decide +kernel
theorem n_half {x : UInt32} {C : Nat} {q : Int} (hx : FP.Core.val32 x = .fin false C q) (hC : 8388608 ≤ C ∧ C < 16777216) (hq : -140 ≤ q ∧ q ≤ 100) : FP.Core.val32 (FP.fdiv x FP.fconst2) = .fin false C (q - 1) := by
  have e : FP.Core.val32 (FP.fdiv x FP.fconst2) = FP.Core.quotient FP.Core.b32 (FP.Core.val32 x) (FP.Core.val32 FP.fconst2) := FP.Core.val32_fdiv _ _
  rw [e, hx, n_2]
  show FP.Core.roundRatio FP.Core.b32 (false != false) C (2 ^ 23) (q - (-22)) = _
  refine FP.Core.roundRatio_exact FP.Core.good_b32 (by decide) (n_fits hC (by omega)) ?_
  rw [show (q - -22 - (q - 1)).toNat = 23 by omega, show (q - 1 - (q - -22)).toNat = 0 by omega, Nat.pow_zero, Nat.mul_one]
theorem n_dbl {x : UInt32} {C : Nat} {q : Int} (hx : FP.Core.val32 x = .fin false C q) (hC : 8388608 ≤ C ∧ C < 16777216) (hq : -140 ≤ q ∧ q ≤ 100) : FP.Core.val32 (FP.fmul x FP.fconst2) = .fin false C (q + 1) := by
  have e : FP.Core.val32 (FP.fmul x FP.fconst2) = FP.Core.round FP.Core.b32 (FP.Core.exactProduct (FP.Core.val32 x) (FP.Core.val32 FP.fconst2)) := FP.Core.val32_fmul _ _
  rw [e, hx, n_2]
  show FP.Core.roundRatio FP.Core.b32 (false != false) (C * 2 ^ 23) 1 (q + -22) = _
  refine FP.Core.roundRatio_exact FP.Core.good_b32 (by decide) (n_fits hC (by omega)) ?_
  rw [show (q + -22 - (q + 1)).toNat = 0 by omega, show (q + 1 - (q + -22)).toNat = 23 by omega, Nat.pow_zero, Nat.mul_one, Nat.mul_one]
theorem cmpv {i j : Int} {op : CmpOp} : Op.cmpValue (some (compare i j)) op = Int32.ofInt (cmpz i j) := by
  unfold cmpz
  by_cases h : i < j
  · rw [if_pos h, show compare i j = .lt from Int.compare_eq_lt.mpr h]; cases op <;> rfl
  · by_cases h2 : i = j
    · rw [if_neg h, if_pos h2, show compare i j = .eq from Int.compare_eq_eq.mpr h2]; cases op <;> rfl
    · rw [if_neg h, if_neg h2, show compare i j = .gt from Int.compare_eq_gt.mpr (by omega)]; cases op <;> rfl
theorem n_cmp {x y : UInt32} {C : Nat} {q r : Int} {op : CmpOp} (hx : FP.Core.val32 x = .fin false C q) (hy : FP.Core.val32 y = .fin false (2 ^ 23) r) (hC : 8388608 ≤ C ∧ C < 16777216) : ∃ z : Int, Op.cmpValue (FP.fcmp x y) op = Int32.ofInt z ∧ (-2147483648 ≤ z ∧ z ≤ 2147483647) ∧ (z < 0 ↔ q < r) := by
  have e : FP.fcmp x y = FP.Core.order (FP.Core.val32 x) (FP.Core.val32 y) := rfl
  rw [e, hx, hy]
  have e2 : FP.Core.order (.fin false C q) (.fin false (2 ^ 23) r) = some (compare ((FP.Core.inUnits C q (min q r) : Nat) : Int) ((FP.Core.inUnits (2 ^ 23) r (min q r) : Nat) : Int)) := rfl
  rw [e2]
  refine ⟨_, cmpv, cmpz_rng _ _, ?_⟩
  rw [cmpz_lt]
  unfold FP.Core.inUnits
  rcases Int.lt_or_le q r with h | h
  · rw [show min q r = q by omega, show (q - q).toNat = 0 by omega]
    obtain ⟨j, hj⟩ : ∃ j : Nat, (r - q).toNat = j + 1 := ⟨(r - q).toNat - 1, by omega⟩
    rw [hj, Nat.pow_succ]
    have h1 : 1 ≤ 2 ^ j := Nat.one_le_two_pow
    have h2 : 2 ^ 23 * 1 ≤ 2 ^ 23 * 2 ^ j := Nat.mul_le_mul_left _ h1
    have h3 : 2 ^ 23 * (2 ^ j * 2) = 2 ^ 23 * 2 ^ j * 2 := (Nat.mul_assoc _ _ _).symm
    constructor
    · intro _; exact h
    · intro _; omega
  · rw [show min q r = r by omega, show (r - r).toNat = 0 by omega]
    have h1 : 1 ≤ 2 ^ (q - r).toNat := Nat.one_le_two_pow
    have h2 : C * 1 ≤ C * 2 ^ (q - r).toNat := Nat.mul_le_mul_left _ h1
    constructor
    · intro h9; omega
    · intro h9; omega
theorem fq_norm {k : Int} (h : -60000 ≤ k ∧ k ≤ 60000) (h0 : k ≠ 0) : ∃ C q, FP.Core.val32 (fq k) = .fin (decide (k < 0)) C q ∧ (8388608 ≤ C ∧ C < 16777216) ∧ -29 ≤ q ∧ q ≤ -14 := by
  obtain ⟨C, q, e, w⟩ := R6_shape (k := k) (by omega)
  have hf := FP.Core.val32_fits (fq k)
  rw [fq_val (by omega), e] at hf
  obtain ⟨f1, f2, f3, f4⟩ := hf
  have h9 := FP.Core.whole_natAbs w
  have f1 : C < 2 ^ 24 := f1
  have f2 : -149 ≤ q := f2
  have f4 : q = -149 ∨ 8388608 ≤ C := by rw [← n_t]; exact f4
  have ha : 1 ≤ k.natAbs ∧ k.natAbs ≤ 60000 := by omega
  have hq1 : -29 ≤ q := by
    rcases Int.lt_or_le q (-29) with h1 | h1
    · exfalso
      rw [show (q + 6).toNat = 0 by omega, Nat.pow_zero, Nat.mul_one] at h9
      have h2 : 2 ^ 24 ≤ 2 ^ (-(q + 6)).toNat := Nat.pow_le_pow_right (by decide) (by omega)
      have h3 : 1 * 2 ^ (-(q + 6)).toNat ≤ k.natAbs * 2 ^ (-(q + 6)).toNat := Nat.mul_le_mul_right _ ha.1
      omega
    · exact h1
  have hC : 8388608 ≤ C := by omega
  refine ⟨C, q, by rw [fq_val (by omega)]; exact e, ⟨hC, f1⟩, hq1, ?_⟩
  rcases Int.lt_or_le (-14) q with h1 | h1
  · exfalso
    rcases Int.lt_or_le (q + 6) 0 with h2 | h2
    · rw [show (q + 6).toNat = 0 by omega, Nat.pow_zero, Nat.mul_one] at h9
      have h3 : 2 ^ (-(q + 6)).toNat ≤ 2 ^ 7 := Nat.pow_le_pow_right (by decide) (by omega)
      have h4 : k.natAbs * 2 ^ (-(q + 6)).toNat ≤ 60000 * 2 ^ 7 := Nat.mul_le_mul ha.2 h3
      omega
    · rw [show (-(q + 6)).toNat = 0 by omega, Nat.pow_zero, Nat.mul_one] at h9
      have h3 : 1 ≤ 2 ^ (q + 6).toNat := Nat.one_le_two_pow
      have h4 : C * 1 ≤ C * 2 ^ (q + 6).toNat := Nat.mul_le_mul_left _ h3
      omega
  · exact h1
/-- the whole number behind the leading digit -/
theorem n_rest {x : UInt32} {C : Nat} (hx : FP.Core.val32 x = .fin false C (-23)) (hC : 8388608 ≤ C ∧ C < 16777216) : vf_n32 (FP.fsub x FP.fconst1) ∧ vf_n32 (FP.fmul (FP.fsub x FP.fconst1) 1258291200) ∧ FP.f2i (FP.fmul (FP.fsub x FP.fconst1) 1258291200) = Int32.ofInt ((C : Int) - 8388608) := by
  obtain ⟨A, hA⟩ : ∃ A : Nat, C = 8388608 + A := ⟨C - 8388608, by omega⟩
  have e1 : FP.Core.val32 (FP.fsub x FP.fconst1) = FP.Core.round FP.Core.b32 (FP.Core.exactSum (FP.Core.val32 x) (FP.Core.negate (FP.Core.val32 FP.fconst1))) := FP.Core.val32_fsub _ _
  have eU : FP.Core.sumUnits false C (-23) true (2 ^ 23) (-23) (-23) = (A : Int) := by
    unfold FP.Core.sumUnits FP.Core.inUnits FP.Core.signed
    rw [show ((-23 : Int) - -23).toNat = 0 by decide, Nat.pow_zero, Nat.mul_one, Nat.mul_one]
    show (C : Int) + -((2 ^ 23 : Nat) : Int) = A
    omega
  have e2 : FP.Core.exactSum (.fin false C (-23)) (.fin true (2 ^ 23) (-23)) = .fin false A (-23) := by
    show FP.Core.Datum.fin (FP.Core.sumSign false true (FP.Core.sumUnits false C (-23) true (2 ^ 23) (-23) (min (-23) (-23)))) (FP.Core.sumUnits false C (-23) true (2 ^ 23) (-23) (min (-23) (-23))).natAbs (min (-23) (-23)) = _
    rw [show min (-23 : Int) (-23) = -23 by decide, eU]
    unfold FP.Core.sumSign
    by_cases h : (A : Int) = 0
    · rw [if_pos h]; rfl
    · rw [if_neg h, decide_eq_false (by omega)]; rfl
  have e3 : FP.Core.val32 (FP.fsub x FP.fconst1) = FP.Core.roundRatio FP.Core.b32 false A 1 (-23) := by
    rw [e1, hx, n_1]
    show FP.Core.round FP.Core.b32 (FP.Core.exactSum (.fin false C (-23)) (.fin true (2 ^ 23) (-23))) = _
    rw [e2]
    rfl
  obtain ⟨c, q, s1, w1⟩ := R6_shape (k := (A : Int)) (by omega)
  rw [decide_eq_false (by omega)] at s1 w1
  have h9 := FP.Core.whole_natAbs w1
  rw [Int.natAbs_natCast] at h9
  have hf := FP.Core.val32_fits (fq (A : Int))
  rw [fq_val (by omega), s1] at hf
  obtain ⟨f1, f2, f3, f4⟩ := hf
  have f2 : -149 ≤ q := f2
  by_cases hA0 : A = 0
  · have e4 : FP.Core.val32 (FP.fsub x FP.fconst1) = .fin false 0 (-149) := by rw [e3, hA0]; rfl
    have e5 : FP.Core.val32 (FP.fmul (FP.fsub x FP.fconst1) 1258291200) = .fin false 0 (-149) := by
      have e : FP.Core.val32 (FP.fmul (FP.fsub x FP.fconst1) 1258291200) = FP.Core.round FP.Core.b32 (FP.Core.exactProduct (FP.Core.val32 (FP.fsub x FP.fconst1)) (FP.Core.val32 1258291200)) := FP.Core.val32_fmul _ _
      rw [e, e4, n_8]
      rfl
    refine ⟨n32_of (by rw [e4]; exact FP.Core.Datum.noConfusion), n32_of (by rw [e5]; exact FP.Core.Datum.noConfusion), FP.Core.f2i_int ?_⟩
    unfold FP.Core.FInt
    rw [e5, oi_T (by omega), show (C : Int) - 8388608 = 0 by omega]
    show FP.Core.signed _ (0 * _) = 0 * _
    rw [Nat.zero_mul, FP.Core.signed_zero, Int.zero_mul]
  · have hq1 : -29 ≤ q := by
      rcases Int.lt_or_le q (-29) with h1 | h1
      · exfalso
        rw [show (q + 6).toNat = 0 by omega, Nat.pow_zero, Nat.mul_one] at h9
        have h2 : 2 ^ 24 ≤ 2 ^ (-(q + 6)).toNat := Nat.pow_le_pow_right (by decide) (by omega)
        have h3 : 1 * 2 ^ (-(q + 6)).toNat ≤ A * 2 ^ (-(q + 6)).toNat := Nat.mul_le_mul_right _ (by omega)
        have f1 : c < 2 ^ 24 := f1
        omega
      · exact h1
    have f4 : 8388608 ≤ c := by
      rcases f4 with f4 | f4
      · exfalso
        have f4 : q = -149 := f4
        omega
      · rw [← n_t]; exact f4
    have f1 : c < 16777216 := f1
    have f3 : q ≤ 104 := f3
    have e4 : FP.Core.val32 (FP.fsub x FP.fconst1) = .fin false c (q - 17) := by
      rw [e3]
      refine FP.Core.roundRatio_exact FP.Core.good_b32 (by decide) (n_fits ⟨f4, f1⟩ (by omega)) ?_
      rw [show (-23 - (q - 17)).toNat = (-(q + 6)).toNat by omega, show (q - 17 - -23).toNat = (q + 6).toNat by omega, Nat.mul_one]
      exact h9.symm
    have hW : FP.Core.Whole (A : Int) (.fin false (c * 2 ^ 23) (q - 17)) := by
      show (((c * 2 ^ 23) * 2 ^ (q - 17).toNat : Nat) : Int) = (A : Int) * ((2 ^ (-(q - 17)).toNat : Nat) : Int)
      rw [← Int.natCast_mul]
      congr 1
      rcases Int.lt_or_le (q + 6) 0 with h1 | h1
      · rw [show (q + 6).toNat = 0 by omega, Nat.pow_zero, Nat.mul_one] at h9
        rw [show (q - 17).toNat = 0 by omega, Nat.pow_zero, Nat.mul_one, h9, show (-(q - 17)).toNat = (-(q + 6)).toNat + 23 by omega, Nat.pow_add, Nat.mul_assoc]
      · rw [show (-(q + 6)).toNat = 0 by omega, Nat.pow_zero, Nat.mul_one] at h9
        have h3 : 1 ≤ 2 ^ (q + 6).toNat := Nat.one_le_two_pow
        have h4 : c * 1 ≤ c * 2 ^ (q + 6).toNat := Nat.mul_le_mul_left _ h3
        omega
    have e5 : FP.Core.val32 (FP.fmul (FP.fsub x FP.fconst1) 1258291200) = FP.Core.round FP.Core.b32 (.fin false (c * 2 ^ 23) (q - 17)) := by
      have e : FP.Core.val32 (FP.fmul (FP.fsub x FP.fconst1) 1258291200) = FP.Core.round FP.Core.b32 (FP.Core.exactProduct (FP.Core.val32 (FP.fsub x FP.fconst1)) (FP.Core.val32 1258291200)) := FP.Core.val32_fmul _ _
      rw [e, e4, n_8]
      show FP.Core.round FP.Core.b32 (.fin (false != false) (c * 2 ^ 23) (q - 17 + 0)) = _
      rw [Int.add_zero]
      rfl
    have hW2 := FP.Core.whole_round FP.Core.good_b32 (by unfold FP.Core.Wide; decide) (i := (A : Int)) (by show A ≤ 2 ^ 24; omega) hW
    rw [← e5] at hW2
    refine ⟨n32_of (by rw [e4]; exact FP.Core.Datum.noConfusion), n32_of (fun h => by rw [h] at hW2; exact hW2), FP.Core.f2i_int ?_⟩
    unfold FP.Core.FInt
    rw [oi_T (by omega), show (C : Int) - 8388608 = A by omega]
    exact hW2
theorem fword_lo {x : UInt32} (h : x.toNat < 2147483648) : fword x = x.toNat := by
  unfold fword
  show x.toBitVec.toInt = _
  rw [BitVec.toInt_eq_toNat_cond, if_pos (by show 2 * x.toNat < 2 ^ 32; omega)]
  rfl
theorem fword_hi {x : UInt32} (h : 2147483648 ≤ x.toNat) : fword x = (x.toNat : Int) - 4294967296 := by
  unfold fword
  show x.toBitVec.toInt = _
  rw [BitVec.toInt_eq_toNat_cond, if_neg (by show ¬ 2 * x.toNat < 2 ^ 32; omega)]
  rfl
theorem n_bits {x : UInt32} {s : Bool} {C : Nat} {q : Int} (hx : FP.Core.val32 x = .fin s C q) (hC : 8388608 ≤ C ∧ C < 16777216) (hq : -29 ≤ q ∧ q ≤ -14) : fword x = (q + 150) * 8388608 + ((C : Int) - 8388608) - (if s = true then 2147483648 else 0) := by
  have h1 := FP.Core.of32_val32 (a := x) (by rw [hx]; exact FP.Core.Datum.noConfusion)
  rw [hx] at h1
  have h2 : FP.Core.encode FP.Core.b32 (.fin s C q) = (s.toNat * 256 + ((q + 149).toNat + 1)) * 8388608 + (C - 8388608) := by
    show (if C < 8388608 then _ else _) = _
    rw [if_neg (by omega)]
    show (s.toNat * 256 + ((q - -149).toNat + 1)) * 8388608 + (C - 8388608) = _
    rw [show q - -149 = q + 149 by omega]
  have hs : s.toNat ≤ 1 := by cases s <;> decide
  have h3 : x.toNat = (s.toNat * 256 + ((q + 149).toNat + 1)) * 8388608 + (C - 8388608) := by
    rw [← h1]
    show (UInt32.ofNat _).toNat = _
    rw [h2, UInt32.toNat_ofNat_of_lt']
    show _ < 4294967296
    omega
  cases s with
  | false =>
    have h3 : x.toNat = (0 * 256 + ((q + 149).toNat + 1)) * 8388608 + (C - 8388608) := h3
    rw [fword_lo (by omega), if_neg (by decide)]
    omega
  | true =>
    have h3 : x.toNat = (1 * 256 + ((q + 149).toNat + 1)) * 8388608 + (C - 8388608) := h3
    rw [fword_hi (by omega), if_pos rfl]
    omega
theorem or_z {i a b : Nat} {x z : Int} (hb : b < 2 ^ i) (hx : x = ((2 ^ i * a : Nat) : Int) ∨ x = ((2 ^ i * a : Nat) : Int) - 4294967296) (hz : z = x + b) : Int32.ofInt x ||| Int32.ofInt (b : Int) = Int32.ofInt z := by
  have sh : ∀ y : Int, Int32.ofInt (y - 4294967296) = Int32.ofInt y := fun y => by
    rw [Int32.ofInt_sub, show Int32.ofInt 4294967296 = 0 by decide, Int32.sub_zero]
  have h := Nat.two_pow_add_eq_or_of_lt hb a
  have h2 : Int32.ofInt ((2 ^ i * a : Nat) : Int) ||| Int32.ofInt (b : Int) = Int32.ofInt (((2 ^ i * a + b : Nat)) : Int) := by
    rw [oi_or (by omega) (by omega), h]
    rfl
  rcases hx with rfl | rfl
  · rw [h2, hz]; congr 1
  · rw [sh, h2, hz, ← sh]
    congr 1
    omega
/-! badges counted -/
def bcZ (x : Int) : Int :=
  let a1 := x - zAnd (zShr x 1) 1431655765
  let a2 := zAnd a1 858993459 + zAnd (zShr a1 2) 858993459
  let a3 := zAnd (a2 + zShr a2 4) 252645135
  let a4 := a3 + zShr a3 8
  let a5 := a4 + zShr a4 16
  zAnd a5 63
theorem bcZ_all : ∀ x : Nat, x < 1024 → bcZ x = szO x 10 := by decide +kernel
theorem bcZ_is {x : Int} (h : 0 ≤ x ∧ x ≤ 1023) : bcZ x = szO x 10 := by
  obtain ⟨j, rfl⟩ := oi_nz h.1
  exact bcZ_all j (by omega)
theorem n64_of {x : UInt64} (h : FP.Core.val64 x ≠ .nan) : vf_n64 x := by
  unfold vf_n64
  rw [UInt64.le_iff_toNat_le, FP.Core.mask_toNat]
  show x.toNat % 2 ^ 63 ≤ 9218868437227405312
  exact (FP.Core.ne_nan x).mp h
theorem n64_div {z d : Int} (hd : 1 ≤ d ∧ d ≤ 2147483647) : vf_n64 (FP.ddiv (FP.i2d (Int32.ofInt z)) (FP.i2d (Int32.ofInt d))) := by
  refine n64_of ((FP.Core.notNaN_iff _).mp (FP.Core.ddiv_out (FP.Core.DFin.notNaN (FP.Core.i2d_fin _)) (FP.Core.i2d_fin _) ?_))
  rw [FP.Core.zero_bits2]
  refine FP.Core.i2d_ne_zero (fun h => ?_)
  have h1 : (Int32.ofInt d).toInt = d := oi_T (by omega)
  rw [h] at h1
  have h2 : ((0 : Int32)).toInt = 0 := by decide
  omega
theorem orS_1 {sg y : Int} (hs : sg = 0 ∨ sg = -2147483648) (hy : 0 ≤ y ∧ y < 2147483648) : Int32.ofInt sg ||| Int32.ofInt y = Int32.ofInt (sg + y) := by
  obtain ⟨j, rfl⟩ := oi_nz hy.1
  rcases hs with rfl | rfl
  · exact or_z (i := 31) (a := 0) (by omega) (Or.inl rfl) rfl
  · exact or_z (i := 31) (a := 1) (by omega) (Or.inr rfl) rfl
theorem orS_2 {sg e y : Int} (hs : sg = 0 ∨ sg = -2147483648) (he : 0 ≤ e ∧ e < 256) (hy : 0 ≤ y ∧ y < 8388608) : Int32.ofInt (sg + e * 8388608) ||| Int32.ofInt y = Int32.ofInt (sg + e * 8388608 + y) := by
  obtain ⟨j, rfl⟩ := oi_nz hy.1
  obtain ⟨f, rfl⟩ := oi_nz he.1
  rcases hs with rfl | rfl
  · exact or_z (i := 23) (a := f) (by omega) (Or.inl (by show 0 + (f : Int) * 8388608 = ((8388608 * f : Nat) : Int); omega)) rfl
  · exact or_z (i := 23) (a := f + 256) (by omega) (Or.inr (by show -2147483648 + (f : Int) * 8388608 = ((8388608 * (f + 256) : Nat) : Int) - 4294967296; omega)) rfl
theorem cB24 {k : Int} (h : -60000 ≤ k ∧ k ≤ 60000) : -16777216 < k ∧ k < 16777216 := by omega
set_option maxHeartbeats 4000000 in
set_option maxRecDepth 100000 in
theorem c_X3_bitsOf {G : GG} {l : Launch} (hfl : l.stackTraces = false) (hG : MW G) {m : Mm} {k : Int} (hk : -60000 ≤ k ∧ k ≤ 60000) : CT G l yX3_bitsOf cX3_bitsOf 5 (some .int) (RM 0 0 0) [.float (fq k)] m (fun r' m' => r' = some (vI (fword (fq k))) ∧ m' = m) (fun _ _ => False) := by
  refine CT.of RX3 [(0, .float (fq k))] hfl (by decide +kernel) rfl rfl (Nat.le_of_ble_eq_true rfl) ?_
  intro E ok en hml hEl htab
  have hR : e_R E = RM 0 0 0 := en.2.2.2
  have hn0 : 0 < (e_c E).maxLocals := by rw [hml]; decide
  have hn1 : 1 < (e_c E).maxLocals := by rw [hml]; decide
  have hn2 : 2 < (e_c E).maxLocals := by rw [hml]; decide
  have hn3 : 3 < (e_c E).maxLocals := by rw [hml]; decide
  have hn4 : 4 < (e_c E).maxLocals := by rw [hml]; decide
  have main : ∀ (sg : Int) (x : UInt32) (C : Nat) (q0 : Int), FP.Core.val32 x = .fin false C q0 → (8388608 ≤ C ∧ C < 16777216) → (-29 ≤ q0 ∧ q0 ≤ -14) → (sg = 0 ∨ sg = -2147483648) → fword (fq k) = (q0 + 150) * 8388608 + ((C : Int) - 8388608) + sg → WA G E 0 0 35 [(2, .float x), (1, vI sg), (0, .float (fq k))] [] m := by
    intro sg x C q0 hx hC hq0 hsg hfw
    have loop2 : ∀ (i : Int) (y : UInt32) (r : Int), (0 ≤ i ∧ r ≤ -23 ∧ -29 ≤ r ∧ i ≤ r + 29 ∧ FP.Core.val32 y = .fin false C r) → WA G E 0 0 71 [(4, vI i), (3, vI (127 + (q0 - r))), (2, .float y), (1, vI sg), (0, .float (fq k))] [] m := by
      refine wl3 _ (fun _ _ r => (-r).toNat) _ ?_
      intro i y r hi ih
      obtain ⟨hi0, hr1, hr2, hir, hy⟩ := hi
      refine ga_iload ok rfl dX3_bitsOf_71 ?_
      refine ga_sipush ok dX3_bitsOf_73 (by decide) ?_
      refine ga_icmp_ge ok 98 (by decide) (by omega) (by omega) dX3_bitsOf_76 (fun c_76 => ?_) (fun c_76 => ?_)
      · exfalso; omega
      · refine ga_fload_n ok 2 rfl rfl dX3_bitsOf_79 ?_
        refine ga_fconst1 ok dX3_bitsOf_80 ?_
        obtain ⟨z, hz, hzr, hzl⟩ := n_cmp (op := .g) hy n_1 hC
        refine ga_fcmp ok dX3_bitsOf_81 hz ?_
        refine ga_if_ge ok 98 (by decide) hzr dX3_bitsOf_82 (fun c_82 => ?_) (fun c_82 => ?_)
        · have hrl : ¬ r < -23 := fun e => by have := hzl.mpr e; omega
          have hr23 : r = -23 := by omega
          subst hr23
          obtain ⟨u1, u2, u3⟩ := n_rest hy hC
          refine ga_iload_n ok 1 rfl rfl dX3_bitsOf_98 ?_
          refine ga_iload_n ok 3 rfl rfl dX3_bitsOf_99 ?_
          refine ga_bipush ok dX3_bitsOf_100 (by decide) ?_
          refine ga_ishl ok dX3_bitsOf_102 (by omega) (by omega) (by rw [show (2 : Int) ^ (23 : Int).toNat = 8388608 from rfl]; omega) ?_
          rw [show (2 : Int) ^ (23 : Int).toNat = 8388608 from rfl]
          refine ga_iorZ ok dX3_bitsOf_103 (orS_1 hsg (by omega)) ?_
          refine ga_fload_n ok 2 rfl rfl dX3_bitsOf_104 ?_
          refine ga_fconst1 ok dX3_bitsOf_105 ?_
          refine ga_fsub ok dX3_bitsOf_106 u1 ?_
          refine ga_ldcWf (z := 1258291200) ok dX3_bitsOf_107 (tb_in 818 (by decide +kernel) (by decide +kernel)) ?_
          refine ga_fmul ok dX3_bitsOf_110 u2 ?_
          refine ga_f2i ok dX3_bitsOf_111 u3 ?_
          refine ga_iorZ ok dX3_bitsOf_112 (orS_2 hsg (by omega) (by omega)) ?_
          exact ga_ireturn ok en rfl rfl (by decide) (by decide) dX3_bitsOf_113 ⟨by rw [hfw]; exact congrArg (fun z => some (vI z)) (by omega), rfl⟩
        · have hrl := hzl.mp c_82
          refine ga_fload_n ok 2 rfl rfl dX3_bitsOf_85 ?_
          refine ga_fconst2 ok dX3_bitsOf_86 ?_
          refine ga_fmul ok dX3_bitsOf_87 (n32_of (by rw [n_dbl hy hC (by omega)]; exact FP.Core.Datum.noConfusion)) ?_
          refine ga_fstore_n ok 2 rfl hn2 dX3_bitsOf_88 ?_
          refine ga_iinc ok rfl hn3 dX3_bitsOf_89 ?_
          refine ga_iinc ok rfl hn4 dX3_bitsOf_92 ?_
          refine ga_goto ok 71 (by decide) dX3_bitsOf_95 ?_
          exact WA.re (by exact ⟨rfl, (by rw [show 127 + (q0 - (r + 1)) = 127 + (q0 - r) + -1 by omega]; rfl), rfl, rfl, rfl, trivial⟩) (ih (i + 1) (FP.fmul y FP.fconst2) (r + 1) ⟨by omega, by omega, by omega, by omega, n_dbl hy hC (by omega)⟩ (by omega))
    have loop1 : ∀ (i : Int) (y : UInt32) (r : Int), (0 ≤ i ∧ r = q0 - i ∧ -29 ≤ r ∧ (i = 0 ∨ -23 ≤ r) ∧ FP.Core.val32 y = .fin false C r) → WA G E 0 0 41 [(4, vI i), (3, vI (127 + i)), (2, .float y), (1, vI sg), (0, .float (fq k))] [] m := by
      refine wl3 _ (fun _ _ r => (r + 40).toNat) _ ?_
      intro i y r hi ih
      obtain ⟨hi0, hr1, hr2, hir, hy⟩ := hi
      refine ga_iload ok rfl dX3_bitsOf_41 ?_
      refine ga_sipush ok dX3_bitsOf_43 (by decide) ?_
      refine ga_icmp_ge ok 68 (by decide) (by omega) (by omega) dX3_bitsOf_46 (fun c_46 => ?_) (fun c_46 => ?_)
      · exfalso; omega
      · refine ga_fload_n ok 2 rfl rfl dX3_bitsOf_49 ?_
        refine ga_fconst2 ok dX3_bitsOf_50 ?_
        obtain ⟨z, hz, hzr, hzl⟩ := n_cmp (op := .l) hy n_2 hC
        refine ga_fcmp ok dX3_bitsOf_51 hz ?_
        refine ga_if_lt ok 68 (by decide) hzr dX3_bitsOf_52 (fun c_52 => ?_) (fun c_52 => ?_)
        · have hrl := hzl.mp c_52
          refine ga_iconst ok dX3_bitsOf_68 ?_
          refine ga_istore ok hn4 dX3_bitsOf_69 ?_
          exact WA.re (by exact ⟨rfl, (by rw [show 127 + (q0 - r) = 127 + i by omega]; rfl), rfl, rfl, rfl, trivial⟩) (loop2 0 y r ⟨by omega, by omega, by omega, by omega, hy⟩)
        · have hrl : ¬ r < -22 := fun e => by have := hzl.mpr e; omega
          refine ga_fload_n ok 2 rfl rfl dX3_bitsOf_55 ?_
          refine ga_fconst2 ok dX3_bitsOf_56 ?_
          refine ga_fdiv ok dX3_bitsOf_57 (n32_of (by rw [n_half hy hC (by omega)]; exact FP.Core.Datum.noConfusion)) ?_
          refine ga_fstore_n ok 2 rfl hn2 dX3_bitsOf_58 ?_
          refine ga_iinc ok rfl hn3 dX3_bitsOf_59 ?_
          refine ga_iinc ok rfl hn4 dX3_bitsOf_62 ?_
          refine ga_goto ok 41 (by decide) dX3_bitsOf_65 ?_
          exact WA.re (by exact ⟨rfl, (by rw [show 127 + (i + 1) = 127 + i + 1 by omega]; rfl), rfl, rfl, rfl, trivial⟩) (ih (i + 1) (FP.fdiv y FP.fconst2) (r - 1) ⟨by omega, by omega, by omega, by omega, n_half hy hC (by omega)⟩ (by omega))
    refine ga_bipush ok dX3_bitsOf_35 (by decide) ?_
    refine ga_istore_n ok 3 rfl hn3 dX3_bitsOf_37 ?_
    refine ga_iconst ok dX3_bitsOf_38 ?_
    refine ga_istore ok hn4 dX3_bitsOf_39 ?_
    exact WA.re (by exact ⟨rfl, rfl, rfl, rfl, rfl, trivial⟩) (loop1 0 x q0 ⟨by omega, by omega, by omega, Or.inl rfl, hx⟩)
  refine ga_fload_n ok 0 rfl rfl dX3_bitsOf_0 ?_
  refine ga_fconst0 ok dX3_bitsOf_1 ?_
  refine ga_fcmp ok dX3_bitsOf_2 (fq_cmpz0 (by omega)) ?_
  refine ga_if_ne ok 8 (by decide) (cmpz_rng _ _) dX3_bitsOf_3 (fun c_3 => ?_) (fun c_3 => ?_)
  · have h0 : k ≠ 0 := fun e => c_3 (cmpz_eq.mpr e)
    refine ga_fload_n ok 0 rfl rfl dX3_bitsOf_8 ?_
    refine ga_fconst0 ok dX3_bitsOf_9 ?_
    refine ga_fcmp ok dX3_bitsOf_10 (fq_cmpz0 (by omega)) ?_
    refine ga_if_ge ok 20 (by decide) (cmpz_rng _ _) dX3_bitsOf_11 (fun c_11 => ?_) (fun c_11 => ?_)
    · have h1 := cmpz_ge.mp c_11
      refine ga_iconst ok dX3_bitsOf_20 ?_
      refine ga_istore_n ok 1 rfl hn1 dX3_bitsOf_21 ?_
      refine ga_fload_n ok 0 rfl rfl dX3_bitsOf_22 ?_
      refine ga_fconst0 ok dX3_bitsOf_23 ?_
      refine ga_fcmp ok dX3_bitsOf_24 (fq_cmpz0 (by omega)) ?_
      refine ga_if_ge ok 33 (by decide) (cmpz_rng _ _) dX3_bitsOf_25 (fun c_25 => ?_) (fun c_25 => ?_)
      · have h2 := cmpz_ge.mp c_25
        refine ga_fload_n ok 0 rfl rfl dX3_bitsOf_33 ?_
        refine ga_fstore_n ok 2 rfl hn2 dX3_bitsOf_34 ?_
        obtain ⟨C, q0, e, hC, hq⟩ := fq_norm hk h0
        rw [decide_eq_false (by omega)] at e
        have hb := n_bits e hC hq
        rw [if_neg (by decide)] at hb
        exact WA.re (by exact ⟨rfl, rfl, rfl, trivial⟩) (main 0 (fq k) C q0 e hC hq (Or.inl rfl) (by omega))
      · have h2 := cmpz_lt.mp c_25
        refine ga_fload_n ok 0 rfl rfl dX3_bitsOf_28 ?_
        refine ga_fneg ok dX3_bitsOf_29 ?_
        refine ga_goto ok 34 (by decide) dX3_bitsOf_30 ?_
        refine ga_fstore_n ok 2 rfl hn2 dX3_bitsOf_34 ?_
        exfalso; omega
    · have h1 := cmpz_lt.mp c_11
      refine ga_ldcW (z := -2147483648) ok dX3_bitsOf_14 (tb_in 817 (by decide +kernel) (by decide +kernel)) ?_
      refine ga_goto ok 21 (by decide) dX3_bitsOf_17 ?_
      refine ga_istore_n ok 1 rfl hn1 dX3_bitsOf_21 ?_
      refine ga_fload_n ok 0 rfl rfl dX3_bitsOf_22 ?_
      refine ga_fconst0 ok dX3_bitsOf_23 ?_
      refine ga_fcmp ok dX3_bitsOf_24 (fq_cmpz0 (by omega)) ?_
      refine ga_if_ge ok 33 (by decide) (cmpz_rng _ _) dX3_bitsOf_25 (fun c_25 => ?_) (fun c_25 => ?_)
      · have h2 := cmpz_ge.mp c_25
        refine ga_fload_n ok 0 rfl rfl dX3_bitsOf_33 ?_
        refine ga_fstore_n ok 2 rfl hn2 dX3_bitsOf_34 ?_
        exfalso; omega
      · have h2 := cmpz_lt.mp c_25
        refine ga_fload_n ok 0 rfl rfl dX3_bitsOf_28 ?_
        refine ga_fneg ok dX3_bitsOf_29 ?_
        refine ga_goto ok 34 (by decide) dX3_bitsOf_30 ?_
        refine ga_fstore_n ok 2 rfl hn2 dX3_bitsOf_34 ?_
        obtain ⟨C, q0, e, hC, hq⟩ := fq_norm hk h0
        rw [decide_eq_true (by omega)] at e
        have hb := n_bits e hC hq
        rw [if_pos rfl] at hb
        exact WA.re (by exact ⟨rfl, rfl, rfl, trivial⟩) (main (-2147483648) (FP.fneg (fq k)) C q0 (by rw [show FP.Core.val32 (FP.fneg (fq k)) = FP.Core.negate (FP.Core.val32 (fq k)) from FP.val32_fneg _, e]; rfl) hC hq (Or.inr rfl) (by omega))
  · refine ga_iconst ok dX3_bitsOf_6 ?_
    exact ga_ireturn ok en rfl rfl (by decide) (by decide) dX3_bitsOf_7 (by
  have e := cmpz_eq.mp c_3
  subst e
  exact ⟨by rw [fq_0]; decide +kernel, rfl⟩)
set_option maxHeartbeats 4000000 in
set_option maxRecDepth 100000 in
theorem c_X3_weightBits {G : GG} {l : Launch} (hfl : l.stackTraces = false) (hG : MW G) {m : Mm} {r : Nat → Int} {T : Int} (hI : gtIs m 64 r) (hT : gtOk T r) {g : Int} (hgR : -2147483648 ≤ g ∧ g ≤ 2147483647) {x : Int} (hxR : -2147483648 ≤ x ∧ x ≤ 2147483647) : CT G l yX3_weightBits cX3_weightBits 3 (some .int) (RM 8 2 12) [.ref 0, vI g, vI x] m (fun r' m' => (0 ≤ g ∧ g < r 0) ∧ (-1 ≤ x ∧ x < 10) ∧ r' = some (vI (fword (fq (gcn (rg r g.toNat) (x + 1).toNat)))) ∧ m' = m) (fun X m' => ((X = "java/lang/IndexOutOfBoundsException" ∧ ¬(0 ≤ g ∧ g < r 0)) ∨ (X = "java/lang/IllegalArgumentException" ∧ (0 ≤ g ∧ g < r 0) ∧ ¬(-1 ≤ x ∧ x < 10))) ∧ m' = m) := by
  refine CT.of RX3 [(0, .ref 0), (1, vI g), (2, vI x)] hfl (by decide +kernel) rfl rfl (Nat.le_of_ble_eq_true rfl) ?_
  intro E ok en hml hEl htab
  have hR : e_R E = RM 8 2 12 := en.2.2.2
  have hn0 : 0 < (e_c E).maxLocals := by rw [hml]; decide
  have hn1 : 1 < (e_c E).maxLocals := by rw [hml]; decide
  have hn2 : 2 < (e_c E).maxLocals := by rw [hml]; decide
  obtain ⟨e1, e4, hv, hgs⟩ := id hI
  obtain ⟨b0, b1, hvb, hgb⟩ := id hT
  refine ga_aload_n ok 0 rfl rfl dX3_weightBits_0 ?_
  refine ga_iload_n ok 1 rfl rfl dX3_weightBits_1 ?_
  refine gc_X3_1 ok hG rfl lk_X3_90 rfl (c_X3_requireGuard ok.fl hG hI hT hgR) (by rw [hR]; exact ⟨by decide, by decide, by decide, by decide⟩) (Nat.le_of_ble_eq_true rfl) dX3_weightBits_2 (fun r9 m9 hq => ?_) (fun X9 m9 hq => by obtain ⟨rfl, qg, rfl⟩ := hq; exact ga_out en htab (by decide) (by decide) (⟨Or.inl ⟨rfl, qg⟩, rfl⟩))
  obtain ⟨rfl, qg, hm9⟩ := hq
  subst m9
  simp only [Option.toList_none, List.nil_append]
  refine ga_iload_n ok 2 rfl rfl dX3_weightBits_5 ?_
  refine ga_iconst ok dX3_weightBits_6 ?_
  refine gc_S_2 ok lk_X3_183 (c_X3_requireBadge ok.fl hG hxR (y := -1) (by omega)) (by rw [hR]; exact ⟨by decide, by decide, by decide, by decide⟩) (Nat.le_of_ble_eq_true rfl) dX3_weightBits_7 (fun r9 m9 hq => ?_) (fun X9 m9 hq => by obtain ⟨rfl, qs, rfl⟩ := hq; exact ga_out en htab (by decide) (by decide) (⟨Or.inr (⟨rfl, qg, qs⟩), rfl⟩))
  obtain ⟨rfl, qs, hm9⟩ := hq
  subst m9
  simp only [Option.toList_none, List.nil_append]
  refine ga_aload_n ok 0 rfl rfl dX3_weightBits_10 ?_
  refine gf_X3_12 ok hG rfl dX3_weightBits_11 ?_
  refine gf_X3_93 ok hG (by omega) dX3_weightBits_14 ?_
  refine ga_iload_n ok 1 rfl rfl dX3_weightBits_17 ?_
  refine ga_aaload_qa ok (ar_ga hG (by omega)) (by omega) dX3_weightBits_18 ?_
  refine gf_X3_186 ok hG (by omega) dX3_weightBits_19 ?_
  refine ga_iload_n ok 2 rfl rfl dX3_weightBits_22 ?_
  refine ga_iconst ok dX3_weightBits_23 ?_
  refine ga_iadd ok dX3_weightBits_24 ?_
  refine ga_faload_fa ok (ar_we hG (by omega)) (by omega) dX3_weightBits_25 ?_
  rw [((hgs g.toNat (by omega)).2.2.2.2.2.2.1 (x + 1).toNat (by omega)).2]
  refine gd_S_1 ok lk_X3_190 (c_X3_bitsOf ok.fl hG ((hgb g.toNat (by omega)).2.2.2.1 (x + 1).toNat (by omega))) (by rw [hR]; exact ⟨by decide, by decide, by decide, by decide⟩) (Nat.le_of_ble_eq_true rfl) dX3_weightBits_26 ?_
  exact ga_ireturn ok en rfl rfl (by decide) (by decide) dX3_weightBits_29 ⟨by assumption, by assumption, rfl, rfl⟩
set_option maxHeartbeats 4000000 in
set_option maxRecDepth 100000 in
theorem c_J6_bitCount {G : GG} {l : Launch} (hfl : l.stackTraces = false) {P9 : Prop} (hG : P9) {m : Mm} {x : Int} (hx : 0 ≤ x ∧ x ≤ 1023) : CT G l yJ6_bitCount_0f7a4 cJ6_bitCount_0f7a4 1 (some .int) (RM 0 0 0) [vI x] m (fun r' m' => r' = some (vI (szO x 10)) ∧ m' = m) (fun _ _ => False) := by
  refine CT.of RJ6 [(0, vI x)] hfl (by decide +kernel) rfl rfl (Nat.le_of_ble_eq_true rfl) ?_
  intro E ok en hml hEl htab
  have hR : e_R E = RM 0 0 0 := en.2.2.2
  have hn0 : 0 < (e_c E).maxLocals := by rw [hml]; decide
  refine ga_iload_n ok 0 rfl rfl dJ6_bitCount_0f7a4_0 ?_
  refine ga_iload_n ok 0 rfl rfl dJ6_bitCount_0f7a4_1 ?_
  refine ga_iconst ok dJ6_bitCount_0f7a4_2 ?_
  refine ga_iushrZ ok dJ6_bitCount_0f7a4_3 ?_
  refine ga_ldcW (z := 1431655765) ok dJ6_bitCount_0f7a4_4 (tb_in 1045 (by decide +kernel) (by decide +kernel)) ?_
  refine ga_iandZ ok dJ6_bitCount_0f7a4_7 ?_
  refine ga_isub ok dJ6_bitCount_0f7a4_8 ?_
  refine ga_istore_n ok 0 rfl hn0 dJ6_bitCount_0f7a4_9 ?_
  refine ga_iload_n ok 0 rfl rfl dJ6_bitCount_0f7a4_10 ?_
  refine ga_ldcW (z := 858993459) ok dJ6_bitCount_0f7a4_11 (tb_in 1046 (by decide +kernel) (by decide +kernel)) ?_
  refine ga_iandZ ok dJ6_bitCount_0f7a4_14 ?_
  refine ga_iload_n ok 0 rfl rfl dJ6_bitCount_0f7a4_15 ?_
  refine ga_iconst ok dJ6_bitCount_0f7a4_16 ?_
  refine ga_iushrZ ok dJ6_bitCount_0f7a4_17 ?_
  refine ga_ldcW (z := 858993459) ok dJ6_bitCount_0f7a4_18 (tb_in 1046 (by decide +kernel) (by decide +kernel)) ?_
  refine ga_iandZ ok dJ6_bitCount_0f7a4_21 ?_
  refine ga_iadd ok dJ6_bitCount_0f7a4_22 ?_
  refine ga_istore_n ok 0 rfl hn0 dJ6_bitCount_0f7a4_23 ?_
  refine ga_iload_n ok 0 rfl rfl dJ6_bitCount_0f7a4_24 ?_
  refine ga_iload_n ok 0 rfl rfl dJ6_bitCount_0f7a4_25 ?_
  refine ga_iconst ok dJ6_bitCount_0f7a4_26 ?_
  refine ga_iushrZ ok dJ6_bitCount_0f7a4_27 ?_
  refine ga_iadd ok dJ6_bitCount_0f7a4_28 ?_
  refine ga_ldcW (z := 252645135) ok dJ6_bitCount_0f7a4_29 (tb_in 1047 (by decide +kernel) (by decide +kernel)) ?_
  refine ga_iandZ ok dJ6_bitCount_0f7a4_32 ?_
  refine ga_istore_n ok 0 rfl hn0 dJ6_bitCount_0f7a4_33 ?_
  refine ga_iload_n ok 0 rfl rfl dJ6_bitCount_0f7a4_34 ?_
  refine ga_iload_n ok 0 rfl rfl dJ6_bitCount_0f7a4_35 ?_
  refine ga_bipush ok dJ6_bitCount_0f7a4_36 (by decide) ?_
  refine ga_iushrZ ok dJ6_bitCount_0f7a4_38 ?_
  refine ga_iadd ok dJ6_bitCount_0f7a4_39 ?_
  refine ga_istore_n ok 0 rfl hn0 dJ6_bitCount_0f7a4_40 ?_
  refine ga_iload_n ok 0 rfl rfl dJ6_bitCount_0f7a4_41 ?_
  refine ga_iload_n ok 0 rfl rfl dJ6_bitCount_0f7a4_42 ?_
  refine ga_bipush ok dJ6_bitCount_0f7a4_43 (by decide) ?_
  refine ga_iushrZ ok dJ6_bitCount_0f7a4_45 ?_
  refine ga_iadd ok dJ6_bitCount_0f7a4_46 ?_
  refine ga_istore_n ok 0 rfl hn0 dJ6_bitCount_0f7a4_47 ?_
  refine ga_iload_n ok 0 rfl rfl dJ6_bitCount_0f7a4_48 ?_
  refine ga_bipush ok dJ6_bitCount_0f7a4_49 (by decide) ?_
  refine ga_iandZ ok dJ6_bitCount_0f7a4_51 ?_
  exact ga_ireturn ok en rfl rfl (by decide) (by decide) dJ6_bitCount_0f7a4_52 ⟨by rw [← bcZ_is hx]; rfl, rfl⟩
theorem lj_X3_143 : LinkJ RX3 143 yJ6_bitCount_0f7a4 cJ6_bitCount_0f7a4 1 (some .int) 1 := ⟨⟨tb_in 1042 (by decide +kernel) (by decide +kernel), tb_in 1043 (by decide +kernel) (by decide +kernel), tb_in 24 (by decide +kernel) (by decide +kernel)⟩, tb_in 1044 (by decide +kernel) (by decide +kernel), by decide +kernel⟩
set_option maxHeartbeats 4000000 in
set_option maxRecDepth 100000 in
theorem c_X3_visitorOf {G : GG} {l : Launch} (hfl : l.stackTraces = false) (hG : MW G) {m : Mm} {r : Nat → Int} {T : Int} (hI : gtIs m 64 r) (hT : gtOk T r) {v : Int} (hvR : -2147483648 ≤ v ∧ v ≤ 2147483647) {what : Int} (hwhatR : -2147483648 ≤ what ∧ what ≤ 2147483647) : CT G l yX3_visitorOf cX3_visitorOf 3 (some .int) (RM 8 2 12) [.ref 0, vI v, vI what] m (fun r' m' => (0 ≤ v ∧ v < r 1) ∧ (0 ≤ what ∧ what ≤ 4) ∧ r' = some (vI (if what = 0 then vX r v.toNat else if what = 1 then vF r v.toNat else if what = 2 then szO (vX r v.toNat) 10 else if what = 3 then ofV r v.toNat else plc r v.toNat)) ∧ m' = m) (fun X m' => ((X = "java/lang/IndexOutOfBoundsException" ∧ ¬(0 ≤ v ∧ v < r 1)) ∨ (X = "java/lang/IllegalArgumentException" ∧ (0 ≤ v ∧ v < r 1) ∧ ¬(0 ≤ what ∧ what ≤ 4))) ∧ m' = m) := by
  refine CT.of RX3 [(0, .ref 0), (1, vI v), (2, vI what)] hfl (by decide +kernel) rfl rfl (Nat.le_of_ble_eq_true rfl) ?_
  intro E ok en hml hEl htab
  have hR : e_R E = RM 8 2 12 := en.2.2.2
  have hn0 : 0 < (e_c E).maxLocals := by rw [hml]; decide
  have hn1 : 1 < (e_c E).maxLocals := by rw [hml]; decide
  have hn2 : 2 < (e_c E).maxLocals := by rw [hml]; decide
  obtain ⟨e1, e4, hv, hgs⟩ := id hI
  obtain ⟨b0, b1, hvb, hgb⟩ := id hT
  refine ga_aload_n ok 0 rfl rfl dX3_visitorOf_0 ?_
  refine ga_iload_n ok 1 rfl rfl dX3_visitorOf_1 ?_
  refine gc_X3_1 ok hG rfl lk_X3_129 rfl (c_X3_requireVisitor ok.fl hG hI hT hvR) (by rw [hR]; exact ⟨by decide, by decide, by decide, by decide⟩) (Nat.le_of_ble_eq_true rfl) dX3_visitorOf_2 (fun r9 m9 hq => ?_) (fun X9 m9 hq => by obtain ⟨rfl, qv, rfl⟩ := hq; exact ga_out en htab (by decide) (by decide) (⟨Or.inl ⟨rfl, qv⟩, rfl⟩))
  obtain ⟨rfl, qv, hm9⟩ := hq
  subst m9
  simp only [Option.toList_none, List.nil_append]
  refine ga_iload_n ok 2 rfl rfl dX3_visitorOf_5 ?_
  rcases (show what = 0 ∨ what = 1 ∨ what = 2 ∨ what = 3 ∨ what = 4 ∨ (what < 0 ∨ 4 < what) by omega) with rfl | rfl | rfl | rfl | rfl | hout
  · refine ga_tableIn (off := 34) ok 40 (by decide) (by decide) (by decide) (by decide) dX3_visitorOf_6 ?_
    refine ga_aload_n ok 0 rfl rfl dX3_visitorOf_40 ?_
    refine gf_X3_12 ok hG rfl dX3_visitorOf_41 ?_
    refine gf_X3_135 ok hG (by omega) dX3_visitorOf_44 ?_
    refine ga_iload_n ok 1 rfl rfl dX3_visitorOf_47 ?_
    refine ga_iaload_ia ok (ar_se hG (by omega)) (by omega) dX3_visitorOf_48 ?_
    rw [(hv v.toNat (by omega)).1]
    exact ga_ireturn ok en rfl rfl (by decide) (by decide) dX3_visitorOf_49 ⟨qv, by omega, rfl, rfl⟩
  · refine ga_tableIn (off := 44) ok 50 (by decide) (by decide) (by decide) (by decide) dX3_visitorOf_6 ?_
    refine ga_aload_n ok 0 rfl rfl dX3_visitorOf_50 ?_
    refine gf_X3_12 ok hG rfl dX3_visitorOf_51 ?_
    refine gf_X3_139 ok hG (by omega) dX3_visitorOf_54 ?_
    refine ga_iload_n ok 1 rfl rfl dX3_visitorOf_57 ?_
    refine ga_baload_za ok (ar_fr hG (by omega)) (by omega) dX3_visitorOf_58 ?_
    rw [(hv v.toNat (by omega)).2]
    refine ga_if_eq ok 66 (by decide) (by have hq9 := (hvb v.toNat (by omega)).2; omega) dX3_visitorOf_59 (fun c_59 => ?_) (fun c_59 => ?_)
    · refine ga_iconst ok dX3_visitorOf_66 ?_
      exact ga_ireturn ok en rfl rfl (by decide) (by decide) dX3_visitorOf_67 ⟨qv, by omega, by rw [show vF r v.toNat = 0 from c_59]; rfl, rfl⟩
    · refine ga_iconst ok dX3_visitorOf_62 ?_
      refine ga_goto ok 67 (by decide) dX3_visitorOf_63 ?_
      exact ga_ireturn ok en rfl rfl (by decide) (by decide) dX3_visitorOf_67 ⟨qv, by omega, by rw [show vF r v.toNat = 1 from by have hq9 := (hvb v.toNat (by omega)).2; omega]; rfl, rfl⟩
  · refine ga_tableIn (off := 62) ok 68 (by decide) (by decide) (by decide) (by decide) dX3_visitorOf_6 ?_
    refine ga_aload_n ok 0 rfl rfl dX3_visitorOf_68 ?_
    refine gf_X3_12 ok hG rfl dX3_visitorOf_69 ?_
    refine gf_X3_135 ok hG (by omega) dX3_visitorOf_72 ?_
    refine ga_iload_n ok 1 rfl rfl dX3_visitorOf_75 ?_
    refine ga_iaload_ia ok (ar_se hG (by omega)) (by omega) dX3_visitorOf_76 ?_
    rw [(hv v.toNat (by omega)).1]
    refine gd_J_1 ok lj_X3_143 (c_J6_bitCount ok.fl hG (by have hq9 := hvb v.toNat (by omega); omega)) (by rw [hR]; exact ⟨by decide, by decide, by decide, by decide⟩) (Nat.le_of_ble_eq_true rfl) dX3_visitorOf_77 ?_
    exact ga_ireturn ok en rfl rfl (by decide) (by decide) dX3_visitorOf_80 ⟨qv, by omega, rfl, rfl⟩
  · refine ga_tableIn (off := 75) ok 81 (by decide) (by decide) (by decide) (by decide) dX3_visitorOf_6 ?_
    refine ga_aload_n ok 0 rfl rfl dX3_visitorOf_81 ?_
    refine gf_X3_12 ok hG rfl dX3_visitorOf_82 ?_
    refine ga_iload_n ok 1 rfl rfl dX3_visitorOf_85 ?_
    refine gd_X0_1 ok hG (by omega) lk_X3_148 rfl (c_X0_guardsMistakenAbout ok.fl hG (by omega) hI hT qv) (by rw [hR]; exact ⟨by decide, by decide, by decide, by decide⟩) (Nat.le_of_ble_eq_true rfl) dX3_visitorOf_86 ?_
    exact ga_ireturn ok en rfl rfl (by decide) (by decide) dX3_visitorOf_89 ⟨qv, by omega, rfl, rfl⟩
  · refine ga_tableIn (off := 84) ok 90 (by decide) (by decide) (by decide) (by decide) dX3_visitorOf_6 ?_
    refine ga_aload_n ok 0 rfl rfl dX3_visitorOf_90 ?_
    refine gf_X3_12 ok hG rfl dX3_visitorOf_91 ?_
    refine ga_iload_n ok 1 rfl rfl dX3_visitorOf_94 ?_
    refine gd_X0_1 ok hG (by omega) lk_X3_151 rfl (c_X0_placeAmongLike ok.fl hG (by omega) hI hT qv) (by rw [hR]; exact ⟨by decide, by decide, by decide, by decide⟩) (Nat.le_of_ble_eq_true rfl) dX3_visitorOf_95 ?_
    exact ga_ireturn ok en rfl rfl (by decide) (by decide) dX3_visitorOf_98 ⟨qv, by omega, rfl, rfl⟩
  · refine ga_tableOut ok 99 (by omega) hout (by decide) dX3_visitorOf_6 ?_
    exact ga_throw ok en htab lt_IllegalArgumentException (text := "a visitor has no such number") (by decide +kernel) ⟨by decide, by decide, by decide, by decide⟩ (Nat.le_of_ble_eq_true rfl) dX3_visitorOf_99 dX3_visitorOf_102 dX3_visitorOf_103 dX3_visitorOf_105 dX3_visitorOf_108 ⟨Or.inr (⟨rfl, qv, by omega⟩), rfl⟩
set_option maxHeartbeats 4000000 in
set_option maxRecDepth 100000 in
theorem c_X3_meanBadges {G : GG} {l : Launch} (hfl : l.stackTraces = false) (hG : MW G) {m : Mm} {r : Nat → Int} {T : Int} (hI : gtIs m 64 r) (hT : gtOk T r) : CT G l yX3_meanBadges cX3_meanBadges 3 (some .double) (RM 8 2 12) [.ref 0] m (fun r' m' => r 1 ≠ 0 ∧ r' = some (.double (FP.ddiv (FP.i2d (Int32.ofInt (zs (fun v => szO (vX r v) 10) (r 1).toNat))) (FP.i2d (Int32.ofInt (r 1))))) ∧ m' = m) (fun X m' => (X = "java/lang/ArithmeticException" ∧ r 1 = 0) ∧ m' = m) := by
  refine CT.of RX3 [(0, .ref 0)] hfl (by decide +kernel) rfl rfl (Nat.le_of_ble_eq_true rfl) ?_
  intro E ok en hml hEl htab
  have hR : e_R E = RM 8 2 12 := en.2.2.2
  have hn0 : 0 < (e_c E).maxLocals := by rw [hml]; decide
  have hn1 : 1 < (e_c E).maxLocals := by rw [hml]; decide
  have hn2 : 2 < (e_c E).maxLocals := by rw [hml]; decide
  obtain ⟨e1, e4, hv, hgs⟩ := id hI
  obtain ⟨b0, b1, hvb, hgb⟩ := id hT
  refine ga_aload_n ok 0 rfl rfl dX3_meanBadges_0 ?_
  refine gf_X3_12 ok hG rfl dX3_meanBadges_1 ?_
  refine gf_X3_213 ok hG (by omega) dX3_meanBadges_4 ?_
  rw [e4]
  refine ga_if_ne ok 20 (by decide) (by omega) dX3_meanBadges_7 (fun c_7 => ?_) (fun c_7 => ?_)
  · have h1 : r 1 ≠ 0 := c_7
    refine ga_iconst ok dX3_meanBadges_20 ?_
    refine ga_istore_n ok 1 rfl hn1 dX3_meanBadges_21 ?_
    refine ga_iconst ok dX3_meanBadges_22 ?_
    refine ga_istore_n ok 2 rfl hn2 dX3_meanBadges_23 ?_
    have loop : ∀ (i : Int), 0 ≤ i ∧ i ≤ r 1 → WA G E 0 0 24 [(2, vI i), (1, vI (zs (fun v => szO (vX r v) 10) i.toNat)), (0, .ref 0)] [] m := by
      refine wl1 _ (fun i => (r 1 - i).toNat) _ ?_
      intro i hi ih
      have e9 := zs_n (f := fun v => szO (vX r v) 10) hi.1
      refine ga_iload_n ok 2 rfl rfl dX3_meanBadges_24 ?_
      refine ga_aload_n ok 0 rfl rfl dX3_meanBadges_25 ?_
      refine gf_X3_12 ok hG rfl dX3_meanBadges_26 ?_
      refine gf_X3_213 ok hG (by omega) dX3_meanBadges_29 ?_
      rw [e4]
      refine ga_icmp_ge ok 56 (by decide) (by omega) (by omega) dX3_meanBadges_32 (fun c_32 => ?_) (fun c_32 => ?_)
      · refine ga_iload_n ok 1 rfl rfl dX3_meanBadges_56 ?_
        refine ga_i2d ok dX3_meanBadges_57 ?_
        refine ga_aload_n ok 0 rfl rfl dX3_meanBadges_58 ?_
        refine gf_X3_12 ok hG rfl dX3_meanBadges_59 ?_
        refine gf_X3_213 ok hG (by omega) dX3_meanBadges_62 ?_
        rw [e4]
        refine ga_i2d ok dX3_meanBadges_65 ?_
        refine ga_ddiv ok dX3_meanBadges_66 (n64_div (by omega)) ?_
        exact ga_dreturn ok en rfl (by decide) (by decide) dX3_meanBadges_67 ⟨h1, by rw [show i = r 1 by omega], rfl⟩
      · refine ga_iload_n ok 1 rfl rfl dX3_meanBadges_35 ?_
        refine ga_aload_n ok 0 rfl rfl dX3_meanBadges_36 ?_
        refine gf_X3_12 ok hG rfl dX3_meanBadges_37 ?_
        refine gf_X3_135 ok hG (by omega) dX3_meanBadges_40 ?_
        refine ga_iload_n ok 2 rfl rfl dX3_meanBadges_43 ?_
        refine ga_iaload_ia ok (ar_se hG (by omega)) (by omega) dX3_meanBadges_44 ?_
        rw [(hv i.toNat (by omega)).1]
        refine gd_J_1 ok lj_X3_143 (c_J6_bitCount ok.fl hG (by have hq9 := hvb i.toNat (by omega); omega)) (by rw [hR]; exact ⟨by decide, by decide, by decide, by decide⟩) (Nat.le_of_ble_eq_true rfl) dX3_meanBadges_45 ?_
        refine ga_iadd ok dX3_meanBadges_48 ?_
        refine ga_istore_n ok 1 rfl hn1 dX3_meanBadges_49 ?_
        refine ga_iinc ok rfl hn2 dX3_meanBadges_50 ?_
        refine ga_goto ok 24 (by decide) dX3_meanBadges_53 ?_
        exact WA.re (by exact ⟨rfl, (by rw [e9]; rfl), rfl, trivial⟩) (ih (i + 1) (by omega) (by omega))
    exact WA.re (by exact ⟨rfl, rfl, rfl, trivial⟩) (loop 0 (by omega))
  · exact ga_throw ok en htab lt_ArithmeticException (text := "there are no visitors") (by decide +kernel) ⟨by decide, by decide, by decide, by decide⟩ (Nat.le_of_ble_eq_true rfl) dX3_meanBadges_10 dX3_meanBadges_13 dX3_meanBadges_14 dX3_meanBadges_16 dX3_meanBadges_19 ⟨⟨rfl, c_7⟩, rfl⟩
