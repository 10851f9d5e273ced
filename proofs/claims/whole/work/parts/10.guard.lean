/-! WHAT A GUARD DOES, in whole numbers: c i what is counted for the bias (0) and the badges (1 .. 10), x a set of badges -/
def mgA (c : Nat → Int) (x : Int) : Nat → Int
  | 0 => c 0
  | n + 1 => if x / 2 ^ n % 2 ^ 1 = 1 then mgA c x n + c (n + 1) else mgA c x n
def mg (c : Nat → Int) (x : Int) : Int := mgA c x 10
def cBd (c : Nat → Int) : Prop := ∀ i, i < 11 → -60000 ≤ c i ∧ c i ≤ 60000
theorem mgA_bd {c : Nat → Int} (h : cBd c) (x : Int) : ∀ n : Nat, n ≤ 10 → -(60000 * ((n : Int) + 1)) ≤ mgA c x n ∧ mgA c x n ≤ 60000 * ((n : Int) + 1)
  | 0, _ => by have := h 0 (by omega); simp only [mgA]; omega
  | n + 1, hn => by
    have h1 := mgA_bd h x n (by omega)
    have h2 := h (n + 1) (by omega)
    simp only [mgA]
    split <;> (push_cast; omega)
theorem mg_bd {c : Nat → Int} (h : cBd c) (x : Int) : -16777216 < mg c x ∧ mg c x < 16777216 := by
  have := mgA_bd h x 10 (by omega)
  unfold mg
  omega
theorem mgA_bd2 {c : Nat → Int} (h : cBd c) (x : Int) {n : Nat} (hn : n ≤ 10) : -16777216 < mgA c x n ∧ mgA c x n < 16777216 := by
  have := mgA_bd h x n hn
  omega
theorem mgA_t {c : Nat → Int} {x i : Int} (hi : 0 ≤ i) (h : x / 2 ^ i.toNat % 2 ^ 1 = 1) : mgA c x (i + 1).toNat = mgA c x i.toNat + c (i + 1).toNat := by
  rw [show (i + 1).toNat = i.toNat + 1 by omega]
  simp only [mgA]
  rw [if_pos h]
theorem mgA_f {c : Nat → Int} {x i : Int} (hi : 0 ≤ i) (h : x / 2 ^ i.toNat % 2 ^ 1 ≠ 1) : mgA c x (i + 1).toNat = mgA c x i.toNat := by
  rw [show (i + 1).toNat = i.toNat + 1 by omega]
  simp only [mgA]
  rw [if_neg h]
theorem bit_rng (x : Int) (i : Nat) : -2147483648 ≤ x / 2 ^ i % 2 ^ 1 ∧ x / 2 ^ i % 2 ^ 1 ≤ 2147483647 := by
  have h1 := Int.emod_nonneg (x / 2 ^ i) (show (2 : Int) ^ 1 ≠ 0 by decide)
  have h2 := Int.emod_lt_of_pos (x / 2 ^ i) (show (0 : Int) < 2 ^ 1 by decide)
  omega
/-- how two numbers compare, as the machine tells it -/
def cmpz (i j : Int) : Int := if i < j then -1 else if i = j then 0 else 1
theorem cmpz_rng (i j : Int) : -2147483648 ≤ cmpz i j ∧ cmpz i j ≤ 2147483647 := by unfold cmpz; split <;> (try split) <;> omega
theorem cmpz_le {i j : Int} : cmpz i j ≤ 0 ↔ i ≤ j := by unfold cmpz; split <;> (try split) <;> omega
theorem cmpz_lt {i j : Int} : cmpz i j < 0 ↔ i < j := by unfold cmpz; split <;> (try split) <;> omega
theorem cmpz_gt {i j : Int} : 0 < cmpz i j ↔ j < i := by unfold cmpz; split <;> (try split) <;> omega
theorem cmpz_ge {i j : Int} : 0 ≤ cmpz i j ↔ j ≤ i := by unfold cmpz; split <;> (try split) <;> omega
theorem cmpz_eq {i j : Int} : cmpz i j = 0 ↔ i = j := by unfold cmpz; split <;> (try split) <;> omega
theorem fq_cmpz {i j : Int} {op : CmpOp} (hi : -16777216 < i ∧ i < 16777216) (hj : -16777216 < j ∧ j < 16777216) : Op.cmpValue (FP.fcmp (fq i) (fq j)) op = Int32.ofInt (cmpz i j) := by
  rw [fq_cmp hi hj]
  unfold cmpz
  by_cases h : i < j
  · rw [if_pos h, show compare i j = .lt from Int.compare_eq_lt.mpr h]; cases op <;> rfl
  · by_cases h2 : i = j
    · rw [if_neg h, if_pos h2, show compare i j = .eq from Int.compare_eq_eq.mpr h2]; cases op <;> rfl
    · rw [if_neg h, if_neg h2, show compare i j = .gt from Int.compare_eq_gt.mpr (by omega)]; cases op <;> rfl
theorem fq_cmpz0 {i : Int} {op : CmpOp} (hi : -16777216 < i ∧ i < 16777216) : Op.cmpValue (FP.fcmp (fq i) FP.fconst0) op = Int32.ofInt (cmpz i 0) := by
  rw [← fq_0]; exact fq_cmpz hi (by omega)
def bz (p : Prop) [Decidable p] : Int := if p then 1 else 0
/-- whether a lesson pushes: k the margin in 64ths, ca the caution, fr 1 for a friend -/
def pshd (k ca fr : Int) : Prop := ¬ (0 < k ↔ fr = 1) ∨ (if k < 0 then -k else k) < ca
def psh (c : Nat → Int) (x ca fr : Int) : Prop := pshd (mg c x) ca fr
/-- the bias and the badges that a push touches -/
def tch (x : Int) (i : Nat) : Prop := (2 * x + 1) / 2 ^ i % 2 ^ 1 = 1
theorem tch_0 (x : Int) : tch x 0 := by unfold tch; simp
theorem tch_s (x : Int) (i : Nat) : tch x (i + 1) ↔ x / 2 ^ i % 2 ^ 1 = 1 := by
  unfold tch
  rw [show (2 : Int) ^ (i + 1) = 2 * 2 ^ i by rw [Int.pow_succ, Int.mul_comm], ← Int.ediv_ediv_of_nonneg (by decide), show (2 * x + 1) / 2 = x by omega]
theorem or_1 {x : Int} (h : 0 ≤ x) : (((x * 2 ^ (1 : Int).toNat).toNat ||| (1 : Int).toNat : Nat) : Int) = 2 * x + 1 := by
  obtain ⟨n, rfl⟩ := oi_nz h
  have e : ((n : Int) * 2 ^ (1 : Int).toNat).toNat = n <<< 1 := by
    rw [Nat.shiftLeft_eq]
    show ((n : Int) * 2).toNat = n * 2
    omega
  rw [e, show (1 : Int).toNat = 1 from rfl, ← Nat.shiftLeft_add_eq_or_of_lt (by decide), Nat.shiftLeft_eq]
  push_cast
  omega
def rok (c : Nat → Int) (x dl : Int) : Prop := ∀ i, i < 11 → tch x i → -60000 ≤ c i + dl ∧ c i + dl ≤ 60000
set_option maxHeartbeats 4000000 in
set_option maxRecDepth 100000 in
/-- the margin by floats -/
theorem c_X1_marginOf {G : GG} {l : Launch} (hfl : l.stackTraces = false) (hG : MW G) {m : Mm} {g : Nat} (hg : 320 ≤ g ∧ g < 365) {x : Int} (hx : 0 ≤ x ∧ x ≤ 1023) (hw : ∀ i, i < 11 → m.2 (g + 64) i = fq (m.1 (g + 128) i)) (hc : cBd (m.1 (g + 128))) : CT G l yX1_marginOf cX1_marginOf 4 (some .float) (RM 0 0 0) [.ref g, vI x] m (fun r m' => r = some (.float (fq (mg (m.1 (g + 128)) x))) ∧ m' = m) (fun _ _ => False) := by
  refine CT.of RX1 [(0, .ref g), (1, vI x)] hfl (by decide +kernel) rfl rfl (Nat.le_of_ble_eq_true rfl) ?_
  intro E ok en hml hEl htab
  have hR : e_R E = RM 0 0 0 := en.2.2.2
  have hn0 : 0 < (e_c E).maxLocals := by rw [hml]; decide
  have hn1 : 1 < (e_c E).maxLocals := by rw [hml]; decide
  have hn2 : 2 < (e_c E).maxLocals := by rw [hml]; decide
  have hn3 : 3 < (e_c E).maxLocals := by rw [hml]; decide
  have loop : ∀ i : Int, 0 ≤ i ∧ i ≤ 10 → WA G E 0 0 9 [(3, vI i), (2, .float (fq (mgA (m.1 (g + 128)) x i.toNat))), (0, .ref g), (1, vI x)] [] m := by
    refine wl1 _ (fun i => (10 - i).toNat) _ ?_
    intro i hi ih
    refine ga_iload_n ok 3 rfl rfl dX1_marginOf_9 ?_
    refine ga_bipush ok dX1_marginOf_10 (by decide) ?_
    refine ga_icmp_ge ok 41 (by decide) (by omega) (by omega) dX1_marginOf_12 (fun c_12 => ?_) (fun c_12 => ?_)
    · refine ga_fload_n ok 2 rfl rfl dX1_marginOf_41 ?_
      exact ga_freturn ok en rfl (by decide) (by decide) dX1_marginOf_42 ⟨by rw [show mg (m.1 (g + 128)) x = mgA (m.1 (g + 128)) x i.toNat by rw [show i.toNat = 10 by omega]; rfl], rfl⟩
    · refine ga_iload_n ok 1 rfl rfl dX1_marginOf_15 ?_
      refine ga_iload_n ok 3 rfl rfl dX1_marginOf_16 ?_
      refine ga_ishr ok dX1_marginOf_17 (by omega) (by omega) ?_
      refine ga_iconst ok dX1_marginOf_18 ?_
      refine ga_iand ok 1 dX1_marginOf_19 (by decide) (by decide) ?_
      refine ga_iconst ok dX1_marginOf_20 ?_
      refine ga_icmp_ne ok 35 (by decide) (bit_rng _ _) (by omega) dX1_marginOf_21 (fun c_21 => ?_) (fun c_21 => ?_)
      · rw [← mgA_f (c := m.1 (g + 128)) hi.1 c_21]
        refine ga_iinc ok rfl hn3 dX1_marginOf_35 ?_
        refine ga_goto ok 9 (by decide) dX1_marginOf_38 ?_
        exact WA.re (by exact ⟨rfl, rfl, rfl, rfl, trivial⟩) (ih (i + 1) (by omega) (by omega))
      · refine ga_fload_n ok 2 rfl rfl dX1_marginOf_24 ?_
        refine ga_aload_n ok 0 rfl rfl dX1_marginOf_25 ?_
        refine gf_X1_18 ok hG (by omega) dX1_marginOf_26 ?_
        refine ga_iload_n ok 3 rfl rfl dX1_marginOf_29 ?_
        refine ga_iconst ok dX1_marginOf_30 ?_
        refine ga_iadd ok dX1_marginOf_31 ?_
        refine ga_faload_fa ok (ar_we hG (by omega)) (by omega) dX1_marginOf_32 ?_
        have hs : FP.fadd (fq (mgA (m.1 (g + 128)) x i.toNat)) (m.2 (g + 64) (i + 1).toNat) = fq (mgA (m.1 (g + 128)) x (i + 1).toNat) := by
          have h1 := mgA_bd2 hc x (n := i.toNat) (by omega)
          have h2 := hc (i + 1).toNat (by omega)
          have h3 := mgA_bd2 hc x (n := (i + 1).toNat) (by omega)
          rw [mgA_t hi.1 c_21] at h3 ⊢
          rw [hw _ (by omega), fq_add h1 (by omega) h3]
        refine ga_fadd ok dX1_marginOf_33 (by rw [hs]; exact fq_n32 (mgA_bd2 hc x (by omega))) ?_
        rw [hs]
        refine ga_fstore_n ok 2 rfl hn2 dX1_marginOf_34 ?_
        refine ga_iinc ok rfl hn3 dX1_marginOf_35 ?_
        refine ga_goto ok 9 (by decide) dX1_marginOf_38 ?_
        exact WA.re (by exact ⟨rfl, rfl, rfl, rfl, trivial⟩) (ih (i + 1) (by omega) (by omega))
  refine ga_aload_n ok 0 rfl rfl dX1_marginOf_0 ?_
  refine gf_X1_18 ok hG (by omega) dX1_marginOf_1 ?_
  refine ga_iconst ok dX1_marginOf_4 ?_
  refine ga_faload_fa ok (ar_we hG (by omega)) (by decide) dX1_marginOf_5 ?_
  rw [show ((0 : Int).toNat : Nat) = 0 from rfl, hw 0 (by omega)]
  refine ga_fstore_n ok 2 rfl hn2 dX1_marginOf_6 ?_
  refine ga_iconst ok dX1_marginOf_7 ?_
  refine ga_istore_n ok 3 rfl hn3 dX1_marginOf_8 ?_
  exact WA.re (by exact ⟨rfl, rfl, rfl, rfl, trivial⟩) (loop 0 (by omega))
set_option maxHeartbeats 4000000 in
set_option maxRecDepth 100000 in
/-- the margin by counted pushes -/
theorem c_X1_countedMarginOf {G : GG} {l : Launch} (hfl : l.stackTraces = false) (hG : MW G) {m : Mm} {g : Nat} (hg : 320 ≤ g ∧ g < 365) {x : Int} (hx : 0 ≤ x ∧ x ≤ 1023) (hc : cBd (m.1 (g + 128))) : CT G l yX1_countedMarginOf cX1_countedMarginOf 4 (some .float) (RM 0 0 0) [.ref g, vI x] m (fun r m' => r = some (.float (fq (mg (m.1 (g + 128)) x))) ∧ m' = m) (fun _ _ => False) := by
  refine CT.of RX1 [(0, .ref g), (1, vI x)] hfl (by decide +kernel) rfl rfl (Nat.le_of_ble_eq_true rfl) ?_
  intro E ok en hml hEl htab
  have hR : e_R E = RM 0 0 0 := en.2.2.2
  have hn0 : 0 < (e_c E).maxLocals := by rw [hml]; decide
  have hn1 : 1 < (e_c E).maxLocals := by rw [hml]; decide
  have hn2 : 2 < (e_c E).maxLocals := by rw [hml]; decide
  have hn3 : 3 < (e_c E).maxLocals := by rw [hml]; decide
  have loop : ∀ i : Int, 0 ≤ i ∧ i ≤ 10 → WA G E 0 0 9 [(3, vI i), (2, vI (mgA (m.1 (g + 128)) x i.toNat)), (0, .ref g), (1, vI x)] [] m := by
    refine wl1 _ (fun i => (10 - i).toNat) _ ?_
    intro i hi ih
    refine ga_iload_n ok 3 rfl rfl dX1_countedMarginOf_9 ?_
    refine ga_bipush ok dX1_countedMarginOf_10 (by decide) ?_
    refine ga_icmp_ge ok 41 (by decide) (by omega) (by omega) dX1_countedMarginOf_12 (fun c_12 => ?_) (fun c_12 => ?_)
    · refine ga_iload_n ok 2 rfl rfl dX1_countedMarginOf_41 ?_
      refine ga_i2f ok dX1_countedMarginOf_42 ?_
      refine ga_ldcf (z := 1115684864) ok dX1_countedMarginOf_43 (tb_in 262 (by decide +kernel) (by decide +kernel)) ?_
      have he : FP.fdiv (FP.i2f (Int32.ofInt (mgA (m.1 (g + 128)) x i.toNat))) 1115684864 = fq (mg (m.1 (g + 128)) x) := by
        rw [show i.toNat = 10 by omega]; rfl
      refine ga_fdiv ok dX1_countedMarginOf_45 (by rw [he]; exact fq_n32 (mg_bd hc x)) ?_
      exact ga_freturn ok en rfl (by decide) (by decide) dX1_countedMarginOf_46 ⟨by rw [he], rfl⟩
    · refine ga_iload_n ok 1 rfl rfl dX1_countedMarginOf_15 ?_
      refine ga_iload_n ok 3 rfl rfl dX1_countedMarginOf_16 ?_
      refine ga_ishr ok dX1_countedMarginOf_17 (by omega) (by omega) ?_
      refine ga_iconst ok dX1_countedMarginOf_18 ?_
      refine ga_iand ok 1 dX1_countedMarginOf_19 (by decide) (by decide) ?_
      refine ga_iconst ok dX1_countedMarginOf_20 ?_
      refine ga_icmp_ne ok 35 (by decide) (bit_rng _ _) (by omega) dX1_countedMarginOf_21 (fun c_21 => ?_) (fun c_21 => ?_)
      · rw [← mgA_f (c := m.1 (g + 128)) hi.1 c_21]
        refine ga_iinc ok rfl hn3 dX1_countedMarginOf_35 ?_
        refine ga_goto ok 9 (by decide) dX1_countedMarginOf_38 ?_
        exact WA.re (by exact ⟨rfl, rfl, rfl, rfl, trivial⟩) (ih (i + 1) (by omega) (by omega))
      · refine ga_iload_n ok 2 rfl rfl dX1_countedMarginOf_24 ?_
        refine ga_aload_n ok 0 rfl rfl dX1_countedMarginOf_25 ?_
        refine gf_X1_22 ok hG (by omega) dX1_countedMarginOf_26 ?_
        refine ga_iload_n ok 3 rfl rfl dX1_countedMarginOf_29 ?_
        refine ga_iconst ok dX1_countedMarginOf_30 ?_
        refine ga_iadd ok dX1_countedMarginOf_31 ?_
        refine ga_iaload_ia ok (ar_co hG (by omega)) (by omega) dX1_countedMarginOf_32 ?_
        refine ga_iadd ok dX1_countedMarginOf_33 ?_
        rw [← mgA_t (c := m.1 (g + 128)) hi.1 c_21]
        refine ga_istore_n ok 2 rfl hn2 dX1_countedMarginOf_34 ?_
        refine ga_iinc ok rfl hn3 dX1_countedMarginOf_35 ?_
        refine ga_goto ok 9 (by decide) dX1_countedMarginOf_38 ?_
        exact WA.re (by exact ⟨rfl, rfl, rfl, rfl, trivial⟩) (ih (i + 1) (by omega) (by omega))
  refine ga_aload_n ok 0 rfl rfl dX1_countedMarginOf_0 ?_
  refine gf_X1_22 ok hG (by omega) dX1_countedMarginOf_1 ?_
  refine ga_iconst ok dX1_countedMarginOf_4 ?_
  refine ga_iaload_ia ok (ar_co hG (by omega)) (by decide) dX1_countedMarginOf_5 ?_
  refine ga_istore_n ok 2 rfl hn2 dX1_countedMarginOf_6 ?_
  refine ga_iconst ok dX1_countedMarginOf_7 ?_
  refine ga_istore_n ok 3 rfl hn3 dX1_countedMarginOf_8 ?_
  exact WA.re (by exact ⟨rfl, rfl, rfl, rfl, trivial⟩) (loop 0 (by omega))
set_option maxHeartbeats 4000000 in
set_option maxRecDepth 100000 in
/-- whether a set is let in -/
theorem c_X1_admits {G : GG} {l : Launch} (hfl : l.stackTraces = false) (hG : MW G) {m : Mm} {g : Nat} (hg : 320 ≤ g ∧ g < 365) {x : Int} (hx : 0 ≤ x ∧ x ≤ 1023) (hw : ∀ i, i < 11 → m.2 (g + 64) i = fq (m.1 (g + 128) i)) (hc : cBd (m.1 (g + 128))) : CT G l yX1_admits cX1_admits 2 (some .boolean) (RM 1 0 0) [.ref g, vI x] m (fun r m' => r = some (vI (bz (0 < mg (m.1 (g + 128)) x))) ∧ m' = m) (fun _ _ => False) := by
  refine CT.of RX1 [(0, .ref g), (1, vI x)] hfl (by decide +kernel) rfl rfl (Nat.le_of_ble_eq_true rfl) ?_
  intro E ok en hml hEl htab
  have hR : e_R E = RM 1 0 0 := en.2.2.2
  have hn0 : 0 < (e_c E).maxLocals := by rw [hml]; decide
  have hn1 : 1 < (e_c E).maxLocals := by rw [hml]; decide
  refine ga_aload_n ok 0 rfl rfl dX1_admits_0 ?_
  refine ga_iload_n ok 1 rfl rfl dX1_admits_1 ?_
  refine gd_X1_1 ok hG (by omega) lk_X1_48 rfl (c_X1_marginOf ok.fl hG hg hx hw hc) (by rw [hR]; exact ⟨by decide, by decide, by decide, by decide⟩) (by decide) dX1_admits_2 ?_
  refine ga_fconst0 ok dX1_admits_5 ?_
  refine ga_fcmp ok dX1_admits_6 (fq_cmpz0 (mg_bd hc x)) ?_
  refine ga_if_le ok 14 (by decide) (cmpz_rng _ _) dX1_admits_7 (fun c_7 => ?_) (fun c_7 => ?_)
  · have h7 := cmpz_le.mp c_7
    refine ga_iconst ok dX1_admits_14 ?_
    exact ga_ireturn ok en rfl (by decide) (by decide) (by decide) dX1_admits_15 ⟨by unfold bz; first | rw [if_pos (by omega)] | rw [if_neg (by omega)], rfl⟩
  · have h7 := cmpz_gt.mp c_7
    refine ga_iconst ok dX1_admits_10 ?_
    refine ga_goto ok 15 (by decide) dX1_admits_11 ?_
    exact ga_ireturn ok en rfl (by decide) (by decide) (by decide) dX1_admits_15 ⟨by unfold bz; first | rw [if_pos (by omega)] | rw [if_neg (by omega)], rfl⟩
set_option maxHeartbeats 4000000 in
set_option maxRecDepth 100000 in
/-- whether a lesson pushes -/
theorem c_X1_needsPush {G : GG} {l : Launch} (hfl : l.stackTraces = false) (hG : MW G) {m : Mm} {g : Nat} (hg : 320 ≤ g ∧ g < 365) {k fr : Int} (hk : -16777216 < k ∧ k < 16777216) (hfr : fr = 0 ∨ fr = 1) (hca : 0 ≤ m.1 g 1 ∧ m.1 g 1 ≤ 256) (dp : Decidable (pshd k (m.1 g 1) fr)) : CT G l yX1_needsPush cX1_needsPush 4 (some .boolean) (RM 0 0 0) [.ref g, .float (fq k), vI fr] m (fun r m' => r = some (vI (if pshd k (m.1 g 1) fr then 1 else 0)) ∧ m' = m) (fun _ _ => False) := by
  refine CT.of RX1 [(0, .ref g), (1, .float (fq k)), (2, vI fr)] hfl (by decide +kernel) rfl rfl (Nat.le_of_ble_eq_true rfl) ?_
  intro E ok en hml hEl htab
  have hR : e_R E = RM 0 0 0 := en.2.2.2
  have hn0 : 0 < (e_c E).maxLocals := by rw [hml]; decide
  have hn1 : 1 < (e_c E).maxLocals := by rw [hml]; decide
  have hn2 : 2 < (e_c E).maxLocals := by rw [hml]; decide
  have hn3 : 3 < (e_c E).maxLocals := by rw [hml]; decide
  refine ga_fload_n ok 1 rfl rfl dX1_needsPush_0 ?_
  refine ga_fconst0 ok dX1_needsPush_1 ?_
  refine ga_fcmp ok dX1_needsPush_2 (fq_cmpz0 hk) ?_
  refine ga_if_le ok 10 (by decide) (cmpz_rng _ _) dX1_needsPush_3 (fun c_3 => ?_) (fun c_3 => ?_)
  · have h3 := cmpz_le.mp c_3
    refine ga_iconst ok dX1_needsPush_10 ?_
    refine ga_iload_n ok 2 rfl rfl dX1_needsPush_11 ?_
    refine ga_icmp_eq ok 17 (by decide) (by omega) (by omega) dX1_needsPush_12 (fun c_12 => ?_) (fun c_12 => ?_)
    · refine ga_fload_n ok 1 rfl rfl dX1_needsPush_17 ?_
      refine ga_fconst0 ok dX1_needsPush_18 ?_
      refine ga_fcmp ok dX1_needsPush_19 (fq_cmpz0 hk) ?_
      refine ga_if_ge ok 29 (by decide) (cmpz_rng _ _) dX1_needsPush_20 (fun c_20 => ?_) (fun c_20 => ?_)
      · have h20 := cmpz_ge.mp c_20
        have hab : (if k < 0 then -k else k) = k := if_neg (by omega)
        refine ga_fload_n ok 1 rfl rfl dX1_needsPush_29 ?_
        refine ga_fstore_n ok 3 rfl hn3 dX1_needsPush_30 ?_
        refine ga_fload_n ok 3 rfl rfl dX1_needsPush_31 ?_
        refine ga_aload_n ok 0 rfl rfl dX1_needsPush_32 ?_
        refine gf_X1_15 ok hG (by omega) dX1_needsPush_33 ?_
        refine ga_i2f ok dX1_needsPush_36 ?_
        refine ga_ldcf (z := 1115684864) ok dX1_needsPush_37 (tb_in 262 (by decide +kernel) (by decide +kernel)) ?_
        have he : FP.fdiv (FP.i2f (Int32.ofInt (m.1 g 1))) 1115684864 = fq (m.1 g 1) := rfl
        refine ga_fdiv ok dX1_needsPush_39 (by rw [he]; exact fq_n32 (by omega)) ?_
        rw [he]
        refine ga_fcmp ok dX1_needsPush_40 (fq_cmpz (by omega) (by omega)) ?_
        refine ga_if_ge ok 48 (by decide) (cmpz_rng _ _) dX1_needsPush_41 (fun c_41 => ?_) (fun c_41 => ?_)
        · have h41 := cmpz_ge.mp c_41
          refine ga_iconst ok dX1_needsPush_48 ?_
          exact ga_ireturn ok en rfl (by decide) (by decide) (by decide) dX1_needsPush_49 ⟨by first | (rw [if_pos]; unfold pshd; right; omega) | (rw [if_neg]; unfold pshd; omega), rfl⟩
        · have h41 := cmpz_lt.mp c_41
          refine ga_iconst ok dX1_needsPush_44 ?_
          refine ga_goto ok 49 (by decide) dX1_needsPush_45 ?_
          exact ga_ireturn ok en rfl (by decide) (by decide) (by decide) dX1_needsPush_49 ⟨by first | (rw [if_pos]; unfold pshd; right; omega) | (rw [if_neg]; unfold pshd; omega), rfl⟩
      · have h20 := cmpz_lt.mp c_20
        have hab : (if k < 0 then -k else k) = -k := if_pos (by omega)
        refine ga_fconst0 ok dX1_needsPush_23 ?_
        refine ga_fload_n ok 1 rfl rfl dX1_needsPush_24 ?_
        have hs : FP.fsub FP.fconst0 (fq k) = fq (-k) := by rw [← fq_0, fq_sub (by omega) hk (by omega)]; congr 1; omega
        refine ga_fsub ok dX1_needsPush_25 (by rw [hs]; exact fq_n32 (by omega)) ?_
        rw [hs]
        refine ga_goto ok 30 (by decide) dX1_needsPush_26 ?_
        refine ga_fstore_n ok 3 rfl hn3 dX1_needsPush_30 ?_
        refine ga_fload_n ok 3 rfl rfl dX1_needsPush_31 ?_
        refine ga_aload_n ok 0 rfl rfl dX1_needsPush_32 ?_
        refine gf_X1_15 ok hG (by omega) dX1_needsPush_33 ?_
        refine ga_i2f ok dX1_needsPush_36 ?_
        refine ga_ldcf (z := 1115684864) ok dX1_needsPush_37 (tb_in 262 (by decide +kernel) (by decide +kernel)) ?_
        have he : FP.fdiv (FP.i2f (Int32.ofInt (m.1 g 1))) 1115684864 = fq (m.1 g 1) := rfl
        refine ga_fdiv ok dX1_needsPush_39 (by rw [he]; exact fq_n32 (by omega)) ?_
        rw [he]
        refine ga_fcmp ok dX1_needsPush_40 (fq_cmpz (by omega) (by omega)) ?_
        refine ga_if_ge ok 48 (by decide) (cmpz_rng _ _) dX1_needsPush_41 (fun c_41 => ?_) (fun c_41 => ?_)
        · have h41 := cmpz_ge.mp c_41
          refine ga_iconst ok dX1_needsPush_48 ?_
          exact ga_ireturn ok en rfl (by decide) (by decide) (by decide) dX1_needsPush_49 ⟨by first | (rw [if_pos]; unfold pshd; right; omega) | (rw [if_neg]; unfold pshd; omega), rfl⟩
        · have h41 := cmpz_lt.mp c_41
          refine ga_iconst ok dX1_needsPush_44 ?_
          refine ga_goto ok 49 (by decide) dX1_needsPush_45 ?_
          exact ga_ireturn ok en rfl (by decide) (by decide) (by decide) dX1_needsPush_49 ⟨by first | (rw [if_pos]; unfold pshd; right; omega) | (rw [if_neg]; unfold pshd; omega), rfl⟩
    · refine ga_iconst ok dX1_needsPush_15 ?_
      exact ga_ireturn ok en rfl (by decide) (by decide) (by decide) dX1_needsPush_16 ⟨by rw [if_pos]; unfold pshd; left; omega, rfl⟩
  · have h3 := cmpz_gt.mp c_3
    refine ga_iconst ok dX1_needsPush_6 ?_
    refine ga_goto ok 11 (by decide) dX1_needsPush_7 ?_
    refine ga_iload_n ok 2 rfl rfl dX1_needsPush_11 ?_
    refine ga_icmp_eq ok 17 (by decide) (by omega) (by omega) dX1_needsPush_12 (fun c_12 => ?_) (fun c_12 => ?_)
    · refine ga_fload_n ok 1 rfl rfl dX1_needsPush_17 ?_
      refine ga_fconst0 ok dX1_needsPush_18 ?_
      refine ga_fcmp ok dX1_needsPush_19 (fq_cmpz0 hk) ?_
      refine ga_if_ge ok 29 (by decide) (cmpz_rng _ _) dX1_needsPush_20 (fun c_20 => ?_) (fun c_20 => ?_)
      · have h20 := cmpz_ge.mp c_20
        have hab : (if k < 0 then -k else k) = k := if_neg (by omega)
        refine ga_fload_n ok 1 rfl rfl dX1_needsPush_29 ?_
        refine ga_fstore_n ok 3 rfl hn3 dX1_needsPush_30 ?_
        refine ga_fload_n ok 3 rfl rfl dX1_needsPush_31 ?_
        refine ga_aload_n ok 0 rfl rfl dX1_needsPush_32 ?_
        refine gf_X1_15 ok hG (by omega) dX1_needsPush_33 ?_
        refine ga_i2f ok dX1_needsPush_36 ?_
        refine ga_ldcf (z := 1115684864) ok dX1_needsPush_37 (tb_in 262 (by decide +kernel) (by decide +kernel)) ?_
        have he : FP.fdiv (FP.i2f (Int32.ofInt (m.1 g 1))) 1115684864 = fq (m.1 g 1) := rfl
        refine ga_fdiv ok dX1_needsPush_39 (by rw [he]; exact fq_n32 (by omega)) ?_
        rw [he]
        refine ga_fcmp ok dX1_needsPush_40 (fq_cmpz (by omega) (by omega)) ?_
        refine ga_if_ge ok 48 (by decide) (cmpz_rng _ _) dX1_needsPush_41 (fun c_41 => ?_) (fun c_41 => ?_)
        · have h41 := cmpz_ge.mp c_41
          refine ga_iconst ok dX1_needsPush_48 ?_
          exact ga_ireturn ok en rfl (by decide) (by decide) (by decide) dX1_needsPush_49 ⟨by first | (rw [if_pos]; unfold pshd; right; omega) | (rw [if_neg]; unfold pshd; omega), rfl⟩
        · have h41 := cmpz_lt.mp c_41
          refine ga_iconst ok dX1_needsPush_44 ?_
          refine ga_goto ok 49 (by decide) dX1_needsPush_45 ?_
          exact ga_ireturn ok en rfl (by decide) (by decide) (by decide) dX1_needsPush_49 ⟨by first | (rw [if_pos]; unfold pshd; right; omega) | (rw [if_neg]; unfold pshd; omega), rfl⟩
      · have h20 := cmpz_lt.mp c_20
        have hab : (if k < 0 then -k else k) = -k := if_pos (by omega)
        refine ga_fconst0 ok dX1_needsPush_23 ?_
        refine ga_fload_n ok 1 rfl rfl dX1_needsPush_24 ?_
        have hs : FP.fsub FP.fconst0 (fq k) = fq (-k) := by rw [← fq_0, fq_sub (by omega) hk (by omega)]; congr 1; omega
        refine ga_fsub ok dX1_needsPush_25 (by rw [hs]; exact fq_n32 (by omega)) ?_
        rw [hs]
        refine ga_goto ok 30 (by decide) dX1_needsPush_26 ?_
        refine ga_fstore_n ok 3 rfl hn3 dX1_needsPush_30 ?_
        refine ga_fload_n ok 3 rfl rfl dX1_needsPush_31 ?_
        refine ga_aload_n ok 0 rfl rfl dX1_needsPush_32 ?_
        refine gf_X1_15 ok hG (by omega) dX1_needsPush_33 ?_
        refine ga_i2f ok dX1_needsPush_36 ?_
        refine ga_ldcf (z := 1115684864) ok dX1_needsPush_37 (tb_in 262 (by decide +kernel) (by decide +kernel)) ?_
        have he : FP.fdiv (FP.i2f (Int32.ofInt (m.1 g 1))) 1115684864 = fq (m.1 g 1) := rfl
        refine ga_fdiv ok dX1_needsPush_39 (by rw [he]; exact fq_n32 (by omega)) ?_
        rw [he]
        refine ga_fcmp ok dX1_needsPush_40 (fq_cmpz (by omega) (by omega)) ?_
        refine ga_if_ge ok 48 (by decide) (cmpz_rng _ _) dX1_needsPush_41 (fun c_41 => ?_) (fun c_41 => ?_)
        · have h41 := cmpz_ge.mp c_41
          refine ga_iconst ok dX1_needsPush_48 ?_
          exact ga_ireturn ok en rfl (by decide) (by decide) (by decide) dX1_needsPush_49 ⟨by first | (rw [if_pos]; unfold pshd; right; omega) | (rw [if_neg]; unfold pshd; omega), rfl⟩
        · have h41 := cmpz_lt.mp c_41
          refine ga_iconst ok dX1_needsPush_44 ?_
          refine ga_goto ok 49 (by decide) dX1_needsPush_45 ?_
          exact ga_ireturn ok en rfl (by decide) (by decide) (by decide) dX1_needsPush_49 ⟨by first | (rw [if_pos]; unfold pshd; right; omega) | (rw [if_neg]; unfold pshd; omega), rfl⟩
    · refine ga_iconst ok dX1_needsPush_15 ?_
      exact ga_ireturn ok en rfl (by decide) (by decide) (by decide) dX1_needsPush_16 ⟨by rw [if_pos]; unfold pshd; left; omega, rfl⟩
