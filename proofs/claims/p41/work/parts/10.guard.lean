/-! WHAT A GUARD DOES, in whole numbers: c i what is counted for the bias (0) and the badges (1 .. 10), x a set of badges -/
def mgA (c : Nat → Int) (x : Int) : Nat → Int
  | 0 => c 0
  | n + 1 => if x / 2 ^ n % 2 ^ 1 = 1 then mgA c x n + c (n + 1) else mgA c x n
def mg (c : Nat → Int) (x : Int) : Int := mgA c x 10
def cBd (c : Nat → Int) : Prop := ∀ i, i < 11 → -60000 ≤ c i ∧ c i ≤ 60000
theorem mgA_bd {c : Nat → Int} (h : cBd c) (x : Int) : ∀ n : Nat, n ≤ 10 → -(60000 * ((n : Int) + 1)) ≤ mgA c x n ∧ mgA c x n ≤ 60000 * ((n : Int) + 1)
  | 0, _ => by have := h 0 (by omega); simp only [mgA]; omega
  | n + 1, hn => by
    have h1 := mgA_bd h x n (by omega)
    have h2 := h (n + 1) (by omega)
    simp only [mgA]
    split <;> (push_cast; omega)
theorem mg_bd {c : Nat → Int} (h : cBd c) (x : Int) : -16777216 < mg c x ∧ mg c x < 16777216 := by
  have := mgA_bd h x 10 (by omega)
  unfold mg
  omega
theorem mgA_bd2 {c : Nat → Int} (h : cBd c) (x : Int) {n : Nat} (hn : n ≤ 10) : -16777216 < mgA c x n ∧ mgA c x n < 16777216 := by
  have := mgA_bd h x n hn
  omega
theorem mgA_t {c : Nat → Int} {x i : Int} (hi : 0 ≤ i) (h : x / 2 ^ i.toNat % 2 ^ 1 = 1) : mgA c x (i + 1).toNat = mgA c x i.toNat + c (i + 1).toNat := by
  rw [show (i + 1).toNat = i.toNat + 1 by omega]
  simp only [mgA]
  rw [if_pos h]
theorem mgA_f {c : Nat → Int} {x i : Int} (hi : 0 ≤ i) (h : x / 2 ^ i.toNat % 2 ^ 1 ≠ 1) : mgA c x (i + 1).toNat = mgA c x i.toNat := by
  rw [show (i + 1).toNat = i.toNat + 1 by omega]
  simp only [mgA]
  rw [if_neg h]
theorem bit_rng (x : Int) (i : Nat) : -2147483648 ≤ x / 2 ^ i % 2 ^ 1 ∧ x / 2 ^ i % 2 ^ 1 ≤ 2147483647 := by
  have h1 := Int.emod_nonneg (x / 2 ^ i) (show (2 : Int) ^ 1 ≠ 0 by decide)
  have h2 := Int.emod_lt_of_pos (x / 2 ^ i) (show (0 : Int) < 2 ^ 1 by decide)
  omega
/-- how two numbers compare, as the machine tells it -/
def cmpz (i j : Int) : Int := if i < j then -1 else if i = j then 0 else 1
theorem cmpz_rng (i j : Int) : -2147483648 ≤ cmpz i j ∧ cmpz i j ≤ 2147483647 := by unfold cmpz; split <;> (try split) <;> omega
theorem cmpz_le {i j : Int} : cmpz i j ≤ 0 ↔ i ≤ j := by unfold cmpz; split <;> (try split) <;> omega
theorem cmpz_lt {i j : Int} : cmpz i j < 0 ↔ i < j := by unfold cmpz; split <;> (try split) <;> omega
theorem cmpz_gt {i j : Int} : 0 < cmpz i j ↔ j < i := by unfold cmpz; split <;> (try split) <;> omega
theorem cmpz_ge {i j : Int} : 0 ≤ cmpz i j ↔ j ≤ i := by unfold cmpz; split <;> (try split) <;> omega
theorem cmpz_eq {i j : Int} : cmpz i j = 0 ↔ i = j := by unfold cmpz; split <;> (try split) <;> omega
theorem fq_cmpz {i j : Int} {op : CmpOp} (hi : -16777216 < i ∧ i < 16777216) (hj : -16777216 < j ∧ j < 16777216) : Op.cmpValue (FP.fcmp (fq i) (fq j)) op = Int32.ofInt (cmpz i j) := by
  rw [fq_cmp hi hj]
  unfold cmpz
  by_cases h : i < j
  · rw [if_pos h, show compare i j = .lt from Int.compare_eq_lt.mpr h]; cases op <;> rfl
  · by_cases h2 : i = j
    · rw [if_neg h, if_pos h2, show compare i j = .eq from Int.compare_eq_eq.mpr h2]; cases op <;> rfl
    · rw [if_neg h, if_neg h2, show compare i j = .gt from Int.compare_eq_gt.mpr (by omega)]; cases op <;> rfl
theorem fq_cmpz0 {i : Int} {op : CmpOp} (hi : -16777216 < i ∧ i < 16777216) : Op.cmpValue (FP.fcmp (fq i) FP.fconst0) op = Int32.ofInt (cmpz i 0) := by
  rw [← fq_0]; exact fq_cmpz hi (by omega)
def b2i (b : Bool) : Int := if b then 1 else 0
theorem b2i_rng (b : Bool) : -2147483648 ≤ b2i b ∧ b2i b ≤ 2147483647 := by cases b <;> decide
theorem b2i_01 (b : Bool) : 0 ≤ b2i b ∧ b2i b ≤ 1 := by cases b <;> decide
theorem b2i_or (b : Bool) : b2i b = 0 ∨ b2i b = 1 := by cases b <;> decide
theorem b2i_0 {b : Bool} : b2i b = 0 ↔ b = false := by cases b <;> decide
theorem b2i_n0 {b : Bool} : b2i b ≠ 0 ↔ b = true := by cases b <;> decide
theorem b2i_1 {b : Bool} : b2i b = 1 ↔ b = true := by cases b <;> decide
theorem b2i_n1 {b : Bool} : b2i b ≠ 1 ↔ b = false := by cases b <;> decide
theorem b2i_t : b2i true = 1 := rfl
theorem b2i_f : b2i false = 0 := rfl
def adm (c : Nat → Int) (x : Int) : Bool := decide (0 < mg c x)
/-- whether a lesson pushes: k the margin in 64ths, ca the caution, fr 1 for a friend -/
def pshd (k ca fr : Int) : Bool := decide (¬ (0 < k ↔ fr = 1)) || decide ((if k < 0 then -k else k) < ca)
theorem pshd_t {k ca fr : Int} : pshd k ca fr = true ↔ (¬ (0 < k ↔ fr = 1) ∨ (if k < 0 then -k else k) < ca) := by
  unfold pshd
  rw [Bool.or_eq_true, decide_eq_true_eq, decide_eq_true_eq]
theorem pshd_f {k ca fr : Int} : pshd k ca fr = false ↔ ((0 < k ↔ fr = 1) ∧ ca ≤ (if k < 0 then -k else k)) := by
  unfold pshd
  rw [Bool.or_eq_false_iff, decide_eq_false_iff_not, decide_eq_false_iff_not, Classical.not_not, Int.not_lt]
/-- the bias and the badges that a push touches -/
def tch (x : Int) (i : Nat) : Bool := decide ((2 * x + 1) / 2 ^ i % 2 ^ 1 = 1)
theorem tch_t {x : Int} {i : Nat} : tch x i = true ↔ (2 * x + 1) / 2 ^ i % 2 ^ 1 = 1 := by unfold tch; exact decide_eq_true_iff
theorem tch_f {x : Int} {i : Nat} : tch x i = false ↔ (2 * x + 1) / 2 ^ i % 2 ^ 1 ≠ 1 := by unfold tch; exact decide_eq_false_iff_not
theorem tch_0 (x : Int) : tch x 0 = true := by rw [tch_t]; simp
theorem tch_s (x : Int) (i : Nat) : tch x (i + 1) = decide (x / 2 ^ i % 2 ^ 1 = 1) := by
  unfold tch
  rw [show (2 : Int) ^ (i + 1) = 2 * 2 ^ i by rw [Int.pow_succ, Int.mul_comm], ← Int.ediv_ediv_of_nonneg (by decide), show (2 * x + 1) / 2 = x by omega]
theorem or_1 {x : Int} (h : 0 ≤ x) : (((x * 2 ^ (1 : Int).toNat).toNat ||| (1 : Int).toNat : Nat) : Int) = 2 * x + 1 := by
  obtain ⟨n, rfl⟩ := oi_nz h
  have e : ((n : Int) * 2 ^ (1 : Int).toNat).toNat = n <<< 1 := by
    rw [Nat.shiftLeft_eq]
    show ((n : Int) * 2).toNat = n * 2
    omega
  rw [e, show (1 : Int).toNat = 1 from rfl, ← Nat.shiftLeft_add_eq_or_of_lt (by decide), Nat.shiftLeft_eq]
  push_cast
  omega
def rok (c : Nat → Int) (x dl : Int) : Bool := (List.range 11).all (fun i => !tch x i || (decide (-60000 ≤ c i + dl) && decide (c i + dl ≤ 60000)))
theorem rok_t {c : Nat → Int} {x dl : Int} : rok c x dl = true ↔ ∀ i, i < 11 → tch x i = true → -60000 ≤ c i + dl ∧ c i + dl ≤ 60000 := by
  unfold rok
  simp only [List.all_eq_true, List.mem_range, Bool.or_eq_true, Bool.not_eq_true', Bool.and_eq_true, decide_eq_true_eq]
  refine ⟨fun h i hi ht => ?_, fun h i hi => ?_⟩
  · rcases h i hi with h1 | h1
    · rw [ht] at h1; exact absurd h1 (by decide)
    · exact h1
  · cases ht : tch x i
    · exact Or.inl rfl
    · exact Or.inr (h i hi ht)
/-! a guard as 27 numbers, in the order of the reference's rows: 0 rate, 1 caution, 2 days, 3 pushes, 4 of the latest day, 5 lessons, 6 to 16 counted, 17 to 26 the bits of the sums -/
def fbits (z : Int) : UInt32 := (Int32.ofInt z).toUInt32
def fword (x : UInt32) : Int := x.toInt32.toInt
def dlt (S : Nat → Int) (fr : Int) : Int := if fr = 1 then S 0 else -(S 0)
def gcn (S : Nat → Int) : Nat → Int := fun i => S (6 + i)
def psS (S : Nat → Int) (x fr : Int) : Bool := pshd (mg (gcn S) x) (S 1) fr
def tOK (S : Nat → Int) (x fr : Int) : Bool := !psS S x fr || rok (gcn S) x (dlt S fr)
/-- after a lesson -/
def tS (S : Nat → Int) (x fr : Int) : Nat → Int := fun j =>
  if j = 5 then S 5 + 1 else if psS S x fr then (if j = 3 then S 3 + 1 else if 6 ≤ j ∧ j < 17 ∧ tch x (j - 6) then S j + dlt S fr else S j) else S j
/-- after the lessons of the first n visitors; how many pushes; whether none is refused -/
def lpS (S X F : Nat → Int) : Nat → (Nat → Int)
  | 0 => S
  | n + 1 => tS (lpS S X F n) (X n) (F n)
def lpC (S X F : Nat → Int) : Nat → Int
  | 0 => 0
  | n + 1 => lpC S X F n + b2i (psS (lpS S X F n) (X n) (F n))
def lpOK (S X F : Nat → Int) : Nat → Bool
  | 0 => true
  | n + 1 => lpOK S X F n && tOK (lpS S X F n) (X n) (F n)
/-- at the end of a day with p pushes -/
def eS (S : Nat → Int) (p : Int) : Nat → Int := fun j =>
  if j = 2 then S 2 + 1 else if j = 4 then p else if 17 ≤ j ∧ j < 27 then fword (FP.fadd (fbits (S j)) (fq (S (j - 10)))) else S j
def dS (S X F : Nat → Int) (n : Nat) : Nat → Int := eS (lpS S X F n) (lpC S X F n)
/-- days until one is calm, f of them at most; d have gone by -/
def dRun (X F : Nat → Int) (n : Nat) : Nat → (Nat → Int) → Int → Option (Int × (Nat → Int))
  | 0, S, d => some (d, S)
  | f + 1, S, d => if lpOK S X F n then (if lpC S X F n = 0 then some (d + 1, dS S X F n) else dRun X F n f (dS S X F n) (d + 1)) else none
/-- the guard at g is S -/
def gIs (m : Mm) (g : Nat) (S : Nat → Int) : Prop :=
  m.1 g 0 = S 0 ∧ m.1 g 1 = S 1 ∧ m.1 g 5 = S 2 ∧ m.1 g 6 = S 3 ∧ m.1 g 7 = S 4 ∧ m.1 g 8 = S 5 ∧
  (∀ i, i < 11 → m.1 (g + 128) i = S (6 + i) ∧ m.2 (g + 64) i = fq (S (6 + i))) ∧ (∀ i, i < 10 → m.2 (g + 192) i = fbits (S (17 + i)))
/-- its numbers are in their ranges -/
def gOk (T : Int) (S : Nat → Int) : Prop :=
  (1 ≤ S 0 ∧ S 0 ≤ 64) ∧ (0 ≤ S 1 ∧ S 1 ≤ 256) ∧ (∀ j, 2 ≤ j → j ≤ 5 → 0 ≤ S j ∧ S j ≤ T) ∧ (∀ i, i < 11 → -60000 ≤ S (6 + i) ∧ S (6 + i) ≤ 60000) ∧
  (∀ i, i < 10 → FP.Core.val32 (fbits (S (17 + i))) ≠ .nan ∧ -2147483648 ≤ S (17 + i) ∧ S (17 + i) ≤ 2147483647)
/-- nothing else has changed -/
def gFr (m m' : Mm) (g : Nat) : Prop := ∀ n, n ≠ g → n ≠ g + 64 → n ≠ g + 128 → n ≠ g + 192 → m'.1 n = m.1 n ∧ m'.2 n = m.2 n
theorem gFr.rf {m : Mm} {g : Nat} : gFr m m g := fun _ _ _ _ _ => ⟨rfl, rfl⟩
theorem gFr.tr {m m1 m2 : Mm} {g : Nat} (h1 : gFr m m1 g) (h2 : gFr m1 m2 g) : gFr m m2 g := fun n a b c d => ⟨((h2 n a b c d).1).trans (h1 n a b c d).1, ((h2 n a b c d).2).trans (h1 n a b c d).2⟩
theorem gIs.w {m : Mm} {g : Nat} {S : Nat → Int} (h : gIs m g S) : ∀ i, i < 11 → m.2 (g + 64) i = fq (m.1 (g + 128) i) := fun i hi => by
  obtain ⟨-, -, -, -, -, -, h7, -⟩ := h
  rw [(h7 i hi).2, (h7 i hi).1]
theorem gIs.c {m : Mm} {g : Nat} {S : Nat → Int} {T : Int} (h : gIs m g S) (hk : gOk T S) : cBd (m.1 (g + 128)) := fun i hi => by
  obtain ⟨-, -, -, -, -, -, h7, -⟩ := h
  rw [(h7 i hi).1]
  exact hk.2.2.2.1 i hi
theorem mgA_cong {c d : Nat → Int} (x : Int) : ∀ n, n ≤ 10 → (∀ i, i < 11 → c i = d i) → mgA c x n = mgA d x n
  | 0, _, h => h 0 (by omega)
  | n + 1, hn, h => by
    simp only [mgA]
    rw [mgA_cong x n (by omega) h, h (n + 1) (by omega)]
theorem gIs.mg {m : Mm} {g : Nat} {S : Nat → Int} (h : gIs m g S) (x : Int) : mg (m.1 (g + 128)) x = mg (gcn S) x := by
  obtain ⟨-, -, -, -, -, -, h7, -⟩ := h
  exact mgA_cong x 10 (by omega) (fun i hi => (h7 i hi).1)
theorem rok_cong {c d : Nat → Int} {x dl : Int} (h : ∀ i, i < 11 → c i = d i) : rok c x dl = rok d x dl := by
  unfold rok
  rw [Bool.eq_iff_iff, List.all_eq_true, List.all_eq_true]
  constructor
  · intro h1 i hi
    rw [← h i (List.mem_range.mp hi)]; exact h1 i hi
  · intro h1 i hi
    rw [h i (List.mem_range.mp hi)]; exact h1 i hi
set_option maxHeartbeats 4000000 in
set_option maxRecDepth 100000 in
/-- the margin by floats -/
theorem c_X1_marginOf {G : GG} {l : Launch} (hfl : l.stackTraces = false) (hG : MW G) {m : Mm} {g : Nat} (hg : 320 ≤ g ∧ g < 365) {x : Int} (hx : 0 ≤ x ∧ x ≤ 1023) (hw : ∀ i, i < 11 → m.2 (g + 64) i = fq (m.1 (g + 128) i)) (hc : cBd (m.1 (g + 128))) : CT G l yX1_marginOf cX1_marginOf 4 (some .float) (RM 0 0 0) [.ref g, vI x] m (fun r m' => r = some (.float (fq (mg (m.1 (g + 128)) x))) ∧ m' = m) (fun _ _ => False) := by
  refine CT.of RX1 [(0, .ref g), (1, vI x)] hfl (by decide +kernel) rfl rfl (Nat.le_of_ble_eq_true rfl) ?_
  intro E ok en hml hEl htab
  have hR : e_R E = RM 0 0 0 := en.2.2.2
  have hn0 : 0 < (e_c E).maxLocals := by rw [hml]; decide
  have hn1 : 1 < (e_c E).maxLocals := by rw [hml]; decide
  have hn2 : 2 < (e_c E).maxLocals := by rw [hml]; decide
  have hn3 : 3 < (e_c E).maxLocals := by rw [hml]; decide
  have loop : ∀ i : Int, 0 ≤ i ∧ i ≤ 10 → WA G E 0 0 9 [(3, vI i), (2, .float (fq (mgA (m.1 (g + 128)) x i.toNat))), (0, .ref g), (1, vI x)] [] m := by
    refine wl1 _ (fun i => (10 - i).toNat) _ ?_
    intro i hi ih
    refine ga_iload_n ok 3 rfl rfl dX1_marginOf_9 ?_
    refine ga_bipush ok dX1_marginOf_10 (by decide) ?_
    refine ga_icmp_ge ok 41 (by decide) (by omega) (by omega) dX1_marginOf_12 (fun c_12 => ?_) (fun c_12 => ?_)
    · refine ga_fload_n ok 2 rfl rfl dX1_marginOf_41 ?_
      exact ga_freturn ok en rfl (by decide) (by decide) dX1_marginOf_42 ⟨by rw [show mg (m.1 (g + 128)) x = mgA (m.1 (g + 128)) x i.toNat by rw [show i.toNat = 10 by omega]; rfl], rfl⟩
    · refine ga_iload_n ok 1 rfl rfl dX1_marginOf_15 ?_
      refine ga_iload_n ok 3 rfl rfl dX1_marginOf_16 ?_
      refine ga_ishr ok dX1_marginOf_17 (by omega) (by omega) ?_
      refine ga_iconst ok dX1_marginOf_18 ?_
      refine ga_iand ok 1 dX1_marginOf_19 (by decide) (by decide) ?_
      refine ga_iconst ok dX1_marginOf_20 ?_
      refine ga_icmp_ne ok 35 (by decide) (bit_rng _ _) (by omega) dX1_marginOf_21 (fun c_21 => ?_) (fun c_21 => ?_)
      · rw [← mgA_f (c := m.1 (g + 128)) hi.1 c_21]
        refine ga_iinc ok rfl hn3 dX1_marginOf_35 ?_
        refine ga_goto ok 9 (by decide) dX1_marginOf_38 ?_
        exact WA.re (by exact ⟨rfl, rfl, rfl, rfl, trivial⟩) (ih (i + 1) (by omega) (by omega))
      · refine ga_fload_n ok 2 rfl rfl dX1_marginOf_24 ?_
        refine ga_aload_n ok 0 rfl rfl dX1_marginOf_25 ?_
        refine gf_X1_18 ok hG (by omega) dX1_marginOf_26 ?_
        refine ga_iload_n ok 3 rfl rfl dX1_marginOf_29 ?_
        refine ga_iconst ok dX1_marginOf_30 ?_
        refine ga_iadd ok dX1_marginOf_31 ?_
        refine ga_faload_fa ok (ar_we hG (by omega)) (by omega) dX1_marginOf_32 ?_
        have hs : FP.fadd (fq (mgA (m.1 (g + 128)) x i.toNat)) (m.2 (g + 64) (i + 1).toNat) = fq (mgA (m.1 (g + 128)) x (i + 1).toNat) := by
          have h1 := mgA_bd2 hc x (n := i.toNat) (by omega)
          have h2 := hc (i + 1).toNat (by omega)
          have h3 := mgA_bd2 hc x (n := (i + 1).toNat) (by omega)
          rw [mgA_t hi.1 c_21] at h3 ⊢
          rw [hw _ (by omega), fq_add h1 (by omega) h3]
        refine ga_fadd ok dX1_marginOf_33 (by rw [hs]; exact fq_n32 (mgA_bd2 hc x (by omega))) ?_
        rw [hs]
        refine ga_fstore_n ok 2 rfl hn2 dX1_marginOf_34 ?_
        refine ga_iinc ok rfl hn3 dX1_marginOf_35 ?_
        refine ga_goto ok 9 (by decide) dX1_marginOf_38 ?_
        exact WA.re (by exact ⟨rfl, rfl, rfl, rfl, trivial⟩) (ih (i + 1) (by omega) (by omega))
  refine ga_aload_n ok 0 rfl rfl dX1_marginOf_0 ?_
  refine gf_X1_18 ok hG (by omega) dX1_marginOf_1 ?_
  refine ga_iconst ok dX1_marginOf_4 ?_
  refine ga_faload_fa ok (ar_we hG (by omega)) (by decide) dX1_marginOf_5 ?_
  rw [show ((0 : Int).toNat : Nat) = 0 from rfl, hw 0 (by omega)]
  refine ga_fstore_n ok 2 rfl hn2 dX1_marginOf_6 ?_
  refine ga_iconst ok dX1_marginOf_7 ?_
  refine ga_istore_n ok 3 rfl hn3 dX1_marginOf_8 ?_
  exact WA.re (by exact ⟨rfl, rfl, rfl, rfl, trivial⟩) (loop 0 (by omega))
set_option maxHeartbeats 4000000 in
set_option maxRecDepth 100000 in
/-- the margin by counted pushes -/
theorem c_X1_countedMarginOf {G : GG} {l : Launch} (hfl : l.stackTraces = false) (hG : MW G) {m : Mm} {g : Nat} (hg : 320 ≤ g ∧ g < 365) {x : Int} (hx : 0 ≤ x ∧ x ≤ 1023) (hc : cBd (m.1 (g + 128))) : CT G l yX1_countedMarginOf cX1_countedMarginOf 4 (some .float) (RM 0 0 0) [.ref g, vI x] m (fun r m' => r = some (.float (fq (mg (m.1 (g + 128)) x))) ∧ m' = m) (fun _ _ => False) := by
  refine CT.of RX1 [(0, .ref g), (1, vI x)] hfl (by decide +kernel) rfl rfl (Nat.le_of_ble_eq_true rfl) ?_
  intro E ok en hml hEl htab
  have hR : e_R E = RM 0 0 0 := en.2.2.2
  have hn0 : 0 < (e_c E).maxLocals := by rw [hml]; decide
  have hn1 : 1 < (e_c E).maxLocals := by rw [hml]; decide
  have hn2 : 2 < (e_c E).maxLocals := by rw [hml]; decide
  have hn3 : 3 < (e_c E).maxLocals := by rw [hml]; decide
  have loop : ∀ i : Int, 0 ≤ i ∧ i ≤ 10 → WA G E 0 0 9 [(3, vI i), (2, vI (mgA (m.1 (g + 128)) x i.toNat)), (0, .ref g), (1, vI x)] [] m := by
    refine wl1 _ (fun i => (10 - i).toNat) _ ?_
    intro i hi ih
    refine ga_iload_n ok 3 rfl rfl dX1_countedMarginOf_9 ?_
    refine ga_bipush ok dX1_countedMarginOf_10 (by decide) ?_
    refine ga_icmp_ge ok 41 (by decide) (by omega) (by omega) dX1_countedMarginOf_12 (fun c_12 => ?_) (fun c_12 => ?_)
    · refine ga_iload_n ok 2 rfl rfl dX1_countedMarginOf_41 ?_
      refine ga_i2f ok dX1_countedMarginOf_42 ?_
      refine ga_ldcf (z := 1115684864) ok dX1_countedMarginOf_43 (tb_in 534 (by decide +kernel) (by decide +kernel)) ?_
      have he : FP.fdiv (FP.i2f (Int32.ofInt (mgA (m.1 (g + 128)) x i.toNat))) 1115684864 = fq (mg (m.1 (g + 128)) x) := by
        rw [show i.toNat = 10 by omega]; rfl
      refine ga_fdiv ok dX1_countedMarginOf_45 (by rw [he]; exact fq_n32 (mg_bd hc x)) ?_
      exact ga_freturn ok en rfl (by decide) (by decide) dX1_countedMarginOf_46 ⟨by rw [he], rfl⟩
    · refine ga_iload_n ok 1 rfl rfl dX1_countedMarginOf_15 ?_
      refine ga_iload_n ok 3 rfl rfl dX1_countedMarginOf_16 ?_
      refine ga_ishr ok dX1_countedMarginOf_17 (by omega) (by omega) ?_
      refine ga_iconst ok dX1_countedMarginOf_18 ?_
      refine ga_iand ok 1 dX1_countedMarginOf_19 (by decide) (by decide) ?_
      refine ga_iconst ok dX1_countedMarginOf_20 ?_
      refine ga_icmp_ne ok 35 (by decide) (bit_rng _ _) (by omega) dX1_countedMarginOf_21 (fun c_21 => ?_) (fun c_21 => ?_)
      · rw [← mgA_f (c := m.1 (g + 128)) hi.1 c_21]
        refine ga_iinc ok rfl hn3 dX1_countedMarginOf_35 ?_
        refine ga_goto ok 9 (by decide) dX1_countedMarginOf_38 ?_
        exact WA.re (by exact ⟨rfl, rfl, rfl, rfl, trivial⟩) (ih (i + 1) (by omega) (by omega))
      · refine ga_iload_n ok 2 rfl rfl dX1_countedMarginOf_24 ?_
        refine ga_aload_n ok 0 rfl rfl dX1_countedMarginOf_25 ?_
        refine gf_X1_22 ok hG (by omega) dX1_countedMarginOf_26 ?_
        refine ga_iload_n ok 3 rfl rfl dX1_countedMarginOf_29 ?_
        refine ga_iconst ok dX1_countedMarginOf_30 ?_
        refine ga_iadd ok dX1_countedMarginOf_31 ?_
        refine ga_iaload_ia ok (ar_co hG (by omega)) (by omega) dX1_countedMarginOf_32 ?_
        refine ga_iadd ok dX1_countedMarginOf_33 ?_
        rw [← mgA_t (c := m.1 (g + 128)) hi.1 c_21]
        refine ga_istore_n ok 2 rfl hn2 dX1_countedMarginOf_34 ?_
        refine ga_iinc ok rfl hn3 dX1_countedMarginOf_35 ?_
        refine ga_goto ok 9 (by decide) dX1_countedMarginOf_38 ?_
        exact WA.re (by exact ⟨rfl, rfl, rfl, rfl, trivial⟩) (ih (i + 1) (by omega) (by omega))
  refine ga_aload_n ok 0 rfl rfl dX1_countedMarginOf_0 ?_
  refine gf_X1_22 ok hG (by omega) dX1_countedMarginOf_1 ?_
  refine ga_iconst ok dX1_countedMarginOf_4 ?_
  refine ga_iaload_ia ok (ar_co hG (by omega)) (by decide) dX1_countedMarginOf_5 ?_
  refine ga_istore_n ok 2 rfl hn2 dX1_countedMarginOf_6 ?_
  refine ga_iconst ok dX1_countedMarginOf_7 ?_
  refine ga_istore_n ok 3 rfl hn3 dX1_countedMarginOf_8 ?_
  exact WA.re (by exact ⟨rfl, rfl, rfl, rfl, trivial⟩) (loop 0 (by omega))
set_option maxHeartbeats 4000000 in
set_option maxRecDepth 100000 in
/-- whether a set is let in -/
theorem c_X1_admits {G : GG} {l : Launch} (hfl : l.stackTraces = false) (hG : MW G) {m : Mm} {g : Nat} (hg : 320 ≤ g ∧ g < 365) {x : Int} (hx : 0 ≤ x ∧ x ≤ 1023) (hw : ∀ i, i < 11 → m.2 (g + 64) i = fq (m.1 (g + 128) i)) (hc : cBd (m.1 (g + 128))) : CT G l yX1_admits cX1_admits 2 (some .boolean) (RM 1 0 0) [.ref g, vI x] m (fun r m' => r = some (vI (b2i (adm (m.1 (g + 128)) x))) ∧ m' = m) (fun _ _ => False) := by
  refine CT.of RX1 [(0, .ref g), (1, vI x)] hfl (by decide +kernel) rfl rfl (Nat.le_of_ble_eq_true rfl) ?_
  intro E ok en hml hEl htab
  have hR : e_R E = RM 1 0 0 := en.2.2.2
  have hn0 : 0 < (e_c E).maxLocals := by rw [hml]; decide
  have hn1 : 1 < (e_c E).maxLocals := by rw [hml]; decide
  refine ga_aload_n ok 0 rfl rfl dX1_admits_0 ?_
  refine ga_iload_n ok 1 rfl rfl dX1_admits_1 ?_
  refine gd_X1_1 ok hG (by omega) lk_X1_48 rfl (c_X1_marginOf ok.fl hG hg hx hw hc) (by rw [hR]; exact ⟨by decide, by decide, by decide, by decide⟩) (Nat.le_of_ble_eq_true rfl) dX1_admits_2 ?_
  refine ga_fconst0 ok dX1_admits_5 ?_
  refine ga_fcmp ok dX1_admits_6 (fq_cmpz0 (mg_bd hc x)) ?_
  refine ga_if_le ok 14 (by decide) (cmpz_rng _ _) dX1_admits_7 (fun c_7 => ?_) (fun c_7 => ?_)
  · have h7 := cmpz_le.mp c_7
    refine ga_iconst ok dX1_admits_14 ?_
    exact ga_ireturn ok en rfl (by decide) (by decide) (by decide) dX1_admits_15 ⟨by unfold adm; (first | rw [decide_eq_true (by omega)] | rw [decide_eq_false (by omega)]); rfl, rfl⟩
  · have h7 := cmpz_gt.mp c_7
    refine ga_iconst ok dX1_admits_10 ?_
    refine ga_goto ok 15 (by decide) dX1_admits_11 ?_
    exact ga_ireturn ok en rfl (by decide) (by decide) (by decide) dX1_admits_15 ⟨by unfold adm; (first | rw [decide_eq_true (by omega)] | rw [decide_eq_false (by omega)]); rfl, rfl⟩
set_option maxHeartbeats 4000000 in
set_option maxRecDepth 100000 in
/-- whether a lesson pushes -/
theorem c_X1_needsPush {G : GG} {l : Launch} (hfl : l.stackTraces = false) (hG : MW G) {m : Mm} {g : Nat} (hg : 320 ≤ g ∧ g < 365) {k fr : Int} (hk : -16777216 < k ∧ k < 16777216) (hfr : fr = 0 ∨ fr = 1) (hca : 0 ≤ m.1 g 1 ∧ m.1 g 1 ≤ 256) : CT G l yX1_needsPush cX1_needsPush 4 (some .boolean) (RM 0 0 0) [.ref g, .float (fq k), vI fr] m (fun r m' => r = some (vI (b2i (pshd k (m.1 g 1) fr))) ∧ m' = m) (fun _ _ => False) := by
  refine CT.of RX1 [(0, .ref g), (1, .float (fq k)), (2, vI fr)] hfl (by decide +kernel) rfl rfl (Nat.le_of_ble_eq_true rfl) ?_
  intro E ok en hml hEl htab
  have hR : e_R E = RM 0 0 0 := en.2.2.2
  have hn0 : 0 < (e_c E).maxLocals := by rw [hml]; decide
  have hn1 : 1 < (e_c E).maxLocals := by rw [hml]; decide
  have hn2 : 2 < (e_c E).maxLocals := by rw [hml]; decide
  have hn3 : 3 < (e_c E).maxLocals := by rw [hml]; decide
  refine ga_fload_n ok 1 rfl rfl dX1_needsPush_0 ?_
  refine ga_fconst0 ok dX1_needsPush_1 ?_
  refine ga_fcmp ok dX1_needsPush_2 (fq_cmpz0 hk) ?_
  refine ga_if_le ok 10 (by decide) (cmpz_rng _ _) dX1_needsPush_3 (fun c_3 => ?_) (fun c_3 => ?_)
  · have h3 := cmpz_le.mp c_3
    refine ga_iconst ok dX1_needsPush_10 ?_
    refine ga_iload_n ok 2 rfl rfl dX1_needsPush_11 ?_
    refine ga_icmp_eq ok 17 (by decide) (by omega) (by omega) dX1_needsPush_12 (fun c_12 => ?_) (fun c_12 => ?_)
    · refine ga_fload_n ok 1 rfl rfl dX1_needsPush_17 ?_
      refine ga_fconst0 ok dX1_needsPush_18 ?_
      refine ga_fcmp ok dX1_needsPush_19 (fq_cmpz0 hk) ?_
      refine ga_if_ge ok 29 (by decide) (cmpz_rng _ _) dX1_needsPush_20 (fun c_20 => ?_) (fun c_20 => ?_)
      · have h20 := cmpz_ge.mp c_20
        have hab : (if k < 0 then -k else k) = k := if_neg (by omega)
        refine ga_fload_n ok 1 rfl rfl dX1_needsPush_29 ?_
        refine ga_fstore_n ok 3 rfl hn3 dX1_needsPush_30 ?_
        refine ga_fload_n ok 3 rfl rfl dX1_needsPush_31 ?_
        refine ga_aload_n ok 0 rfl rfl dX1_needsPush_32 ?_
        refine gf_X1_15 ok hG (by omega) dX1_needsPush_33 ?_
        refine ga_i2f ok dX1_needsPush_36 ?_
        refine ga_ldcf (z := 1115684864) ok dX1_needsPush_37 (tb_in 534 (by decide +kernel) (by decide +kernel)) ?_
        have he : FP.fdiv (FP.i2f (Int32.ofInt (m.1 g 1))) 1115684864 = fq (m.1 g 1) := rfl
        refine ga_fdiv ok dX1_needsPush_39 (by rw [he]; exact fq_n32 (by omega)) ?_
        rw [he]
        refine ga_fcmp ok dX1_needsPush_40 (fq_cmpz (by omega) (by omega)) ?_
        refine ga_if_ge ok 48 (by decide) (cmpz_rng _ _) dX1_needsPush_41 (fun c_41 => ?_) (fun c_41 => ?_)
        · have h41 := cmpz_ge.mp c_41
          refine ga_iconst ok dX1_needsPush_48 ?_
          exact ga_ireturn ok en rfl (by decide) (by decide) (by decide) dX1_needsPush_49 ⟨by first | (rw [pshd_t.mpr (Or.inr (by omega))]; rfl) | (rw [pshd_f.mpr ⟨by omega, by omega⟩]; rfl), rfl⟩
        · have h41 := cmpz_lt.mp c_41
          refine ga_iconst ok dX1_needsPush_44 ?_
          refine ga_goto ok 49 (by decide) dX1_needsPush_45 ?_
          exact ga_ireturn ok en rfl (by decide) (by decide) (by decide) dX1_needsPush_49 ⟨by first | (rw [pshd_t.mpr (Or.inr (by omega))]; rfl) | (rw [pshd_f.mpr ⟨by omega, by omega⟩]; rfl), rfl⟩
      · have h20 := cmpz_lt.mp c_20
        have hab : (if k < 0 then -k else k) = -k := if_pos (by omega)
        refine ga_fconst0 ok dX1_needsPush_23 ?_
        refine ga_fload_n ok 1 rfl rfl dX1_needsPush_24 ?_
        have hs : FP.fsub FP.fconst0 (fq k) = fq (-k) := by rw [← fq_0, fq_sub (by omega) hk (by omega)]; congr 1; omega
        refine ga_fsub ok dX1_needsPush_25 (by rw [hs]; exact fq_n32 (by omega)) ?_
        rw [hs]
        refine ga_goto ok 30 (by decide) dX1_needsPush_26 ?_
        refine ga_fstore_n ok 3 rfl hn3 dX1_needsPush_30 ?_
        refine ga_fload_n ok 3 rfl rfl dX1_needsPush_31 ?_
        refine ga_aload_n ok 0 rfl rfl dX1_needsPush_32 ?_
        refine gf_X1_15 ok hG (by omega) dX1_needsPush_33 ?_
        refine ga_i2f ok dX1_needsPush_36 ?_
        refine ga_ldcf (z := 1115684864) ok dX1_needsPush_37 (tb_in 534 (by decide +kernel) (by decide +kernel)) ?_
        have he : FP.fdiv (FP.i2f (Int32.ofInt (m.1 g 1))) 1115684864 = fq (m.1 g 1) := rfl
        refine ga_fdiv ok dX1_needsPush_39 (by rw [he]; exact fq_n32 (by omega)) ?_
        rw [he]
        refine ga_fcmp ok dX1_needsPush_40 (fq_cmpz (by omega) (by omega)) ?_
        refine ga_if_ge ok 48 (by decide) (cmpz_rng _ _) dX1_needsPush_41 (fun c_41 => ?_) (fun c_41 => ?_)
        · have h41 := cmpz_ge.mp c_41
          refine ga_iconst ok dX1_needsPush_48 ?_
          exact ga_ireturn ok en rfl (by decide) (by decide) (by decide) dX1_needsPush_49 ⟨by first | (rw [pshd_t.mpr (Or.inr (by omega))]; rfl) | (rw [pshd_f.mpr ⟨by omega, by omega⟩]; rfl), rfl⟩
        · have h41 := cmpz_lt.mp c_41
          refine ga_iconst ok dX1_needsPush_44 ?_
          refine ga_goto ok 49 (by decide) dX1_needsPush_45 ?_
          exact ga_ireturn ok en rfl (by decide) (by decide) (by decide) dX1_needsPush_49 ⟨by first | (rw [pshd_t.mpr (Or.inr (by omega))]; rfl) | (rw [pshd_f.mpr ⟨by omega, by omega⟩]; rfl), rfl⟩
    · refine ga_iconst ok dX1_needsPush_15 ?_
      exact ga_ireturn ok en rfl (by decide) (by decide) (by decide) dX1_needsPush_16 ⟨by rw [pshd_t.mpr (Or.inl (by omega))]; rfl, rfl⟩
  · have h3 := cmpz_gt.mp c_3
    refine ga_iconst ok dX1_needsPush_6 ?_
    refine ga_goto ok 11 (by decide) dX1_needsPush_7 ?_
    refine ga_iload_n ok 2 rfl rfl dX1_needsPush_11 ?_
    refine ga_icmp_eq ok 17 (by decide) (by omega) (by omega) dX1_needsPush_12 (fun c_12 => ?_) (fun c_12 => ?_)
    · refine ga_fload_n ok 1 rfl rfl dX1_needsPush_17 ?_
      refine ga_fconst0 ok dX1_needsPush_18 ?_
      refine ga_fcmp ok dX1_needsPush_19 (fq_cmpz0 hk) ?_
      refine ga_if_ge ok 29 (by decide) (cmpz_rng _ _) dX1_needsPush_20 (fun c_20 => ?_) (fun c_20 => ?_)
      · have h20 := cmpz_ge.mp c_20
        have hab : (if k < 0 then -k else k) = k := if_neg (by omega)
        refine ga_fload_n ok 1 rfl rfl dX1_needsPush_29 ?_
        refine ga_fstore_n ok 3 rfl hn3 dX1_needsPush_30 ?_
        refine ga_fload_n ok 3 rfl rfl dX1_needsPush_31 ?_
        refine ga_aload_n ok 0 rfl rfl dX1_needsPush_32 ?_
        refine gf_X1_15 ok hG (by omega) dX1_needsPush_33 ?_
        refine ga_i2f ok dX1_needsPush_36 ?_
        refine ga_ldcf (z := 1115684864) ok dX1_needsPush_37 (tb_in 534 (by decide +kernel) (by decide +kernel)) ?_
        have he : FP.fdiv (FP.i2f (Int32.ofInt (m.1 g 1))) 1115684864 = fq (m.1 g 1) := rfl
        refine ga_fdiv ok dX1_needsPush_39 (by rw [he]; exact fq_n32 (by omega)) ?_
        rw [he]
        refine ga_fcmp ok dX1_needsPush_40 (fq_cmpz (by omega) (by omega)) ?_
        refine ga_if_ge ok 48 (by decide) (cmpz_rng _ _) dX1_needsPush_41 (fun c_41 => ?_) (fun c_41 => ?_)
        · have h41 := cmpz_ge.mp c_41
          refine ga_iconst ok dX1_needsPush_48 ?_
          exact ga_ireturn ok en rfl (by decide) (by decide) (by decide) dX1_needsPush_49 ⟨by first | (rw [pshd_t.mpr (Or.inr (by omega))]; rfl) | (rw [pshd_f.mpr ⟨by omega, by omega⟩]; rfl), rfl⟩
        · have h41 := cmpz_lt.mp c_41
          refine ga_iconst ok dX1_needsPush_44 ?_
          refine ga_goto ok 49 (by decide) dX1_needsPush_45 ?_
          exact ga_ireturn ok en rfl (by decide) (by decide) (by decide) dX1_needsPush_49 ⟨by first | (rw [pshd_t.mpr (Or.inr (by omega))]; rfl) | (rw [pshd_f.mpr ⟨by omega, by omega⟩]; rfl), rfl⟩
      · have h20 := cmpz_lt.mp c_20
        have hab : (if k < 0 then -k else k) = -k := if_pos (by omega)
        refine ga_fconst0 ok dX1_needsPush_23 ?_
        refine ga_fload_n ok 1 rfl rfl dX1_needsPush_24 ?_
        have hs : FP.fsub FP.fconst0 (fq k) = fq (-k) := by rw [← fq_0, fq_sub (by omega) hk (by omega)]; congr 1; omega
        refine ga_fsub ok dX1_needsPush_25 (by rw [hs]; exact fq_n32 (by omega)) ?_
        rw [hs]
        refine ga_goto ok 30 (by decide) dX1_needsPush_26 ?_
        refine ga_fstore_n ok 3 rfl hn3 dX1_needsPush_30 ?_
        refine ga_fload_n ok 3 rfl rfl dX1_needsPush_31 ?_
        refine ga_aload_n ok 0 rfl rfl dX1_needsPush_32 ?_
        refine gf_X1_15 ok hG (by omega) dX1_needsPush_33 ?_
        refine ga_i2f ok dX1_needsPush_36 ?_
        refine ga_ldcf (z := 1115684864) ok dX1_needsPush_37 (tb_in 534 (by decide +kernel) (by decide +kernel)) ?_
        have he : FP.fdiv (FP.i2f (Int32.ofInt (m.1 g 1))) 1115684864 = fq (m.1 g 1) := rfl
        refine ga_fdiv ok dX1_needsPush_39 (by rw [he]; exact fq_n32 (by omega)) ?_
        rw [he]
        refine ga_fcmp ok dX1_needsPush_40 (fq_cmpz (by omega) (by omega)) ?_
        refine ga_if_ge ok 48 (by decide) (cmpz_rng _ _) dX1_needsPush_41 (fun c_41 => ?_) (fun c_41 => ?_)
        · have h41 := cmpz_ge.mp c_41
          refine ga_iconst ok dX1_needsPush_48 ?_
          exact ga_ireturn ok en rfl (by decide) (by decide) (by decide) dX1_needsPush_49 ⟨by first | (rw [pshd_t.mpr (Or.inr (by omega))]; rfl) | (rw [pshd_f.mpr ⟨by omega, by omega⟩]; rfl), rfl⟩
        · have h41 := cmpz_lt.mp c_41
          refine ga_iconst ok dX1_needsPush_44 ?_
          refine ga_goto ok 49 (by decide) dX1_needsPush_45 ?_
          exact ga_ireturn ok en rfl (by decide) (by decide) (by decide) dX1_needsPush_49 ⟨by first | (rw [pshd_t.mpr (Or.inr (by omega))]; rfl) | (rw [pshd_f.mpr ⟨by omega, by omega⟩]; rfl), rfl⟩
    · refine ga_iconst ok dX1_needsPush_15 ?_
      exact ga_ireturn ok en rfl (by decide) (by decide) (by decide) dX1_needsPush_16 ⟨by rw [pshd_t.mpr (Or.inl (by omega))]; rfl, rfl⟩
set_option maxHeartbeats 4000000 in
set_option maxRecDepth 100000 in
/-- whether a push leaves each number in its bounds -/
theorem c_X1_hasRoom {G : GG} {l : Launch} (hfl : l.stackTraces = false) (hG : MW G) {m : Mm} {g : Nat} (hg : 320 ≤ g ∧ g < 365) {x fr : Int} (hx : 0 ≤ x ∧ x ≤ 1023) (hfr : fr = 0 ∨ fr = 1) (hc : cBd (m.1 (g + 128))) (hra : 1 ≤ m.1 g 0 ∧ m.1 g 0 ≤ 64) : CT G l yX1_hasRoom cX1_hasRoom 6 (some .boolean) (RM 0 0 0) [.ref g, vI x, vI fr] m (fun r m' => r = some (vI (b2i (rok (m.1 (g + 128)) x (if fr = 1 then m.1 g 0 else -(m.1 g 0))))) ∧ m' = m) (fun _ _ => False) := by
  refine CT.of RX1 [(0, .ref g), (1, vI x), (2, vI fr)] hfl (by decide +kernel) rfl rfl (Nat.le_of_ble_eq_true rfl) ?_
  intro E ok en hml hEl htab
  have hR : e_R E = RM 0 0 0 := en.2.2.2
  have hn0 : 0 < (e_c E).maxLocals := by rw [hml]; decide
  have hn1 : 1 < (e_c E).maxLocals := by rw [hml]; decide
  have hn2 : 2 < (e_c E).maxLocals := by rw [hml]; decide
  have hn3 : 3 < (e_c E).maxLocals := by rw [hml]; decide
  have hn4 : 4 < (e_c E).maxLocals := by rw [hml]; decide
  have hn5 : 5 < (e_c E).maxLocals := by rw [hml]; decide
  have loop : ∀ (i : Int) (L5 : List (Nat × Value)), (0 ≤ i ∧ i ≤ 11 ∧ ∀ j : Nat, (j : Int) < i → tch x j = true → -60000 ≤ m.1 (g + 128) j + (if fr = 1 then m.1 g 0 else -(m.1 g 0)) ∧ m.1 (g + 128) j + (if fr = 1 then m.1 g 0 else -(m.1 g 0)) ≤ 60000) → WA G E 0 0 9 [(4, vI i), (3, vI (2 * x + 1)), (0, .ref g), (1, vI x), (2, vI fr)] [] m := by
    refine wl2 _ (fun i _ => (11 - i).toNat) _ ?_
    intro i L5 hi ih
    have hci := hc i.toNat
    refine ga_iload ok rfl dX1_hasRoom_9 ?_
    refine ga_bipush ok dX1_hasRoom_11 (by decide) ?_
    refine ga_icmp_gt ok 81 (by decide) (by omega) (by omega) dX1_hasRoom_13 (fun c_13 => ?_) (fun c_13 => ?_)
    · refine ga_iconst ok dX1_hasRoom_81 ?_
      exact ga_ireturn ok en rfl (by decide) (by decide) (by decide) dX1_hasRoom_82 ⟨by rw [rok_t.mpr (fun j hj ht => hi.2.2 j (by omega) ht)]; rfl, rfl⟩
    · have hci := hci (by omega)
      refine ga_iload_n ok 2 rfl rfl dX1_hasRoom_16 ?_
      refine ga_if_eq ok 35 (by decide) (by omega) dX1_hasRoom_17 (fun c_17 => ?_) (fun c_17 => ?_)
      · have hdl : (if fr = 1 then m.1 g 0 else -(m.1 g 0)) = -(m.1 g 0) := if_neg (by omega)
        refine ga_aload_n ok 0 rfl rfl dX1_hasRoom_35 ?_
        refine gf_X1_22 ok hG (by omega) dX1_hasRoom_36 ?_
        refine ga_iload ok rfl dX1_hasRoom_39 ?_
        refine ga_iaload_ia ok (ar_co hG (by omega)) (by omega) dX1_hasRoom_41 ?_
        refine ga_aload_n ok 0 rfl rfl dX1_hasRoom_42 ?_
        refine gf_X1_9 ok hG (by omega) dX1_hasRoom_43 ?_
        refine ga_isub ok dX1_hasRoom_46 ?_
        refine ga_istore ok hn5 dX1_hasRoom_47 ?_
        refine ga_iload_n ok 3 rfl rfl dX1_hasRoom_49 ?_
        refine ga_iload ok rfl dX1_hasRoom_50 ?_
        refine ga_ishr ok dX1_hasRoom_52 (by omega) (by omega) ?_
        refine ga_iconst ok dX1_hasRoom_53 ?_
        refine ga_iand ok 1 dX1_hasRoom_54 (by decide) (by decide) ?_
        refine ga_iconst ok dX1_hasRoom_55 ?_
        refine ga_icmp_ne ok 75 (by decide) (bit_rng _ _) (by omega) dX1_hasRoom_56 (fun c_56 => ?_) (fun c_56 => ?_)
        · refine ga_iinc ok rfl hn4 dX1_hasRoom_75 ?_
          refine ga_goto ok 9 (by decide) dX1_hasRoom_78 ?_
          exact WA.re (by exact ⟨rfl, rfl, rfl, rfl, rfl, trivial⟩) (ih (i + 1) [] ⟨by omega, by omega, fun j hj ht => by
            rcases Int.lt_or_le j i with h1 | h1
            · exact hi.2.2 j h1 ht
            · have hj2 : j = i.toNat := by omega
              subst hj2
              first | (rw [tch_f.mpr c_56] at ht; exact absurd ht (by decide)) | (rw [hdl]; omega)⟩ (by omega))
        · refine ga_iload ok rfl dX1_hasRoom_59 ?_
          refine ga_ldc (z := 60000) ok dX1_hasRoom_61 (tb_in 539 (by decide +kernel) (by decide +kernel)) ?_
          refine ga_icmp_gt ok 73 (by decide) (by omega) (by omega) dX1_hasRoom_63 (fun c_63 => ?_) (fun c_63 => ?_)
          · have hno : rok (m.1 (g + 128)) x (if fr = 1 then m.1 g 0 else -(m.1 g 0)) = false := by
              rw [Bool.eq_false_iff]
              intro hr
              have := rok_t.mp hr i.toNat (by omega) (tch_t.mpr c_56)
              rw [hdl] at this
              omega
            refine ga_iconst ok dX1_hasRoom_73 ?_
            exact ga_ireturn ok en rfl (by decide) (by decide) (by decide) dX1_hasRoom_74 ⟨by rw [hno]; rfl, rfl⟩
          · refine ga_iload ok rfl dX1_hasRoom_66 ?_
            refine ga_ldc (z := -60000) ok dX1_hasRoom_68 (tb_in 540 (by decide +kernel) (by decide +kernel)) ?_
            refine ga_icmp_ge ok 75 (by decide) (by omega) (by omega) dX1_hasRoom_70 (fun c_70 => ?_) (fun c_70 => ?_)
            · refine ga_iinc ok rfl hn4 dX1_hasRoom_75 ?_
              refine ga_goto ok 9 (by decide) dX1_hasRoom_78 ?_
              exact WA.re (by exact ⟨rfl, rfl, rfl, rfl, rfl, trivial⟩) (ih (i + 1) [] ⟨by omega, by omega, fun j hj ht => by
                rcases Int.lt_or_le j i with h1 | h1
                · exact hi.2.2 j h1 ht
                · have hj2 : j = i.toNat := by omega
                  subst hj2
                  first | (rw [tch_f.mpr c_56] at ht; exact absurd ht (by decide)) | (rw [hdl]; omega)⟩ (by omega))
            · have hno : rok (m.1 (g + 128)) x (if fr = 1 then m.1 g 0 else -(m.1 g 0)) = false := by
                rw [Bool.eq_false_iff]
                intro hr
                have := rok_t.mp hr i.toNat (by omega) (tch_t.mpr c_56)
                rw [hdl] at this
                omega
              refine ga_iconst ok dX1_hasRoom_73 ?_
              exact ga_ireturn ok en rfl (by decide) (by decide) (by decide) dX1_hasRoom_74 ⟨by rw [hno]; rfl, rfl⟩
      · have hdl : (if fr = 1 then m.1 g 0 else -(m.1 g 0)) = m.1 g 0 := if_pos (by omega)
        refine ga_aload_n ok 0 rfl rfl dX1_hasRoom_20 ?_
        refine gf_X1_22 ok hG (by omega) dX1_hasRoom_21 ?_
        refine ga_iload ok rfl dX1_hasRoom_24 ?_
        refine ga_iaload_ia ok (ar_co hG (by omega)) (by omega) dX1_hasRoom_26 ?_
        refine ga_aload_n ok 0 rfl rfl dX1_hasRoom_27 ?_
        refine gf_X1_9 ok hG (by omega) dX1_hasRoom_28 ?_
        refine ga_iadd ok dX1_hasRoom_31 ?_
        refine ga_goto ok 47 (by decide) dX1_hasRoom_32 ?_
        refine ga_istore ok hn5 dX1_hasRoom_47 ?_
        refine ga_iload_n ok 3 rfl rfl dX1_hasRoom_49 ?_
        refine ga_iload ok rfl dX1_hasRoom_50 ?_
        refine ga_ishr ok dX1_hasRoom_52 (by omega) (by omega) ?_
        refine ga_iconst ok dX1_hasRoom_53 ?_
        refine ga_iand ok 1 dX1_hasRoom_54 (by decide) (by decide) ?_
        refine ga_iconst ok dX1_hasRoom_55 ?_
        refine ga_icmp_ne ok 75 (by decide) (bit_rng _ _) (by omega) dX1_hasRoom_56 (fun c_56 => ?_) (fun c_56 => ?_)
        · refine ga_iinc ok rfl hn4 dX1_hasRoom_75 ?_
          refine ga_goto ok 9 (by decide) dX1_hasRoom_78 ?_
          exact WA.re (by exact ⟨rfl, rfl, rfl, rfl, rfl, trivial⟩) (ih (i + 1) [] ⟨by omega, by omega, fun j hj ht => by
            rcases Int.lt_or_le j i with h1 | h1
            · exact hi.2.2 j h1 ht
            · have hj2 : j = i.toNat := by omega
              subst hj2
              first | (rw [tch_f.mpr c_56] at ht; exact absurd ht (by decide)) | (rw [hdl]; omega)⟩ (by omega))
        · refine ga_iload ok rfl dX1_hasRoom_59 ?_
          refine ga_ldc (z := 60000) ok dX1_hasRoom_61 (tb_in 539 (by decide +kernel) (by decide +kernel)) ?_
          refine ga_icmp_gt ok 73 (by decide) (by omega) (by omega) dX1_hasRoom_63 (fun c_63 => ?_) (fun c_63 => ?_)
          · have hno : rok (m.1 (g + 128)) x (if fr = 1 then m.1 g 0 else -(m.1 g 0)) = false := by
              rw [Bool.eq_false_iff]
              intro hr
              have := rok_t.mp hr i.toNat (by omega) (tch_t.mpr c_56)
              rw [hdl] at this
              omega
            refine ga_iconst ok dX1_hasRoom_73 ?_
            exact ga_ireturn ok en rfl (by decide) (by decide) (by decide) dX1_hasRoom_74 ⟨by rw [hno]; rfl, rfl⟩
          · refine ga_iload ok rfl dX1_hasRoom_66 ?_
            refine ga_ldc (z := -60000) ok dX1_hasRoom_68 (tb_in 540 (by decide +kernel) (by decide +kernel)) ?_
            refine ga_icmp_ge ok 75 (by decide) (by omega) (by omega) dX1_hasRoom_70 (fun c_70 => ?_) (fun c_70 => ?_)
            · refine ga_iinc ok rfl hn4 dX1_hasRoom_75 ?_
              refine ga_goto ok 9 (by decide) dX1_hasRoom_78 ?_
              exact WA.re (by exact ⟨rfl, rfl, rfl, rfl, rfl, trivial⟩) (ih (i + 1) [] ⟨by omega, by omega, fun j hj ht => by
                rcases Int.lt_or_le j i with h1 | h1
                · exact hi.2.2 j h1 ht
                · have hj2 : j = i.toNat := by omega
                  subst hj2
                  first | (rw [tch_f.mpr c_56] at ht; exact absurd ht (by decide)) | (rw [hdl]; omega)⟩ (by omega))
            · have hno : rok (m.1 (g + 128)) x (if fr = 1 then m.1 g 0 else -(m.1 g 0)) = false := by
                rw [Bool.eq_false_iff]
                intro hr
                have := rok_t.mp hr i.toNat (by omega) (tch_t.mpr c_56)
                rw [hdl] at this
                omega
              refine ga_iconst ok dX1_hasRoom_73 ?_
              exact ga_ireturn ok en rfl (by decide) (by decide) (by decide) dX1_hasRoom_74 ⟨by rw [hno]; rfl, rfl⟩
  refine ga_iload_n ok 1 rfl rfl dX1_hasRoom_0 ?_
  refine ga_iconst ok dX1_hasRoom_1 ?_
  refine ga_ishl ok dX1_hasRoom_2 (by omega) (by decide) (by show x * 2 < 4294967296; omega) ?_
  refine ga_iconst ok dX1_hasRoom_3 ?_
  refine ga_ior ok dX1_hasRoom_4 (by show 0 ≤ x * 2; omega) (by decide) ?_
  rw [or_1 hx.1]
  refine ga_istore_n ok 3 rfl hn3 dX1_hasRoom_5 ?_
  refine ga_iconst ok dX1_hasRoom_6 ?_
  refine ga_istore ok hn4 dX1_hasRoom_7 ?_
  exact WA.re (by exact ⟨rfl, rfl, rfl, rfl, rfl, trivial⟩) (loop 0 [] ⟨by omega, by omega, fun j hj _ => by omega⟩)
/-- how many of the first n badges stand ahead of the badge b -/
def ahd (c : Nat → Int) (b : Nat) : Nat → Int
  | 0 => 0
  | n + 1 => ahd c b n + b2i (decide (c (b + 1) < c (n + 1)) || (decide (c (n + 1) = c (b + 1)) && decide (n < b)))
theorem ahd_s (c : Nat → Int) (b n : Nat) : ahd c b (n + 1) = ahd c b n + b2i (decide (c (b + 1) < c (n + 1)) || (decide (c (n + 1) = c (b + 1)) && decide (n < b))) := rfl
theorem ahd_bd (c : Nat → Int) (b : Nat) : ∀ n : Nat, 0 ≤ ahd c b n ∧ ahd c b n ≤ n
  | 0 => by simp [ahd]
  | n + 1 => by
    have h := ahd_bd c b n
    have h2 := b2i_01 (decide (c (b + 1) < c (n + 1)) || (decide (c (n + 1) = c (b + 1)) && decide (n < b)))
    simp only [ahd]
    push_cast
    omega
set_option maxHeartbeats 4000000 in
set_option maxRecDepth 100000 in
/-- how many badges stand ahead -/
theorem c_X1_strongerThan {G : GG} {l : Launch} (hfl : l.stackTraces = false) (hG : MW G) {m : Mm} {g : Nat} (hg : 320 ≤ g ∧ g < 365) {x : Int} (hx : 0 ≤ x ∧ x < 10) (hw : ∀ i, i < 11 → m.2 (g + 64) i = fq (m.1 (g + 128) i)) (hc : cBd (m.1 (g + 128))) : CT G l yX1_strongerThan cX1_strongerThan 6 (some .int) (RM 0 0 0) [.ref g, vI x] m (fun r m' => r = some (vI (ahd (m.1 (g + 128)) x.toNat 10)) ∧ m' = m) (fun _ _ => False) := by
  refine CT.of RX1 [(0, .ref g), (1, vI x)] hfl (by decide +kernel) rfl rfl (Nat.le_of_ble_eq_true rfl) ?_
  intro E ok en hml hEl htab
  have hR : e_R E = RM 0 0 0 := en.2.2.2
  have hn0 : 0 < (e_c E).maxLocals := by rw [hml]; decide
  have hn1 : 1 < (e_c E).maxLocals := by rw [hml]; decide
  have hn2 : 2 < (e_c E).maxLocals := by rw [hml]; decide
  have hn3 : 3 < (e_c E).maxLocals := by rw [hml]; decide
  have hn4 : 4 < (e_c E).maxLocals := by rw [hml]; decide
  have hn5 : 5 < (e_c E).maxLocals := by rw [hml]; decide
  have bd : ∀ i : Nat, i < 11 → -16777216 < m.1 (g + 128) i ∧ m.1 (g + 128) i < 16777216 := fun i hi => by have := hc i hi; omega
  have loop : ∀ i : Int, 0 ≤ i ∧ i ≤ 10 → WA G E 0 0 14 [(4, vI i), (3, vI (ahd (m.1 (g + 128)) x.toNat i.toNat)), (2, .float (fq (m.1 (g + 128) (x.toNat + 1)))), (0, .ref g), (1, vI x)] [] m := by
    refine wl1 _ (fun i => (10 - i).toNat) _ ?_
    intro i hi ih
    have hsu : (i + 1).toNat = i.toNat + 1 := by omega
    refine ga_iload ok rfl dX1_strongerThan_14 ?_
    refine ga_bipush ok dX1_strongerThan_16 (by decide) ?_
    refine ga_icmp_ge ok 61 (by decide) (by omega) (by omega) dX1_strongerThan_18 (fun c_18 => ?_) (fun c_18 => ?_)
    · refine ga_iload_n ok 3 rfl rfl dX1_strongerThan_61 ?_
      exact ga_ireturn ok en rfl rfl (by decide) (by decide) dX1_strongerThan_62 ⟨by rw [show i.toNat = 10 by omega], rfl⟩
    · refine ga_aload_n ok 0 rfl rfl dX1_strongerThan_21 ?_
      refine gf_X1_18 ok hG (by omega) dX1_strongerThan_22 ?_
      refine ga_iload ok rfl dX1_strongerThan_25 ?_
      refine ga_iconst ok dX1_strongerThan_27 ?_
      refine ga_iadd ok dX1_strongerThan_28 ?_
      refine ga_faload_fa ok (ar_we hG (by omega)) (by omega) dX1_strongerThan_29 ?_
      rw [hw _ (by omega), hsu]
      refine ga_fstore ok hn5 dX1_strongerThan_30 ?_
      refine ga_fload ok rfl dX1_strongerThan_32 ?_
      refine ga_fload_n ok 2 rfl rfl dX1_strongerThan_34 ?_
      refine ga_fcmp ok dX1_strongerThan_35 (fq_cmpz (bd _ (by omega)) (bd _ (by omega))) ?_
      refine ga_if_gt ok 52 (by decide) (cmpz_rng _ _) dX1_strongerThan_36 (fun c_36 => ?_) (fun c_36 => ?_)
      · have h36 := cmpz_gt.mp c_36
        have hp : (decide (m.1 (g + 128) (x.toNat + 1) < m.1 (g + 128) (i.toNat + 1)) || (decide (m.1 (g + 128) (i.toNat + 1) = m.1 (g + 128) (x.toNat + 1)) && decide (i.toNat < x.toNat))) = true := by simp; omega
        refine ga_iinc ok rfl hn3 dX1_strongerThan_52 ?_
        refine ga_iinc ok rfl hn4 dX1_strongerThan_55 ?_
        refine ga_goto ok 14 (by decide) dX1_strongerThan_58 ?_
        have e9 := ahd_s (m.1 (g + 128)) x.toNat i.toNat
        rw [hp, ← hsu] at e9
        simp only [b2i_t, b2i_f, Int.add_zero] at e9
        exact WA.re (by exact ⟨rfl, (by rw [e9]; rfl), rfl, rfl, rfl, trivial⟩) (ih (i + 1) (by omega) (by omega))
      · have h36 := cmpz_le.mp c_36
        refine ga_fload ok rfl dX1_strongerThan_39 ?_
        refine ga_fload_n ok 2 rfl rfl dX1_strongerThan_41 ?_
        refine ga_fcmp ok dX1_strongerThan_42 (fq_cmpz (bd _ (by omega)) (bd _ (by omega))) ?_
        refine ga_if_ne ok 55 (by decide) (cmpz_rng _ _) dX1_strongerThan_43 (fun c_43 => ?_) (fun c_43 => ?_)
        · have h43 : m.1 (g + 128) (i.toNat + 1) ≠ m.1 (g + 128) (x.toNat + 1) := fun e => c_43 (cmpz_eq.mpr e)
          have hp : (decide (m.1 (g + 128) (x.toNat + 1) < m.1 (g + 128) (i.toNat + 1)) || (decide (m.1 (g + 128) (i.toNat + 1) = m.1 (g + 128) (x.toNat + 1)) && decide (i.toNat < x.toNat))) = false := by simp; omega
          refine ga_iinc ok rfl hn4 dX1_strongerThan_55 ?_
          refine ga_goto ok 14 (by decide) dX1_strongerThan_58 ?_
          have e9 := ahd_s (m.1 (g + 128)) x.toNat i.toNat
          rw [hp, ← hsu] at e9
          simp only [b2i_t, b2i_f, Int.add_zero] at e9
          exact WA.re (by exact ⟨rfl, (by rw [e9]; rfl), rfl, rfl, rfl, trivial⟩) (ih (i + 1) (by omega) (by omega))
        · have h43 := cmpz_eq.mp c_43
          refine ga_iload ok rfl dX1_strongerThan_46 ?_
          refine ga_iload_n ok 1 rfl rfl dX1_strongerThan_48 ?_
          refine ga_icmp_ge ok 55 (by decide) (by omega) (by omega) dX1_strongerThan_49 (fun c_49 => ?_) (fun c_49 => ?_)
          · have hp : (decide (m.1 (g + 128) (x.toNat + 1) < m.1 (g + 128) (i.toNat + 1)) || (decide (m.1 (g + 128) (i.toNat + 1) = m.1 (g + 128) (x.toNat + 1)) && decide (i.toNat < x.toNat))) = false := by simp; omega
            refine ga_iinc ok rfl hn4 dX1_strongerThan_55 ?_
            refine ga_goto ok 14 (by decide) dX1_strongerThan_58 ?_
            have e9 := ahd_s (m.1 (g + 128)) x.toNat i.toNat
            rw [hp, ← hsu] at e9
            simp only [b2i_t, b2i_f, Int.add_zero] at e9
            exact WA.re (by exact ⟨rfl, (by rw [e9]; rfl), rfl, rfl, rfl, trivial⟩) (ih (i + 1) (by omega) (by omega))
          · have hp : (decide (m.1 (g + 128) (x.toNat + 1) < m.1 (g + 128) (i.toNat + 1)) || (decide (m.1 (g + 128) (i.toNat + 1) = m.1 (g + 128) (x.toNat + 1)) && decide (i.toNat < x.toNat))) = true := by simp; omega
            refine ga_iinc ok rfl hn3 dX1_strongerThan_52 ?_
            refine ga_iinc ok rfl hn4 dX1_strongerThan_55 ?_
            refine ga_goto ok 14 (by decide) dX1_strongerThan_58 ?_
            have e9 := ahd_s (m.1 (g + 128)) x.toNat i.toNat
            rw [hp, ← hsu] at e9
            simp only [b2i_t, b2i_f, Int.add_zero] at e9
            exact WA.re (by exact ⟨rfl, (by rw [e9]; rfl), rfl, rfl, rfl, trivial⟩) (ih (i + 1) (by omega) (by omega))
  refine ga_aload_n ok 0 rfl rfl dX1_strongerThan_0 ?_
  refine gf_X1_18 ok hG (by omega) dX1_strongerThan_1 ?_
  refine ga_iload_n ok 1 rfl rfl dX1_strongerThan_4 ?_
  refine ga_iconst ok dX1_strongerThan_5 ?_
  refine ga_iadd ok dX1_strongerThan_6 ?_
  refine ga_faload_fa ok (ar_we hG (by omega)) (by omega) dX1_strongerThan_7 ?_
  rw [hw _ (by omega), show (x + 1).toNat = x.toNat + 1 by omega]
  refine ga_fstore_n ok 2 rfl hn2 dX1_strongerThan_8 ?_
  refine ga_iconst ok dX1_strongerThan_9 ?_
  refine ga_istore_n ok 3 rfl hn3 dX1_strongerThan_10 ?_
  refine ga_iconst ok dX1_strongerThan_11 ?_
  refine ga_istore ok hn4 dX1_strongerThan_12 ?_
  exact WA.re (by exact ⟨rfl, rfl, rfl, rfl, rfl, trivial⟩) (loop 0 (by omega))
set_option maxHeartbeats 4000000 in
set_option maxRecDepth 100000 in
/-- all weights are as counted -/
theorem c_X1_isAsCounted {G : GG} {l : Launch} (hfl : l.stackTraces = false) (hG : MW G) {m : Mm} {g : Nat} (hg : 320 ≤ g ∧ g < 365) (hw : ∀ i, i < 11 → m.2 (g + 64) i = fq (m.1 (g + 128) i)) (hc : cBd (m.1 (g + 128))) : CT G l yX1_isAsCounted cX1_isAsCounted 2 (some .boolean) (RM 0 0 0) [.ref g] m (fun r m' => r = some (vI 1) ∧ m' = m) (fun _ _ => False) := by
  refine CT.of RX1 [(0, .ref g)] hfl (by decide +kernel) rfl rfl (Nat.le_of_ble_eq_true rfl) ?_
  intro E ok en hml hEl htab
  have hR : e_R E = RM 0 0 0 := en.2.2.2
  have hn0 : 0 < (e_c E).maxLocals := by rw [hml]; decide
  have hn1 : 1 < (e_c E).maxLocals := by rw [hml]; decide
  have bd : ∀ i : Nat, i < 11 → -16777216 < m.1 (g + 128) i ∧ m.1 (g + 128) i < 16777216 := fun i hi => by have := hc i hi; omega
  have loop : ∀ i : Int, 0 ≤ i ∧ i ≤ 11 → WA G E 0 0 2 [(1, vI i), (0, .ref g)] [] m := by
    refine wl1 _ (fun i => (11 - i).toNat) _ ?_
    intro i hi ih
    refine ga_iload_n ok 1 rfl rfl dX1_isAsCounted_2 ?_
    refine ga_bipush ok dX1_isAsCounted_3 (by decide) ?_
    refine ga_icmp_gt ok 36 (by decide) (by omega) (by omega) dX1_isAsCounted_5 (fun c_5 => ?_) (fun c_5 => ?_)
    · refine ga_iconst ok dX1_isAsCounted_36 ?_
      exact ga_ireturn ok en rfl (by decide) (by decide) (by decide) dX1_isAsCounted_37 ⟨rfl, rfl⟩
    · refine ga_aload_n ok 0 rfl rfl dX1_isAsCounted_8 ?_
      refine gf_X1_18 ok hG (by omega) dX1_isAsCounted_9 ?_
      refine ga_iload_n ok 1 rfl rfl dX1_isAsCounted_12 ?_
      refine ga_faload_fa ok (ar_we hG (by omega)) (by omega) dX1_isAsCounted_13 ?_
      rw [hw _ (by omega)]
      refine ga_aload_n ok 0 rfl rfl dX1_isAsCounted_14 ?_
      refine gf_X1_22 ok hG (by omega) dX1_isAsCounted_15 ?_
      refine ga_iload_n ok 1 rfl rfl dX1_isAsCounted_18 ?_
      refine ga_iaload_ia ok (ar_co hG (by omega)) (by omega) dX1_isAsCounted_19 ?_
      refine ga_i2f ok dX1_isAsCounted_20 ?_
      refine ga_ldcf (z := 1115684864) ok dX1_isAsCounted_21 (tb_in 534 (by decide +kernel) (by decide +kernel)) ?_
      have he : FP.fdiv (FP.i2f (Int32.ofInt (m.1 (g + 128) i.toNat))) 1115684864 = fq (m.1 (g + 128) i.toNat) := rfl
      refine ga_fdiv ok dX1_isAsCounted_23 (by rw [he]; exact fq_n32 (bd _ (by omega))) ?_
      rw [he]
      refine ga_fcmp ok dX1_isAsCounted_24 (fq_cmpz (bd _ (by omega)) (bd _ (by omega))) ?_
      refine ga_if_eq ok 30 (by decide) (cmpz_rng _ _) dX1_isAsCounted_25 (fun c_25 => ?_) (fun c_25 => ?_)
      · refine ga_iinc ok rfl hn1 dX1_isAsCounted_30 ?_
        refine ga_goto ok 2 (by decide) dX1_isAsCounted_33 ?_
        exact WA.re (by exact ⟨rfl, rfl, trivial⟩) (ih (i + 1) (by omega) (by omega))
      · exact absurd (cmpz_eq.mpr rfl) c_25
  refine ga_iconst ok dX1_isAsCounted_0 ?_
  refine ga_istore_n ok 1 rfl hn1 dX1_isAsCounted_1 ?_
  exact WA.re (by exact ⟨rfl, rfl, trivial⟩) (loop 0 (by omega))
