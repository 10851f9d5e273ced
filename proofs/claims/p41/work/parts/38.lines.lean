/-! LINES -/
def putL (q : (Nat → Int) × Int) (c : Int) : (Nat → Int) × Int := (fun i => if (i : Int) = q.2 then c else q.1 i, q.2 + 1)
def ln0 : (Nat → Int) × Int := (fun _ => 0, 0)
def natL : Nat → (Nat → Int) × Int → Int → (Nat → Int) × Int
  | 0, q, v => putL q (48 + v % 10)
  | f + 1, q, v => putL (if 9 < v then natL f q (v / 10) else q) (48 + v % 10)
def numL (q : (Nat → Int) × Int) (v : Int) : (Nat → Int) × Int := if v < 0 then natL 4 (putL q 45) (-v) else natL 4 q v
def vLn (x f : Int) : Nat → (Nat → Int) × Int
  | 0 => putL ln0 (if f = 1 then 43 else 45)
  | k + 1 => if x / 2 ^ k % 2 ^ 1 = 1 then putL (vLn x f k) (97 + k) else vLn x f k
def gLn (c : Nat → Int) : Nat → (Nat → Int) × Int
  | 0 => ln0
  | k + 1 => numL (if k = 0 then gLn c k else putL (gLn c k) 32) (c k)
def lnG (g : Gm) (q : (Nat → Int) × Int) : Gm := mkG g.r g.sv g.hs g.pa g.kt g.rs g.dt g.er g.tx g.tn q.1 q.2
def sp_line (g : Gm) (v : Int) : Int × Int × Gm := if ¬ (0 ≤ v ∧ v < g.r 1) then (1, 0, g) else (0, (vLn (vX g.r v.toNat) (vF g.r v.toNat) 10).2, lnG g (vLn (vX g.r v.toNat) (vF g.r v.toNat) 10))
def sp_guardLine (g : Gm) (n : Int) : Int × Int × Gm := if ¬ (0 ≤ n ∧ n < g.r 0) then (1, 0, g) else (0, (gLn (gcn (rg g.r n.toNat)) 11).2, lnG g (gLn (gcn (rg g.r n.toNat)) 11))
theorem putL_2 {q : (Nat → Int) × Int} {c : Int} : (putL q c).2 = q.2 + 1 := rfl
theorem natL_2 : ∀ (f : Nat) (q : (Nat → Int) × Int) (v : Int), q.2 + 1 ≤ (natL f q v).2 ∧ (natL f q v).2 ≤ q.2 + f + 1
  | 0, q, v => by
    show q.2 + 1 ≤ q.2 + 1 ∧ q.2 + 1 ≤ q.2 + (0 : Nat) + 1
    omega
  | f + 1, q, v => by
    have h := natL_2 f q (v / 10)
    simp only [natL, putL_2]
    by_cases e : 9 < v
    · rw [if_pos e]; omega
    · rw [if_neg e]; omega
theorem numL_2 (q : (Nat → Int) × Int) (v : Int) : q.2 + 1 ≤ (numL q v).2 ∧ (numL q v).2 ≤ q.2 + 6 := by
  unfold numL
  by_cases e : v < 0
  · rw [if_pos e]
    have h := natL_2 4 (putL q 45) (-v)
    rw [putL_2] at h
    omega
  · rw [if_neg e]
    have h := natL_2 4 q v
    omega
theorem vLn_2 (x f : Int) : ∀ k : Nat, 1 ≤ (vLn x f k).2 ∧ (vLn x f k).2 ≤ k + 1
  | 0 => by show (1 : Int) ≤ 0 + 1 ∧ (0 : Int) + 1 ≤ (0 : Nat) + 1; omega
  | k + 1 => by
    have h := vLn_2 x f k
    simp only [vLn]
    by_cases e : x / 2 ^ k % 2 ^ 1 = 1
    · rw [if_pos e, putL_2]; omega
    · rw [if_neg e]; omega
theorem gLn_2 (c : Nat → Int) : ∀ k : Nat, 0 ≤ (gLn c k).2 ∧ (gLn c k).2 ≤ 7 * k
  | 0 => by show (0 : Int) ≤ 0 ∧ (0 : Int) ≤ 7 * (0 : Nat); omega
  | k + 1 => by
    have h := gLn_2 c k
    simp only [gLn]
    by_cases e : k = 0
    · rw [if_pos e]
      have h2 := numL_2 (gLn c k) (c k)
      omega
    · rw [if_neg e]
      have h2 := numL_2 (putL (gLn c k) 32) (c k)
      rw [putL_2] at h2
      omega
/-- the letters of a line are of seven bits -/
def LnOk (q : (Nat → Int) × Int) : Prop := 0 ≤ q.2 ∧ ∀ i : Nat, (i : Int) < q.2 → 0 ≤ q.1 i ∧ q.1 i ≤ 127
theorem LnOk.put {q : (Nat → Int) × Int} {c : Int} (h : LnOk q) (hc : 0 ≤ c ∧ c ≤ 127) : LnOk (putL q c) := by
  refine ⟨by rw [putL_2]; have := h.1; omega, fun i hi => ?_⟩
  rw [putL_2] at hi
  show 0 ≤ (if (i : Int) = q.2 then c else q.1 i) ∧ (if (i : Int) = q.2 then c else q.1 i) ≤ 127
  by_cases e : (i : Int) = q.2
  · rw [if_pos e]; exact hc
  · rw [if_neg e]; exact h.2 i (by omega)
theorem LnOk.nat : ∀ (f : Nat) {q : (Nat → Int) × Int} {v : Int}, LnOk q → 0 ≤ v → LnOk (natL f q v)
  | 0, q, v, h, hv => h.put (by omega)
  | f + 1, q, v, h, hv => by
    simp only [natL]
    refine LnOk.put ?_ (by omega)
    by_cases e : 9 < v
    · rw [if_pos e]; exact LnOk.nat f h (by omega)
    · rw [if_neg e]; exact h
theorem LnOk.num {q : (Nat → Int) × Int} {v : Int} (h : LnOk q) : LnOk (numL q v) := by
  unfold numL
  by_cases e : v < 0
  · rw [if_pos e]; exact LnOk.nat 4 (h.put (by omega)) (by omega)
  · rw [if_neg e]; exact LnOk.nat 4 h (by omega)
theorem LnOk.z : LnOk ln0 := ⟨by show (0 : Int) ≤ 0; omega, fun i hi => by have hi : (i : Int) < 0 := hi; omega⟩
theorem vLn_ok (x f : Int) : ∀ k : Nat, k ≤ 10 → LnOk (vLn x f k)
  | 0, _ => LnOk.z.put (by split <;> omega)
  | k + 1, hk => by
    have h := vLn_ok x f k (by omega)
    simp only [vLn]
    by_cases e : x / 2 ^ k % 2 ^ 1 = 1
    · rw [if_pos e]; exact h.put (by omega)
    · rw [if_neg e]; exact h
theorem gLn_ok (c : Nat → Int) : ∀ k : Nat, LnOk (gLn c k)
  | 0 => LnOk.z
  | k + 1 => by
    have h := gLn_ok c k
    simp only [gLn]
    by_cases e : k = 0
    · rw [if_pos e]; exact h.num
    · rw [if_neg e]; exact (h.put (by omega)).num
theorem b10_pow (f : Nat) : (10 : Int) ^ (f + 1 + 1) = 10 ^ (f + 1) * 10 := Int.pow_succ 10 (f + 1)
def szO (x : Int) : Nat → Int := zs (fun b => b2i (decide (x / 2 ^ b % 2 ^ 1 = 1)))
def lfd (f : Nat → Int) (p : Int) : Nat → Int
  | 0 => 0
  | n + 1 => if f n = p then n else lfd f p n
