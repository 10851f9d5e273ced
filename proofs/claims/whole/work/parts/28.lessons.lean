/-! THE MODEL: LESSONS -/
theorem tch_sh {x : Int} (hx : 0 ≤ x) (n : Nat) : (2 * x + 1) / 2 ^ (n + 1) = x / 2 ^ n := by
  obtain ⟨j, rfl⟩ : ∃ j : Nat, x = j := ⟨x.toNat, by omega⟩
  have e1 : ((2 * (j : Int) + 1) / 2 ^ (n + 1)) = (((2 * j + 1) / 2 ^ (n + 1) : Nat) : Int) := by push_cast; rfl
  have e2 : ((j : Int) / 2 ^ n) = ((j / 2 ^ n : Nat) : Int) := by push_cast; rfl
  rw [e1, e2, Nat.pow_succ', ← Nat.div_div_eq_div_mul]
  congr 2
  omega
theorem tch_hs {x b : Int} (hx : 0 ≤ x) (hb : -1 ≤ b) : tch x (b + 1).toNat = hsb x b := by
  by_cases h : b < 0
  · rw [show (b + 1).toNat = 0 by omega, tch_0]
    unfold hsb
    rw [decide_eq_true (Or.inl h)]
  · unfold tch hsb
    rw [show (b + 1).toNat = b.toNat + 1 by omega, tch_sh hx]
    exact decide_eq_decide.mpr ⟨fun e => Or.inr e, fun e => e.elim (fun q => absurd q h) id⟩
theorem gOk_rt5 {T : Int} {S : Nat → Int} (h : gOk T S) : gOk (T + 1) (rtS S 5 (S 5 + 1)) := by
  obtain ⟨h0, h1, h2, h3, h4⟩ := h
  have h5 := h2 5 (by omega) (by omega)
  exact ⟨h0, h1, fun j a b => by
    unfold rtS
    by_cases e : j = 5
    · rw [if_pos e]; omega
    · rw [if_neg e]; have := h2 j a b; omega, fun i hi => by unfold rtS; rw [if_neg (by omega)]; exact h3 i hi, fun i hi => by unfold rtS; rw [if_neg (by omega)]; exact h4 i hi⟩
theorem psS_cong {S S' : Nat → Int} {x f : Int} (h : ∀ k, k < 27 → k ≠ 5 → S' k = S k) : psS S' x f = psS S x f := by
  unfold psS
  rw [h 1 (by omega) (by omega), show mg (gcn S') x = mg (gcn S) x from mgA_cong x 10 (by omega) (fun i hi => h (6 + i) (by omega) (by omega))]
/-- the row once the first i of bias and badges have been pushed -/
def tw (r : Nat → Int) (g : Nat) (dl x i : Int) : Nat → Int := fun k => if k = 26 + 27 * g + 5 then r k + 1 else if 26 + 27 * g + 6 ≤ k ∧ (k : Int) < 26 + 27 * g + 6 + i ∧ tch x (k - (26 + 27 * g + 6)) = true then r k + dl else r k
theorem tw_c {r : Nat → Int} {g j : Nat} {dl x i : Int} (hj : j < 11) (hi : i ≤ j) : tw r g dl x i (26 + 27 * g + 6 + j) = r (26 + 27 * g + 6 + j) := by
  unfold tw
  rw [if_neg (by omega), if_neg (fun h => by omega)]
theorem tw_s {r : Nat → Int} {g j k : Nat} {dl x : Int} (hj : j < 11) : tw r g dl x (j + 1) k = if k = 26 + 27 * g + 6 + j ∧ tch x j = true then r k + dl else tw r g dl x j k := by
  unfold tw
  by_cases e : k = 26 + 27 * g + 5
  · rw [if_pos e, if_neg (by omega), if_pos e]
  · rw [if_neg e, if_neg e]
    by_cases e2 : k = 26 + 27 * g + 6 + j
    · subst e2
      rw [show 26 + 27 * g + 6 + j - (26 + 27 * g + 6) = j by omega]
      by_cases ht : tch x j = true
      · rw [if_pos ⟨by omega, by omega, ht⟩, if_pos ⟨rfl, ht⟩]
      · rw [if_neg (fun h => ht h.2.2), if_neg (fun h => ht h.2), if_neg (fun h => ht h.2.2)]
    · refine Eq.trans ?_ (if_neg (fun h => e2 h.1)).symm
      by_cases e3 : 26 + 27 * g + 6 ≤ k ∧ (k : Int) < 26 + 27 * g + 6 + j ∧ tch x (k - (26 + 27 * g + 6)) = true
      · rw [if_pos e3, if_pos ⟨e3.1, by omega, e3.2.2⟩]
      · rw [if_neg e3, if_neg (fun h => e3 ⟨h.1, by omega, h.2.2⟩)]
theorem tw_0 {r : Nat → Int} {g k : Nat} {dl x : Int} : tw r g dl x 0 k = stG r g (rtS (rg r g) 5 (rg r g 5 + 1)) k := by
  unfold tw stG rtS rg
  by_cases e : k = 26 + 27 * g + 5
  · subst e
    rw [if_pos rfl, if_pos ⟨by omega, by omega⟩, if_pos (by omega)]
  · rw [if_neg e, if_neg (fun h => by omega)]
    by_cases e2 : 26 + 27 * g ≤ k ∧ k < 53 + 27 * g
    · rw [if_pos e2, if_neg (by omega), show 26 + 27 * g + (k - (26 + 27 * g)) = k by omega]
    · rw [if_neg e2]
theorem tw_end {r : Nat → Int} {g k : Nat} {x f : Int} (hp : psS (rg r g) x f = true) : (if k = 26 + 27 * g + 3 then r k + 1 else tw r g (dlt (rg r g) f) x 11 k) = stG r g (tS (rg r g) x f) k := by
  unfold stG
  by_cases e2 : 26 + 27 * g ≤ k ∧ k < 53 + 27 * g
  · rw [if_pos e2]
    have ek : rg r g (k - (26 + 27 * g)) = r k := by unfold rg; congr 1; omega
    unfold tS tw
    by_cases e5 : k = 26 + 27 * g + 5
    · rw [if_neg (by omega), if_pos e5, if_pos (by omega), ← ek, show k - (26 + 27 * g) = 5 by omega]
    · rw [if_neg e5, if_neg (by omega : ¬ k - (26 + 27 * g) = 5), if_pos hp]
      by_cases e3 : k = 26 + 27 * g + 3
      · rw [if_pos e3, if_pos (by omega), ← ek, show k - (26 + 27 * g) = 3 by omega]
      · rw [if_neg e3, if_neg (by omega : ¬ k - (26 + 27 * g) = 3), ek, show k - (26 + 27 * g + 6) = k - (26 + 27 * g) - 6 by omega]
        by_cases e6 : 26 + 27 * g + 6 ≤ k ∧ (k : Int) < 26 + 27 * g + 6 + 11 ∧ tch x (k - (26 + 27 * g) - 6) = true
        · rw [if_pos e6, if_pos ⟨by omega, by omega, e6.2.2⟩]
        · rw [if_neg e6, if_neg (fun h => e6 ⟨by omega, by omega, h.2.2⟩)]
  · rw [if_neg e2, if_neg (by omega)]
    unfold tw
    rw [if_neg (by omega), if_neg (fun h => by omega)]
theorem tw_no {r : Nat → Int} {g k : Nat} {x f dl : Int} (hp : psS (rg r g) x f = false) : tw r g dl x 0 k = stG r g (tS (rg r g) x f) k := by
  rw [tw_0]
  unfold stG
  by_cases e2 : 26 + 27 * g ≤ k ∧ k < 53 + 27 * g
  · rw [if_pos e2, if_pos e2]
    unfold rtS tS
    by_cases e5 : k - (26 + 27 * g) = 5
    · rw [if_pos e5, if_pos e5]
    · rw [if_neg e5, if_neg e5, hp]
      rfl
  · rw [if_neg e2, if_neg e2]
