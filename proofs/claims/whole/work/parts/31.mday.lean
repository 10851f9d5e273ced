/-! THE MODEL: A DAY -/
theorem gcn_cong {S S' : Nat → Int} (h : ∀ k, k < 27 → S' k = S k) : ∀ i, i < 11 → gcn S' i = gcn S i := fun i hi => h (6 + i) (by omega)
theorem psS_cg {S S' : Nat → Int} {x f : Int} (h : ∀ k, k < 27 → S' k = S k) : psS S' x f = psS S x f := psS_cong (fun k hk _ => h k hk)
theorem dlt_cg {S S' : Nat → Int} {f : Int} (h : ∀ k, k < 27 → S' k = S k) : dlt S' f = dlt S f := by unfold dlt; rw [h 0 (by omega)]
theorem tOK_cg {S S' : Nat → Int} {x f : Int} (h : ∀ k, k < 27 → S' k = S k) : tOK S' x f = tOK S x f := by
  unfold tOK
  rw [psS_cg h, dlt_cg h, rok_cong (gcn_cong h)]
theorem tS_cg {S S' : Nat → Int} {x f : Int} (h : ∀ k, k < 27 → S' k = S k) : ∀ j, j < 27 → tS S' x f j = tS S x f j := fun j hj => by
  unfold tS
  rw [psS_cg h, dlt_cg h, h 5 (by omega), h 3 (by omega), h j hj]
theorem rgst {r S : Nat → Int} {g : Nat} : ∀ k, k < 27 → rg (stG r g S) g k = S k := fun k hk => by rw [rg_stG hk, if_pos rfl]
theorem stst {r S S' : Nat → Int} {g : Nat} (h : ∀ j, j < 27 → S j = S' j) (k : Nat) {W : Nat → Int} : stG (stG r g W) g S k = stG r g S' k := by
  unfold stG
  by_cases e : 26 + 27 * g ≤ k ∧ k < 53 + 27 * g
  · rw [if_pos e, if_pos e, h _ (by omega)]
  · rw [if_neg e, if_neg e, if_neg e]
/-- the sums of the first i badges have been reckoned -/
def sw (L : Nat → Int) (i : Int) : Nat → Int := fun j => if 17 ≤ j ∧ (j : Int) < 17 + i then fword (FP.fadd (fbits (L j)) (fq (L (j - 10)))) else L j
