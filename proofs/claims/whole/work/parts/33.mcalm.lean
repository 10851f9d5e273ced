/-! THE MODEL: DAYS UNTIL ONE IS CALM -/
theorem lp_cg {S S' X X' F F' : Nat → Int} (h : ∀ k, k < 27 → S' k = S k) : ∀ n, (∀ v, v < n → X' v = X v ∧ F' v = F v) → (∀ k, k < 27 → lpS S' X' F' n k = lpS S X F n k) ∧ lpC S' X' F' n = lpC S X F n ∧ lpOK S' X' F' n = lpOK S X F n
  | 0, _ => ⟨h, rfl, rfl⟩
  | n + 1, hv => by
    obtain ⟨h1, h2, h3⟩ := lp_cg h n (fun v hv9 => hv v (by omega))
    obtain ⟨e1, e2⟩ := hv n (by omega)
    refine ⟨fun k hk => ?_, ?_, ?_⟩
    · simp only [lpS]; rw [e1, e2]; exact tS_cg h1 k hk
    · simp only [lpC]; rw [e1, e2, h2, psS_cg h1]
    · simp only [lpOK]; rw [e1, e2, h3, tOK_cg h1]
theorem dS_cg {S S' X X' F F' : Nat → Int} {n : Nat} (h : ∀ k, k < 27 → S' k = S k) (hv : ∀ v, v < n → X' v = X v ∧ F' v = F v) : ∀ k, k < 27 → dS S' X' F' n k = dS S X F n k := fun k hk => by
  obtain ⟨h1, h2, -⟩ := lp_cg h n hv
  unfold dS eS
  rw [h2, h1 2 (by omega), h1 k hk]
  by_cases e2 : k = 2
  · rw [if_pos e2, if_pos e2]
  · rw [if_neg e2, if_neg e2]
    by_cases e4 : k = 4
    · rw [if_pos e4, if_pos e4]
    · rw [if_neg e4, if_neg e4, h1 (k - 10) (by omega)]
theorem gOk_cg {T : Int} {S S' : Nat → Int} (h : gOk T S) (he : ∀ k, k < 27 → S' k = S k) : gOk T S' := h.cong he
def d_days (g : Gm) (n most : Int) : Int × Int × Gm := if ¬ (0 ≤ n ∧ n < g.r 0) then (1, 0, g) else if ¬ (1 ≤ most ∧ most ≤ 30) then (2, 0, g) else if g.r 1 = 0 then (3, 0, rfG g 3 (g.r 0)) else match rnD g.r n.toNat most with | some (d, S) => (0, d, nwG g (stG g.r n.toNat S)) | none => (3, 0, rfG g 5 n)
theorem fin_days {g : Gm} {n most : Int} : sp_days g n most = fin g (d_days g n most) := by
  unfold sp_days d_days
  by_cases h0 : 0 ≤ n ∧ n < g.r 0
  · by_cases hm : 1 ≤ most ∧ most ≤ 30
    · by_cases h1 : g.r 1 = 0
      · rw [if_neg (fun e => e h0), if_neg (fun e => e hm), if_pos h1, if_neg (fun e => e h0), if_neg (fun e => e hm), if_pos h1]; rfl
      · rw [if_neg (fun e => e h0), if_neg (fun e => e hm), if_neg h1, if_neg (fun e => e h0), if_neg (fun e => e hm), if_neg h1]
        cases rnD g.r n.toNat most with
        | none => rfl
        | some q => exact congrArg (fun z => ((0 : Int), q.1, z)) kp_nw.symm
    · rw [if_neg (fun e => e h0), if_pos hm, if_neg (fun e => e h0), if_pos hm]; rfl
  · rw [if_pos h0, if_pos h0]; rfl
theorem d_days_rng {g : Gm} {n most : Int} : 0 ≤ (d_days g n most).1 ∧ (d_days g n most).1 ≤ 3 := by
  unfold d_days
  split
  · exact r31
  · split
    · exact r32
    · split
      · exact r33
      · cases rnD g.r n.toNat most with
        | none => exact r33
        | some q => exact r30
