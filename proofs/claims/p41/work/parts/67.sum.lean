/-! THE SUM OF WHAT IS TOLD -/
theorem CT.nox {G : GG} {l : Launch} {y : MethodName} {bytes : ByteArray} {maxL : Nat} {ret : Option FieldType} {rm : Room} {av : List Value} {m : Mm} {Qr : Option Value → Mm → Prop} {Qx : String → Mm → Prop} (h : CT G l y bytes maxL ret rm av m Qr Qx) (hx : ∀ X m', Qx X m' → False) : CT G l y bytes maxL ret rm av m Qr (fun _ _ => False) := by
  intro p e h1 h2 h3 s m0 args below h4 h5 h6 h7
  obtain ⟨n, o, a1, a2, a3, a4⟩ := h p e h1 h2 h3 s m0 args below h4 h5 h6 h7
  refine ⟨n, o, a1, a2, a3, ?_⟩
  rcases a4 with a4 | ⟨q, -, hT⟩
  · exact Or.inl a4
  · obtain ⟨L, X, ce, ⟨⟨m', hq, -⟩, -⟩, -⟩ := hT
    exact (hx _ _ hq).elim
def smV (r : Nat → Int) : Nat → Int
  | 0 => 7
  | v + 1 => 31 * smV r v + 2 * w32 (q_visitorOf r (v : Int) 0) + w32 (q_visitorOf r (v : Int) 1)
def smW (r : Nat → Int) (n : Int) (h : Int) : Nat → Int
  | 0 => h
  | w + 1 => 37 * smW r n h w + w32 (q_of r n (w : Int))
/-- b is the badge and one -/
def smB (r : Nat → Int) (n : Int) (h : Int) : Nat → Int
  | 0 => h
  | b + 1 => 43 * (41 * smB r n h b + w32 (q_counted r n ((b : Int) - 1))) + w32 (if (b : Int) - 1 < 0 then 0 else q_meanBits r n ((b : Int) - 1))
def smG (r : Nat → Int) : Nat → Int
  | 0 => smV r (r 1).toNat
  | n + 1 => smB r n (smW r n (smG r n) 7) 11
def smS (r : Nat → Int) : Int := smG r (r 0).toNat
set_option maxHeartbeats 3000000 in
set_option maxRecDepth 100000 in
theorem c_L_sum {G : GG} {l : Launch} (hfl : l.stackTraces = false) (hG : MW G) (hS : SBW G) {m : Mm} {Xs : XS} {g : Gm} {T : Int} (hX : LWX T m g) (hT0 : 0 ≤ T ∧ T ≤ 999000000) : CL G l yL_sum cL_sum 5 (some .long) (RM 13 420 2600) [.ref 0] m (Xs) (fun r' m' Xs' => r' = some (vJ (smS g.r)) ∧ m' = m ∧ Xs' = Xs) := by
  refine CL.of RL [(0, .ref 0)] hfl (by decide +kernel) rfl rfl (Nat.le_of_ble_eq_true rfl) ?_
  intro E ok0 en hml hEl hnam
  have hR : e_R E = RM 13 420 2600 := en.2.2.2
  have ok : ∀ {Xs : XS}, OK0 (GX G Xs) E RL cL_sum := fun {_} => ok0.gx
  have hn0 : 0 < (e_c E).maxLocals := by rw [hml]; decide
  have hn1 : 1 < (e_c E).maxLocals := by rw [hml]; decide
  have hn2 : 2 < (e_c E).maxLocals := by rw [hml]; decide
  have hn3 : 3 < (e_c E).maxLocals := by rw [hml]; decide
  have hn4 : 4 < (e_c E).maxLocals := by rw [hml]; decide
  have h04 : 0 ≤ g.r 0 ∧ g.r 0 ≤ 4 := hX.O.1
  have h12 : 0 ≤ g.r 1 ∧ g.r 1 ≤ 12 := hX.O.2.1
  refine ga_ldc2 (z := 7) ok (tb_in 1162 (by decide +kernel) (by decide +kernel)) dL_sum_0 ?_
  refine ga_lstore_n ok 1 rfl hn2 dL_sum_3 ?_
  refine ga_iconst ok dL_sum_4 ?_
  refine ga_istore_n ok 3 rfl hn3 dL_sum_5 ?_
  have loopG : ∀ (j : Nat), (j : Int) ≤ g.r 0 → WA (GX G Xs) E (80 + 80 * j) (500 + 500 * j) 49 [(3, vI (j : Int)), (1, vJ (smG g.r j)), (0, .ref 0)] [] m := by
    refine wl1 _ (fun j => (g.r 0).toNat - j) _ ?_
    intro j hj ih
    refine ga_iload_n ok 3 rfl rfl dL_sum_49 ?_
    refine ga_aload_n ok 0 rfl rfl dL_sum_50 ?_
    refine ga_iconst ok dL_sum_51 ?_
    refine gl_callV ok0 hG hS [vI 0] lk_L_168 rfl hX.h40 (fun G9 hG9 hS9 => (c_X3_account ok0.fl hG9 hX.I hX.O (what := 0) (by omega)).nox (fun _ _ h => by have := h.1.2; omega)) rfl (by rw [hR]; exact ⟨by decide, by decide, by simp only [RM]; omega, by simp only [RM]; omega⟩) (Nat.le_of_ble_eq_true rfl) dL_sum_52 (fun r9 m1 hq9 => ?_)
    obtain ⟨-, rfl, hm9⟩ := hq9
    subst m1
    simp only [Option.toList_some, List.singleton_append]
    rw [if_pos trivial]
    refine ga_icmp_ge ok 150 (by decide) (by omega) (by omega) dL_sum_55 (fun c_55 => ?_) (fun c_55 => ?_)
    · refine ga_lload_n ok 1 rfl rfl dL_sum_150 ?_
      exact gl_lreturn ok0 en rfl (by simp only [RM]; omega) (by simp only [RM]; omega) dL_sum_151 ⟨by unfold smS; rw [show (g.r 0).toNat = j by omega], rfl, rfl⟩
    · refine ga_iconst ok dL_sum_58 ?_
      refine ga_istore ok hn4 dL_sum_59 ?_
      have loopW : ∀ (w : Int), 0 ≤ w ∧ w ≤ 7 → WA (GX G Xs) E (80 + 80 * j + 2 + 2 * w.toNat) (500 + 500 * j + 10 + 12 * w.toNat) 61 [(4, vI w), (3, vI (j : Int)), (1, vJ (smW g.r j (smG g.r j) w.toNat)), (0, .ref 0)] [] m := by
        refine wl1 _ (fun w => (7 - w).toNat) _ ?_
        intro w hw ih2
        refine ga_iload ok rfl dL_sum_61 ?_
        refine ga_bipush ok dL_sum_63 (by decide) ?_
        refine ga_icmp_ge ok 89 (by decide) (by omega) (by omega) dL_sum_65 (fun c_65 => ?_) (fun c_65 => ?_)
        · refine ga_iconst ok dL_sum_89 ?_
          refine ga_istore ok hn4 dL_sum_90 ?_
          obtain ⟨h, hh⟩ : ∃ h, h = smW g.r j (smG g.r j) 7 := ⟨_, rfl⟩
          have e8 : smW g.r j (smG g.r j) w.toNat = smB g.r j h 0 := by rw [show w.toNat = 7 by omega, hh]; rfl
          have loopB : ∀ (b : Int), -1 ≤ b ∧ b ≤ 10 → WA (GX G Xs) E (80 + 80 * j + 20 + 5 * (b + 1).toNat) (500 + 500 * j + 110 + 34 * (b + 1).toNat) 92 [(4, vI b), (3, vI (j : Int)), (1, vJ (smB g.r j h (b + 1).toNat)), (0, .ref 0)] [] m := by
            refine wl1 _ (fun b => (10 - b).toNat) _ ?_
            intro b hb ih2
            refine ga_iload ok rfl dL_sum_92 ?_
            refine ga_bipush ok dL_sum_94 (by decide) ?_
            refine ga_icmp_ge ok 144 (by decide) (by omega) (by omega) dL_sum_96 (fun c_96 => ?_) (fun c_96 => ?_)
            · have e9 : smB g.r j h (b + 1).toNat = smG g.r (j + 1) := by rw [show (b + 1).toNat = 11 by omega, hh]; rfl
              refine ga_iinc ok rfl hn3 dL_sum_144 ?_
              refine ga_goto ok 49 (by decide) dL_sum_147 ?_
              refine WA.wd (k2 := 80 + 80 * (j + 1)) (n2 := 500 + 500 * (j + 1)) (by first | omega | (simp only [RM]; omega)) (by first | omega | (simp only [RM]; omega)) ?_
              rw [show ((j : Int) + 1) = ((j + 1 : Nat) : Int) by omega]
              exact WA.re (by exact ⟨rfl, (by rw [← e9]; rfl), rfl, trivial⟩) (ih (j + 1) (by omega) (by omega))
            · refine ga_ldc2 (z := 41) ok (tb_in 1166 (by decide +kernel) (by decide +kernel)) dL_sum_99 ?_
              refine ga_lload_n ok 1 rfl rfl dL_sum_102 ?_
              refine ga_lmul ok dL_sum_103 ?_
              refine ga_aload_n ok 0 rfl rfl dL_sum_104 ?_
              refine ga_iload_n ok 3 rfl rfl dL_sum_105 ?_
              refine ga_iload ok rfl dL_sum_106 ?_
              refine gl_callT ok0 hG hS [.ref 0, vI (j : Int), vI b] lw_L_181 hX.h40 (fun G9 hG9 hS9 => w_counted ok0.fl hG9 hS9 hX (by omega) (by omega) (by omega)) rfl (by rw [hR]; exact ⟨by decide, by decide, by simp only [RM]; omega, by simp only [RM]; omega⟩) (Nat.le_of_ble_eq_true rfl) dL_sum_108 (fun r9 m1 hq9 => ?_)
              obtain ⟨rfl, hm9⟩ := hq9
              subst m1
              simp only [Option.toList_some, List.singleton_append]
              refine ga_i2lW ok dL_sum_111 ?_
              refine ga_ladd ok dL_sum_112 ?_
              refine ga_lstore_n ok 1 rfl hn2 dL_sum_113 ?_
              refine ga_ldc2 (z := 43) ok (tb_in 1167 (by decide +kernel) (by decide +kernel)) dL_sum_114 ?_
              refine ga_lload_n ok 1 rfl rfl dL_sum_117 ?_
              refine ga_lmul ok dL_sum_118 ?_
              refine ga_iload ok rfl dL_sum_119 ?_
              refine ga_if_ge ok 128 (by decide) (by omega) dL_sum_121 (fun c_121 => ?_) (fun c_121 => ?_)
              · refine ga_aload_n ok 0 rfl rfl dL_sum_128 ?_
                refine ga_iload_n ok 3 rfl rfl dL_sum_129 ?_
                refine ga_iload ok rfl dL_sum_130 ?_
                refine gl_callT ok0 hG hS [.ref 0, vI (j : Int), vI b] lw_L_242 hX.h40 (fun G9 hG9 hS9 => w_meanBits ok0.fl hG9 hS9 hX (by omega) (by omega) (by omega)) rfl (by rw [hR]; exact ⟨by decide, by decide, by simp only [RM]; omega, by simp only [RM]; omega⟩) (Nat.le_of_ble_eq_true rfl) dL_sum_132 (fun r9 m1 hq9 => ?_)
                obtain ⟨rfl, hm9⟩ := hq9
                subst m1
                simp only [Option.toList_some, List.singleton_append]
                refine ga_i2lW ok dL_sum_135 ?_
                refine ga_ladd ok dL_sum_136 ?_
                refine ga_lstore_n ok 1 rfl hn2 dL_sum_137 ?_
                refine ga_iinc ok rfl hn4 dL_sum_138 ?_
                refine ga_goto ok 92 (by decide) dL_sum_141 ?_
                have e9 : smB g.r j h (b + 1 + 1).toNat = 43 * (41 * smB g.r j h (b + 1).toNat + w32 (q_counted g.r (j : Int) b)) + w32 (q_meanBits g.r (j : Int) b) := by
                  rw [show (b + 1 + 1).toNat = (b + 1).toNat + 1 by omega]
                  simp only [smB]
                  rw [show (((b + 1).toNat : Nat) : Int) - 1 = b by omega, if_neg (by omega)]
                refine WA.wd (k2 := 80 + 80 * j + 20 + 5 * (b + 1 + 1).toNat) (n2 := 500 + 500 * j + 110 + 34 * (b + 1 + 1).toNat) (by first | omega | (simp only [RM]; omega)) (by first | omega | (simp only [RM]; omega)) ?_
                exact WA.re (by exact ⟨rfl, rfl, (by rw [e9]; rfl), rfl, trivial⟩) (ih2 (b + 1) (by omega) (by omega))
              · refine ga_iconst ok dL_sum_124 ?_
                refine ga_goto ok 135 (by decide) dL_sum_125 ?_
                refine ga_i2lW ok dL_sum_135 ?_
                refine ga_ladd ok dL_sum_136 ?_
                refine ga_lstore_n ok 1 rfl hn2 dL_sum_137 ?_
                refine ga_iinc ok rfl hn4 dL_sum_138 ?_
                refine ga_goto ok 92 (by decide) dL_sum_141 ?_
                have e9 : smB g.r j h (b + 1 + 1).toNat = 43 * (41 * smB g.r j h (b + 1).toNat + w32 (q_counted g.r (j : Int) b)) + w32 (0) := by
                  rw [show (b + 1 + 1).toNat = (b + 1).toNat + 1 by omega]
                  simp only [smB]
                  rw [show (((b + 1).toNat : Nat) : Int) - 1 = b by omega, if_pos (by omega)]
                refine WA.wd (k2 := 80 + 80 * j + 20 + 5 * (b + 1 + 1).toNat) (n2 := 500 + 500 * j + 110 + 34 * (b + 1 + 1).toNat) (by first | omega | (simp only [RM]; omega)) (by first | omega | (simp only [RM]; omega)) ?_
                exact WA.re (by exact ⟨rfl, rfl, (by rw [e9]; rfl), rfl, trivial⟩) (ih2 (b + 1) (by omega) (by omega))
          refine WA.wd (k2 := 80 + 80 * j + 20 + 5 * ((-1 : Int) + 1).toNat) (n2 := 500 + 500 * j + 110 + 34 * ((-1 : Int) + 1).toNat) (by first | omega | (simp only [RM]; omega)) (by first | omega | (simp only [RM]; omega)) ?_
          exact WA.re (by exact ⟨rfl, rfl, (by rw [← show smW g.r j (smG g.r j) w.toNat = smB g.r j h ((-1 : Int) + 1).toNat from e8]; rfl), rfl, trivial⟩) (loopB (-1) (by omega))
        · refine ga_ldc2 (z := 37) ok (tb_in 1165 (by decide +kernel) (by decide +kernel)) dL_sum_68 ?_
          refine ga_lload_n ok 1 rfl rfl dL_sum_71 ?_
          refine ga_lmul ok dL_sum_72 ?_
          refine ga_aload_n ok 0 rfl rfl dL_sum_73 ?_
          refine ga_iload_n ok 3 rfl rfl dL_sum_74 ?_
          refine ga_iload ok rfl dL_sum_75 ?_
          refine gl_callT ok0 hG hS [.ref 0, vI (j : Int), vI w] lw_L_245 hX.h40 (fun G9 hG9 hS9 => w_of ok0.fl hG9 hS9 hX (by omega) (by omega) (by omega)) rfl (by rw [hR]; exact ⟨by decide, by decide, by simp only [RM]; omega, by simp only [RM]; omega⟩) (Nat.le_of_ble_eq_true rfl) dL_sum_77 (fun r9 m1 hq9 => ?_)
          obtain ⟨rfl, hm9⟩ := hq9
          subst m1
          simp only [Option.toList_some, List.singleton_append]
          refine ga_i2lW ok dL_sum_80 ?_
          refine ga_ladd ok dL_sum_81 ?_
          refine ga_lstore_n ok 1 rfl hn2 dL_sum_82 ?_
          refine ga_iinc ok rfl hn4 dL_sum_83 ?_
          refine ga_goto ok 61 (by decide) dL_sum_86 ?_
          have e9 : smW g.r j (smG g.r j) (w + 1).toNat = 37 * smW g.r j (smG g.r j) w.toNat + w32 (q_of g.r (j : Int) w) := by
            rw [show (w + 1).toNat = w.toNat + 1 by omega]
            simp only [smW]
            rw [show ((w.toNat : Nat) : Int) = w by omega]
          refine WA.wd (k2 := 80 + 80 * j + 2 + 2 * (w + 1).toNat) (n2 := 500 + 500 * j + 10 + 12 * (w + 1).toNat) (by first | omega | (simp only [RM]; omega)) (by first | omega | (simp only [RM]; omega)) ?_
          exact WA.re (by exact ⟨rfl, rfl, (by rw [e9]; rfl), rfl, trivial⟩) (ih2 (w + 1) (by omega) (by omega))
      refine WA.wd (k2 := 80 + 80 * j + 2 + 2 * (0 : Int).toNat) (n2 := 500 + 500 * j + 10 + 12 * (0 : Int).toNat) (by first | omega | (simp only [RM]; omega)) (by first | omega | (simp only [RM]; omega)) ?_
      exact WA.re (by exact ⟨rfl, rfl, rfl, rfl, trivial⟩) (loopW 0 (by omega))
  have loopV : ∀ (v : Int), 0 ≤ v ∧ v ≤ g.r 1 → WA (GX G Xs) E (0 + 6 * v.toNat) (0 + 40 * v.toNat) 6 [(3, vI v), (1, vJ (smV g.r v.toNat)), (0, .ref 0)] [] m := by
    refine wl1 _ (fun v => (g.r 1 - v).toNat) _ ?_
    intro v hv ih
    refine ga_iload_n ok 3 rfl rfl dL_sum_6 ?_
    refine ga_aload_n ok 0 rfl rfl dL_sum_7 ?_
    refine ga_iconst ok dL_sum_8 ?_
    refine gl_callV ok0 hG hS [vI 1] lk_L_168 rfl hX.h40 (fun G9 hG9 hS9 => (c_X3_account ok0.fl hG9 hX.I hX.O (what := 1) (by omega)).nox (fun _ _ h => by have := h.1.2; omega)) rfl (by rw [hR]; exact ⟨by decide, by decide, by simp only [RM]; omega, by simp only [RM]; omega⟩) (Nat.le_of_ble_eq_true rfl) dL_sum_9 (fun r9 m1 hq9 => ?_)
    obtain ⟨-, rfl, hm9⟩ := hq9
    subst m1
    simp only [Option.toList_some, List.singleton_append]
    rw [if_pos trivial]
    refine ga_icmp_ge ok 47 (by decide) (by omega) (by omega) dL_sum_12 (fun c_12 => ?_) (fun c_12 => ?_)
    · refine ga_iconst ok dL_sum_47 ?_
      refine ga_istore_n ok 3 rfl hn3 dL_sum_48 ?_
      rw [show (0 : Int) = ((0 : Nat) : Int) from rfl]
      refine WA.wd (k2 := 80 + 80 * 0) (n2 := 500 + 500 * 0) (by first | omega | (simp only [RM]; omega)) (by first | omega | (simp only [RM]; omega)) ?_
      have e9 : smV g.r v.toNat = smG g.r 0 := by rw [show v = g.r 1 by omega]; rfl
      exact WA.re (by exact ⟨rfl, (by rw [e9]; rfl), rfl, trivial⟩) (loopG 0 (by omega))
    · refine ga_ldc2 (z := 31) ok (tb_in 1163 (by decide +kernel) (by decide +kernel)) dL_sum_15 ?_
      refine ga_lload_n ok 1 rfl rfl dL_sum_18 ?_
      refine ga_lmul ok dL_sum_19 ?_
      refine ga_ldc2 (z := 2) ok (tb_in 1164 (by decide +kernel) (by decide +kernel)) dL_sum_20 ?_
      refine ga_aload_n ok 0 rfl rfl dL_sum_23 ?_
      refine ga_iload_n ok 3 rfl rfl dL_sum_24 ?_
      refine ga_iconst ok dL_sum_25 ?_
      refine gl_callT ok0 hG hS [.ref 0, vI v, vI 0] lw_L_252 hX.h40 (fun G9 hG9 hS9 => w_visitorOf ok0.fl hG9 hS9 hX (by omega) (by omega) (by omega)) rfl (by rw [hR]; exact ⟨by decide, by decide, by simp only [RM]; omega, by simp only [RM]; omega⟩) (Nat.le_of_ble_eq_true rfl) dL_sum_26 (fun r9 m1 hq9 => ?_)
      obtain ⟨rfl, hm9⟩ := hq9
      subst m1
      simp only [Option.toList_some, List.singleton_append]
      refine ga_i2lW ok dL_sum_29 ?_
      refine ga_lmul ok dL_sum_30 ?_
      refine ga_ladd ok dL_sum_31 ?_
      refine ga_aload_n ok 0 rfl rfl dL_sum_32 ?_
      refine ga_iload_n ok 3 rfl rfl dL_sum_33 ?_
      refine ga_iconst ok dL_sum_34 ?_
      refine gl_callT ok0 hG hS [.ref 0, vI v, vI 1] lw_L_252 hX.h40 (fun G9 hG9 hS9 => w_visitorOf ok0.fl hG9 hS9 hX (by omega) (by omega) (by omega)) rfl (by rw [hR]; exact ⟨by decide, by decide, by simp only [RM]; omega, by simp only [RM]; omega⟩) (Nat.le_of_ble_eq_true rfl) dL_sum_35 (fun r9 m1 hq9 => ?_)
      obtain ⟨rfl, hm9⟩ := hq9
      subst m1
      simp only [Option.toList_some, List.singleton_append]
      refine ga_i2lW ok dL_sum_38 ?_
      refine ga_ladd ok dL_sum_39 ?_
      refine ga_lstore_n ok 1 rfl hn2 dL_sum_40 ?_
      refine ga_iinc ok rfl hn3 dL_sum_41 ?_
      refine ga_goto ok 6 (by decide) dL_sum_44 ?_
      have e9 : smV g.r (v + 1).toNat = 31 * smV g.r v.toNat + 2 * w32 (q_visitorOf g.r v 0) + w32 (q_visitorOf g.r v 1) := by
        rw [show (v + 1).toNat = v.toNat + 1 by omega]
        simp only [smV]
        rw [show ((v.toNat : Nat) : Int) = v by omega]
      refine WA.wd (k2 := 0 + 6 * (v + 1).toNat) (n2 := 0 + 40 * (v + 1).toNat) (by first | omega | (simp only [RM]; omega)) (by first | omega | (simp only [RM]; omega)) ?_
      exact WA.re (by exact ⟨rfl, (by rw [e9]; rfl), rfl, trivial⟩) (ih (v + 1) (by omega) (by omega))
  exact WA.wd (Nat.le_refl _) (Nat.le_refl _) (WA.re (by exact ⟨rfl, rfl, rfl, trivial⟩) (loopV 0 (by omega)))
