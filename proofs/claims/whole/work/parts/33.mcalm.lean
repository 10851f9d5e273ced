/-! THE MODEL: DAYS UNTIL ONE IS CALM -/
theorem lp_cg {S S' X X' F F' : Nat → Int} (h : ∀ k, k < 27 → S' k = S k) : ∀ n, (∀ v, v < n → X' v = X v ∧ F' v = F v) → (∀ k, k < 27 → lpS S' X' F' n k = lpS S X F n k) ∧ lpC S' X' F' n = lpC S X F n ∧ lpOK S' X' F' n = lpOK S X F n
  | 0, _ => ⟨h, rfl, rfl⟩
  | n + 1, hv => by
    obtain ⟨h1, h2, h3⟩ := lp_cg h n (fun v hv9 => hv v (by omega))
    obtain ⟨e1, e2⟩ := hv n (by omega)
    refine ⟨fun k hk => ?_, ?_, ?_⟩
    · simp only [lpS]; rw [e1, e2]; exact tS_cg h1 k hk
    · simp only [lpC]; rw [e1, e2, h2, psS_cg h1]
    · simp only [lpOK]; rw [e1, e2, h3, tOK_cg h1]
theorem dS_cg {S S' X X' F F' : Nat → Int} {n : Nat} (h : ∀ k, k < 27 → S' k = S k) (hv : ∀ v, v < n → X' v = X v ∧ F' v = F v) : ∀ k, k < 27 → dS S' X' F' n k = dS S X F n k := fun k hk => by
  obtain ⟨h1, h2, -⟩ := lp_cg h n hv
  unfold dS eS
  rw [h2, h1 2 (by omega), h1 k hk]
  by_cases e2 : k = 2
  · rw [if_pos e2, if_pos e2]
  · rw [if_neg e2, if_neg e2]
    by_cases e4 : k = 4
    · rw [if_pos e4, if_pos e4]
    · rw [if_neg e4, if_neg e4, h1 (k - 10) (by omega)]
theorem gOk_cg {T : Int} {S S' : Nat → Int} (h : gOk T S) (he : ∀ k, k < 27 → S' k = S k) : gOk T S' := h.cong he
def d_days (g : Gm) (n most : Int) : Int × Int × Gm := if ¬ (0 ≤ n ∧ n < g.r 0) then (1, 0, g) else if ¬ (1 ≤ most ∧ most ≤ 30) then (2, 0, g) else if g.r 1 = 0 then (3, 0, rfG g 3 (g.r 0)) else match rnD g.r n.toNat most with | some (d, S) => (0, d, nwG g (stG g.r n.toNat S)) | none => (3, 0, rfG g 5 n)
theorem fin_days {g : Gm} {n most : Int} : sp_days g n most = fin g (d_days g n most) := by
  unfold sp_days d_days
  by_cases h0 : 0 ≤ n ∧ n < g.r 0
  · by_cases hm : 1 ≤ most ∧ most ≤ 30
    · by_cases h1 : g.r 1 = 0
      · rw [if_neg (fun e => e h0), if_neg (fun e => e hm), if_pos h1, if_neg (fun e => e h0), if_neg (fun e => e hm), if_pos h1]; rfl
      · rw [if_neg (fun e => e h0), if_neg (fun e => e hm), if_neg h1, if_neg (fun e => e h0), if_neg (fun e => e hm), if_neg h1]
        cases rnD g.r n.toNat most with
        | none => rfl
        | some q => exact congrArg (fun z => ((0 : Int), q.1, z)) kp_nw.symm
    · rw [if_neg (fun e => e h0), if_pos hm, if_neg (fun e => e h0), if_pos hm]; rfl
  · rw [if_pos h0, if_pos h0]; rfl
theorem d_days_rng {g : Gm} {n most : Int} : 0 ≤ (d_days g n most).1 ∧ (d_days g n most).1 ≤ 3 := by
  unfold d_days
  split
  · exact r31
  · split
    · exact r32
    · split
      · exact r33
      · cases rnD g.r n.toNat most with
        | none => exact r33
        | some q => exact r30
theorem thM_id {m : Mm} (h : m.1 1024 6 = 0) : thM m 0 = m := by
  unfold thM upI
  refine Prod.ext ?_ rfl
  funext x j
  simp only [up2]
  split
  · rename_i e
    obtain ⟨rfl, rfl⟩ := e
    exact h.symm
  · rfl
theorem SR.st {m : Mm} {r : Nat → Int} {g : Nat} (h : SR m r) : SR m (stG r g (rg r g)) := fun k hk => by
  rw [h k hk]
  unfold stG rg
  by_cases e : 26 + 27 * g ≤ k ∧ k < 53 + 27 * g
  · rw [if_pos e]; congr 1; omega
  · rw [if_neg e]
set_option maxHeartbeats 4000000 in
set_option maxRecDepth 100000 in
theorem c_X4_doDays {G : GG} {l : Launch} (hfl : l.stackTraces = false) (hG : MW G) {m : Mm} {g : Gm} {T : Int} (hY : YIs m g) (hT : gtOk T g.r) (h6 : m.1 1024 6 = 0) {n : Int} (hnR : -2147483648 ≤ n ∧ n ≤ 2147483647) {most : Int} (hmostR : -2147483648 ≤ most ∧ most ≤ 2147483647) : CT G l yX4_doDays cX4_doDays 5 (some .int) (RM 12 0 0) [.ref 1024, vI n, vI most] m (fun r' m' => ∃ v9, r' = some (vI v9) ∧ DO m m' (d_days g n most).1 (d_days g n most).2.2 ∧ True ∧ ((d_days g n most).1 = 0 → v9 = (d_days g n most).2.1)) (fun _ _ => False) := by
  refine CT.of RX4 [(0, .ref 1024), (1, vI n), (2, vI most)] hfl (by decide +kernel) rfl rfl (Nat.le_of_ble_eq_true rfl) ?_
  intro E ok en hml hEl htab
  have hR : e_R E = RM 12 0 0 := en.2.2.2
  have hn0 : 0 < (e_c E).maxLocals := by rw [hml]; decide
  have hn1 : 1 < (e_c E).maxLocals := by rw [hml]; decide
  have hn2 : 2 < (e_c E).maxLocals := by rw [hml]; decide
  have hn3 : 3 < (e_c E).maxLocals := by rw [hml]; decide
  have hn4 : 4 < (e_c E).maxLocals := by rw [hml]; decide
  have hs := hY.1
  obtain ⟨b0, b1, hvb, hgb⟩ := id hT
  have s0 := hs 0 (by omega)
  have s1 := hs 1 (by omega)
  refine ga_aload_n ok 0 rfl rfl dX4_doDays_0 ?_
  refine ga_iload_n ok 1 rfl rfl dX4_doDays_1 ?_
  refine ga_iload_n ok 2 rfl rfl dX4_doDays_2 ?_
  refine ga_iconst ok dX4_doDays_3 ?_
  refine ga_bipush ok dX4_doDays_4 (by decide) ?_
  refine gd_S_3 ok lk_X4_61 (c_X4_in ok.fl hG (x := most) (a := 1) (b := 30) hmostR (by omega) (by omega)) (by rw [hR]; exact ⟨by decide, by decide, by decide, by decide⟩) (Nat.le_of_ble_eq_true rfl) dX4_doDays_6 ?_
  refine gd_X4_2 ok hG rfl lk_X4_146 rfl (c_X4_isAsked ok.fl hG hs hT hnR (b := decide (1 ≤ most ∧ most ≤ 30))) (by rw [hR]; exact ⟨by decide, by decide, by decide, by decide⟩) (Nat.le_of_ble_eq_true rfl) dX4_doDays_9 ?_
  refine ga_if_ne ok 17 (by decide) (b2i_rng _) dX4_doDays_12 (fun c_12 => ?_) (fun c_12 => ?_)
  · have hz9 := of_decide_eq_true (b2i_n0.mp c_12)
    have ha9 := ask_0.mp hz9
    have qg : 0 ≤ n ∧ n < g.r 0 := of_decide_eq_true ha9.1
    have qm : 1 ≤ most ∧ most ≤ 30 := of_decide_eq_true ha9.2
    rw [hz9]
    have hm0 : thM m 0 = m := thM_id h6
    rw [hm0]
    refine ga_aload_n ok 0 rfl rfl dX4_doDays_17 ?_
    refine gf_X4_9 ok hG rfl dX4_doDays_18 ?_
    refine ga_iconst ok dX4_doDays_21 ?_
    refine ga_iaload_ia ok (ar_ms hG rfl) (by omega) dX4_doDays_22 ?_
    rw [show (m.1 1088 (1 : Int).toNat) = g.r 1 from s1]
    refine ga_if_ne ok 39 (by decide) (by omega) dX4_doDays_23 (fun c_23 => ?_) (fun c_23 => ?_)
    · refine ga_iconst ok dX4_doDays_39 ?_
      refine ga_istore_n ok 3 rfl hn3 dX4_doDays_40 ?_
      refine ga_iconst ok dX4_doDays_41 ?_
      refine ga_istore ok hn4 dX4_doDays_42 ?_
      have loop : ∀ (d p : Int) (S1 : Nat → Int) (M : Mm), (0 ≤ d ∧ d ≤ most ∧ -1 ≤ p ∧ p ≤ 12 ∧ OF m M ∧ (0 ≤ p → SR M (stG g.r n.toNat S1) ∧ gOk (T + 13 * d) S1) ∧ (0 < p → rnD g.r n.toNat most = dRun (vX g.r) (vF g.r) (g.r 1).toNat (most - d).toNat S1 d) ∧ (p = 0 → rnD g.r n.toNat most = some (d, S1)) ∧ (p < 0 → rnD g.r n.toNat most = none)) → WA G E 0 0 44 [(4, vI p), (3, vI d), (0, .ref 1024), (1, vI n), (2, vI most)] [] M := by
        refine wl4 _ (fun d _ _ _ => (most - d).toNat) _ ?_
        intro d p S1 M hi ih
        obtain ⟨d0, d1, p0, p1, ho, hrow, hrun, hzer, hneg⟩ := hi
        refine ga_iload_n ok 3 rfl rfl dX4_doDays_44 ?_
        refine ga_iload_n ok 2 rfl rfl dX4_doDays_45 ?_
        refine ga_icmp_ge ok 67 (by decide) (by omega) (by omega) dX4_doDays_46 (fun c_46 => ?_) (fun c_46 => ?_)
        · refine ga_iload ok rfl dX4_doDays_67 ?_
          refine ga_if_ge ok 82 (by decide) (by omega) dX4_doDays_69 (fun c_69 => ?_) (fun c_69 => ?_)
          · refine ga_iload_n ok 3 rfl rfl dX4_doDays_82 ?_
            exact ga_ireturn ok en rfl rfl (by decide) (by decide) dX4_doDays_83 (by first
        | (exfalso; omega)
        | (have hrn : rnD g.r n.toNat most = some (d, S1) := (by
             by_cases hpz : p = 0
             · exact hzer hpz
             · have h8 := hrun (by omega)
               rw [show (most - d).toNat = 0 by omega] at h8
               exact h8)
           have hd : (d_days g n most) = (0, d, nwG g (stG g.r n.toNat S1)) := (by unfold d_days; rw [if_neg (by omega), if_neg (by omega), if_neg (by first | exact c_23 | omega), hrn])
           rw [hd]
           exact ⟨_, rfl, DO.row hY h6 ho (hrow (by omega)).1, trivial, fun _ => rfl⟩))
          · refine ga_aload_n ok 0 rfl rfl dX4_doDays_72 ?_
            refine ga_iconst ok dX4_doDays_73 ?_
            refine ga_iconst ok dX4_doDays_74 ?_
            refine ga_iload_n ok 1 rfl rfl dX4_doDays_75 ?_
            refine gd_X4_3 ok hG rfl lk_X4_69 rfl (c_X4_refuse ok.fl hG (p := 3) (a := 5) (b := n)) (by rw [hR]; exact ⟨by decide, by decide, by decide, by decide⟩) (Nat.le_of_ble_eq_true rfl) dX4_doDays_76 ?_
            refine ga_goto ok 83 (by decide) dX4_doDays_79 ?_
            exact ga_ireturn ok en rfl rfl (by decide) (by decide) dX4_doDays_83 (by first | (exfalso; omega) | (have hrn : rnD g.r n.toNat most = none := hneg (by omega); have hd : (d_days g n most) = (3, 0, rfG g 5 n) := (by unfold d_days; rw [if_neg (by omega), if_neg (by omega), if_neg (by first | exact c_23 | omega), hrn]); rw [hd]; exact ⟨_, rfl, DO.rs1 hY ho (by decide), trivial, fun h => absurd (show (3 : Int) = 0 from h) (by decide)⟩))
        · refine ga_iload ok rfl dX4_doDays_49 ?_
          refine ga_if_le ok 67 (by decide) (by omega) dX4_doDays_51 (fun c_51 => ?_) (fun c_51 => ?_)
          · refine ga_iload ok rfl dX4_doDays_67 ?_
            refine ga_if_ge ok 82 (by decide) (by omega) dX4_doDays_69 (fun c_69 => ?_) (fun c_69 => ?_)
            · refine ga_iload_n ok 3 rfl rfl dX4_doDays_82 ?_
              exact ga_ireturn ok en rfl rfl (by decide) (by decide) dX4_doDays_83 (by first
        | (exfalso; omega)
        | (have hrn : rnD g.r n.toNat most = some (d, S1) := (by
             by_cases hpz : p = 0
             · exact hzer hpz
             · have h8 := hrun (by omega)
               rw [show (most - d).toNat = 0 by omega] at h8
               exact h8)
           have hd : (d_days g n most) = (0, d, nwG g (stG g.r n.toNat S1)) := (by unfold d_days; rw [if_neg (by omega), if_neg (by omega), if_neg (by first | exact c_23 | omega), hrn])
           rw [hd]
           exact ⟨_, rfl, DO.row hY h6 ho (hrow (by omega)).1, trivial, fun _ => rfl⟩))
            · refine ga_aload_n ok 0 rfl rfl dX4_doDays_72 ?_
              refine ga_iconst ok dX4_doDays_73 ?_
              refine ga_iconst ok dX4_doDays_74 ?_
              refine ga_iload_n ok 1 rfl rfl dX4_doDays_75 ?_
              refine gd_X4_3 ok hG rfl lk_X4_69 rfl (c_X4_refuse ok.fl hG (p := 3) (a := 5) (b := n)) (by rw [hR]; exact ⟨by decide, by decide, by decide, by decide⟩) (Nat.le_of_ble_eq_true rfl) dX4_doDays_76 ?_
              refine ga_goto ok 83 (by decide) dX4_doDays_79 ?_
              exact ga_ireturn ok en rfl rfl (by decide) (by decide) dX4_doDays_83 (by first | (exfalso; omega) | (have hrn : rnD g.r n.toNat most = none := hneg (by omega); have hd : (d_days g n most) = (3, 0, rfG g 5 n) := (by unfold d_days; rw [if_neg (by omega), if_neg (by omega), if_neg (by first | exact c_23 | omega), hrn]); rw [hd]; exact ⟨_, rfl, DO.rs1 hY ho (by decide), trivial, fun h => absurd (show (3 : Int) = 0 from h) (by decide)⟩))
          · obtain ⟨hM, hS1⟩ := hrow (by omega)
            have hrn := hrun (by omega)
            rw [show (most - d).toNat = (most - (d + 1)).toNat + 1 by omega, dRun] at hrn
            refine ga_aload_n ok 0 rfl rfl dX4_doDays_54 ?_
            refine ga_iload_n ok 1 rfl rfl dX4_doDays_55 ?_
            refine gc_X4_1 ok hG rfl lk_X4_178 rfl (c_X4_goesBy ok.fl hG hM (gtOk_stG (hT.mono (by omega)) hS1 : gtOk (T + 13 * d) (stG g.r n.toNat S1)) (g := n) (by rw [lo_stG (by omega)]; omega)) (by rw [hR]; exact ⟨by decide, by decide, by decide, by decide⟩) (Nat.le_of_ble_eq_true rfl) dX4_doDays_56 (fun r9 M2 hq => ?_) (fun _ _ h => h.elim)
            obtain ⟨v9, hr9, ho2, ht1, ht2⟩ := hq
            subst hr9
            simp only [Option.toList_some, List.singleton_append]
            rw [show (stG g.r n.toNat S1 1) = g.r 1 from lo_stG (by omega)] at ht1 ht2
            have hcv : ∀ v, v < (g.r 1).toNat → vX (stG g.r n.toNat S1) v = vX g.r v ∧ vF (stG g.r n.toNat S1) v = vF g.r v := fun v hv9 => v_stG (by omega)
            obtain ⟨-, hc2, hc3⟩ := lp_cg (S := S1) (S' := rg (stG g.r n.toNat S1) n.toNat) (rgst) (g.r 1).toNat hcv
            rw [hc3, hc2] at ht1
            rw [hc3] at ht2
            have hds := dS_cg (S := S1) (S' := rg (stG g.r n.toNat S1) n.toNat) (n := (g.r 1).toNat) rgst hcv
            have hlb := lpC_bd (S := S1) (X := vX g.r) (F := vF g.r) (g.r 1).toNat
            have hsr : lpOK S1 (vX g.r) (vF g.r) (g.r 1).toNat = true → SR M2 (stG g.r n.toNat (dS S1 (vX g.r) (vF g.r) (g.r 1).toNat)) := fun h k hk => by rw [(ht1 h).2 k hk]; exact stst hds k
            have hv9 : -1 ≤ v9 ∧ v9 ≤ 12 ∧ (0 ≤ v9 → lpOK S1 (vX g.r) (vF g.r) (g.r 1).toNat = true ∧ v9 = lpC S1 (vX g.r) (vF g.r) (g.r 1).toNat) ∧ (v9 < 0 → lpOK S1 (vX g.r) (vF g.r) (g.r 1).toNat = false) := by
              by_cases ht : lpOK S1 (vX g.r) (vF g.r) (g.r 1).toNat = true
              · have := (ht1 ht).1; exact ⟨by omega, by omega, fun _ => ⟨ht, this⟩, fun h => by omega⟩
              · have := ht2 (Bool.eq_false_iff.mpr ht); exact ⟨by omega, by omega, fun h => by omega, fun _ => Bool.eq_false_iff.mpr ht⟩
            refine ga_istore ok hn4 dX4_doDays_59 ?_
            refine ga_iinc ok rfl hn3 dX4_doDays_61 ?_
            refine ga_goto ok 44 (by decide) dX4_doDays_64 ?_
            by_cases hp0 : 0 ≤ v9
            · obtain ⟨hl, hvc⟩ := hv9.2.2.1 hp0
              rw [if_pos hl] at hrn
              refine WA.re (by exact ⟨rfl, rfl, rfl, rfl, rfl, trivial⟩) (ih (d + 1) v9 (dS S1 (vX g.r) (vF g.r) (g.r 1).toNat) M2 ⟨by omega, by omega, hv9.1, hv9.2.1, ⟨ho.1.tr ho2.1, fun q hq => (ho2.2 q hq).trans (ho.2 q hq)⟩, fun _ => ⟨hsr hl, (gOk_dS hS1 hl).mono (by omega)⟩, fun h => ?_, fun h => ?_, fun h => by omega⟩ (by omega))
              · rw [if_neg (by omega)] at hrn; exact hrn
              · rw [if_pos (by omega)] at hrn; exact hrn
            · rw [if_neg (by rw [hv9.2.2.2 (by omega)]; exact Bool.false_ne_true)] at hrn
              exact WA.re (by exact ⟨rfl, rfl, rfl, rfl, rfl, trivial⟩) (ih (d + 1) v9 S1 M2 ⟨by omega, by omega, hv9.1, hv9.2.1, ⟨ho.1.tr ho2.1, fun q hq => (ho2.2 q hq).trans (ho.2 q hq)⟩, fun h => by omega, fun h => by omega, fun h => by omega, fun _ => hrn⟩ (by omega))
      exact WA.re (by exact ⟨rfl, rfl, rfl, rfl, rfl, trivial⟩) (loop 0 1 (rg g.r n.toNat) m ⟨by omega, by omega, by omega, by omega, OF.rf, fun _ => ⟨hs.st, (hgb n.toNat (by omega)).mono (by omega)⟩, fun _ => by rw [show most - 0 = most by omega]; rfl, fun h => by omega, fun h => by omega⟩)
    · refine ga_aload_n ok 0 rfl rfl dX4_doDays_26 ?_
      refine ga_iconst ok dX4_doDays_27 ?_
      refine ga_iconst ok dX4_doDays_28 ?_
      refine ga_aload_n ok 0 rfl rfl dX4_doDays_29 ?_
      refine gf_X4_9 ok hG rfl dX4_doDays_30 ?_
      refine ga_iconst ok dX4_doDays_33 ?_
      refine ga_iaload_ia ok (ar_ms hG rfl) (by omega) dX4_doDays_34 ?_
      rw [show (m.1 1088 (0 : Int).toNat) = g.r 0 from s0]
      refine gd_X4_3 ok hG rfl lk_X4_69 rfl (c_X4_refuse ok.fl hG (p := 3) (a := 3) (b := g.r 0)) (by rw [hR]; exact ⟨by decide, by decide, by decide, by decide⟩) (Nat.le_of_ble_eq_true rfl) dX4_doDays_35 ?_
      exact ga_ireturn ok en rfl rfl (by decide) (by decide) dX4_doDays_38 (by
  have hd : (d_days g n most) = (3, 0, rfG g 3 (g.r 0)) := by unfold d_days; rw [if_neg (by omega), if_neg (by omega), if_pos (by first | exact c_23 | omega)]
  rw [hd]
  exact ⟨_, rfl, DO.rs hY (by decide), trivial, fun h => absurd (show (3 : Int) = 0 from h) (by decide)⟩)
  · refine ga_iconst ok dX4_doDays_15 ?_
    exact ga_ireturn ok en rfl rfl (by decide) (by decide) dX4_doDays_16 (by
  have hz9 : (ask g.r n (decide (1 ≤ most ∧ most ≤ 30))) ≠ 0 := of_decide_eq_false (b2i_0.mp c_12)
  have hd : (d_days g n most) = ((ask g.r n (decide (1 ≤ most ∧ most ≤ 30))), 0, g) := by
    unfold d_days ask isG
    unfold ask isG at hz9
    simp only [decide_eq_true_eq] at hz9 ⊢
    by_cases e1 : 0 ≤ n ∧ n < g.r 0
    · rw [if_pos e1] at hz9 ⊢
      by_cases e2 : 1 ≤ most ∧ most ≤ 30
      · rw [if_pos e2] at hz9; exact absurd rfl hz9
      · rw [if_neg (fun e => e e1), if_pos e2, if_neg e2]
    · rw [if_pos e1, if_neg e1]
  rw [hd]
  exact ⟨_, rfl, DO.rf hY hz9, trivial, fun h => absurd h hz9⟩)
set_option maxHeartbeats 4000000 in
set_option maxRecDepth 100000 in
theorem c_X4_days {G : GG} {l : Launch} (hfl : l.stackTraces = false) (hG : MW G) {m : Mm} {g : Gm} {T : Int} (hY : YIs m g) (hT : gtOk T g.r) {n : Int} (hnR : -2147483648 ≤ n ∧ n ≤ 2147483647) {most : Int} (hmostR : -2147483648 ≤ most ∧ most ≤ 2147483647) : CT G l yX4_days cX4_days 3 (some .int) (RM 14 0 0) [.ref 1024, vI n, vI most] m (fun r' m' => ∃ v9, r' = some (vI v9) ∧ ((sp_days g n most).1 = 0 → v9 = (sp_days g n most).2.1) ∧ YIs m' (sp_days g n most).2.2 ∧ m'.1 1024 6 = (sp_days g n most).1 ∧ YFr m m') (fun _ _ => False) := by
  refine CT.of RX4 [(0, .ref 1024), (1, vI n), (2, vI most)] hfl (by decide +kernel) rfl rfl (Nat.le_of_ble_eq_true rfl) ?_
  intro E ok en hml hEl htab
  have hR : e_R E = RM 14 0 0 := en.2.2.2
  have hn0 : 0 < (e_c E).maxLocals := by rw [hml]; decide
  have hn1 : 1 < (e_c E).maxLocals := by rw [hml]; decide
  have hn2 : 2 < (e_c E).maxLocals := by rw [hml]; decide
  have hs := hY.1
  obtain ⟨b0, b1, hvb, hgb⟩ := id hT
  have s0 := hs 0 (by omega)
  have s1 := hs 1 (by omega)
  refine ga_aload_n ok 0 rfl rfl dX4_days_0 ?_
  refine gv_X4_0 ok hG rfl lk_X4_77 rfl (c_X4_keep ok.fl hG) (by rw [hR]; exact ⟨by decide, by decide, by decide, by decide⟩) (Nat.le_of_ble_eq_true rfl) dX4_days_1 ?_
  refine ga_aload_n ok 0 rfl rfl dX4_days_4 ?_
  refine ga_aload_n ok 0 rfl rfl dX4_days_5 ?_
  refine ga_iload_n ok 1 rfl rfl dX4_days_6 ?_
  refine ga_iload_n ok 2 rfl rfl dX4_days_7 ?_
  obtain ⟨y1, y2, y3, y4⟩ := keepY hY
  refine gc_X4_2 ok hG rfl lk_X4_184 rfl (c_X4_doDays ok.fl hG y1 hT y2 hnR hmostR) (by rw [hR]; exact ⟨by decide, by decide, by decide, by decide⟩) (Nat.le_of_ble_eq_true rfl) dX4_days_8 (fun r9 m2 hq => ?_) (fun _ _ h => h.elim)
  obtain ⟨v9, hr9, hD, -, hv9⟩ := hq
  subst hr9
  obtain ⟨q1, q2, q3, q4, q5, q6⟩ := hD
  simp only [Option.toList_some, List.singleton_append]
  have hk9 : 0 ≤ (d_days g n most).1 ∧ (d_days g n most).1 ≤ 3 := d_days_rng
  refine gc_X4_1 ok hG rfl lk_X4_83 rfl (c_X4_ends ok.fl hG q5 q4 hk9 (r0 := g.r) (fun q hq => by rw [q1]; exact y3 q hq)) (by rw [hR]; exact ⟨by decide, by decide, by decide, by decide⟩) (Nat.le_of_ble_eq_true rfl) dX4_days_11 (fun r9 m3 hq => ?_) (fun _ _ h => h.elim)
  obtain ⟨hr9, e2, e3, e4, e5⟩ := hq
  subst hr9
  simp only [Option.toList_some, List.singleton_append]
  exact ga_ireturn ok en rfl rfl (by decide) (by decide) dX4_days_14 (by
  rw [fin_days]
  refine ⟨_, rfl, fun h => ?_, ?_, e3, y4.tr (q3.tr e2)⟩
  · have h0 : (d_days g n most).1 = 0 := h
    show (if 0 < (d_days g n most).1 then 0 else v9) = (if (d_days g n most).1 = 0 then (d_days g n most).2.1 else 0)
    rw [if_neg (by omega), if_pos h0]; exact hv9 h0
  · show YIs _ (if (d_days g n most).1 = 0 then kpG (d_days g n most).2.2 g.r else nwG (d_days g n most).2.2 g.r)
    by_cases h0 : (d_days g n most).1 = 0
    · rw [if_pos h0]; exact e5 h0 (q6 h0)
    · rw [if_neg h0]; exact e4 (by omega))
