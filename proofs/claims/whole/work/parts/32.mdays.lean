/-! THE MODEL: DAYS -/
theorem rnD_1 {r : Nat → Int} {n : Nat} : rnD r n 1 = if lpOK (rg r n) (vX r) (vF r) (r 1).toNat = true then some (1, dS (rg r n) (vX r) (vF r) (r 1).toNat) else none := by
  unfold rnD
  rw [show (1 : Int).toNat = 0 + 1 from rfl, dRun]
  by_cases h : lpOK (rg r n) (vX r) (vF r) (r 1).toNat = true
  · rw [if_pos h, if_pos h]
    split
    · rfl
    · rfl
  · rw [if_neg h, if_neg h]
def d_day (g : Gm) (n : Int) : Int × Int × Gm := if ¬ (0 ≤ n ∧ n < g.r 0) then (1, 0, g) else if g.r 1 = 0 then (2, 0, rfG g 3 (g.r 0)) else match rnD g.r n.toNat 1 with | some (_, S) => (0, S 4, nwG g (stG g.r n.toNat S)) | none => (2, 0, rfG g 5 n)
theorem fin_day {g : Gm} {n : Int} : sp_day g n = fin g (d_day g n) := by
  unfold sp_day d_day
  by_cases h0 : 0 ≤ n ∧ n < g.r 0
  · by_cases h1 : g.r 1 = 0
    · rw [if_neg (fun e => e h0), if_pos h1, if_neg (fun e => e h0), if_pos h1]; rfl
    · rw [if_neg (fun e => e h0), if_neg h1, if_neg (fun e => e h0), if_neg h1]
      cases rnD g.r n.toNat 1 with
      | none => rfl
      | some q => exact congrArg (fun z => ((0 : Int), q.2 4, z)) kp_nw.symm
  · rw [if_pos h0, if_pos h0]; rfl
theorem d_day_rng {g : Gm} {n : Int} : 0 ≤ (d_day g n).1 ∧ (d_day g n).1 ≤ 3 := by
  unfold d_day
  split
  · exact r31
  · split
    · exact r32
    · cases rnD g.r n.toNat 1 with
      | none => exact r32
      | some q => exact r30
set_option maxHeartbeats 4000000 in
set_option maxRecDepth 100000 in
theorem c_X4_doDay {G : GG} {l : Launch} (hfl : l.stackTraces = false) (hG : MW G) {m : Mm} {g : Gm} {T : Int} (hY : YIs m g) (hT : gtOk T g.r) (h6 : m.1 1024 6 = 0) {n : Int} (hnR : -2147483648 ≤ n ∧ n ≤ 2147483647) : CT G l yX4_doDay cX4_doDay 3 (some .int) (RM 11 0 0) [.ref 1024, vI n] m (fun r' m' => ∃ v9, r' = some (vI v9) ∧ DO m m' (d_day g n).1 (d_day g n).2.2 ∧ RF m m' (d_day g n).1 ∧ ((d_day g n).1 = 0 → v9 = (d_day g n).2.1)) (fun _ _ => False) := by
  refine CT.of RX4 [(0, .ref 1024), (1, vI n)] hfl (by decide +kernel) rfl rfl (Nat.le_of_ble_eq_true rfl) ?_
  intro E ok en hml hEl htab
  have hR : e_R E = RM 11 0 0 := en.2.2.2
  have hn0 : 0 < (e_c E).maxLocals := by rw [hml]; decide
  have hn1 : 1 < (e_c E).maxLocals := by rw [hml]; decide
  have hn2 : 2 < (e_c E).maxLocals := by rw [hml]; decide
  have hs := hY.1
  obtain ⟨b0, b1, hvb, hgb⟩ := id hT
  have s0 := hs 0 (by omega)
  have s1 := hs 1 (by omega)
  refine ga_aload_n ok 0 rfl rfl dX4_doDay_0 ?_
  refine ga_iload_n ok 1 rfl rfl dX4_doDay_1 ?_
  refine gd_X4_1 ok hG rfl lk_X4_86 rfl (c_X4_isGuard ok.fl hG hs hT hnR) (by rw [hR]; exact ⟨by decide, by decide, by decide, by decide⟩) (Nat.le_of_ble_eq_true rfl) dX4_doDay_2 ?_
  refine ga_if_ne ok 14 (by decide) (b2i_rng _) dX4_doDay_5 (fun c_5 => ?_) (fun c_5 => ?_)
  · have f_5 := of_decide_eq_true (b2i_n0.mp c_5)
    refine ga_aload_n ok 0 rfl rfl dX4_doDay_14 ?_
    refine gf_X4_9 ok hG rfl dX4_doDay_15 ?_
    refine ga_iconst ok dX4_doDay_18 ?_
    refine ga_iaload_ia ok (ar_ms hG rfl) (by omega) dX4_doDay_19 ?_
    rw [show (m.1 1088 (1 : Int).toNat) = g.r 1 from s1]
    refine ga_if_ne ok 36 (by decide) (by omega) dX4_doDay_20 (fun c_20 => ?_) (fun c_20 => ?_)
    · refine ga_aload_n ok 0 rfl rfl dX4_doDay_36 ?_
      refine ga_iload_n ok 1 rfl rfl dX4_doDay_37 ?_
      refine gc_X4_1 ok hG rfl lk_X4_178 rfl (c_X4_goesBy ok.fl hG hs hT (g := n) (by omega)) (by rw [hR]; exact ⟨by decide, by decide, by decide, by decide⟩) (Nat.le_of_ble_eq_true rfl) dX4_doDay_38 (fun r9 m1 hq => ?_) (fun _ _ h => h.elim)
      obtain ⟨v9, hr9, ho, ht1, ht2⟩ := hq
      subst hr9
      simp only [Option.toList_some, List.singleton_append]
      have hlb := lpC_bd (S := rg g.r n.toNat) (X := vX g.r) (F := vF g.r) (g.r 1).toNat
      have hv9 : -1 ≤ v9 ∧ v9 ≤ 100 ∧ (0 ≤ v9 ↔ lpOK (rg g.r n.toNat) (vX g.r) (vF g.r) (g.r 1).toNat = true) := by
        by_cases ht : lpOK (rg g.r n.toNat) (vX g.r) (vF g.r) (g.r 1).toNat = true
        · have := (ht1 ht).1; exact ⟨by omega, by omega, ⟨fun _ => ht, fun _ => by omega⟩⟩
        · have := ht2 (Bool.eq_false_iff.mpr ht); exact ⟨by omega, by omega, ⟨fun h => by omega, fun h => absurd h ht⟩⟩
      refine ga_istore_n ok 2 rfl hn2 dX4_doDay_41 ?_
      refine ga_iload_n ok 2 rfl rfl dX4_doDay_42 ?_
      refine ga_if_ge ok 56 (by decide) (by omega) dX4_doDay_43 (fun c_43 => ?_) (fun c_43 => ?_)
      · refine ga_iload_n ok 2 rfl rfl dX4_doDay_56 ?_
        exact ga_ireturn ok en rfl rfl (by decide) (by decide) dX4_doDay_57 (by
  have ht : lpOK (rg g.r n.toNat) (vX g.r) (vF g.r) (g.r 1).toNat = true := hv9.2.2.mp (by omega)
  have hd : (d_day g n) = (0, (dS (rg g.r n.toNat) (vX g.r) (vF g.r) (g.r 1).toNat) 4, nwG g (stG g.r n.toNat (dS (rg g.r n.toNat) (vX g.r) (vF g.r) (g.r 1).toNat))) := by unfold d_day; rw [if_neg (by omega), if_neg (by first | exact c_20 | omega), rnD_1, if_pos ht]
  rw [hd]
  exact ⟨_, rfl, DO.row hY h6 ho (ht1 ht).2, RF.row, fun _ => (ht1 ht).1⟩)
      · refine ga_aload_n ok 0 rfl rfl dX4_doDay_46 ?_
        refine ga_iconst ok dX4_doDay_47 ?_
        refine ga_iconst ok dX4_doDay_48 ?_
        refine ga_iload_n ok 1 rfl rfl dX4_doDay_49 ?_
        refine gd_X4_3 ok hG rfl lk_X4_69 rfl (c_X4_refuse ok.fl hG (p := 2) (a := 5) (b := n)) (by rw [hR]; exact ⟨by decide, by decide, by decide, by decide⟩) (Nat.le_of_ble_eq_true rfl) dX4_doDay_50 ?_
        refine ga_goto ok 57 (by decide) dX4_doDay_53 ?_
        exact ga_ireturn ok en rfl rfl (by decide) (by decide) dX4_doDay_57 (by
  have hd : (d_day g n) = (2, 0, rfG g 5 n) := by unfold d_day; rw [if_neg (by omega), if_neg (by first | exact c_20 | omega), rnD_1, if_neg (fun ht => by have := hv9.2.2.mpr ht; omega)]
  rw [hd]
  exact ⟨_, rfl, DO.rs1 hY ho (by decide), RF.rs1, fun h => absurd (show (2 : Int) = 0 from h) (by decide)⟩)
    · refine ga_aload_n ok 0 rfl rfl dX4_doDay_23 ?_
      refine ga_iconst ok dX4_doDay_24 ?_
      refine ga_iconst ok dX4_doDay_25 ?_
      refine ga_aload_n ok 0 rfl rfl dX4_doDay_26 ?_
      refine gf_X4_9 ok hG rfl dX4_doDay_27 ?_
      refine ga_iconst ok dX4_doDay_30 ?_
      refine ga_iaload_ia ok (ar_ms hG rfl) (by omega) dX4_doDay_31 ?_
      rw [show (m.1 1088 (0 : Int).toNat) = g.r 0 from s0]
      refine gd_X4_3 ok hG rfl lk_X4_69 rfl (c_X4_refuse ok.fl hG (p := 2) (a := 3) (b := g.r 0)) (by rw [hR]; exact ⟨by decide, by decide, by decide, by decide⟩) (Nat.le_of_ble_eq_true rfl) dX4_doDay_32 ?_
      exact ga_ireturn ok en rfl rfl (by decide) (by decide) dX4_doDay_35 (by
  have hd : (d_day g n) = (2, 0, rfG g 3 (g.r 0)) := by unfold d_day; rw [if_neg (by omega), if_pos (by first | exact c_20 | omega)]
  rw [hd]
  exact ⟨_, rfl, DO.rs hY (by decide), RF.rs (by decide), fun h => absurd (show (2 : Int) = 0 from h) (by decide)⟩)
  · have f_5 := of_decide_eq_false (b2i_0.mp c_5)
    refine ga_aload_n ok 0 rfl rfl dX4_doDay_8 ?_
    refine ga_iconst ok dX4_doDay_9 ?_
    refine gd_X4_1 ok hG rfl lk_X4_65 rfl (c_X4_fails ok.fl hG (k := 1)) (by rw [hR]; exact ⟨by decide, by decide, by decide, by decide⟩) (Nat.le_of_ble_eq_true rfl) dX4_doDay_10 ?_
    exact ga_ireturn ok en rfl rfl (by decide) (by decide) dX4_doDay_13 (by
  have hd : (d_day g n) = (1, 0, g) := by unfold d_day; rw [if_pos (by omega)]
  rw [hd]
  exact ⟨_, rfl, DO.rf hY (by decide), RF.th (by decide), fun h => absurd (show (1 : Int) = 0 from h) (by decide)⟩)
set_option maxHeartbeats 4000000 in
set_option maxRecDepth 100000 in
theorem c_X4_day {G : GG} {l : Launch} (hfl : l.stackTraces = false) (hG : MW G) {m : Mm} {g : Gm} {T : Int} (hY : YIs m g) (hT : gtOk T g.r) {n : Int} (hnR : -2147483648 ≤ n ∧ n ≤ 2147483647) : CT G l yX4_day cX4_day 2 (some .int) (RM 13 0 0) [.ref 1024, vI n] m (fun r' m' => ∃ v9, r' = some (vI v9) ∧ ((sp_day g n).1 = 0 → v9 = (sp_day g n).2.1) ∧ YIs m' (sp_day g n).2.2 ∧ m'.1 1024 6 = (sp_day g n).1 ∧ YFr m m') (fun _ _ => False) := by
  refine CT.of RX4 [(0, .ref 1024), (1, vI n)] hfl (by decide +kernel) rfl rfl (Nat.le_of_ble_eq_true rfl) ?_
  intro E ok en hml hEl htab
  have hR : e_R E = RM 13 0 0 := en.2.2.2
  have hn0 : 0 < (e_c E).maxLocals := by rw [hml]; decide
  have hn1 : 1 < (e_c E).maxLocals := by rw [hml]; decide
  have hs := hY.1
  obtain ⟨b0, b1, hvb, hgb⟩ := id hT
  have s0 := hs 0 (by omega)
  have s1 := hs 1 (by omega)
  refine ga_aload_n ok 0 rfl rfl dX4_day_0 ?_
  refine gv_X4_0 ok hG rfl lk_X4_77 rfl (c_X4_keep ok.fl hG) (by rw [hR]; exact ⟨by decide, by decide, by decide, by decide⟩) (Nat.le_of_ble_eq_true rfl) dX4_day_1 ?_
  refine ga_aload_n ok 0 rfl rfl dX4_day_4 ?_
  refine ga_aload_n ok 0 rfl rfl dX4_day_5 ?_
  refine ga_iload_n ok 1 rfl rfl dX4_day_6 ?_
  obtain ⟨y1, y2, y3, y4⟩ := keepY hY
  refine gc_X4_1 ok hG rfl lk_X4_181 rfl (c_X4_doDay ok.fl hG y1 hT y2 hnR) (by rw [hR]; exact ⟨by decide, by decide, by decide, by decide⟩) (Nat.le_of_ble_eq_true rfl) dX4_day_7 (fun r9 m2 hq => ?_) (fun _ _ h => h.elim)
  obtain ⟨v9, hr9, hD, -, hv9⟩ := hq
  subst hr9
  obtain ⟨q1, q2, q3, q4, q5, q6⟩ := hD
  simp only [Option.toList_some, List.singleton_append]
  have hk9 : 0 ≤ (d_day g n).1 ∧ (d_day g n).1 ≤ 3 := d_day_rng
  refine gc_X4_1 ok hG rfl lk_X4_83 rfl (c_X4_ends ok.fl hG q5 q4 hk9 (r0 := g.r) (fun q hq => by rw [q1]; exact y3 q hq)) (by rw [hR]; exact ⟨by decide, by decide, by decide, by decide⟩) (Nat.le_of_ble_eq_true rfl) dX4_day_10 (fun r9 m3 hq => ?_) (fun _ _ h => h.elim)
  obtain ⟨hr9, e2, e3, e4, e5⟩ := hq
  subst hr9
  simp only [Option.toList_some, List.singleton_append]
  exact ga_ireturn ok en rfl rfl (by decide) (by decide) dX4_day_13 (by
  rw [fin_day]
  refine ⟨_, rfl, fun h => ?_, ?_, e3, y4.tr (q3.tr e2)⟩
  · have h0 : (d_day g n).1 = 0 := h
    show (if 0 < (d_day g n).1 then 0 else v9) = (if (d_day g n).1 = 0 then (d_day g n).2.1 else 0)
    rw [if_neg (by omega), if_pos h0]; exact hv9 h0
  · show YIs _ (if (d_day g n).1 = 0 then kpG (d_day g n).2.2 g.r else nwG (d_day g n).2.2 g.r)
    by_cases h0 : (d_day g n).1 = 0
    · rw [if_pos h0]; exact e5 h0 (q6 h0)
    · rw [if_neg h0]; exact e4 (by omega))
