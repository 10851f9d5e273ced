/-! THE MODEL: TEACHING, DAYS -/
def d_teach (g : Gm) (n v : Int) : Int × Int × Gm := if ¬ ((0 ≤ n ∧ n < g.r 0) ∧ (0 ≤ v ∧ v < g.r 1)) then (1, 0, g) else if tOK (rg g.r n.toNat) (vX g.r v.toNat) (vF g.r v.toNat) = true then (0, b2i (psS (rg g.r n.toNat) (vX g.r v.toNat) (vF g.r v.toNat)), nwG g (stG g.r n.toNat (tS (rg g.r n.toNat) (vX g.r v.toNat) (vF g.r v.toNat)))) else (2, 0, rfG g 5 n)
theorem fin_teach {g : Gm} {n v : Int} : sp_teach g n v = fin g (d_teach g n v) := by
  by_cases h0 : (0 ≤ n ∧ n < g.r 0) ∧ (0 ≤ v ∧ v < g.r 1)
  · by_cases ht : tOK (rg g.r n.toNat) (vX g.r v.toNat) (vF g.r v.toNat) = true
    · unfold sp_teach d_teach
      rw [if_neg (fun e => e h0), if_pos ht, if_neg (fun e => e h0), if_pos ht]
      exact congrArg (fun q => ((0 : Int), b2i (psS (rg g.r n.toNat) (vX g.r v.toNat) (vF g.r v.toNat)), q)) kp_nw.symm
    · unfold sp_teach d_teach
      rw [if_neg (fun e => e h0), if_neg ht, if_neg (fun e => e h0), if_neg ht]
      rfl
  · unfold sp_teach d_teach
    rw [if_pos h0, if_pos h0]
    rfl
theorem d_teach_rng {g : Gm} {n v : Int} : 0 ≤ (d_teach g n v).1 ∧ (d_teach g n v).1 ≤ 3 := by
  unfold d_teach
  split
  · exact r31
  · split
    · exact r30
    · exact r32
theorem DO.row {m m1 : Mm} {g : Gm} {r : Nat → Int} (hY : YIs m g) (h6 : m.1 1024 6 = 0) (ho : OF m m1) (hs : SR m1 r) : DO m m1 0 (nwG g r) := ⟨ho.2 1152 (by omega), ho.dk, ho.1, by rw [ho.2 1024 (by omega)]; exact h6, (hY.2.o (fun n hn => ho.2 n (by omega))).nw, fun _ => hs⟩
theorem DO.rs1 {m m1 : Mm} {g : Gm} {k a b : Int} (hY : YIs m g) (ho : OF m m1) (hk : k ≠ 0) : DO m (rsM m1 k a b) k (rfG g a b) := ⟨by rw [rsM_r (by omega)]; exact ho.2 1152 (by omega), ho.dk.rs, ho.1.rs, rsM_6, (hY.2.o (fun n hn => ho.2 n (by omega))).rs, fun h => absurd h hk⟩
theorem RF.row {m m1 : Mm} : RF m m1 0 := RF.no
theorem RF.rs1 {m m1 : Mm} {a b : Int} : RF m (rsM m1 2 a b) 2 := ⟨fun h => absurd h (by decide), fun _ => rsM_9⟩
set_option maxHeartbeats 4000000 in
set_option maxRecDepth 100000 in
theorem c_X4_doTeach {G : GG} {l : Launch} (hfl : l.stackTraces = false) (hG : MW G) {m : Mm} {g : Gm} {T : Int} (hY : YIs m g) (hT : gtOk T g.r) (h6 : m.1 1024 6 = 0) {n : Int} (hnR : -2147483648 ≤ n ∧ n ≤ 2147483647) {v : Int} (hvR : -2147483648 ≤ v ∧ v ≤ 2147483647) : CT G l yX4_doTeach cX4_doTeach 4 (some .int) (RM 9 0 0) [.ref 1024, vI n, vI v] m (fun r' m' => ∃ v9, r' = some (vI v9) ∧ DO m m' (d_teach g n v).1 (d_teach g n v).2.2 ∧ RF m m' (d_teach g n v).1 ∧ ((d_teach g n v).1 = 0 → v9 = (d_teach g n v).2.1)) (fun _ _ => False) := by
  refine CT.of RX4 [(0, .ref 1024), (1, vI n), (2, vI v)] hfl (by decide +kernel) rfl rfl (Nat.le_of_ble_eq_true rfl) ?_
  intro E ok en hml hEl htab
  have hR : e_R E = RM 9 0 0 := en.2.2.2
  have hn0 : 0 < (e_c E).maxLocals := by rw [hml]; decide
  have hn1 : 1 < (e_c E).maxLocals := by rw [hml]; decide
  have hn2 : 2 < (e_c E).maxLocals := by rw [hml]; decide
  have hn3 : 3 < (e_c E).maxLocals := by rw [hml]; decide
  have hs := hY.1
  obtain ⟨b0, b1, hvb, hgb⟩ := id hT
  have s0 := hs 0 (by omega)
  have s1 := hs 1 (by omega)
  refine ga_aload_n ok 0 rfl rfl dX4_doTeach_0 ?_
  refine ga_iload_n ok 1 rfl rfl dX4_doTeach_1 ?_
  refine gd_X4_1 ok hG rfl lk_X4_86 rfl (c_X4_isGuard ok.fl hG hs hT hnR) (by rw [hR]; exact ⟨by decide, by decide, by decide, by decide⟩) (Nat.le_of_ble_eq_true rfl) dX4_doTeach_2 ?_
  refine ga_if_eq ok 16 (by decide) (b2i_rng _) dX4_doTeach_5 (fun c_5 => ?_) (fun c_5 => ?_)
  · have f_5 := of_decide_eq_false (b2i_0.mp c_5)
    refine ga_aload_n ok 0 rfl rfl dX4_doTeach_16 ?_
    refine ga_iconst ok dX4_doTeach_17 ?_
    refine gd_X4_1 ok hG rfl lk_X4_65 rfl (c_X4_fails ok.fl hG (k := 1)) (by rw [hR]; exact ⟨by decide, by decide, by decide, by decide⟩) (Nat.le_of_ble_eq_true rfl) dX4_doTeach_18 ?_
    exact ga_ireturn ok en rfl rfl (by decide) (by decide) dX4_doTeach_21 (by
  have hd : (d_teach g n v) = (1, 0, g) := by unfold d_teach; rw [if_pos (by omega)]
  rw [hd]
  exact ⟨_, rfl, DO.rf hY (by decide), RF.th (by decide), fun h => absurd (show (1 : Int) = 0 from h) (by decide)⟩)
  · have f_5 := of_decide_eq_true (b2i_n0.mp c_5)
    refine ga_aload_n ok 0 rfl rfl dX4_doTeach_8 ?_
    refine ga_iload_n ok 2 rfl rfl dX4_doTeach_9 ?_
    refine gd_X4_1 ok hG rfl lk_X4_104 rfl (c_X4_isVisitor ok.fl hG hs hT hvR) (by rw [hR]; exact ⟨by decide, by decide, by decide, by decide⟩) (Nat.le_of_ble_eq_true rfl) dX4_doTeach_10 ?_
    refine ga_if_ne ok 22 (by decide) (b2i_rng _) dX4_doTeach_13 (fun c_13 => ?_) (fun c_13 => ?_)
    · have f_13 := of_decide_eq_true (b2i_n0.mp c_13)
      refine ga_aload_n ok 0 rfl rfl dX4_doTeach_22 ?_
      refine ga_iload_n ok 1 rfl rfl dX4_doTeach_23 ?_
      refine ga_iload_n ok 2 rfl rfl dX4_doTeach_24 ?_
      refine gc_X4_2 ok hG rfl lk_X4_172 rfl (c_X4_taught ok.fl hG hs hT (g := n) (v := v) (by omega) (by omega)) (by rw [hR]; exact ⟨by decide, by decide, by decide, by decide⟩) (Nat.le_of_ble_eq_true rfl) dX4_doTeach_25 (fun r9 m1 hq => ?_) (fun _ _ h => h.elim)
      obtain ⟨v9, hr9, ho, ht1, ht2⟩ := hq
      subst hr9
      simp only [Option.toList_some, List.singleton_append]
      have hv9 : -1 ≤ v9 ∧ v9 ≤ 1 ∧ (0 ≤ v9 ↔ tOK (rg g.r n.toNat) (vX g.r v.toNat) (vF g.r v.toNat) = true) := by
        have hb9 := b2i_01 (psS (rg g.r n.toNat) (vX g.r v.toNat) (vF g.r v.toNat))
        by_cases ht : tOK (rg g.r n.toNat) (vX g.r v.toNat) (vF g.r v.toNat) = true
        · have := (ht1 ht).1; exact ⟨by omega, by omega, ⟨fun _ => ht, fun _ => by omega⟩⟩
        · have := ht2 (Bool.eq_false_iff.mpr ht); exact ⟨by omega, by omega, ⟨fun h => by omega, fun h => absurd h ht⟩⟩
      refine ga_istore_n ok 3 rfl hn3 dX4_doTeach_28 ?_
      refine ga_iload_n ok 3 rfl rfl dX4_doTeach_29 ?_
      refine ga_if_ge ok 43 (by decide) (by omega) dX4_doTeach_30 (fun c_30 => ?_) (fun c_30 => ?_)
      · refine ga_iload_n ok 3 rfl rfl dX4_doTeach_43 ?_
        exact ga_ireturn ok en rfl rfl (by decide) (by decide) dX4_doTeach_44 (by
  have ht : tOK (rg g.r n.toNat) (vX g.r v.toNat) (vF g.r v.toNat) = true := hv9.2.2.mp (by omega)
  have hd : (d_teach g n v) = (0, b2i (psS (rg g.r n.toNat) (vX g.r v.toNat) (vF g.r v.toNat)), nwG g (stG g.r n.toNat (tS (rg g.r n.toNat) (vX g.r v.toNat) (vF g.r v.toNat)))) := by unfold d_teach; rw [if_neg (by omega), if_pos ht]
  rw [hd]
  exact ⟨_, rfl, DO.row hY h6 ho (ht1 ht).2, RF.row, fun _ => (ht1 ht).1⟩)
      · refine ga_aload_n ok 0 rfl rfl dX4_doTeach_33 ?_
        refine ga_iconst ok dX4_doTeach_34 ?_
        refine ga_iconst ok dX4_doTeach_35 ?_
        refine ga_iload_n ok 1 rfl rfl dX4_doTeach_36 ?_
        refine gd_X4_3 ok hG rfl lk_X4_69 rfl (c_X4_refuse ok.fl hG (p := 2) (a := 5) (b := n)) (by rw [hR]; exact ⟨by decide, by decide, by decide, by decide⟩) (Nat.le_of_ble_eq_true rfl) dX4_doTeach_37 ?_
        refine ga_goto ok 44 (by decide) dX4_doTeach_40 ?_
        exact ga_ireturn ok en rfl rfl (by decide) (by decide) dX4_doTeach_44 (by
  have hd : (d_teach g n v) = (2, 0, rfG g 5 n) := by unfold d_teach; rw [if_neg (by omega), if_neg (fun ht => by have := hv9.2.2.mpr ht; omega)]
  rw [hd]
  exact ⟨_, rfl, DO.rs1 hY ho (by decide), RF.rs1, fun h => absurd (show (2 : Int) = 0 from h) (by decide)⟩)
    · have f_13 := of_decide_eq_false (b2i_0.mp c_13)
      refine ga_aload_n ok 0 rfl rfl dX4_doTeach_16 ?_
      refine ga_iconst ok dX4_doTeach_17 ?_
      refine gd_X4_1 ok hG rfl lk_X4_65 rfl (c_X4_fails ok.fl hG (k := 1)) (by rw [hR]; exact ⟨by decide, by decide, by decide, by decide⟩) (Nat.le_of_ble_eq_true rfl) dX4_doTeach_18 ?_
      exact ga_ireturn ok en rfl rfl (by decide) (by decide) dX4_doTeach_21 (by
  have hd : (d_teach g n v) = (1, 0, g) := by unfold d_teach; rw [if_pos (by omega)]
  rw [hd]
  exact ⟨_, rfl, DO.rf hY (by decide), RF.th (by decide), fun h => absurd (show (1 : Int) = 0 from h) (by decide)⟩)
set_option maxHeartbeats 4000000 in
set_option maxRecDepth 100000 in
theorem c_X4_teach {G : GG} {l : Launch} (hfl : l.stackTraces = false) (hG : MW G) {m : Mm} {g : Gm} {T : Int} (hY : YIs m g) (hT : gtOk T g.r) {n : Int} (hnR : -2147483648 ≤ n ∧ n ≤ 2147483647) {v : Int} (hvR : -2147483648 ≤ v ∧ v ≤ 2147483647) : CT G l yX4_teach cX4_teach 3 (some .int) (RM 12 0 0) [.ref 1024, vI n, vI v] m (fun r' m' => ∃ v9, r' = some (vI v9) ∧ ((sp_teach g n v).1 = 0 → v9 = (sp_teach g n v).2.1) ∧ YIs m' (sp_teach g n v).2.2 ∧ m'.1 1024 6 = (sp_teach g n v).1 ∧ YFr m m') (fun _ _ => False) := by
  refine CT.of RX4 [(0, .ref 1024), (1, vI n), (2, vI v)] hfl (by decide +kernel) rfl rfl (Nat.le_of_ble_eq_true rfl) ?_
  intro E ok en hml hEl htab
  have hR : e_R E = RM 12 0 0 := en.2.2.2
  have hn0 : 0 < (e_c E).maxLocals := by rw [hml]; decide
  have hn1 : 1 < (e_c E).maxLocals := by rw [hml]; decide
  have hn2 : 2 < (e_c E).maxLocals := by rw [hml]; decide
  have hs := hY.1
  obtain ⟨b0, b1, hvb, hgb⟩ := id hT
  have s0 := hs 0 (by omega)
  have s1 := hs 1 (by omega)
  refine ga_aload_n ok 0 rfl rfl dX4_teach_0 ?_
  refine gv_X4_0 ok hG rfl lk_X4_77 rfl (c_X4_keep ok.fl hG) (by rw [hR]; exact ⟨by decide, by decide, by decide, by decide⟩) (Nat.le_of_ble_eq_true rfl) dX4_teach_1 ?_
  refine ga_aload_n ok 0 rfl rfl dX4_teach_4 ?_
  refine ga_aload_n ok 0 rfl rfl dX4_teach_5 ?_
  refine ga_iload_n ok 1 rfl rfl dX4_teach_6 ?_
  refine ga_iload_n ok 2 rfl rfl dX4_teach_7 ?_
  obtain ⟨y1, y2, y3, y4⟩ := keepY hY
  refine gc_X4_2 ok hG rfl lk_X4_175 rfl (c_X4_doTeach ok.fl hG y1 hT y2 hnR hvR) (by rw [hR]; exact ⟨by decide, by decide, by decide, by decide⟩) (Nat.le_of_ble_eq_true rfl) dX4_teach_8 (fun r9 m2 hq => ?_) (fun _ _ h => h.elim)
  obtain ⟨v9, hr9, hD, -, hv9⟩ := hq
  subst hr9
  obtain ⟨q1, q2, q3, q4, q5, q6⟩ := hD
  simp only [Option.toList_some, List.singleton_append]
  have hk9 : 0 ≤ (d_teach g n v).1 ∧ (d_teach g n v).1 ≤ 3 := d_teach_rng
  refine gc_X4_1 ok hG rfl lk_X4_83 rfl (c_X4_ends ok.fl hG q5 q4 hk9 (r0 := g.r) (fun q hq => by rw [q1]; exact y3 q hq)) (by rw [hR]; exact ⟨by decide, by decide, by decide, by decide⟩) (Nat.le_of_ble_eq_true rfl) dX4_teach_11 (fun r9 m3 hq => ?_) (fun _ _ h => h.elim)
  obtain ⟨hr9, e2, e3, e4, e5⟩ := hq
  subst hr9
  simp only [Option.toList_some, List.singleton_append]
  exact ga_ireturn ok en rfl rfl (by decide) (by decide) dX4_teach_14 (by
  rw [fin_teach]
  refine ⟨_, rfl, fun h => ?_, ?_, e3, y4.tr (q3.tr e2)⟩
  · have h0 : (d_teach g n v).1 = 0 := h
    show (if 0 < (d_teach g n v).1 then 0 else v9) = (if (d_teach g n v).1 = 0 then (d_teach g n v).2.1 else 0)
    rw [if_neg (by omega), if_pos h0]; exact hv9 h0
  · show YIs _ (if (d_teach g n v).1 = 0 then kpG (d_teach g n v).2.2 g.r else nwG (d_teach g n v).2.2 g.r)
    by_cases h0 : (d_teach g n v).1 = 0
    · rw [if_pos h0]; exact e5 h0 (q6 h0)
    · rw [if_neg h0]; exact e4 (by omega))
