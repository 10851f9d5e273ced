/-! THE BUILDER GROWS, IS WRITTEN TO, IS READ -/
def enM (m : Mm) (h : Nat) (N : Int) : Mm := swM (cp2 (nwM m h N) (m.1 960 3))
theorem enM_is {m : Mm} {q : (Nat → Int) × Int} {h : Nat} {N : Int} (hq : BLs m q) (hN : m.1 960 3 < N ∧ N ≤ 200) : BLs (enM m h N) q ∧ (enM m h N).1 960 3 = N ∧ XB m (enM m h N) := by
  obtain ⟨⟨b1, b2, b3, b4, b5⟩, h40, hc, hch⟩ := hq
  have e : ∀ j, j < 2 → (enM m h N).1 960 j = m.1 960 j := fun j hj => by simp [enM, swM, cp2, nwM, show j ≠ 2 by omega, show j ≠ 3 by omega, show j ≠ 4 by omega, show j ≠ 5 by omega, show j ≠ 6 by omega, show ¬ 16 ≤ j by omega]
  have e2 : (enM m h N).1 960 2 = (h : Int) := by simp [enM, swM, cp2, nwM]
  have e3 : (enM m h N).1 960 3 = N := by simp [enM, swM, cp2, nwM]
  have e4 : (enM m h N).1 960 4 = 0 := by simp [enM, swM]
  have e9 : ∀ i : Nat, (enM m h N).1 961 i = if (i : Int) < m.1 960 3 then m.1 961 i else 0 := fun i => by
    simp only [enM, swM, cp2, nwM]
    by_cases hi : (i : Int) < m.1 960 3
    · simp [hi]
    · simp [hi, show ¬ 16 + i = 4 by omega, show ¬ 16 + i = 5 by omega, show ¬ 16 + i = 6 by omega]
  refine ⟨⟨⟨by rw [e 0 (by omega), e3]; omega, by rw [e3]; omega, by rw [e 1 (by omega)]; exact b3, by rw [e2]; omega, fun i hi => ?_⟩, e4, by rw [e 0 (by omega)]; exact hc, fun i hi => ?_⟩, e3, fun n h1 h2 => ?_, rfl⟩
  · rw [e9]
    by_cases hi : (i : Int) < m.1 960 3
    · rw [if_pos hi]; exact b5 i hi
    · rw [if_neg hi]; omega
  · rw [e9, if_pos (by omega)]; exact hch i hi
  · funext j
    simp [enM, swM, cp2, nwM, h1, h2]
theorem SBk.cnt {m : Mm} {z : Int} (h : SBk m) (hz : 0 ≤ z ∧ z ≤ m.1 960 3) : SBk (upI m 960 0 z) := by
  obtain ⟨b1, b2, b3, b4, b5⟩ := h
  unfold SBk
  rw [upI_at, upI_no (by omega), upI_no (by omega), upI_no (by omega), upI_r (by omega)]
  exact ⟨hz, b2, b3, b4, b5⟩
theorem BLs.put {m : Mm} {q : (Nat → Int) × Int} {c : Int} (h : BLs m q) (hq : q.2 + 1 ≤ m.1 960 3) (hc : 0 ≤ c ∧ c ≤ 127) : BLs (upI (upI m 960 0 (q.2 + 1)) 961 q.2.toNat c) (putL q c) ∧ XB m (upI (upI m 960 0 (q.2 + 1)) 961 q.2.toNat c) := by
  obtain ⟨⟨b1, b2, b3, b4, b5⟩, h40, hcc, hch⟩ := h
  refine ⟨⟨⟨?_, ?_, ?_, ?_, fun i hi => ?_⟩, ?_, ?_, fun i hi => ?_⟩, (XB.rf.u (Or.inl rfl)).u (Or.inr rfl)⟩
  · rw [upI_r (by omega), upI_at, upI_no (by omega)]; omega
  · rw [upI_r (by omega), upI_no (by omega)]; exact b2
  · rw [upI_r (by omega), upI_no (by omega)]; exact b3
  · rw [upI_r (by omega), upI_no (by omega)]; exact b4
  · rw [upI_r (by omega), upI_no (by omega)] at hi
    by_cases e : i = q.2.toNat
    · subst e; rw [upI_at]; omega
    · rw [upI_no (Or.inr e), upI_r (by omega)]; exact b5 i hi
  · rw [upI_r (by omega), upI_no (by omega)]; exact h40
  · rw [upI_r (by omega), upI_at]; rfl
  · rw [putL_2] at hi
    show _ = if (i : Int) = q.2 then c else q.1 i
    by_cases e : i = q.2.toNat
    · subst e; rw [upI_at, if_pos (by omega)]
    · rw [upI_no (Or.inr e), upI_r (by omega), if_neg (by omega)]
      exact hch i (by omega)
theorem BLs.zero {m m' : Mm} {q : (Nat → Int) × Int} (h : BLs m q) (hm : m' = m ∨ m' = upI m 960 1 1) : BLs (upI m' 960 0 0) ln0 ∧ XB m (upI m' 960 0 0) := by
  obtain ⟨⟨b1, b2, b3, b4, b5⟩, h40, hcc, hch⟩ := h
  rcases hm with rfl | rfl
  · exact ⟨⟨SBk.cnt ⟨b1, b2, b3, b4, b5⟩ (by omega), by rw [upI_no (by omega)]; exact h40, upI_at, fun i hi => by have hi : (i : Int) < 0 := hi; omega⟩, XB.rf.u (Or.inl rfl)⟩
  · refine ⟨⟨SBk.cnt ⟨?_, ?_, ?_, ?_, ?_⟩ ?_, by rw [upI_no (by omega), upI_no (by omega)]; exact h40, upI_at, fun i hi => by have hi : (i : Int) < 0 := hi; omega⟩, (XB.rf.u (Or.inl rfl)).u (Or.inl rfl)⟩
    · rw [upI_no (by omega), upI_no (by omega)]; exact b1
    · rw [upI_no (by omega)]; exact b2
    · rw [upI_at]; exact Or.inr rfl
    · rw [upI_no (by omega)]; exact b4
    · rw [upI_no (by omega), upI_r (by omega)]; exact b5
    · rw [upI_no (by omega)]; omega
theorem lj_J5_108 : LinkJ RJ5 108 yJ7_copyOf_9075b cJ7_copyOf_9075b 3 (some (.array .byte)) 2 := ⟨⟨tb_in 630 (by decide +kernel) (by decide +kernel), tb_in 631 (by decide +kernel) (by decide +kernel), tb_in 20 (by decide +kernel) (by decide +kernel)⟩, tb_in 632 (by decide +kernel) (by decide +kernel), by decide +kernel⟩
theorem lvu_J5_104 : LinkVU RJ5 104 yJ5_newCapacity_0f7a4 cJ5_newCapacity_0f7a4 6 (some .int) 1 := ⟨List.forall_mem_cons.mpr ⟨tb_in 615 (by decide +kernel) (by decide +kernel), List.forall_mem_cons.mpr ⟨tb_in 1293 (by decide +kernel) (by decide +kernel), List.forall_mem_cons.mpr ⟨tb_in 617 (by decide +kernel) (by decide +kernel), List.forall_mem_cons.mpr ⟨tb_in 5 (by decide +kernel) (by decide +kernel), fun _ h => absurd h List.not_mem_nil⟩⟩⟩⟩, tb_in 618 (by decide +kernel) (by decide +kernel), by decide +kernel⟩
set_option maxHeartbeats 4000000 in
set_option maxRecDepth 100000 in
theorem c_J5_ensure {G : GG} {l : Launch} (hfl : l.stackTraces = false) {P9 : Prop} (hG : P9) (hS : SBW G) {m : Mm} {q : (Nat → Int) × Int} (hq : BLs m q) {n : Int} (hn : 0 ≤ n ∧ n ≤ 100) (hcap : m.1 960 3 ≤ 98 ∨ n ≤ m.1 960 3) : CT G l yJ5_ensureCapacityInternal_d00df cJ5_ensureCapacityInternal_d00df 3 none (RM 5 1 400) [.ref 960, vI n] m (fun r' m' => r' = none ∧ BLs m' q ∧ n ≤ m'.1 960 3 ∧ XB m m') (fun _ _ => False) := by
  refine CT.of RJ5 [(0, .ref 960), (1, vI n)] hfl (by decide +kernel) rfl rfl (Nat.le_of_ble_eq_true rfl) ?_
  intro E ok en hml hEl htab
  have hR : e_R E = RM 5 1 400 := en.2.2.2
  have hn0 : 0 < (e_c E).maxLocals := by rw [hml]; decide
  have hn1 : 1 < (e_c E).maxLocals := by rw [hml]; decide
  have hn2 : 2 < (e_c E).maxLocals := by rw [hml]; decide
  obtain ⟨hB, h40, hc0, hch⟩ := id hq
  obtain ⟨hb1, hb2, hb3, hb4, hb5⟩ := id hB
  refine ga_aload_n ok 0 rfl rfl dJ5_ensureCapacityInternal_d00df_0 ?_
  refine gs_value ok hS (tb_in 173 (by decide +kernel) (by decide +kernel)) dJ5_ensureCapacityInternal_d00df_1 ?_
  refine gs_len ok hS hB dJ5_ensureCapacityInternal_d00df_4 ?_
  refine ga_aload_n ok 0 rfl rfl dJ5_ensureCapacityInternal_d00df_5 ?_
  refine gs_coder ok hS (tb_in 174 (by decide +kernel) (by decide +kernel)) dJ5_ensureCapacityInternal_d00df_6 ?_
  refine ga_ishr ok dJ5_ensureCapacityInternal_d00df_9 (by omega) (by omega) ?_
  rw [show (2 : Int) ^ (0 : Int).toNat = 1 from rfl, Int.ediv_one]
  refine ga_istore_n ok 2 rfl hn2 dJ5_ensureCapacityInternal_d00df_10 ?_
  refine ga_iload_n ok 1 rfl rfl dJ5_ensureCapacityInternal_d00df_11 ?_
  refine ga_iload_n ok 2 rfl rfl dJ5_ensureCapacityInternal_d00df_12 ?_
  refine ga_isub ok dJ5_ensureCapacityInternal_d00df_13 ?_
  refine ga_if_le ok 38 (by decide) (by omega) dJ5_ensureCapacityInternal_d00df_14 (fun c_14 => ?_) (fun c_14 => ?_)
  · exact ga_return ok en rfl (by decide) (by decide) dJ5_ensureCapacityInternal_d00df_38 ⟨rfl, hq, by omega, XB.rf⟩
  · refine ga_aload_n ok 0 rfl rfl dJ5_ensureCapacityInternal_d00df_17 ?_
    refine ga_aload_n ok 0 rfl rfl dJ5_ensureCapacityInternal_d00df_18 ?_
    refine gs_value ok hS (tb_in 173 (by decide +kernel) (by decide +kernel)) dJ5_ensureCapacityInternal_d00df_19 ?_
    refine ga_aload_n ok 0 rfl rfl dJ5_ensureCapacityInternal_d00df_22 ?_
    refine ga_iload_n ok 1 rfl rfl dJ5_ensureCapacityInternal_d00df_23 ?_
    refine ga_callVU ok hS [vI n] lvu_J5_104 (sb_s2 ok hS) (c_J5_newCapacity ok.fl hG hS hB (by omega)) rfl (by rw [hR]; exact ⟨by decide, by decide, by decide, by decide⟩) (Nat.le_of_ble_eq_true rfl) dJ5_ensureCapacityInternal_d00df_24 (fun r9 m1 hq9 => ?_)
    obtain ⟨rfl, hm9⟩ := hq9
    subst m1
    simp only [Option.toList_some, List.singleton_append]
    obtain ⟨N, hNe⟩ : ∃ N, N = (m.1 960 3 + (if n - m.1 960 3 < m.1 960 3 + 2 then m.1 960 3 + 2 else n - m.1 960 3)) := ⟨_, rfl⟩
    rw [← hNe]
    have hN2 : m.1 960 3 < N ∧ N ≤ 202 := by rw [hNe]; split <;> omega
    refine ga_aload_n ok 0 rfl rfl dJ5_ensureCapacityInternal_d00df_27 ?_
    refine gs_coder ok hS (tb_in 174 (by decide +kernel) (by decide +kernel)) dJ5_ensureCapacityInternal_d00df_28 ?_
    refine ga_ishl ok dJ5_ensureCapacityInternal_d00df_31 (by omega) (by omega) (by rw [show (2 : Int) ^ (0 : Int).toNat = 1 from rfl]; omega) ?_
    rw [show (2 : Int) ^ (0 : Int).toNat = 1 from rfl, Int.mul_one]
    refine ga_callJ ok [raw (m.1 960 2), vI N] lj_J5_108 (c_J7_copyOf ok.fl hG hS hB (by omega)) rfl (by rw [hR]; exact ⟨by decide, by decide, by decide, by decide⟩) (Nat.le_of_ble_eq_true rfl) dJ5_ensureCapacityInternal_d00df_32 (fun r9 m1 hq9 => ?_) (fun _ _ h => h.elim)
    obtain ⟨h, rfl, rfl⟩ := hq9
    simp only [Option.toList_some, List.singleton_append]
    rw [show raw (h : Int) = raw ((cp2 (nwM m h N) (m.1 960 3)).1 960 5) from raw_c (by simp [cp2, nwM])]
    refine gs_pvalue ok hS (by simp [cp2, nwM]) (tb_in 173 (by decide +kernel) (by decide +kernel)) dJ5_ensureCapacityInternal_d00df_35 ?_
    exact ga_return ok en rfl (by decide) (by decide) dJ5_ensureCapacityInternal_d00df_38 (by
  have he := enM_is (h := h) hq (show m.1 960 3 < N ∧ N ≤ 200 by omega)
  exact ⟨rfl, he.1, by rw [show (swM (cp2 (nwM m h N) (m.1 960 3))).1 960 3 = N from he.2.1]; rw [hNe]; split <;> omega, he.2.2⟩)
theorem lvu_J5_83 : LinkVU RJ5 83 yJ5_isLatin1_aae02 cJ5_isLatin1_aae02 1 (some .boolean) 0 := ⟨List.forall_mem_cons.mpr ⟨tb_in 644 (by decide +kernel) (by decide +kernel), List.forall_mem_cons.mpr ⟨tb_in 646 (by decide +kernel) (by decide +kernel), List.forall_mem_cons.mpr ⟨tb_in 645 (by decide +kernel) (by decide +kernel), List.forall_mem_cons.mpr ⟨tb_in 5 (by decide +kernel) (by decide +kernel), fun _ h => absurd h List.not_mem_nil⟩⟩⟩⟩, tb_in 648 (by decide +kernel) (by decide +kernel), by decide +kernel⟩
theorem lvu_J5_100 : LinkVU RJ5 100 yJ5_ensureCapacityInternal_d00df cJ5_ensureCapacityInternal_d00df 3 none 1 := ⟨List.forall_mem_cons.mpr ⟨tb_in 611 (by decide +kernel) (by decide +kernel), List.forall_mem_cons.mpr ⟨tb_in 1292 (by decide +kernel) (by decide +kernel), List.forall_mem_cons.mpr ⟨tb_in 613 (by decide +kernel) (by decide +kernel), List.forall_mem_cons.mpr ⟨tb_in 5 (by decide +kernel) (by decide +kernel), fun _ h => absurd h List.not_mem_nil⟩⟩⟩⟩, tb_in 614 (by decide +kernel) (by decide +kernel), by decide +kernel⟩
theorem lj_J5_191 : LinkJ RJ5 191 yJ1_canEncode_fc78d cJ1_canEncode_fc78d 1 (some .boolean) 1 := ⟨⟨tb_in 896 (by decide +kernel) (by decide +kernel), tb_in 897 (by decide +kernel) (by decide +kernel), tb_in 22 (by decide +kernel) (by decide +kernel)⟩, tb_in 898 (by decide +kernel) (by decide +kernel), by decide +kernel⟩
set_option maxHeartbeats 4000000 in
set_option maxRecDepth 100000 in
theorem c_J5_appendC {G : GG} {l : Launch} (hfl : l.stackTraces = false) {P9 : Prop} (hG : P9) (hS : SBW G) {m : Mm} {q : (Nat → Int) × Int} (hq : BLs m q) {c : Int} (hc : 0 ≤ c ∧ c ≤ 127) (hn : q.2 + 1 ≤ 98) : CT G l yJ5_append_3fe6f cJ5_append_3fe6f 2 (some (.object "java/lang/AbstractStringBuilder")) (RM 7 1 400) [.ref 960, vI c] m (fun r' m' => r' = some (.ref 960) ∧ BLs m' (putL q c) ∧ XB m m') (fun _ _ => False) := by
  refine CT.of RJ5 [(0, .ref 960), (1, vI c)] hfl (by decide +kernel) rfl rfl (Nat.le_of_ble_eq_true rfl) ?_
  intro E ok en hml hEl htab
  have hR : e_R E = RM 7 1 400 := en.2.2.2
  have hn0 : 0 < (e_c E).maxLocals := by rw [hml]; decide
  have hn1 : 1 < (e_c E).maxLocals := by rw [hml]; decide
  obtain ⟨hB, h40, hc0, hch⟩ := id hq
  obtain ⟨hb1, hb2, hb3, hb4, hb5⟩ := id hB
  refine ga_aload_n ok 0 rfl rfl dJ5_append_3fe6f_0 ?_
  refine ga_aload_n ok 0 rfl rfl dJ5_append_3fe6f_1 ?_
  refine gs_count ok hS (tb_in 177 (by decide +kernel) (by decide +kernel)) dJ5_append_3fe6f_2 ?_
  first | rw [hc0] | rw [hc1]
  refine ga_iconst ok dJ5_append_3fe6f_5 ?_
  refine ga_iadd ok dJ5_append_3fe6f_6 ?_
  refine ga_callVU ok hS [vI (q.2 + 1)] lvu_J5_100 (sb_s1 ok hS) (c_J5_ensure ok.fl hG hS hq (by omega) (by omega)) rfl (by rw [hR]; exact ⟨by decide, by decide, by decide, by decide⟩) (Nat.le_of_ble_eq_true rfl) dJ5_append_3fe6f_7 (fun r9 m1 hq9 => ?_)
  obtain ⟨rfl, hq1, hcap1, hxb1⟩ := hq9
  simp only [Option.toList_none, List.nil_append]
  obtain ⟨hB1, h401, hc1, hch1⟩ := id hq1
  obtain ⟨hd1, hd2, hd3, hd4, hd5⟩ := id hB1
  refine ga_aload_n ok 0 rfl rfl dJ5_append_3fe6f_10 ?_
  refine ga_callVU ok hS [] lvu_J5_83 (ok.w _ (tb_in 647 (by decide +kernel) (by decide +kernel))) (c_J5_isLatin1 ok.fl hG hS) rfl (by rw [hR]; exact ⟨by decide, by decide, by decide, by decide⟩) (Nat.le_of_ble_eq_true rfl) dJ5_append_3fe6f_11 (fun r9 m2 hq9 => ?_)
  obtain ⟨rfl, hm9⟩ := hq9
  subst m2
  simp only [Option.toList_some, List.singleton_append]
  refine ga_if_eq ok 45 (by decide) (by omega) dJ5_append_3fe6f_14 (fun c_14 => ?_) (fun c_14 => ?_)
  · exact absurd c_14 (by decide)
  · refine ga_iload_n ok 1 rfl rfl dJ5_append_3fe6f_17 ?_
    refine gd_J_1 ok lj_J5_191 (c_J1_canEncode ok.fl hG hS hc) (by rw [hR]; exact ⟨by decide, by decide, by decide, by decide⟩) (Nat.le_of_ble_eq_true rfl) dJ5_append_3fe6f_18 ?_
    refine ga_if_eq ok 45 (by decide) (by omega) dJ5_append_3fe6f_21 (fun c_21 => ?_) (fun c_21 => ?_)
    · exact absurd c_21 (by decide)
    · refine ga_aload_n ok 0 rfl rfl dJ5_append_3fe6f_24 ?_
      refine gs_value ok hS (tb_in 173 (by decide +kernel) (by decide +kernel)) dJ5_append_3fe6f_25 ?_
      refine ga_aload_n ok 0 rfl rfl dJ5_append_3fe6f_28 ?_
      refine ga_dup ok dJ5_append_3fe6f_29 rfl ?_
      refine gs_count ok hS (tb_in 177 (by decide +kernel) (by decide +kernel)) dJ5_append_3fe6f_30 ?_
      first | rw [hc0] | rw [hc1]
      refine ga_dup_x1 ok dJ5_append_3fe6f_33 rfl rfl ?_
      refine ga_iconst ok dJ5_append_3fe6f_34 ?_
      refine ga_iadd ok dJ5_append_3fe6f_35 ?_
      refine gs_pcount ok hS (tb_in 177 (by decide +kernel) (by decide +kernel)) dJ5_append_3fe6f_36 ?_
      refine ga_iload_n ok 1 rfl rfl dJ5_append_3fe6f_39 ?_
      refine ga_i2b ok dJ5_append_3fe6f_40 (by omega) ?_
      have hBu : SBk (upI m1 960 0 (q.2 + 1)) := hB1.cnt (by omega)
      rw [show raw (m1.1 960 2) = raw ((upI m1 960 0 (q.2 + 1)).1 960 2) from raw_c (upI_no (by omega)).symm]
      refine gs_bast ok hS hBu (by rw [upI_no (by omega)]; omega) (by omega) (by rw [upI_no (by omega)]; exact h401) dJ5_append_3fe6f_41 ?_
      refine ga_goto ok 75 (by decide) dJ5_append_3fe6f_42 ?_
      refine ga_aload_n ok 0 rfl rfl dJ5_append_3fe6f_75 ?_
      exact ga_areturn ok en rfl (Or.inl ⟨_, rfl⟩) (by exact Nat.le_refl 1) (by exact Nat.le_refl 400) dJ5_append_3fe6f_76 (by
  have hp := hq1.put (c := c) (by omega) hc
  exact ⟨rfl, hp.1, hxb1.tr hp.2⟩)
theorem lsu_J4_50 : LinkSU RJ4 50 yJ5_append_3fe6f cJ5_append_3fe6f 2 (some (.object "java/lang/AbstractStringBuilder")) 1 := ⟨List.forall_mem_cons.mpr ⟨tb_in 893 (by decide +kernel) (by decide +kernel), List.forall_mem_cons.mpr ⟨tb_in 1299 (by decide +kernel) (by decide +kernel), List.forall_mem_cons.mpr ⟨tb_in 186 (by decide +kernel) (by decide +kernel), List.forall_mem_cons.mpr ⟨tb_in 894 (by decide +kernel) (by decide +kernel), List.forall_mem_cons.mpr ⟨tb_in 5 (by decide +kernel) (by decide +kernel), fun _ h => absurd h List.not_mem_nil⟩⟩⟩⟩⟩, tb_in 895 (by decide +kernel) (by decide +kernel), by decide +kernel, by decide +kernel⟩
set_option maxHeartbeats 4000000 in
set_option maxRecDepth 100000 in
theorem c_J4_appendC {G : GG} {l : Launch} (hfl : l.stackTraces = false) {P9 : Prop} (hG : P9) (hS : SBW G) {m : Mm} {q : (Nat → Int) × Int} (hq : BLs m q) {c : Int} (hc : 0 ≤ c ∧ c ≤ 127) (hn : q.2 + 1 ≤ 98) : CT G l yJ4_append_cf468 cJ4_append_cf468 2 (some (.object "java/lang/StringBuilder")) (RM 8 1 400) [.ref 960, vI c] m (fun r' m' => r' = some (.ref 960) ∧ BLs m' (putL q c) ∧ XB m m') (fun _ _ => False) := by
  refine CT.of RJ4 [(0, .ref 960), (1, vI c)] hfl (by decide +kernel) rfl rfl (Nat.le_of_ble_eq_true rfl) ?_
  intro E ok en hml hEl htab
  have hR : e_R E = RM 8 1 400 := en.2.2.2
  have hn0 : 0 < (e_c E).maxLocals := by rw [hml]; decide
  have hn1 : 1 < (e_c E).maxLocals := by rw [hml]; decide
  refine ga_aload_n ok 0 rfl rfl dJ4_append_cf468_0 ?_
  refine ga_iload_n ok 1 rfl rfl dJ4_append_cf468_1 ?_
  refine ga_callSU ok hS [vI c] lsu_J4_50 (c_J5_appendC ok.fl hG hS hq hc hn) rfl (by rw [hR]; exact ⟨by decide, by decide, by decide, by decide⟩) (Nat.le_of_ble_eq_true rfl) dJ4_append_cf468_2 (fun r9 m1 hq9 => ?_)
  obtain ⟨rfl, hq1, hxb1⟩ := hq9
  simp only [Option.toList_some, List.singleton_append]
  refine ga_pop ok dJ4_append_cf468_5 rfl ?_
  refine ga_aload_n ok 0 rfl rfl dJ4_append_cf468_6 ?_
  exact ga_areturn ok en rfl (Or.inl ⟨_, rfl⟩) (by decide) (by decide) dJ4_append_cf468_7 ⟨rfl, hq1, hxb1⟩
set_option maxHeartbeats 4000000 in
set_option maxRecDepth 100000 in
theorem c_J5_setLength0 {G : GG} {l : Launch} (hfl : l.stackTraces = false) {P9 : Prop} (hG : P9) (hS : SBW G) {m : Mm} {q : (Nat → Int) × Int} (hq : BLs m q) : CT G l yJ5_setLength_d00df cJ5_setLength_d00df 2 none (RM 7 1 400) [.ref 960, vI 0] m (fun r' m' => r' = none ∧ BLs m' ln0 ∧ XB m m') (fun _ _ => False) := by
  refine CT.of RJ5 [(0, .ref 960), (1, vI 0)] hfl (by decide +kernel) rfl rfl (Nat.le_of_ble_eq_true rfl) ?_
  intro E ok en hml hEl htab
  have hR : e_R E = RM 7 1 400 := en.2.2.2
  have hn0 : 0 < (e_c E).maxLocals := by rw [hml]; decide
  have hn1 : 1 < (e_c E).maxLocals := by rw [hml]; decide
  obtain ⟨hB, h40, hc0, hch⟩ := id hq
  obtain ⟨hb1, hb2, hb3, hb4, hb5⟩ := id hB
  refine ga_iload_n ok 1 rfl rfl dJ5_setLength_d00df_0 ?_
  refine ga_if_ge ok 13 (by decide) (by omega) dJ5_setLength_d00df_1 (fun c_1 => ?_) (fun c_1 => ?_)
  · refine ga_aload_n ok 0 rfl rfl dJ5_setLength_d00df_13 ?_
    refine ga_iload_n ok 1 rfl rfl dJ5_setLength_d00df_14 ?_
    refine ga_callVU ok hS [vI 0] lvu_J5_100 (sb_s1 ok hS) (c_J5_ensure ok.fl hG hS hq (by omega) (by omega)) rfl (by rw [hR]; exact ⟨by decide, by decide, by decide, by decide⟩) (Nat.le_of_ble_eq_true rfl) dJ5_setLength_d00df_15 (fun r9 m1 hq9 => ?_)
    obtain ⟨rfl, hq1, hcap1, hxb1⟩ := hq9
    simp only [Option.toList_none, List.nil_append]
    obtain ⟨hB1, h401, hc1, hch1⟩ := id hq1
    obtain ⟨hd1, hd2, hd3, hd4, hd5⟩ := id hB1
    refine ga_aload_n ok 0 rfl rfl dJ5_setLength_d00df_18 ?_
    refine gs_count ok hS (tb_in 177 (by decide +kernel) (by decide +kernel)) dJ5_setLength_d00df_19 ?_
    rw [hc1]
    refine ga_iload_n ok 1 rfl rfl dJ5_setLength_d00df_22 ?_
    refine ga_icmp_ge ok 63 (by decide) (by omega) (by omega) dJ5_setLength_d00df_23 (fun c_23 => ?_) (fun c_23 => ?_)
    · refine ga_aload_n ok 0 rfl rfl dJ5_setLength_d00df_63 ?_
      refine gs_count ok hS (tb_in 177 (by decide +kernel) (by decide +kernel)) dJ5_setLength_d00df_64 ?_
      rw [hc1]
      refine ga_iload_n ok 1 rfl rfl dJ5_setLength_d00df_67 ?_
      refine ga_icmp_le ok 76 (by decide) (by omega) (by omega) dJ5_setLength_d00df_68 (fun c_68 => ?_) (fun c_68 => ?_)
      · refine ga_aload_n ok 0 rfl rfl dJ5_setLength_d00df_76 ?_
        refine ga_iload_n ok 1 rfl rfl dJ5_setLength_d00df_77 ?_
        refine gs_pcount ok hS (tb_in 177 (by decide +kernel) (by decide +kernel)) dJ5_setLength_d00df_78 ?_
        exact ga_return ok en rfl (by decide) (by decide) dJ5_setLength_d00df_81 (by
  have hp := hq1.zero (m' := m1) (Or.inl rfl)
  exact ⟨rfl, hp.1, hxb1.tr hp.2⟩)
      · refine ga_aload_n ok 0 rfl rfl dJ5_setLength_d00df_71 ?_
        refine ga_iconst ok dJ5_setLength_d00df_72 ?_
        refine gs_pml ok hS (Or.inr rfl) (tb_in 175 (by decide +kernel) (by decide +kernel)) dJ5_setLength_d00df_73 ?_
        refine ga_aload_n ok 0 rfl rfl dJ5_setLength_d00df_76 ?_
        refine ga_iload_n ok 1 rfl rfl dJ5_setLength_d00df_77 ?_
        refine gs_pcount ok hS (tb_in 177 (by decide +kernel) (by decide +kernel)) dJ5_setLength_d00df_78 ?_
        exact ga_return ok en rfl (by decide) (by decide) dJ5_setLength_d00df_81 (by
  have hp := hq1.zero (m' := upI m1 960 1 1) (Or.inr rfl)
  exact ⟨rfl, hp.1, hxb1.tr hp.2⟩)
    · exfalso; omega
  · exact absurd c_1 (by decide)
theorem lsu_J4_333 : LinkSU RJ4 333 yJ5_setLength_d00df cJ5_setLength_d00df 2 none 1 := ⟨List.forall_mem_cons.mpr ⟨tb_in 841 (by decide +kernel) (by decide +kernel), List.forall_mem_cons.mpr ⟨tb_in 1298 (by decide +kernel) (by decide +kernel), List.forall_mem_cons.mpr ⟨tb_in 186 (by decide +kernel) (by decide +kernel), List.forall_mem_cons.mpr ⟨tb_in 842 (by decide +kernel) (by decide +kernel), List.forall_mem_cons.mpr ⟨tb_in 5 (by decide +kernel) (by decide +kernel), fun _ h => absurd h List.not_mem_nil⟩⟩⟩⟩⟩, tb_in 843 (by decide +kernel) (by decide +kernel), by decide +kernel, by decide +kernel⟩
set_option maxHeartbeats 4000000 in
set_option maxRecDepth 100000 in
theorem c_J4_setLength0 {G : GG} {l : Launch} (hfl : l.stackTraces = false) {P9 : Prop} (hG : P9) (hS : SBW G) {m : Mm} {q : (Nat → Int) × Int} (hq : BLs m q) : CT G l yJ4_setLength_d00df cJ4_setLength_d00df 2 none (RM 8 1 400) [.ref 960, vI 0] m (fun r' m' => r' = none ∧ BLs m' ln0 ∧ XB m m') (fun _ _ => False) := by
  refine CT.of RJ4 [(0, .ref 960), (1, vI 0)] hfl (by decide +kernel) rfl rfl (Nat.le_of_ble_eq_true rfl) ?_
  intro E ok en hml hEl htab
  have hR : e_R E = RM 8 1 400 := en.2.2.2
  have hn0 : 0 < (e_c E).maxLocals := by rw [hml]; decide
  have hn1 : 1 < (e_c E).maxLocals := by rw [hml]; decide
  refine ga_aload_n ok 0 rfl rfl dJ4_setLength_d00df_0 ?_
  refine ga_iload_n ok 1 rfl rfl dJ4_setLength_d00df_1 ?_
  refine ga_callSU ok hS [vI 0] lsu_J4_333 (c_J5_setLength0 ok.fl hG hS hq) rfl (by rw [hR]; exact ⟨by decide, by decide, by decide, by decide⟩) (Nat.le_of_ble_eq_true rfl) dJ4_setLength_d00df_2 (fun r9 m1 hq9 => ?_)
  obtain ⟨rfl, hq1, hxb1⟩ := hq9
  simp only [Option.toList_none, List.nil_append]
  exact ga_return ok en rfl (by decide) (by decide) dJ4_setLength_d00df_5 ⟨rfl, hq1, hxb1⟩
set_option maxHeartbeats 4000000 in
set_option maxRecDepth 100000 in
theorem c_J5_length {G : GG} {l : Launch} (hfl : l.stackTraces = false) {P9 : Prop} (hG : P9) (hS : SBW G) {m : Mm} {q : (Nat → Int) × Int} (hq : BLs m q) : CT G l yJ5_length_8abf5 cJ5_length_8abf5 1 (some .int) (RM 0 0 0) [.ref 960] m (fun r' m' => r' = some (vI q.2) ∧ m' = m) (fun _ _ => False) := by
  refine CT.of RJ5 [(0, .ref 960)] hfl (by decide +kernel) rfl rfl (Nat.le_of_ble_eq_true rfl) ?_
  intro E ok en hml hEl htab
  have hR : e_R E = RM 0 0 0 := en.2.2.2
  have hn0 : 0 < (e_c E).maxLocals := by rw [hml]; decide
  obtain ⟨hB, h40, hc0, hch⟩ := id hq
  obtain ⟨hb1, hb2, hb3, hb4, hb5⟩ := id hB
  refine ga_aload_n ok 0 rfl rfl dJ5_length_8abf5_0 ?_
  refine gs_count ok hS (tb_in 177 (by decide +kernel) (by decide +kernel)) dJ5_length_8abf5_1 ?_
  rw [hc0]
  exact ga_ireturn ok en rfl rfl (by decide) (by decide) dJ5_length_8abf5_4 ⟨rfl, rfl⟩
theorem lsu_J4_343 : LinkSU RJ4 343 yJ5_length_8abf5 cJ5_length_8abf5 1 (some .int) 0 := ⟨List.forall_mem_cons.mpr ⟨tb_in 766 (by decide +kernel) (by decide +kernel), List.forall_mem_cons.mpr ⟨tb_in 762 (by decide +kernel) (by decide +kernel), List.forall_mem_cons.mpr ⟨tb_in 186 (by decide +kernel) (by decide +kernel), List.forall_mem_cons.mpr ⟨tb_in 761 (by decide +kernel) (by decide +kernel), List.forall_mem_cons.mpr ⟨tb_in 5 (by decide +kernel) (by decide +kernel), fun _ h => absurd h List.not_mem_nil⟩⟩⟩⟩⟩, tb_in 767 (by decide +kernel) (by decide +kernel), by decide +kernel, by decide +kernel⟩
set_option maxHeartbeats 4000000 in
set_option maxRecDepth 100000 in
theorem c_J4_length {G : GG} {l : Launch} (hfl : l.stackTraces = false) {P9 : Prop} (hG : P9) (hS : SBW G) {m : Mm} {q : (Nat → Int) × Int} (hq : BLs m q) : CT G l yJ4_length_8abf5 cJ4_length_8abf5 1 (some .int) (RM 1 0 0) [.ref 960] m (fun r' m' => r' = some (vI q.2) ∧ m' = m) (fun _ _ => False) := by
  refine CT.of RJ4 [(0, .ref 960)] hfl (by decide +kernel) rfl rfl (Nat.le_of_ble_eq_true rfl) ?_
  intro E ok en hml hEl htab
  have hR : e_R E = RM 1 0 0 := en.2.2.2
  have hn0 : 0 < (e_c E).maxLocals := by rw [hml]; decide
  refine ga_aload_n ok 0 rfl rfl dJ4_length_8abf5_0 ?_
  refine ga_callSU ok hS [] lsu_J4_343 (c_J5_length ok.fl hG hS hq) rfl (by rw [hR]; exact ⟨by decide, by decide, by decide, by decide⟩) (Nat.le_of_ble_eq_true rfl) dJ4_length_8abf5_1 (fun r9 m1 hq9 => ?_)
  obtain ⟨rfl, hm9⟩ := hq9
  subst m1
  simp only [Option.toList_some, List.singleton_append]
  exact ga_ireturn ok en rfl rfl (by decide) (by decide) dJ4_length_8abf5_4 ⟨rfl, rfl⟩
set_option maxHeartbeats 4000000 in
set_option maxRecDepth 100000 in
theorem c_J3_checkIndex_n {G : GG} {l : Launch} (hfl : l.stackTraces = false) {P9 : Prop} (hG : P9) (hS : SBW G) {m : Mm} {i n : Int} (hi : 0 ≤ i ∧ i < n) (hn : n ≤ 2147483647) : CT G l yJ3_checkIndex_8e157 cJ3_checkIndex_8e157 3 (some .int) (RM 0 0 0) [vI i, vI n, .null] m (fun r' m' => r' = some (vI i) ∧ m' = m) (fun _ _ => False) := by
  refine CT.of RJ3 [(0, vI i), (1, vI n), (2, .null)] hfl (by decide +kernel) rfl rfl (Nat.le_of_ble_eq_true rfl) ?_
  intro E ok en hml hEl htab
  have hR : e_R E = RM 0 0 0 := en.2.2.2
  have hn0 : 0 < (e_c E).maxLocals := by rw [hml]; decide
  have hn1 : 1 < (e_c E).maxLocals := by rw [hml]; decide
  have hn2 : 2 < (e_c E).maxLocals := by rw [hml]; decide
  refine ga_iload_n ok 0 rfl rfl dJ3_checkIndex_8e157_0 ?_
  refine ga_if_lt ok 9 (by decide) (by omega) dJ3_checkIndex_8e157_1 (fun c_1 => ?_) (fun c_1 => ?_)
  · exfalso; omega
  · refine ga_iload_n ok 0 rfl rfl dJ3_checkIndex_8e157_4 ?_
    refine ga_iload_n ok 1 rfl rfl dJ3_checkIndex_8e157_5 ?_
    refine ga_icmp_lt ok 16 (by decide) (by omega) (by omega) dJ3_checkIndex_8e157_6 (fun c_6 => ?_) (fun c_6 => ?_)
    · refine ga_iload_n ok 0 rfl rfl dJ3_checkIndex_8e157_16 ?_
      exact ga_ireturn ok en rfl rfl (by decide) (by decide) dJ3_checkIndex_8e157_17 ⟨rfl, rfl⟩
    · exfalso; omega
set_option maxHeartbeats 4000000 in
set_option maxRecDepth 100000 in
theorem c_J3_checkIndex_r {G : GG} {l : Launch} (hfl : l.stackTraces = false) {P9 : Prop} (hG : P9) (hS : SBW G) {m : Mm} {i n : Int} (hi : 0 ≤ i ∧ i < n) (hn : n ≤ 2147483647) {a : Nat} : CT G l yJ3_checkIndex_8e157 cJ3_checkIndex_8e157 3 (some .int) (RM 0 0 0) [vI i, vI n, .ref a] m (fun r' m' => r' = some (vI i) ∧ m' = m) (fun _ _ => False) := by
  refine CT.of RJ3 [(0, vI i), (1, vI n), (2, .ref a)] hfl (by decide +kernel) rfl rfl (Nat.le_of_ble_eq_true rfl) ?_
  intro E ok en hml hEl htab
  have hR : e_R E = RM 0 0 0 := en.2.2.2
  have hn0 : 0 < (e_c E).maxLocals := by rw [hml]; decide
  have hn1 : 1 < (e_c E).maxLocals := by rw [hml]; decide
  have hn2 : 2 < (e_c E).maxLocals := by rw [hml]; decide
  refine ga_iload_n ok 0 rfl rfl dJ3_checkIndex_8e157_0 ?_
  refine ga_if_lt ok 9 (by decide) (by omega) dJ3_checkIndex_8e157_1 (fun c_1 => ?_) (fun c_1 => ?_)
  · exfalso; omega
  · refine ga_iload_n ok 0 rfl rfl dJ3_checkIndex_8e157_4 ?_
    refine ga_iload_n ok 1 rfl rfl dJ3_checkIndex_8e157_5 ?_
    refine ga_icmp_lt ok 16 (by decide) (by omega) (by omega) dJ3_checkIndex_8e157_6 (fun c_6 => ?_) (fun c_6 => ?_)
    · refine ga_iload_n ok 0 rfl rfl dJ3_checkIndex_8e157_16 ?_
      exact ga_ireturn ok en rfl rfl (by decide) (by decide) dJ3_checkIndex_8e157_17 ⟨rfl, rfl⟩
    · exfalso; omega
theorem lj_J0_1059 : LinkJ RJ0 1059 yJ3_checkIndex_8e157 cJ3_checkIndex_8e157 3 (some .int) 3 := ⟨⟨tb_in 908 (by decide +kernel) (by decide +kernel), tb_in 909 (by decide +kernel) (by decide +kernel), tb_in 21 (by decide +kernel) (by decide +kernel)⟩, tb_in 910 (by decide +kernel) (by decide +kernel), by decide +kernel⟩
set_option maxHeartbeats 4000000 in
set_option maxRecDepth 100000 in
theorem c_J0_checkIndex {G : GG} {l : Launch} (hfl : l.stackTraces = false) {P9 : Prop} (hG : P9) (hS : SBW G) {m : Mm} {i n : Int} (hi : 0 ≤ i ∧ i < n) (hn : n ≤ 2147483647) : CT G l yJ0_checkIndex_df160 cJ0_checkIndex_df160 2 none (RM 1 0 0) [vI i, vI n] m (fun r' m' => r' = none ∧ m' = m) (fun _ _ => False) := by
  refine CT.of RJ0 [(0, vI i), (1, vI n)] hfl (by decide +kernel) rfl rfl (Nat.le_of_ble_eq_true rfl) ?_
  intro E ok en hml hEl htab
  have hR : e_R E = RM 1 0 0 := en.2.2.2
  have hn0 : 0 < (e_c E).maxLocals := by rw [hml]; decide
  have hn1 : 1 < (e_c E).maxLocals := by rw [hml]; decide
  refine ga_iload_n ok 0 rfl rfl dJ0_checkIndex_df160_0 ?_
  refine ga_iload_n ok 1 rfl rfl dJ0_checkIndex_df160_1 ?_
  refine gs_fmt ok hS (tb_in 661 (by decide +kernel) (by decide +kernel)) dJ0_checkIndex_df160_2 (fun v hv => ?_)
  rcases hv with rfl | ⟨a, rfl⟩
  · refine gd_J_3 ok lj_J0_1059 (c_J3_checkIndex_n ok.fl hG hS hi hn) (by rw [hR]; exact ⟨by decide, by decide, by decide, by decide⟩) (Nat.le_of_ble_eq_true rfl) dJ0_checkIndex_df160_5 ?_
    refine ga_pop ok dJ0_checkIndex_df160_8 rfl ?_
    exact ga_return ok en rfl (by decide) (by decide) dJ0_checkIndex_df160_9 ⟨rfl, rfl⟩
  · refine gd_J_3 ok lj_J0_1059 (c_J3_checkIndex_r ok.fl hG hS hi hn) (by rw [hR]; exact ⟨by decide, by decide, by decide, by decide⟩) (Nat.le_of_ble_eq_true rfl) dJ0_checkIndex_df160_5 ?_
    refine ga_pop ok dJ0_checkIndex_df160_8 rfl ?_
    exact ga_return ok en rfl (by decide) (by decide) dJ0_checkIndex_df160_9 ⟨rfl, rfl⟩
theorem lj_J5_144 : LinkJ RJ5 144 yJ0_checkIndex_df160 cJ0_checkIndex_df160 2 none 2 := ⟨⟨tb_in 930 (by decide +kernel) (by decide +kernel), tb_in 906 (by decide +kernel) (by decide +kernel), tb_in 7 (by decide +kernel) (by decide +kernel)⟩, tb_in 907 (by decide +kernel) (by decide +kernel), by decide +kernel⟩
set_option maxHeartbeats 4000000 in
set_option maxRecDepth 100000 in
theorem c_J5_charAt {G : GG} {l : Launch} (hfl : l.stackTraces = false) {P9 : Prop} (hG : P9) (hS : SBW G) {m : Mm} {q : (Nat → Int) × Int} (hq : BLs m q) {i : Int} (hi : 0 ≤ i ∧ i < q.2) (hln : LnOk q) : CT G l yJ5_charAt_5068e cJ5_charAt_5068e 5 (some .char) (RM 3 0 0) [.ref 960, vI i] m (fun r' m' => r' = some (vI (q.1 i.toNat)) ∧ m' = m) (fun _ _ => False) := by
  refine CT.of RJ5 [(0, .ref 960), (1, vI i)] hfl (by decide +kernel) rfl rfl (Nat.le_of_ble_eq_true rfl) ?_
  intro E ok en hml hEl htab
  have hR : e_R E = RM 3 0 0 := en.2.2.2
  have hn0 : 0 < (e_c E).maxLocals := by rw [hml]; decide
  have hn1 : 1 < (e_c E).maxLocals := by rw [hml]; decide
  have hn2 : 2 < (e_c E).maxLocals := by rw [hml]; decide
  have hn3 : 3 < (e_c E).maxLocals := by rw [hml]; decide
  have hn4 : 4 < (e_c E).maxLocals := by rw [hml]; decide
  obtain ⟨hB, h40, hc0, hch⟩ := id hq
  obtain ⟨hb1, hb2, hb3, hb4, hb5⟩ := id hB
  refine ga_aload_n ok 0 rfl rfl dJ5_charAt_5068e_0 ?_
  refine gs_coder ok hS (tb_in 174 (by decide +kernel) (by decide +kernel)) dJ5_charAt_5068e_1 ?_
  refine ga_istore_n ok 2 rfl hn2 dJ5_charAt_5068e_4 ?_
  refine ga_aload_n ok 0 rfl rfl dJ5_charAt_5068e_5 ?_
  refine gs_value ok hS (tb_in 173 (by decide +kernel) (by decide +kernel)) dJ5_charAt_5068e_6 ?_
  refine ga_astore_n ok 3 rfl hn3 dJ5_charAt_5068e_9 ?_
  refine ga_aload_n ok 0 rfl rfl dJ5_charAt_5068e_10 ?_
  refine gs_count ok hS (tb_in 177 (by decide +kernel) (by decide +kernel)) dJ5_charAt_5068e_11 ?_
  rw [hc0]
  refine ga_aload_n ok 3 rfl rfl dJ5_charAt_5068e_14 ?_
  refine gs_len ok hS hB dJ5_charAt_5068e_15 ?_
  refine ga_iload_n ok 2 rfl rfl dJ5_charAt_5068e_16 ?_
  refine ga_ishr ok dJ5_charAt_5068e_17 (by omega) (by omega) ?_
  rw [show (2 : Int) ^ (0 : Int).toNat = 1 from rfl, Int.ediv_one]
  refine ga_mmin ok ⟨tb_in 929 (by decide +kernel) (by decide +kernel), tb_in 641 (by decide +kernel) (by decide +kernel), tb_in 19 (by decide +kernel) (by decide +kernel), tb_in 642 (by decide +kernel) (by decide +kernel)⟩ (by omega) (by omega) (by rw [hR]; exact (by decide)) (by rw [hR]; exact Nat.le_of_ble_eq_true rfl) (by rw [hR]; exact Nat.le_of_ble_eq_true rfl) (by rw [hR]; exact Nat.le_of_ble_eq_true rfl) dJ5_charAt_5068e_18 ?_
  rw [if_neg (by omega)]
  refine ga_istore ok hn4 dJ5_charAt_5068e_21 ?_
  refine ga_iload_n ok 1 rfl rfl dJ5_charAt_5068e_23 ?_
  refine ga_iload ok rfl dJ5_charAt_5068e_24 ?_
  refine ga_callJ ok [vI i, vI q.2] lj_J5_144 (c_J0_checkIndex ok.fl hG hS hi (by omega)) rfl (by rw [hR]; exact ⟨by decide, by decide, by decide, by decide⟩) (Nat.le_of_ble_eq_true rfl) dJ5_charAt_5068e_26 (fun r9 m1 hq9 => ?_) (fun _ _ h => h.elim)
  obtain ⟨rfl, hm9⟩ := hq9
  subst m1
  simp only [Option.toList_none, List.nil_append]
  refine ga_iload_n ok 2 rfl rfl dJ5_charAt_5068e_29 ?_
  refine ga_if_ne ok 42 (by decide) (by omega) dJ5_charAt_5068e_30 (fun c_30 => ?_) (fun c_30 => ?_)
  · exact absurd rfl c_30
  · refine ga_aload_n ok 3 rfl rfl dJ5_charAt_5068e_33 ?_
    refine ga_iload_n ok 1 rfl rfl dJ5_charAt_5068e_34 ?_
    refine gs_bald ok hS hB (by omega) dJ5_charAt_5068e_35 ?_
    have hl9 := hln.2 i.toNat (by omega)
    rw [hch i.toNat (by omega)]
    refine ga_sipush ok dJ5_charAt_5068e_36 (by decide) ?_
    refine ga_iand ok 8 dJ5_charAt_5068e_39 (by decide) (by decide) ?_
    refine ga_i2c ok dJ5_charAt_5068e_40 ?_
    exact ga_ireturn ok en rfl (narC (by omega)) (by decide) (by decide) dJ5_charAt_5068e_41 ⟨by rw [show q.1 i.toNat % 2 ^ 8 % 65536 = q.1 i.toNat by omega], rfl⟩
theorem lsu_J4_329 : LinkSU RJ4 329 yJ5_charAt_5068e cJ5_charAt_5068e 5 (some .char) 1 := ⟨List.forall_mem_cons.mpr ⟨tb_in 926 (by decide +kernel) (by decide +kernel), List.forall_mem_cons.mpr ⟨tb_in 1301 (by decide +kernel) (by decide +kernel), List.forall_mem_cons.mpr ⟨tb_in 186 (by decide +kernel) (by decide +kernel), List.forall_mem_cons.mpr ⟨tb_in 927 (by decide +kernel) (by decide +kernel), List.forall_mem_cons.mpr ⟨tb_in 5 (by decide +kernel) (by decide +kernel), fun _ h => absurd h List.not_mem_nil⟩⟩⟩⟩⟩, tb_in 928 (by decide +kernel) (by decide +kernel), by decide +kernel, by decide +kernel⟩
set_option maxHeartbeats 4000000 in
set_option maxRecDepth 100000 in
theorem c_J4_charAt {G : GG} {l : Launch} (hfl : l.stackTraces = false) {P9 : Prop} (hG : P9) (hS : SBW G) {m : Mm} {q : (Nat → Int) × Int} (hq : BLs m q) {i : Int} (hi : 0 ≤ i ∧ i < q.2) (hln : LnOk q) : CT G l yJ4_charAt_5068e cJ4_charAt_5068e 2 (some .char) (RM 4 0 0) [.ref 960, vI i] m (fun r' m' => r' = some (vI (q.1 i.toNat)) ∧ m' = m) (fun _ _ => False) := by
  refine CT.of RJ4 [(0, .ref 960), (1, vI i)] hfl (by decide +kernel) rfl rfl (Nat.le_of_ble_eq_true rfl) ?_
  intro E ok en hml hEl htab
  have hR : e_R E = RM 4 0 0 := en.2.2.2
  have hn0 : 0 < (e_c E).maxLocals := by rw [hml]; decide
  have hn1 : 1 < (e_c E).maxLocals := by rw [hml]; decide
  refine ga_aload_n ok 0 rfl rfl dJ4_charAt_5068e_0 ?_
  refine ga_iload_n ok 1 rfl rfl dJ4_charAt_5068e_1 ?_
  refine ga_callSU ok hS [vI i] lsu_J4_329 (c_J5_charAt ok.fl hG hS hq hi hln) rfl (by rw [hR]; exact ⟨by decide, by decide, by decide, by decide⟩) (Nat.le_of_ble_eq_true rfl) dJ4_charAt_5068e_2 (fun r9 m1 hq9 => ?_)
  obtain ⟨rfl, hm9⟩ := hq9
  subst m1
  simp only [Option.toList_some, List.singleton_append]
  have hl9 := hln.2 i.toNat (by omega)
  exact ga_ireturn ok en rfl (narC (by omega)) (by decide) (by decide) dJ4_charAt_5068e_5 ⟨rfl, rfl⟩
