/-! A NUMBER IS APPENDED -/
theorem BLs.num {m m' : Mm} {q : (Nat → Int) × Int} {v : Int} (h : BLs m q) (h0 : 0 ≤ q.2) (hcap : q.2 + nsz v ≤ m.1 960 3) (hg : GCe m m' v (q.2 + nsz v)) : BLs (upI m' 960 0 (q.2 + nsz v)) (numL q v) ∧ XB m (upI m' 960 0 (q.2 + nsz v)) := by
  obtain ⟨hB, h40, hc, hch⟩ := h
  obtain ⟨g1, g2, g3, g4, g5, g6⟩ := hg
  have hz := nsz_1 v
  refine ⟨⟨g1.cnt ⟨by omega, by rw [g2]; exact hcap⟩, by rw [upI_no (by omega), g2]; exact h40, by rw [upI_at, numL_nsz], ?_⟩, g6.u (Or.inl rfl)⟩
  rw [upI_r (by omega)]
  refine numL_eq h0 (fun i hi => ?_) (fun hv => ?_) (fun j i hj hi => ?_)
  · rw [g3 i (by omega)]
    exact hch i hi
  · have := g4 hv
    rw [show q.2 + nsz v - nsz v = q.2 by omega] at this
    exact this
  · exact g5 j i hj hi
theorem lj_J5_248 : LinkJ RJ5 248 yJ6_getChars_ba4f3 cJ6_getChars_ba4f3 7 (some .int) 3 := ⟨⟨tb_in 728 (by decide +kernel) (by decide +kernel), tb_in 729 (by decide +kernel) (by decide +kernel), tb_in 24 (by decide +kernel) (by decide +kernel)⟩, tb_in 730 (by decide +kernel) (by decide +kernel), by decide +kernel⟩
theorem lj_J5_245 : LinkJ RJ5 245 yJ6_stringSize_0f7a4 cJ6_stringSize_0f7a4 4 (some .int) 1 := ⟨⟨tb_in 725 (by decide +kernel) (by decide +kernel), tb_in 726 (by decide +kernel) (by decide +kernel), tb_in 24 (by decide +kernel) (by decide +kernel)⟩, tb_in 727 (by decide +kernel) (by decide +kernel), by decide +kernel⟩
set_option maxHeartbeats 4000000 in
set_option maxRecDepth 100000 in
theorem c_J5_appendI {G : GG} {l : Launch} (hfl : l.stackTraces = false) {P9 : Prop} (hG : P9) (hS : SBW G) {m : Mm} {q : (Nat → Int) × Int} (hq : BLs m q) {v : Int} (hv : -99999 ≤ v ∧ v ≤ 99999) (hn : q.2 + 6 ≤ 98) : CT G l yJ5_append_c97b9 cJ5_append_c97b9 4 (some (.object "java/lang/AbstractStringBuilder")) (RM 7 1 400) [.ref 960, vI v] m (fun r' m' => r' = some (.ref 960) ∧ BLs m' (numL q v) ∧ XB m m') (fun _ _ => False) := by
  refine CT.of RJ5 [(0, .ref 960), (1, vI v)] hfl (by decide +kernel) rfl rfl (Nat.le_of_ble_eq_true rfl) ?_
  intro E ok en hml hEl htab
  have hR : e_R E = RM 7 1 400 := en.2.2.2
  have hn0 : 0 < (e_c E).maxLocals := by rw [hml]; decide
  have hn1 : 1 < (e_c E).maxLocals := by rw [hml]; decide
  have hn2 : 2 < (e_c E).maxLocals := by rw [hml]; decide
  have hn3 : 3 < (e_c E).maxLocals := by rw [hml]; decide
  obtain ⟨hB, h40, hc0, hch⟩ := id hq
  obtain ⟨hb1, hb2, hb3, hb4, hb5⟩ := id hB
  have hz := nsz_1 v
  refine ga_aload_n ok 0 rfl rfl dJ5_append_c97b9_0 ?_
  refine gs_count ok hS (tb_in 177 (by decide +kernel) (by decide +kernel)) dJ5_append_c97b9_1 ?_
  first | rw [hc0] | rw [hc1]
  refine ga_istore_n ok 2 rfl hn2 dJ5_append_c97b9_4 ?_
  refine ga_iload_n ok 2 rfl rfl dJ5_append_c97b9_5 ?_
  refine ga_iload_n ok 1 rfl rfl dJ5_append_c97b9_6 ?_
  refine gd_J_1 ok lj_J5_245 (c_J6_stringSize ok.fl hG hS hv) (by rw [hR]; exact ⟨by decide, by decide, by decide, by decide⟩) (Nat.le_of_ble_eq_true rfl) dJ5_append_c97b9_7 ?_
  refine ga_iadd ok dJ5_append_c97b9_10 ?_
  refine ga_istore_n ok 3 rfl hn3 dJ5_append_c97b9_11 ?_
  refine ga_aload_n ok 0 rfl rfl dJ5_append_c97b9_12 ?_
  refine ga_iload_n ok 3 rfl rfl dJ5_append_c97b9_13 ?_
  refine ga_callVU ok hS [vI (q.2 + nsz v)] lvu_J5_100 (sb_s1 ok hS) (c_J5_ensure ok.fl hG hS hq (by omega) (by omega)) rfl (by rw [hR]; exact ⟨by decide, by decide, by decide, by decide⟩) (Nat.le_of_ble_eq_true rfl) dJ5_append_c97b9_14 (fun r9 m1 hq9 => ?_)
  obtain ⟨rfl, hq1, hcap1, hxb1⟩ := hq9
  simp only [Option.toList_none, List.nil_append]
  obtain ⟨hB1, h401, hc1, hch1⟩ := id hq1
  obtain ⟨hd1, hd2, hd3, hd4, hd5⟩ := id hB1
  refine ga_aload_n ok 0 rfl rfl dJ5_append_c97b9_17 ?_
  refine ga_callVU ok hS [] lvu_J5_83 (ok.w _ (tb_in 647 (by decide +kernel) (by decide +kernel))) (c_J5_isLatin1 ok.fl hG hS) rfl (by rw [hR]; exact ⟨by decide, by decide, by decide, by decide⟩) (Nat.le_of_ble_eq_true rfl) dJ5_append_c97b9_18 (fun r9 m2 hq9 => ?_)
  obtain ⟨rfl, hm9⟩ := hq9
  subst m2
  simp only [Option.toList_some, List.singleton_append]
  refine ga_if_eq ok 37 (by decide) (by omega) dJ5_append_c97b9_21 (fun c_21 => ?_) (fun c_21 => ?_)
  · exact absurd c_21 (by decide)
  · refine ga_iload_n ok 1 rfl rfl dJ5_append_c97b9_24 ?_
    refine ga_iload_n ok 3 rfl rfl dJ5_append_c97b9_25 ?_
    refine ga_aload_n ok 0 rfl rfl dJ5_append_c97b9_26 ?_
    refine gs_value ok hS (tb_in 173 (by decide +kernel) (by decide +kernel)) dJ5_append_c97b9_27 ?_
    refine ga_callJ ok [vI v, vI (q.2 + nsz v), raw (m1.1 960 2)] lj_J5_248 (c_J6_getChars ok.fl hG hS hB1 h401 hv (by omega)) rfl (by rw [hR]; exact ⟨by decide, by decide, by decide, by decide⟩) (Nat.le_of_ble_eq_true rfl) dJ5_append_c97b9_30 (fun r9 m2 hq9 => ?_) (fun _ _ h => h.elim)
    obtain ⟨rfl, hg⟩ := hq9
    simp only [Option.toList_some, List.singleton_append]
    refine ga_pop ok dJ5_append_c97b9_33 rfl ?_
    refine ga_goto ok 48 (by decide) dJ5_append_c97b9_34 ?_
    refine ga_aload_n ok 0 rfl rfl dJ5_append_c97b9_48 ?_
    refine ga_iload_n ok 3 rfl rfl dJ5_append_c97b9_49 ?_
    refine gs_pcount ok hS (tb_in 177 (by decide +kernel) (by decide +kernel)) dJ5_append_c97b9_50 ?_
    refine ga_aload_n ok 0 rfl rfl dJ5_append_c97b9_53 ?_
    exact ga_areturn ok en rfl (Or.inl ⟨_, rfl⟩) (by exact Nat.le_refl 1) (by exact Nat.le_refl 400) dJ5_append_c97b9_54 (by
  have hp := hq1.num (by omega) hcap1 hg
  exact ⟨rfl, hp.1, hxb1.tr hp.2⟩)
theorem lsu_J4_53 : LinkSU RJ4 53 yJ5_append_c97b9 cJ5_append_c97b9 4 (some (.object "java/lang/AbstractStringBuilder")) 1 := ⟨List.forall_mem_cons.mpr ⟨tb_in 722 (by decide +kernel) (by decide +kernel), List.forall_mem_cons.mpr ⟨tb_in 1297 (by decide +kernel) (by decide +kernel), List.forall_mem_cons.mpr ⟨tb_in 186 (by decide +kernel) (by decide +kernel), List.forall_mem_cons.mpr ⟨tb_in 723 (by decide +kernel) (by decide +kernel), List.forall_mem_cons.mpr ⟨tb_in 5 (by decide +kernel) (by decide +kernel), fun _ h => absurd h List.not_mem_nil⟩⟩⟩⟩⟩, tb_in 724 (by decide +kernel) (by decide +kernel), by decide +kernel, by decide +kernel⟩
set_option maxHeartbeats 4000000 in
set_option maxRecDepth 100000 in
theorem c_J4_appendI {G : GG} {l : Launch} (hfl : l.stackTraces = false) {P9 : Prop} (hG : P9) (hS : SBW G) {m : Mm} {q : (Nat → Int) × Int} (hq : BLs m q) {v : Int} (hv : -99999 ≤ v ∧ v ≤ 99999) (hn : q.2 + 6 ≤ 98) : CT G l yJ4_append_bf812 cJ4_append_bf812 2 (some (.object "java/lang/StringBuilder")) (RM 8 1 400) [.ref 960, vI v] m (fun r' m' => r' = some (.ref 960) ∧ BLs m' (numL q v) ∧ XB m m') (fun _ _ => False) := by
  refine CT.of RJ4 [(0, .ref 960), (1, vI v)] hfl (by decide +kernel) rfl rfl (Nat.le_of_ble_eq_true rfl) ?_
  intro E ok en hml hEl htab
  have hR : e_R E = RM 8 1 400 := en.2.2.2
  have hn0 : 0 < (e_c E).maxLocals := by rw [hml]; decide
  have hn1 : 1 < (e_c E).maxLocals := by rw [hml]; decide
  refine ga_aload_n ok 0 rfl rfl dJ4_append_bf812_0 ?_
  refine ga_iload_n ok 1 rfl rfl dJ4_append_bf812_1 ?_
  refine ga_callSU ok hS [vI v] lsu_J4_53 (c_J5_appendI ok.fl hG hS hq hv hn) rfl (by rw [hR]; exact ⟨by decide, by decide, by decide, by decide⟩) (Nat.le_of_ble_eq_true rfl) dJ4_append_bf812_2 (fun r9 m1 hq9 => ?_)
  obtain ⟨rfl, hq1, hxb1⟩ := hq9
  simp only [Option.toList_some, List.singleton_append]
  refine ga_pop ok dJ4_append_bf812_5 rfl ?_
  refine ga_aload_n ok 0 rfl rfl dJ4_append_bf812_6 ?_
  exact ga_areturn ok en rfl (Or.inl ⟨_, rfl⟩) (by decide) (by decide) dJ4_append_bf812_7 ⟨rfl, hq1, hxb1⟩
