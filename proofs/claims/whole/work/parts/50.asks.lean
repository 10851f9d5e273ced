/-! THE LAW'S WRAPPERS OF WHAT ONLY ASKS -/
theorem n64_f2d {x : UInt32} (h : FP.Core.val32 x ≠ .nan) : vf_n64 (FP.f2d x) := by
  have h1 : FP.Core.fIsNaN x = false := (FP.Core.notNaN_iff32 x).mpr h
  unfold FP.f2d
  rw [if_neg (by rw [h1]; decide)]
  exact n64_of ((FP.Core.notNaN_iff _).mp (FP.Core.f2d_out h1))
theorem fdiv_nn {x : UInt32} {d : Int} (hx : FP.Core.val32 x ≠ .nan) (hd : 1 ≤ d ∧ d ≤ 2147483647) : FP.Core.val32 (FP.fdiv x (FP.i2f (Int32.ofInt d))) ≠ .nan := by
  refine ((FP.Core.notNaN_iff32 _).mp (FP.Core.fdiv_out ((FP.Core.notNaN_iff32 x).mpr hx) (FP.Core.i2f_fin _) ?_))
  rw [FP.Core.zero_bits232]
  refine FP.Core.i2f_ne_zero (fun h => ?_)
  have h1 : (Int32.ofInt d).toInt = d := oi_T (by omega)
  rw [h] at h1
  have h2 : ((0 : Int32)).toInt = 0 := by decide
  omega
theorem BLs.out {m : Mm} {q : (Nat → Int) × Int} {a i : Nat} {v : Int} (h : BLs m q) (ha : a = 1600 ∨ a = 1664) : BLs (upI m a i v) q := by
  unfold BLs SBk at *
  rw [upI_r (by omega), upI_r (by omega)]
  exact h
/-- the face's own and the law's cells aside -/
def LX (m m' : Mm) : Prop := ∀ n, 1024 ≤ n → n ≠ 1600 → n ≠ 1664 → m'.1 n = m.1 n ∧ m'.2 n = m.2 n
theorem LX.rf {m : Mm} : LX m m := fun _ _ _ _ => ⟨rfl, rfl⟩
theorem LX.of {m m' : Mm} (h : XB m m') : LX m m' := fun n h1 _ _ => ⟨h.1 n (by omega) (by omega), by rw [h.2]⟩
theorem LX.u {m m' : Mm} {a i : Nat} {v : Int} (h : LX m m') (ha : a = 1600 ∨ a = 1664) : LX m (upI m' a i v) := fun n h0 h1 h2 => ⟨by rw [upI_r (by omega)]; exact (h n h0 h1 h2).1, (h n h0 h1 h2).2⟩
set_option maxHeartbeats 4000000 in
set_option maxRecDepth 100000 in
theorem w_visitorOf {G : GG} {l : Launch} (hfl : l.stackTraces = false) (hG : MW G) (hS : SBW G) {m : Mm} {r : Nat → Int} {T : Int} (hI : gtIs m 64 r) (hT : gtOk T r) {v : Int} (hvR : -2147483648 ≤ v ∧ v ≤ 2147483647) {what : Int} (hwhatR : -2147483648 ≤ what ∧ what ≤ 2147483647) : CW G l yL_visitorOf cL_visitorOf 5 (some .int) [(0, 10, 13, 21), (0, 10, 17, 13)] (RM 9 2 12) [.ref 0, vI v, vI what, .ref 1600] m (fun r' m' => r' = some (vI (if isV r v = true then (if decide (0 ≤ what ∧ what ≤ 4) = true then (0 : Int) else 2) else 1)) ∧ (0 ≤ (if isV r v = true then (if decide (0 ≤ what ∧ what ≤ 4) = true then (0 : Int) else 2) else 1) ∧ (if isV r v = true then (if decide (0 ≤ what ∧ what ≤ 4) = true then (0 : Int) else 2) else 1) ≤ 3) ∧ ((if isV r v = true then (if decide (0 ≤ what ∧ what ≤ 4) = true then (0 : Int) else 2) else 1) = 0 → m'.1 1600 0 = w32 (if what = 0 then vX r v.toNat else if what = 1 then vF r v.toNat else if what = 2 then szO (vX r v.toNat) 10 else if what = 3 then ofV r v.toNat else plc r v.toNat)) ∧ WEq m m') (fun _ _ => False) := by
  refine CW.of RL [(0, .ref 0), (1, vI v), (2, vI what), (3, .ref 1600)] hfl (by decide +kernel) rfl rfl (Nat.le_of_ble_eq_true rfl) ?_
  intro E ok en hml hEl htab
  have hR : e_R E = RM 9 2 12 := en.2.2.2
  have hn0 : 0 < (e_c E).maxLocals := by rw [hml]; decide
  have hn1 : 1 < (e_c E).maxLocals := by rw [hml]; decide
  have hn2 : 2 < (e_c E).maxLocals := by rw [hml]; decide
  have hn3 : 3 < (e_c E).maxLocals := by rw [hml]; decide
  have hn4 : 4 < (e_c E).maxLocals := by rw [hml]; decide
  refine ga_aload_n ok 3 rfl rfl dL_visitorOf_0 ?_
  refine ga_iconst ok dL_visitorOf_1 ?_
  refine ga_aload_n ok 0 rfl rfl dL_visitorOf_2 ?_
  refine ga_iload_n ok 1 rfl rfl dL_visitorOf_3 ?_
  refine ga_iload_n ok 2 rfl rfl dL_visitorOf_4 ?_
  refine gc_X3_2 ok hG rfl lk_L_33 rfl (c_X3_visitorOf ok.fl hG hI hT hvR hwhatR) (by rw [hR]; exact ⟨by decide, by decide, by decide, by decide⟩) (Nat.le_of_ble_eq_true rfl) dL_visitorOf_5 (fun r9 m1 hq => ?_) (fun X9 m1 hq => ?_)
  · obtain ⟨q1, q2, rfl, hm9⟩ := hq
    subst m1
    simp only [Option.toList_some, List.singleton_append]
    have hK : (if isV r v = true then (if decide (0 ≤ what ∧ what ≤ 4) = true then (0 : Int) else 2) else 1) = 0 := pq_0 q1 q2
    refine ga_i2lW ok dL_visitorOf_8 ?_
    refine ga_lastore_la ok (ar_lo hG rfl) (by omega) dL_visitorOf_9 ?_
    refine ga_goto ok 21 (by decide) dL_visitorOf_10 ?_
    refine ga_iconst ok dL_visitorOf_21 ?_
    exact ga_ireturn ok en rfl rfl (by exact Nat.le_refl _) (by exact Nat.le_refl _) dL_visitorOf_22 ⟨by rw [hK], by rw [hK]; decide, fun _ => upI_at, WEq.rf.u (Or.inl rfl)⟩
  · obtain ⟨hc, hm9⟩ := hq
    subst m1
    rcases hc with ⟨rfl, q1⟩ | ⟨rfl, q1, q2⟩
    · have hK : (if isV r v = true then (if decide (0 ≤ what ∧ what ≤ 4) = true then (0 : Int) else 2) else 1) = 1 := pq_1 q1
      refine gx_catch ok hS htab [] (0, 10, 13, 21) [(0, 10, 17, 13)] rfl (fun _ h => absurd h List.not_mem_nil) rfl (by decide) cl_IO cs_IO (fun q => ?_)
      refine ga_astore ok hn4 dL_visitorOf_13 ?_
      refine ga_iconst ok dL_visitorOf_15 ?_
      exact ga_ireturn ok en rfl rfl (by exact Nat.le_refl _) (by exact Nat.le_refl _) dL_visitorOf_16 ⟨by rw [hK], by rw [hK]; decide, fun h => absurd (hK.symm.trans h) (by decide), WEq.rf⟩
    · have hK : (if isV r v = true then (if decide (0 ≤ what ∧ what ≤ 4) = true then (0 : Int) else 2) else 1) = 2 := pq_2 q1 q2
      refine gx_catch ok hS htab [(0, 10, 13, 21)] (0, 10, 17, 13) [] rfl (List.forall_mem_cons.mpr ⟨⟨by decide, _, cl_IO, by decide +kernel, by decide +kernel, by decide +kernel⟩, fun _ h => absurd h List.not_mem_nil⟩) rfl (by decide) cl_IA cs_IA (fun q => ?_)
      refine ga_astore ok hn4 dL_visitorOf_17 ?_
      refine ga_iconst ok dL_visitorOf_19 ?_
      exact ga_ireturn ok en rfl rfl (by exact Nat.le_refl _) (by exact Nat.le_refl _) dL_visitorOf_20 ⟨by rw [hK], by rw [hK]; decide, fun h => absurd (hK.symm.trans h) (by decide), WEq.rf⟩
theorem lw_L_162 : LinkW RL 162 yL_visitorOf cL_visitorOf 5 (some .int) [(0, 10, 13, 21), (0, 10, 17, 13)] 4 := ⟨List.forall_mem_cons.mpr ⟨tb_in 516 (by decide +kernel) (by decide +kernel), List.forall_mem_cons.mpr ⟨tb_in 517 (by decide +kernel) (by decide +kernel), List.forall_mem_cons.mpr ⟨tb_in 0 (by decide +kernel) (by decide +kernel), fun _ h => absurd h List.not_mem_nil⟩⟩⟩, tb_in 518 (by decide +kernel) (by decide +kernel), by decide +kernel⟩
set_option maxHeartbeats 4000000 in
set_option maxRecDepth 100000 in
theorem w_guardOf {G : GG} {l : Launch} (hfl : l.stackTraces = false) (hG : MW G) (hS : SBW G) {m : Mm} {r : Nat → Int} {T : Int} (hI : gtIs m 64 r) (hT : gtOk T r) {g : Int} (hgR : -2147483648 ≤ g ∧ g ≤ 2147483647) {what : Int} (hwhatR : -2147483648 ≤ what ∧ what ≤ 2147483647) : CW G l yL_guardOf cL_guardOf 5 (some .int) [(0, 10, 13, 21), (0, 10, 17, 13)] (RM 9 2 12) [.ref 0, vI g, vI what, .ref 1600] m (fun r' m' => r' = some (vI (ask r g (decide (0 ≤ what ∧ what ≤ 6)))) ∧ (0 ≤ (ask r g (decide (0 ≤ what ∧ what ≤ 6))) ∧ (ask r g (decide (0 ≤ what ∧ what ≤ 6))) ≤ 3) ∧ ((ask r g (decide (0 ≤ what ∧ what ≤ 6))) = 0 → m'.1 1600 0 = w32 (if what = 0 then rg r g.toNat 0 else if what = 1 then rg r g.toNat 1 else if what = 2 then rg r g.toNat 2 else if what = 3 then rg r g.toNat 3 else if what = 4 then ofG r g.toNat else if what = 5 then rg r g.toNat 4 else rg r g.toNat 5)) ∧ WEq m m') (fun _ _ => False) := by
  refine CW.of RL [(0, .ref 0), (1, vI g), (2, vI what), (3, .ref 1600)] hfl (by decide +kernel) rfl rfl (Nat.le_of_ble_eq_true rfl) ?_
  intro E ok en hml hEl htab
  have hR : e_R E = RM 9 2 12 := en.2.2.2
  have hn0 : 0 < (e_c E).maxLocals := by rw [hml]; decide
  have hn1 : 1 < (e_c E).maxLocals := by rw [hml]; decide
  have hn2 : 2 < (e_c E).maxLocals := by rw [hml]; decide
  have hn3 : 3 < (e_c E).maxLocals := by rw [hml]; decide
  have hn4 : 4 < (e_c E).maxLocals := by rw [hml]; decide
  refine ga_aload_n ok 3 rfl rfl dL_guardOf_0 ?_
  refine ga_iconst ok dL_guardOf_1 ?_
  refine ga_aload_n ok 0 rfl rfl dL_guardOf_2 ?_
  refine ga_iload_n ok 1 rfl rfl dL_guardOf_3 ?_
  refine ga_iload_n ok 2 rfl rfl dL_guardOf_4 ?_
  refine gc_X3_2 ok hG rfl lk_L_36 rfl (c_X3_guardOf ok.fl hG hI hT hgR hwhatR) (by rw [hR]; exact ⟨by decide, by decide, by decide, by decide⟩) (Nat.le_of_ble_eq_true rfl) dL_guardOf_5 (fun r9 m1 hq => ?_) (fun X9 m1 hq => ?_)
  · obtain ⟨q1, q2, rfl, hm9⟩ := hq
    subst m1
    simp only [Option.toList_some, List.singleton_append]
    have hK : (ask r g (decide (0 ≤ what ∧ what ≤ 6))) = 0 := ak_0 q1 q2
    refine ga_i2lW ok dL_guardOf_8 ?_
    refine ga_lastore_la ok (ar_lo hG rfl) (by omega) dL_guardOf_9 ?_
    refine ga_goto ok 21 (by decide) dL_guardOf_10 ?_
    refine ga_iconst ok dL_guardOf_21 ?_
    exact ga_ireturn ok en rfl rfl (by exact Nat.le_refl _) (by exact Nat.le_refl _) dL_guardOf_22 ⟨by rw [hK], by rw [hK]; decide, fun _ => upI_at, WEq.rf.u (Or.inl rfl)⟩
  · obtain ⟨hc, hm9⟩ := hq
    subst m1
    rcases hc with ⟨rfl, q1⟩ | ⟨rfl, q1, q2⟩
    · have hK : (ask r g (decide (0 ≤ what ∧ what ≤ 6))) = 1 := ak_1 q1
      refine gx_catch ok hS htab [] (0, 10, 13, 21) [(0, 10, 17, 13)] rfl (fun _ h => absurd h List.not_mem_nil) rfl (by decide) cl_IO cs_IO (fun q => ?_)
      refine ga_astore ok hn4 dL_guardOf_13 ?_
      refine ga_iconst ok dL_guardOf_15 ?_
      exact ga_ireturn ok en rfl rfl (by exact Nat.le_refl _) (by exact Nat.le_refl _) dL_guardOf_16 ⟨by rw [hK], by rw [hK]; decide, fun h => absurd (hK.symm.trans h) (by decide), WEq.rf⟩
    · have hK : (ask r g (decide (0 ≤ what ∧ what ≤ 6))) = 2 := ak_2 q1 (by omega)
      refine gx_catch ok hS htab [(0, 10, 13, 21)] (0, 10, 17, 13) [] rfl (List.forall_mem_cons.mpr ⟨⟨by decide, _, cl_IO, by decide +kernel, by decide +kernel, by decide +kernel⟩, fun _ h => absurd h List.not_mem_nil⟩) rfl (by decide) cl_IA cs_IA (fun q => ?_)
      refine ga_astore ok hn4 dL_guardOf_17 ?_
      refine ga_iconst ok dL_guardOf_19 ?_
      exact ga_ireturn ok en rfl rfl (by exact Nat.le_refl _) (by exact Nat.le_refl _) dL_guardOf_20 ⟨by rw [hK], by rw [hK]; decide, fun h => absurd (hK.symm.trans h) (by decide), WEq.rf⟩
theorem lw_L_165 : LinkW RL 165 yL_guardOf cL_guardOf 5 (some .int) [(0, 10, 13, 21), (0, 10, 17, 13)] 4 := ⟨List.forall_mem_cons.mpr ⟨tb_in 542 (by decide +kernel) (by decide +kernel), List.forall_mem_cons.mpr ⟨tb_in 543 (by decide +kernel) (by decide +kernel), List.forall_mem_cons.mpr ⟨tb_in 0 (by decide +kernel) (by decide +kernel), fun _ h => absurd h List.not_mem_nil⟩⟩⟩, tb_in 544 (by decide +kernel) (by decide +kernel), by decide +kernel⟩
set_option maxHeartbeats 4000000 in
set_option maxRecDepth 100000 in
theorem w_margin {G : GG} {l : Launch} (hfl : l.stackTraces = false) (hG : MW G) (hS : SBW G) {m : Mm} {r : Nat → Int} {T : Int} (hI : gtIs m 64 r) (hT : gtOk T r) {g : Int} (hgR : -2147483648 ≤ g ∧ g ≤ 2147483647) {x : Int} (hxR : -2147483648 ≤ x ∧ x ≤ 2147483647) {again : Int} (hag : again = 0 ∨ again = 1) : CW G l yL_margin cL_margin 6 (some .int) [(0, 12, 15, 21), (0, 12, 19, 13)] (RM 9 2 12) [.ref 0, vI g, vI x, vI again, .ref 1664] m (fun r' m' => r' = some (vI (ask r g (isS x))) ∧ (0 ≤ (ask r g (isS x)) ∧ (ask r g (isS x)) ≤ 3) ∧ ((ask r g (isS x)) = 0 → m'.1 1664 0 = ((FP.f2d (fq (mg (gcn (rg r g.toNat)) x))).toNat : Int) ∧ vf_n64 (FP.f2d (fq (mg (gcn (rg r g.toNat)) x)))) ∧ WEq m m') (fun _ _ => False) := by
  refine CW.of RL [(0, .ref 0), (1, vI g), (2, vI x), (3, vI again), (4, .ref 1664)] hfl (by decide +kernel) rfl rfl (Nat.le_of_ble_eq_true rfl) ?_
  intro E ok en hml hEl htab
  have hR : e_R E = RM 9 2 12 := en.2.2.2
  have hn0 : 0 < (e_c E).maxLocals := by rw [hml]; decide
  have hn1 : 1 < (e_c E).maxLocals := by rw [hml]; decide
  have hn2 : 2 < (e_c E).maxLocals := by rw [hml]; decide
  have hn3 : 3 < (e_c E).maxLocals := by rw [hml]; decide
  have hn4 : 4 < (e_c E).maxLocals := by rw [hml]; decide
  have hn5 : 5 < (e_c E).maxLocals := by rw [hml]; decide
  refine ga_aload ok rfl dL_margin_0 ?_
  refine ga_iconst ok dL_margin_2 ?_
  refine ga_aload_n ok 0 rfl rfl dL_margin_3 ?_
  refine ga_iload_n ok 1 rfl rfl dL_margin_4 ?_
  refine ga_iload_n ok 2 rfl rfl dL_margin_5 ?_
  refine ga_iload_n ok 3 rfl rfl dL_margin_6 ?_
  refine gc_X3_3 ok hG rfl lk_L_39 rfl (c_X3_margin ok.fl hG hI hT hgR hxR hag) (by rw [hR]; exact ⟨by decide, by decide, by decide, by decide⟩) (Nat.le_of_ble_eq_true rfl) dL_margin_7 (fun r9 m1 hq => ?_) (fun X9 m1 hq => ?_)
  · obtain ⟨q1, q2, rfl, hm9⟩ := hq
    subst m1
    simp only [Option.toList_some, List.singleton_append]
    have hK : (ask r g (isS x)) = 0 := ak_0 q1 q2
    refine ga_f2d ok dL_margin_10 (n64_f2d (fq_nan (mg_bd (hT.2.2.2 g.toNat (by omega)).2.2.2.1 x))) ?_
    refine ga_dastore_da ok (ar_ld hG rfl) (by omega) dL_margin_11 ?_
    refine ga_goto ok 23 (by decide) dL_margin_12 ?_
    refine ga_iconst ok dL_margin_23 ?_
    exact ga_ireturn ok en rfl rfl (by exact Nat.le_refl _) (by exact Nat.le_refl _) dL_margin_24 ⟨by rw [hK], by rw [hK]; decide, fun _ => ⟨upI_at, (n64_f2d (fq_nan (mg_bd (hT.2.2.2 g.toNat (by omega)).2.2.2.1 x)))⟩, WEq.rf.u (Or.inr rfl)⟩
  · obtain ⟨hc, hm9⟩ := hq
    subst m1
    rcases hc with ⟨rfl, q1⟩ | ⟨rfl, q1, q2⟩
    · have hK : (ask r g (isS x)) = 1 := ak_1 q1
      refine gx_catch ok hS htab [] (0, 12, 15, 21) [(0, 12, 19, 13)] rfl (fun _ h => absurd h List.not_mem_nil) rfl (by decide) cl_IO cs_IO (fun q => ?_)
      refine ga_astore ok hn5 dL_margin_15 ?_
      refine ga_iconst ok dL_margin_17 ?_
      exact ga_ireturn ok en rfl rfl (by exact Nat.le_refl _) (by exact Nat.le_refl _) dL_margin_18 ⟨by rw [hK], by rw [hK]; decide, fun h => absurd (hK.symm.trans h) (by decide), WEq.rf⟩
    · have hK : (ask r g (isS x)) = 2 := ak_2 q1 q2
      refine gx_catch ok hS htab [(0, 12, 15, 21)] (0, 12, 19, 13) [] rfl (List.forall_mem_cons.mpr ⟨⟨by decide, _, cl_IO, by decide +kernel, by decide +kernel, by decide +kernel⟩, fun _ h => absurd h List.not_mem_nil⟩) rfl (by decide) cl_IA cs_IA (fun q => ?_)
      refine ga_astore ok hn5 dL_margin_19 ?_
      refine ga_iconst ok dL_margin_21 ?_
      exact ga_ireturn ok en rfl rfl (by exact Nat.le_refl _) (by exact Nat.le_refl _) dL_margin_22 ⟨by rw [hK], by rw [hK]; decide, fun h => absurd (hK.symm.trans h) (by decide), WEq.rf⟩
theorem lw_L_168 : LinkW RL 168 yL_margin cL_margin 6 (some .int) [(0, 12, 15, 21), (0, 12, 19, 13)] 5 := ⟨List.forall_mem_cons.mpr ⟨tb_in 554 (by decide +kernel) (by decide +kernel), List.forall_mem_cons.mpr ⟨tb_in 555 (by decide +kernel) (by decide +kernel), List.forall_mem_cons.mpr ⟨tb_in 0 (by decide +kernel) (by decide +kernel), fun _ h => absurd h List.not_mem_nil⟩⟩⟩, tb_in 556 (by decide +kernel) (by decide +kernel), by decide +kernel⟩
set_option maxHeartbeats 4000000 in
set_option maxRecDepth 100000 in
theorem w_letsIn {G : GG} {l : Launch} (hfl : l.stackTraces = false) (hG : MW G) (hS : SBW G) {m : Mm} {r : Nat → Int} {T : Int} (hI : gtIs m 64 r) (hT : gtOk T r) {g : Int} (hgR : -2147483648 ≤ g ∧ g ≤ 2147483647) {x : Int} (hxR : -2147483648 ≤ x ∧ x ≤ 2147483647) : CW G l yL_letsIn cL_letsIn 5 (some .int) [(0, 17, 20, 21), (0, 17, 24, 13)] (RM 9 2 12) [.ref 0, vI g, vI x, .ref 1600] m (fun r' m' => r' = some (vI (ask r g (isS x))) ∧ (0 ≤ (ask r g (isS x)) ∧ (ask r g (isS x)) ≤ 3) ∧ ((ask r g (isS x)) = 0 → m'.1 1600 0 = w32 (b2i (adm (gcn (rg r g.toNat)) x))) ∧ WEq m m') (fun _ _ => False) := by
  refine CW.of RL [(0, .ref 0), (1, vI g), (2, vI x), (3, .ref 1600)] hfl (by decide +kernel) rfl rfl (Nat.le_of_ble_eq_true rfl) ?_
  intro E ok en hml hEl htab
  have hR : e_R E = RM 9 2 12 := en.2.2.2
  have hn0 : 0 < (e_c E).maxLocals := by rw [hml]; decide
  have hn1 : 1 < (e_c E).maxLocals := by rw [hml]; decide
  have hn2 : 2 < (e_c E).maxLocals := by rw [hml]; decide
  have hn3 : 3 < (e_c E).maxLocals := by rw [hml]; decide
  have hn4 : 4 < (e_c E).maxLocals := by rw [hml]; decide
  refine ga_aload_n ok 3 rfl rfl dL_letsIn_0 ?_
  refine ga_iconst ok dL_letsIn_1 ?_
  refine ga_aload_n ok 0 rfl rfl dL_letsIn_2 ?_
  refine ga_iload_n ok 1 rfl rfl dL_letsIn_3 ?_
  refine ga_iload_n ok 2 rfl rfl dL_letsIn_4 ?_
  refine gc_X3_2 ok hG rfl lk_L_43 rfl (c_X3_letsIn ok.fl hG hI hT hgR hxR) (by rw [hR]; exact ⟨by decide, by decide, by decide, by decide⟩) (Nat.le_of_ble_eq_true rfl) dL_letsIn_5 (fun r9 m1 hq => ?_) (fun X9 m1 hq => ?_)
  · obtain ⟨q1, q2, rfl, hm9⟩ := hq
    subst m1
    simp only [Option.toList_some, List.singleton_append]
    have hK : (ask r g (isS x)) = 0 := ak_0 q1 q2
    refine ga_if_eq ok 15 (by decide) (b2i_rng _) dL_letsIn_8 (fun c_8 => ?_) (fun c_8 => ?_)
    · have f_8 := b2i_0.mp c_8
      refine ga_lconst (z := 0) ok dL_letsIn_15 (by decide) ?_
      refine ga_lastore_la ok (ar_lo hG rfl) (by omega) dL_letsIn_16 ?_
      refine ga_goto ok 28 (by decide) dL_letsIn_17 ?_
      refine ga_iconst ok dL_letsIn_28 ?_
      exact ga_ireturn ok en rfl rfl (by exact Nat.le_refl _) (by exact Nat.le_refl _) dL_letsIn_29 ⟨by rw [hK], by rw [hK]; decide, fun _ => upI_at.trans (by rw [f_8]; decide), WEq.rf.u (Or.inl rfl)⟩
    · have f_8 := b2i_n0.mp c_8
      refine ga_lconst (z := 1) ok dL_letsIn_11 (by decide) ?_
      refine ga_goto ok 16 (by decide) dL_letsIn_12 ?_
      refine ga_lastore_la ok (ar_lo hG rfl) (by omega) dL_letsIn_16 ?_
      refine ga_goto ok 28 (by decide) dL_letsIn_17 ?_
      refine ga_iconst ok dL_letsIn_28 ?_
      exact ga_ireturn ok en rfl rfl (by exact Nat.le_refl _) (by exact Nat.le_refl _) dL_letsIn_29 ⟨by rw [hK], by rw [hK]; decide, fun _ => upI_at.trans (by rw [f_8]; decide), WEq.rf.u (Or.inl rfl)⟩
  · obtain ⟨hc, hm9⟩ := hq
    subst m1
    rcases hc with ⟨rfl, q1⟩ | ⟨rfl, q1, q2⟩
    · have hK : (ask r g (isS x)) = 1 := ak_1 q1
      refine gx_catch ok hS htab [] (0, 17, 20, 21) [(0, 17, 24, 13)] rfl (fun _ h => absurd h List.not_mem_nil) rfl (by decide) cl_IO cs_IO (fun q => ?_)
      refine ga_astore ok hn4 dL_letsIn_20 ?_
      refine ga_iconst ok dL_letsIn_22 ?_
      exact ga_ireturn ok en rfl rfl (by exact Nat.le_refl _) (by exact Nat.le_refl _) dL_letsIn_23 ⟨by rw [hK], by rw [hK]; decide, fun h => absurd (hK.symm.trans h) (by decide), WEq.rf⟩
    · have hK : (ask r g (isS x)) = 2 := ak_2 q1 q2
      refine gx_catch ok hS htab [(0, 17, 20, 21)] (0, 17, 24, 13) [] rfl (List.forall_mem_cons.mpr ⟨⟨by decide, _, cl_IO, by decide +kernel, by decide +kernel, by decide +kernel⟩, fun _ h => absurd h List.not_mem_nil⟩) rfl (by decide) cl_IA cs_IA (fun q => ?_)
      refine ga_astore ok hn4 dL_letsIn_24 ?_
      refine ga_iconst ok dL_letsIn_26 ?_
      exact ga_ireturn ok en rfl rfl (by exact Nat.le_refl _) (by exact Nat.le_refl _) dL_letsIn_27 ⟨by rw [hK], by rw [hK]; decide, fun h => absurd (hK.symm.trans h) (by decide), WEq.rf⟩
theorem lw_L_172 : LinkW RL 172 yL_letsIn cL_letsIn 5 (some .int) [(0, 17, 20, 21), (0, 17, 24, 13)] 4 := ⟨List.forall_mem_cons.mpr ⟨tb_in 563 (by decide +kernel) (by decide +kernel), List.forall_mem_cons.mpr ⟨tb_in 564 (by decide +kernel) (by decide +kernel), List.forall_mem_cons.mpr ⟨tb_in 0 (by decide +kernel) (by decide +kernel), fun _ h => absurd h List.not_mem_nil⟩⟩⟩, tb_in 565 (by decide +kernel) (by decide +kernel), by decide +kernel⟩
set_option maxHeartbeats 4000000 in
set_option maxRecDepth 100000 in
theorem w_weightBits {G : GG} {l : Launch} (hfl : l.stackTraces = false) (hG : MW G) (hS : SBW G) {m : Mm} {r : Nat → Int} {T : Int} (hI : gtIs m 64 r) (hT : gtOk T r) {g : Int} (hgR : -2147483648 ≤ g ∧ g ≤ 2147483647) {x : Int} (hxR : -2147483648 ≤ x ∧ x ≤ 2147483647) : CW G l yL_weightBits cL_weightBits 5 (some .int) [(0, 10, 13, 21), (0, 10, 17, 13)] (RM 9 2 12) [.ref 0, vI g, vI x, .ref 1600] m (fun r' m' => r' = some (vI (ask r g (decide (-1 ≤ x ∧ x ≤ 9)))) ∧ (0 ≤ (ask r g (decide (-1 ≤ x ∧ x ≤ 9))) ∧ (ask r g (decide (-1 ≤ x ∧ x ≤ 9))) ≤ 3) ∧ ((ask r g (decide (-1 ≤ x ∧ x ≤ 9))) = 0 → m'.1 1600 0 = w32 (fword (fq (gcn (rg r g.toNat) (x + 1).toNat)))) ∧ WEq m m') (fun _ _ => False) := by
  refine CW.of RL [(0, .ref 0), (1, vI g), (2, vI x), (3, .ref 1600)] hfl (by decide +kernel) rfl rfl (Nat.le_of_ble_eq_true rfl) ?_
  intro E ok en hml hEl htab
  have hR : e_R E = RM 9 2 12 := en.2.2.2
  have hn0 : 0 < (e_c E).maxLocals := by rw [hml]; decide
  have hn1 : 1 < (e_c E).maxLocals := by rw [hml]; decide
  have hn2 : 2 < (e_c E).maxLocals := by rw [hml]; decide
  have hn3 : 3 < (e_c E).maxLocals := by rw [hml]; decide
  have hn4 : 4 < (e_c E).maxLocals := by rw [hml]; decide
  refine ga_aload_n ok 3 rfl rfl dL_weightBits_0 ?_
  refine ga_iconst ok dL_weightBits_1 ?_
  refine ga_aload_n ok 0 rfl rfl dL_weightBits_2 ?_
  refine ga_iload_n ok 1 rfl rfl dL_weightBits_3 ?_
  refine ga_iload_n ok 2 rfl rfl dL_weightBits_4 ?_
  refine gc_X3_2 ok hG rfl lk_L_47 rfl (c_X3_weightBits ok.fl hG hI hT hgR hxR) (by rw [hR]; exact ⟨by decide, by decide, by decide, by decide⟩) (Nat.le_of_ble_eq_true rfl) dL_weightBits_5 (fun r9 m1 hq => ?_) (fun X9 m1 hq => ?_)
  · obtain ⟨q1, q2, rfl, hm9⟩ := hq
    subst m1
    simp only [Option.toList_some, List.singleton_append]
    have hK : (ask r g (decide (-1 ≤ x ∧ x ≤ 9))) = 0 := ak_0 q1 (by omega)
    refine ga_i2lW ok dL_weightBits_8 ?_
    refine ga_lastore_la ok (ar_lo hG rfl) (by omega) dL_weightBits_9 ?_
    refine ga_goto ok 21 (by decide) dL_weightBits_10 ?_
    refine ga_iconst ok dL_weightBits_21 ?_
    exact ga_ireturn ok en rfl rfl (by exact Nat.le_refl _) (by exact Nat.le_refl _) dL_weightBits_22 ⟨by rw [hK], by rw [hK]; decide, fun _ => upI_at, WEq.rf.u (Or.inl rfl)⟩
  · obtain ⟨hc, hm9⟩ := hq
    subst m1
    rcases hc with ⟨rfl, q1⟩ | ⟨rfl, q1, q2⟩
    · have hK : (ask r g (decide (-1 ≤ x ∧ x ≤ 9))) = 1 := ak_1 q1
      refine gx_catch ok hS htab [] (0, 10, 13, 21) [(0, 10, 17, 13)] rfl (fun _ h => absurd h List.not_mem_nil) rfl (by decide) cl_IO cs_IO (fun q => ?_)
      refine ga_astore ok hn4 dL_weightBits_13 ?_
      refine ga_iconst ok dL_weightBits_15 ?_
      exact ga_ireturn ok en rfl rfl (by exact Nat.le_refl _) (by exact Nat.le_refl _) dL_weightBits_16 ⟨by rw [hK], by rw [hK]; decide, fun h => absurd (hK.symm.trans h) (by decide), WEq.rf⟩
    · have hK : (ask r g (decide (-1 ≤ x ∧ x ≤ 9))) = 2 := ak_2 q1 (by omega)
      refine gx_catch ok hS htab [(0, 10, 13, 21)] (0, 10, 17, 13) [] rfl (List.forall_mem_cons.mpr ⟨⟨by decide, _, cl_IO, by decide +kernel, by decide +kernel, by decide +kernel⟩, fun _ h => absurd h List.not_mem_nil⟩) rfl (by decide) cl_IA cs_IA (fun q => ?_)
      refine ga_astore ok hn4 dL_weightBits_17 ?_
      refine ga_iconst ok dL_weightBits_19 ?_
      exact ga_ireturn ok en rfl rfl (by exact Nat.le_refl _) (by exact Nat.le_refl _) dL_weightBits_20 ⟨by rw [hK], by rw [hK]; decide, fun h => absurd (hK.symm.trans h) (by decide), WEq.rf⟩
theorem lw_L_175 : LinkW RL 175 yL_weightBits cL_weightBits 5 (some .int) [(0, 10, 13, 21), (0, 10, 17, 13)] 4 := ⟨List.forall_mem_cons.mpr ⟨tb_in 571 (by decide +kernel) (by decide +kernel), List.forall_mem_cons.mpr ⟨tb_in 572 (by decide +kernel) (by decide +kernel), List.forall_mem_cons.mpr ⟨tb_in 0 (by decide +kernel) (by decide +kernel), fun _ h => absurd h List.not_mem_nil⟩⟩⟩, tb_in 573 (by decide +kernel) (by decide +kernel), by decide +kernel⟩
set_option maxHeartbeats 4000000 in
set_option maxRecDepth 100000 in
theorem w_counted {G : GG} {l : Launch} (hfl : l.stackTraces = false) (hG : MW G) (hS : SBW G) {m : Mm} {r : Nat → Int} {T : Int} (hI : gtIs m 64 r) (hT : gtOk T r) {g : Int} (hgR : -2147483648 ≤ g ∧ g ≤ 2147483647) {x : Int} (hxR : -2147483648 ≤ x ∧ x ≤ 2147483647) : CW G l yL_counted cL_counted 5 (some .int) [(0, 10, 13, 21), (0, 10, 17, 13)] (RM 9 2 12) [.ref 0, vI g, vI x, .ref 1600] m (fun r' m' => r' = some (vI (ask r g (decide (-1 ≤ x ∧ x ≤ 9)))) ∧ (0 ≤ (ask r g (decide (-1 ≤ x ∧ x ≤ 9))) ∧ (ask r g (decide (-1 ≤ x ∧ x ≤ 9))) ≤ 3) ∧ ((ask r g (decide (-1 ≤ x ∧ x ≤ 9))) = 0 → m'.1 1600 0 = w32 (gcn (rg r g.toNat) (x + 1).toNat)) ∧ WEq m m') (fun _ _ => False) := by
  refine CW.of RL [(0, .ref 0), (1, vI g), (2, vI x), (3, .ref 1600)] hfl (by decide +kernel) rfl rfl (Nat.le_of_ble_eq_true rfl) ?_
  intro E ok en hml hEl htab
  have hR : e_R E = RM 9 2 12 := en.2.2.2
  have hn0 : 0 < (e_c E).maxLocals := by rw [hml]; decide
  have hn1 : 1 < (e_c E).maxLocals := by rw [hml]; decide
  have hn2 : 2 < (e_c E).maxLocals := by rw [hml]; decide
  have hn3 : 3 < (e_c E).maxLocals := by rw [hml]; decide
  have hn4 : 4 < (e_c E).maxLocals := by rw [hml]; decide
  refine ga_aload_n ok 3 rfl rfl dL_counted_0 ?_
  refine ga_iconst ok dL_counted_1 ?_
  refine ga_aload_n ok 0 rfl rfl dL_counted_2 ?_
  refine ga_iload_n ok 1 rfl rfl dL_counted_3 ?_
  refine ga_iload_n ok 2 rfl rfl dL_counted_4 ?_
  refine gc_X3_2 ok hG rfl lk_L_50 rfl (c_X3_counted ok.fl hG hI hT hgR hxR) (by rw [hR]; exact ⟨by decide, by decide, by decide, by decide⟩) (Nat.le_of_ble_eq_true rfl) dL_counted_5 (fun r9 m1 hq => ?_) (fun X9 m1 hq => ?_)
  · obtain ⟨q1, q2, rfl, hm9⟩ := hq
    subst m1
    simp only [Option.toList_some, List.singleton_append]
    have hK : (ask r g (decide (-1 ≤ x ∧ x ≤ 9))) = 0 := ak_0 q1 (by omega)
    refine ga_i2lW ok dL_counted_8 ?_
    refine ga_lastore_la ok (ar_lo hG rfl) (by omega) dL_counted_9 ?_
    refine ga_goto ok 21 (by decide) dL_counted_10 ?_
    refine ga_iconst ok dL_counted_21 ?_
    exact ga_ireturn ok en rfl rfl (by exact Nat.le_refl _) (by exact Nat.le_refl _) dL_counted_22 ⟨by rw [hK], by rw [hK]; decide, fun _ => upI_at, WEq.rf.u (Or.inl rfl)⟩
  · obtain ⟨hc, hm9⟩ := hq
    subst m1
    rcases hc with ⟨rfl, q1⟩ | ⟨rfl, q1, q2⟩
    · have hK : (ask r g (decide (-1 ≤ x ∧ x ≤ 9))) = 1 := ak_1 q1
      refine gx_catch ok hS htab [] (0, 10, 13, 21) [(0, 10, 17, 13)] rfl (fun _ h => absurd h List.not_mem_nil) rfl (by decide) cl_IO cs_IO (fun q => ?_)
      refine ga_astore ok hn4 dL_counted_13 ?_
      refine ga_iconst ok dL_counted_15 ?_
      exact ga_ireturn ok en rfl rfl (by exact Nat.le_refl _) (by exact Nat.le_refl _) dL_counted_16 ⟨by rw [hK], by rw [hK]; decide, fun h => absurd (hK.symm.trans h) (by decide), WEq.rf⟩
    · have hK : (ask r g (decide (-1 ≤ x ∧ x ≤ 9))) = 2 := ak_2 q1 (by omega)
      refine gx_catch ok hS htab [(0, 10, 13, 21)] (0, 10, 17, 13) [] rfl (List.forall_mem_cons.mpr ⟨⟨by decide, _, cl_IO, by decide +kernel, by decide +kernel, by decide +kernel⟩, fun _ h => absurd h List.not_mem_nil⟩) rfl (by decide) cl_IA cs_IA (fun q => ?_)
      refine ga_astore ok hn4 dL_counted_17 ?_
      refine ga_iconst ok dL_counted_19 ?_
      exact ga_ireturn ok en rfl rfl (by exact Nat.le_refl _) (by exact Nat.le_refl _) dL_counted_20 ⟨by rw [hK], by rw [hK]; decide, fun h => absurd (hK.symm.trans h) (by decide), WEq.rf⟩
theorem lw_L_178 : LinkW RL 178 yL_counted cL_counted 5 (some .int) [(0, 10, 13, 21), (0, 10, 17, 13)] 4 := ⟨List.forall_mem_cons.mpr ⟨tb_in 587 (by decide +kernel) (by decide +kernel), List.forall_mem_cons.mpr ⟨tb_in 588 (by decide +kernel) (by decide +kernel), List.forall_mem_cons.mpr ⟨tb_in 0 (by decide +kernel) (by decide +kernel), fun _ h => absurd h List.not_mem_nil⟩⟩⟩, tb_in 589 (by decide +kernel) (by decide +kernel), by decide +kernel⟩
set_option maxHeartbeats 4000000 in
set_option maxRecDepth 100000 in
theorem w_mean {G : GG} {l : Launch} (hfl : l.stackTraces = false) (hG : MW G) (hS : SBW G) {m : Mm} {r : Nat → Int} {T : Int} (hI : gtIs m 64 r) (hT : gtOk T r) (hTT : T ≤ 1000000000) {g : Int} (hgR : -2147483648 ≤ g ∧ g ≤ 2147483647) {x : Int} (hxR : -2147483648 ≤ x ∧ x ≤ 2147483647) : CW G l yL_mean cL_mean 5 (some .int) [(0, 10, 13, 21), (0, 10, 17, 13), (0, 10, 21, 57)] (RM 9 3 18) [.ref 0, vI g, vI x, .ref 1664] m (fun r' m' => r' = some (vI (if ask r g (decide (0 ≤ x ∧ x ≤ 9)) = 0 then (if rg r g.toNat 2 = 0 then (3 : Int) else 0) else ask r g (decide (0 ≤ x ∧ x ≤ 9)))) ∧ (0 ≤ (if ask r g (decide (0 ≤ x ∧ x ≤ 9)) = 0 then (if rg r g.toNat 2 = 0 then (3 : Int) else 0) else ask r g (decide (0 ≤ x ∧ x ≤ 9))) ∧ (if ask r g (decide (0 ≤ x ∧ x ≤ 9)) = 0 then (if rg r g.toNat 2 = 0 then (3 : Int) else 0) else ask r g (decide (0 ≤ x ∧ x ≤ 9))) ≤ 3) ∧ ((if ask r g (decide (0 ≤ x ∧ x ≤ 9)) = 0 then (if rg r g.toNat 2 = 0 then (3 : Int) else 0) else ask r g (decide (0 ≤ x ∧ x ≤ 9))) = 0 → m'.1 1664 0 = ((FP.f2d (FP.fdiv (fbits (rg r g.toNat (17 + x.toNat))) (FP.i2f (Int32.ofInt (rg r g.toNat 2))))).toNat : Int) ∧ vf_n64 (FP.f2d (FP.fdiv (fbits (rg r g.toNat (17 + x.toNat))) (FP.i2f (Int32.ofInt (rg r g.toNat 2)))))) ∧ WEq m m') (fun _ _ => False) := by
  refine CW.of RL [(0, .ref 0), (1, vI g), (2, vI x), (3, .ref 1664)] hfl (by decide +kernel) rfl rfl (Nat.le_of_ble_eq_true rfl) ?_
  intro E ok en hml hEl htab
  have hR : e_R E = RM 9 3 18 := en.2.2.2
  have hn0 : 0 < (e_c E).maxLocals := by rw [hml]; decide
  have hn1 : 1 < (e_c E).maxLocals := by rw [hml]; decide
  have hn2 : 2 < (e_c E).maxLocals := by rw [hml]; decide
  have hn3 : 3 < (e_c E).maxLocals := by rw [hml]; decide
  have hn4 : 4 < (e_c E).maxLocals := by rw [hml]; decide
  refine ga_aload_n ok 3 rfl rfl dL_mean_0 ?_
  refine ga_iconst ok dL_mean_1 ?_
  refine ga_aload_n ok 0 rfl rfl dL_mean_2 ?_
  refine ga_iload_n ok 1 rfl rfl dL_mean_3 ?_
  refine ga_iload_n ok 2 rfl rfl dL_mean_4 ?_
  refine gc_X3_2 ok hG rfl lk_L_53 rfl (c_X3_mean ok.fl hG hI hT hTT hgR hxR) (by rw [hR]; exact ⟨by decide, by decide, by decide, by decide⟩) (Nat.le_of_ble_eq_true rfl) dL_mean_5 (fun r9 m1 hq => ?_) (fun X9 m1 hq => ?_)
  · obtain ⟨q1, q2, q3, rfl, hm9⟩ := hq
    subst m1
    simp only [Option.toList_some, List.singleton_append]
    have hK : (if ask r g (decide (0 ≤ x ∧ x ≤ 9)) = 0 then (if rg r g.toNat 2 = 0 then (3 : Int) else 0) else ask r g (decide (0 ≤ x ∧ x ≤ 9))) = 0 := by rw [ak_0 q1 (by omega), if_pos rfl, if_neg q3]
    refine ga_f2d ok dL_mean_8 (n64_f2d (fdiv_nn ((hT.2.2.2 g.toNat (by omega)).2.2.2.2 x.toNat (by omega)).1 (by have := (hT.2.2.2 g.toNat (by omega)).2.2.1 2 (by omega) (by omega); omega))) ?_
    refine ga_dastore_da ok (ar_ld hG rfl) (by omega) dL_mean_9 ?_
    refine ga_goto ok 25 (by decide) dL_mean_10 ?_
    refine ga_iconst ok dL_mean_25 ?_
    exact ga_ireturn ok en rfl rfl (by exact Nat.le_refl _) (by exact Nat.le_refl _) dL_mean_26 ⟨by rw [hK], by rw [hK]; decide, fun _ => ⟨upI_at, (n64_f2d (fdiv_nn ((hT.2.2.2 g.toNat (by omega)).2.2.2.2 x.toNat (by omega)).1 (by have := (hT.2.2.2 g.toNat (by omega)).2.2.1 2 (by omega) (by omega); omega)))⟩, WEq.rf.u (Or.inr rfl)⟩
  · obtain ⟨hc, hm9⟩ := hq
    subst m1
    rcases hc with ⟨rfl, q1⟩ | ⟨rfl, q1, q2⟩ | ⟨rfl, q1, q2, q3⟩
    · have hK : (if ask r g (decide (0 ≤ x ∧ x ≤ 9)) = 0 then (if rg r g.toNat 2 = 0 then (3 : Int) else 0) else ask r g (decide (0 ≤ x ∧ x ≤ 9))) = 1 := by rw [ak_1 q1, if_neg (by decide)]
      refine gx_catch ok hS htab [] (0, 10, 13, 21) [(0, 10, 17, 13), (0, 10, 21, 57)] rfl (fun _ h => absurd h List.not_mem_nil) rfl (by decide) cl_IO cs_IO (fun q => ?_)
      refine ga_astore ok hn4 dL_mean_13 ?_
      refine ga_iconst ok dL_mean_15 ?_
      exact ga_ireturn ok en rfl rfl (by exact Nat.le_refl _) (by exact Nat.le_refl _) dL_mean_16 ⟨by rw [hK], by rw [hK]; decide, fun h => absurd (hK.symm.trans h) (by decide), WEq.rf⟩
    · have hK : (if ask r g (decide (0 ≤ x ∧ x ≤ 9)) = 0 then (if rg r g.toNat 2 = 0 then (3 : Int) else 0) else ask r g (decide (0 ≤ x ∧ x ≤ 9))) = 2 := by rw [ak_2 q1 (by omega), if_neg (by decide)]
      refine gx_catch ok hS htab [(0, 10, 13, 21)] (0, 10, 17, 13) [(0, 10, 21, 57)] rfl (List.forall_mem_cons.mpr ⟨⟨by decide, _, cl_IO, by decide +kernel, by decide +kernel, by decide +kernel⟩, fun _ h => absurd h List.not_mem_nil⟩) rfl (by decide) cl_IA cs_IA (fun q => ?_)
      refine ga_astore ok hn4 dL_mean_17 ?_
      refine ga_iconst ok dL_mean_19 ?_
      exact ga_ireturn ok en rfl rfl (by exact Nat.le_refl _) (by exact Nat.le_refl _) dL_mean_20 ⟨by rw [hK], by rw [hK]; decide, fun h => absurd (hK.symm.trans h) (by decide), WEq.rf⟩
    · have hK : (if ask r g (decide (0 ≤ x ∧ x ≤ 9)) = 0 then (if rg r g.toNat 2 = 0 then (3 : Int) else 0) else ask r g (decide (0 ≤ x ∧ x ≤ 9))) = 3 := by rw [ak_0 q1 (by omega), if_pos rfl, if_pos q3]
      refine gx_catch ok hS htab [(0, 10, 13, 21), (0, 10, 17, 13)] (0, 10, 21, 57) [] rfl (List.forall_mem_cons.mpr ⟨⟨by decide, _, cl_IO, by decide +kernel, by decide +kernel, by decide +kernel⟩, List.forall_mem_cons.mpr ⟨⟨by decide, _, cl_IA, by decide +kernel, by decide +kernel, by decide +kernel⟩, fun _ h => absurd h List.not_mem_nil⟩⟩) rfl (by decide) cl_AR cs_AR (fun q => ?_)
      refine ga_astore ok hn4 dL_mean_21 ?_
      refine ga_iconst ok dL_mean_23 ?_
      exact ga_ireturn ok en rfl rfl (by exact Nat.le_refl _) (by exact Nat.le_refl _) dL_mean_24 ⟨by rw [hK], by rw [hK]; decide, fun h => absurd (hK.symm.trans h) (by decide), WEq.rf⟩
theorem lw_L_181 : LinkW RL 181 yL_mean cL_mean 5 (some .int) [(0, 10, 13, 21), (0, 10, 17, 13), (0, 10, 21, 57)] 4 := ⟨List.forall_mem_cons.mpr ⟨tb_in 594 (by decide +kernel) (by decide +kernel), List.forall_mem_cons.mpr ⟨tb_in 595 (by decide +kernel) (by decide +kernel), List.forall_mem_cons.mpr ⟨tb_in 0 (by decide +kernel) (by decide +kernel), fun _ h => absurd h List.not_mem_nil⟩⟩⟩, tb_in 596 (by decide +kernel) (by decide +kernel), by decide +kernel⟩
set_option maxHeartbeats 4000000 in
set_option maxRecDepth 100000 in
theorem w_strongest {G : GG} {l : Launch} (hfl : l.stackTraces = false) (hG : MW G) (hS : SBW G) {m : Mm} {r : Nat → Int} {T : Int} (hI : gtIs m 64 r) (hT : gtOk T r) {g : Int} (hgR : -2147483648 ≤ g ∧ g ≤ 2147483647) {p : Int} (hpR : -2147483648 ≤ p ∧ p ≤ 2147483647) : CW G l yL_strongest cL_strongest 5 (some .int) [(0, 10, 13, 21), (0, 10, 17, 62)] (RM 9 2 12) [.ref 0, vI g, vI p, .ref 1600] m (fun r' m' => r' = some (vI (ask r g (decide (0 ≤ p ∧ p ≤ 9)))) ∧ (0 ≤ (ask r g (decide (0 ≤ p ∧ p ≤ 9))) ∧ (ask r g (decide (0 ≤ p ∧ p ≤ 9))) ≤ 3) ∧ ((ask r g (decide (0 ≤ p ∧ p ≤ 9))) = 0 → m'.1 1600 0 = w32 (ffd (fun b => ahd (gcn (rg r g.toNat)) b 10) p 10)) ∧ WEq m m') (fun _ _ => False) := by
  refine CW.of RL [(0, .ref 0), (1, vI g), (2, vI p), (3, .ref 1600)] hfl (by decide +kernel) rfl rfl (Nat.le_of_ble_eq_true rfl) ?_
  intro E ok en hml hEl htab
  have hR : e_R E = RM 9 2 12 := en.2.2.2
  have hn0 : 0 < (e_c E).maxLocals := by rw [hml]; decide
  have hn1 : 1 < (e_c E).maxLocals := by rw [hml]; decide
  have hn2 : 2 < (e_c E).maxLocals := by rw [hml]; decide
  have hn3 : 3 < (e_c E).maxLocals := by rw [hml]; decide
  have hn4 : 4 < (e_c E).maxLocals := by rw [hml]; decide
  refine ga_aload_n ok 3 rfl rfl dL_strongest_0 ?_
  refine ga_iconst ok dL_strongest_1 ?_
  refine ga_aload_n ok 0 rfl rfl dL_strongest_2 ?_
  refine ga_iload_n ok 1 rfl rfl dL_strongest_3 ?_
  refine ga_iload_n ok 2 rfl rfl dL_strongest_4 ?_
  refine gc_X3_2 ok hG rfl lk_L_59 rfl (c_X3_strongest ok.fl hG hI hT hgR hpR) (by rw [hR]; exact ⟨by decide, by decide, by decide, by decide⟩) (Nat.le_of_ble_eq_true rfl) dL_strongest_5 (fun r9 m1 hq => ?_) (fun X9 m1 hq => ?_)
  · obtain ⟨q1, q2, rfl, hm9⟩ := hq
    subst m1
    simp only [Option.toList_some, List.singleton_append]
    have hK : (ask r g (decide (0 ≤ p ∧ p ≤ 9))) = 0 := ak_0 q1 (Classical.byContradiction fun h => q2 (strong_n h))
    refine ga_i2lW ok dL_strongest_8 ?_
    refine ga_lastore_la ok (ar_lo hG rfl) (by omega) dL_strongest_9 ?_
    refine ga_goto ok 21 (by decide) dL_strongest_10 ?_
    refine ga_iconst ok dL_strongest_21 ?_
    exact ga_ireturn ok en rfl rfl (by exact Nat.le_refl _) (by exact Nat.le_refl _) dL_strongest_22 ⟨by rw [hK], by rw [hK]; decide, fun _ => upI_at, WEq.rf.u (Or.inl rfl)⟩
  · obtain ⟨hc, hm9⟩ := hq
    subst m1
    rcases hc with ⟨rfl, q1⟩ | ⟨rfl, q1, q2⟩
    · have hK : (ask r g (decide (0 ≤ p ∧ p ≤ 9))) = 1 := ak_1 q1
      refine gx_catch ok hS htab [] (0, 10, 13, 21) [(0, 10, 17, 62)] rfl (fun _ h => absurd h List.not_mem_nil) rfl (by decide) cl_IO cs_IO (fun q => ?_)
      refine ga_astore ok hn4 dL_strongest_13 ?_
      refine ga_iconst ok dL_strongest_15 ?_
      exact ga_ireturn ok en rfl rfl (by exact Nat.le_refl _) (by exact Nat.le_refl _) dL_strongest_16 ⟨by rw [hK], by rw [hK]; decide, fun h => absurd (hK.symm.trans h) (by decide), WEq.rf⟩
    · have hK : (ask r g (decide (0 ≤ p ∧ p ≤ 9))) = 2 := ak_2 q1 (fun h => (strong_f h).1 q2)
      refine gx_catch ok hS htab [(0, 10, 13, 21)] (0, 10, 17, 62) [] rfl (List.forall_mem_cons.mpr ⟨⟨by decide, _, cl_IO, by decide +kernel, by decide +kernel, by decide +kernel⟩, fun _ h => absurd h List.not_mem_nil⟩) rfl (by decide) cl_NS cs_NS (fun q => ?_)
      refine ga_astore ok hn4 dL_strongest_17 ?_
      refine ga_iconst ok dL_strongest_19 ?_
      exact ga_ireturn ok en rfl rfl (by exact Nat.le_refl _) (by exact Nat.le_refl _) dL_strongest_20 ⟨by rw [hK], by rw [hK]; decide, fun h => absurd (hK.symm.trans h) (by decide), WEq.rf⟩
theorem lw_L_185 : LinkW RL 185 yL_strongest cL_strongest 5 (some .int) [(0, 10, 13, 21), (0, 10, 17, 62)] 4 := ⟨List.forall_mem_cons.mpr ⟨tb_in 618 (by decide +kernel) (by decide +kernel), List.forall_mem_cons.mpr ⟨tb_in 619 (by decide +kernel) (by decide +kernel), List.forall_mem_cons.mpr ⟨tb_in 0 (by decide +kernel) (by decide +kernel), fun _ h => absurd h List.not_mem_nil⟩⟩⟩, tb_in 620 (by decide +kernel) (by decide +kernel), by decide +kernel⟩
set_option maxHeartbeats 4000000 in
set_option maxRecDepth 100000 in
theorem w_closest {G : GG} {l : Launch} (hfl : l.stackTraces = false) (hG : MW G) (hS : SBW G) {m : Mm} {r : Nat → Int} {T : Int} (hI : gtIs m 64 r) (hT : gtOk T r) {g : Int} (hgR : -2147483648 ≤ g ∧ g ≤ 2147483647) : CW G l yL_closest cL_closest 4 (some .int) [(0, 9, 12, 21), (0, 9, 15, 62)] (RM 9 2 12) [.ref 0, vI g, .ref 1600] m (fun r' m' => r' = some (vI (ask r g (decide (0 < r 1)))) ∧ (0 ≤ (ask r g (decide (0 < r 1))) ∧ (ask r g (decide (0 < r 1))) ≤ 3) ∧ ((ask r g (decide (0 < r 1))) = 0 → m'.1 1600 0 = w32 (clo r g.toNat (r 1).toNat : Nat)) ∧ WEq m m') (fun _ _ => False) := by
  refine CW.of RL [(0, .ref 0), (1, vI g), (2, .ref 1600)] hfl (by decide +kernel) rfl rfl (Nat.le_of_ble_eq_true rfl) ?_
  intro E ok en hml hEl htab
  have hR : e_R E = RM 9 2 12 := en.2.2.2
  have hn0 : 0 < (e_c E).maxLocals := by rw [hml]; decide
  have hn1 : 1 < (e_c E).maxLocals := by rw [hml]; decide
  have hn2 : 2 < (e_c E).maxLocals := by rw [hml]; decide
  have hn3 : 3 < (e_c E).maxLocals := by rw [hml]; decide
  refine ga_aload_n ok 2 rfl rfl dL_closest_0 ?_
  refine ga_iconst ok dL_closest_1 ?_
  refine ga_aload_n ok 0 rfl rfl dL_closest_2 ?_
  refine ga_iload_n ok 1 rfl rfl dL_closest_3 ?_
  refine gc_X3_1 ok hG rfl lk_L_64 rfl (c_X3_closest ok.fl hG hI hT hgR) (by rw [hR]; exact ⟨by decide, by decide, by decide, by decide⟩) (Nat.le_of_ble_eq_true rfl) dL_closest_4 (fun r9 m1 hq => ?_) (fun X9 m1 hq => ?_)
  · obtain ⟨q1, q2, rfl, hm9⟩ := hq
    subst m1
    simp only [Option.toList_some, List.singleton_append]
    have hK : (ask r g (decide (0 < r 1))) = 0 := ak_0 q1 (by have := hT.2.1; omega)
    refine ga_i2lW ok dL_closest_7 ?_
    refine ga_lastore_la ok (ar_lo hG rfl) (by omega) dL_closest_8 ?_
    refine ga_goto ok 18 (by decide) dL_closest_9 ?_
    refine ga_iconst ok dL_closest_18 ?_
    exact ga_ireturn ok en rfl rfl (by exact Nat.le_refl _) (by exact Nat.le_refl _) dL_closest_19 ⟨by rw [hK], by rw [hK]; decide, fun _ => upI_at, WEq.rf.u (Or.inl rfl)⟩
  · obtain ⟨hc, hm9⟩ := hq
    subst m1
    rcases hc with ⟨rfl, q1⟩ | ⟨rfl, q1, q2⟩
    · have hK : (ask r g (decide (0 < r 1))) = 1 := ak_1 q1
      refine gx_catch ok hS htab [] (0, 9, 12, 21) [(0, 9, 15, 62)] rfl (fun _ h => absurd h List.not_mem_nil) rfl (by decide) cl_IO cs_IO (fun q => ?_)
      refine ga_astore_n ok 3 rfl hn3 dL_closest_12 ?_
      refine ga_iconst ok dL_closest_13 ?_
      exact ga_ireturn ok en rfl rfl (by exact Nat.le_refl _) (by exact Nat.le_refl _) dL_closest_14 ⟨by rw [hK], by rw [hK]; decide, fun h => absurd (hK.symm.trans h) (by decide), WEq.rf⟩
    · have hK : (ask r g (decide (0 < r 1))) = 2 := ak_2 q1 (by omega)
      refine gx_catch ok hS htab [(0, 9, 12, 21)] (0, 9, 15, 62) [] rfl (List.forall_mem_cons.mpr ⟨⟨by decide, _, cl_IO, by decide +kernel, by decide +kernel, by decide +kernel⟩, fun _ h => absurd h List.not_mem_nil⟩) rfl (by decide) cl_NS cs_NS (fun q => ?_)
      refine ga_astore_n ok 3 rfl hn3 dL_closest_15 ?_
      refine ga_iconst ok dL_closest_16 ?_
      exact ga_ireturn ok en rfl rfl (by exact Nat.le_refl _) (by exact Nat.le_refl _) dL_closest_17 ⟨by rw [hK], by rw [hK]; decide, fun h => absurd (hK.symm.trans h) (by decide), WEq.rf⟩
theorem lw_L_188 : LinkW RL 188 yL_closest cL_closest 4 (some .int) [(0, 9, 12, 21), (0, 9, 15, 62)] 3 := ⟨List.forall_mem_cons.mpr ⟨tb_in 646 (by decide +kernel) (by decide +kernel), List.forall_mem_cons.mpr ⟨tb_in 647 (by decide +kernel) (by decide +kernel), List.forall_mem_cons.mpr ⟨tb_in 0 (by decide +kernel) (by decide +kernel), fun _ h => absurd h List.not_mem_nil⟩⟩⟩, tb_in 648 (by decide +kernel) (by decide +kernel), by decide +kernel⟩
set_option maxHeartbeats 4000000 in
set_option maxRecDepth 100000 in
theorem w_knows {G : GG} {l : Launch} (hfl : l.stackTraces = false) (hG : MW G) (hS : SBW G) {m : Mm} {r : Nat → Int} {T : Int} (hI : gtIs m 64 r) (hT : gtOk T r) {g : Int} (hgR : -2147483648 ≤ g ∧ g ≤ 2147483647) {v : Int} (hvR : -2147483648 ≤ v ∧ v ≤ 2147483647) : CW G l yL_knows cL_knows 5 (some .int) [(0, 10, 13, 21)] (RM 9 2 12) [.ref 0, vI g, vI v, .ref 1664] m (fun r' m' => r' = some (vI (if isG r g = true ∧ isV r v = true then (0 : Int) else 1)) ∧ (0 ≤ (if isG r g = true ∧ isV r v = true then (0 : Int) else 1) ∧ (if isG r g = true ∧ isV r v = true then (0 : Int) else 1) ≤ 3) ∧ ((if isG r g = true ∧ isV r v = true then (0 : Int) else 1) = 0 → m'.1 1664 0 = ((FP.f2d (fq (kno r g.toNat v.toNat))).toNat : Int) ∧ vf_n64 (FP.f2d (fq (kno r g.toNat v.toNat)))) ∧ WEq m m') (fun _ _ => False) := by
  refine CW.of RL [(0, .ref 0), (1, vI g), (2, vI v), (3, .ref 1664)] hfl (by decide +kernel) rfl rfl (Nat.le_of_ble_eq_true rfl) ?_
  intro E ok en hml hEl htab
  have hR : e_R E = RM 9 2 12 := en.2.2.2
  have hn0 : 0 < (e_c E).maxLocals := by rw [hml]; decide
  have hn1 : 1 < (e_c E).maxLocals := by rw [hml]; decide
  have hn2 : 2 < (e_c E).maxLocals := by rw [hml]; decide
  have hn3 : 3 < (e_c E).maxLocals := by rw [hml]; decide
  have hn4 : 4 < (e_c E).maxLocals := by rw [hml]; decide
  refine ga_aload_n ok 3 rfl rfl dL_knows_0 ?_
  refine ga_iconst ok dL_knows_1 ?_
  refine ga_aload_n ok 0 rfl rfl dL_knows_2 ?_
  refine ga_iload_n ok 1 rfl rfl dL_knows_3 ?_
  refine ga_iload_n ok 2 rfl rfl dL_knows_4 ?_
  refine gc_X3_2 ok hG rfl lk_L_67 rfl (c_X3_knows ok.fl hG hI hT hgR hvR) (by rw [hR]; exact ⟨by decide, by decide, by decide, by decide⟩) (Nat.le_of_ble_eq_true rfl) dL_knows_5 (fun r9 m1 hq => ?_) (fun X9 m1 hq => ?_)
  · obtain ⟨q1, q2, rfl, hm9⟩ := hq
    subst m1
    simp only [Option.toList_some, List.singleton_append]
    have hK : (if isG r g = true ∧ isV r v = true then (0 : Int) else 1) = 0 := b2_0 q1 q2
    refine ga_f2d ok dL_knows_8 (n64_f2d (fq_nan (kno_bd (hT.2.2.2 g.toNat (by omega))))) ?_
    refine ga_dastore_da ok (ar_ld hG rfl) (by omega) dL_knows_9 ?_
    refine ga_goto ok 17 (by decide) dL_knows_10 ?_
    refine ga_iconst ok dL_knows_17 ?_
    exact ga_ireturn ok en rfl rfl (by exact Nat.le_refl _) (by exact Nat.le_refl _) dL_knows_18 ⟨by rw [hK], by rw [hK]; decide, fun _ => ⟨upI_at, (n64_f2d (fq_nan (kno_bd (hT.2.2.2 g.toNat (by omega)))))⟩, WEq.rf.u (Or.inr rfl)⟩
  · obtain ⟨hc, hm9⟩ := hq
    subst m1
    rcases hc with ⟨rfl, q1⟩ | ⟨rfl, q1, q2⟩
    · have hK : (if isG r g = true ∧ isV r v = true then (0 : Int) else 1) = 1 := b2_1 (Or.inl q1)
      refine gx_catch ok hS htab [] (0, 10, 13, 21) [] rfl (fun _ h => absurd h List.not_mem_nil) rfl (by decide) cl_IO cs_IO (fun q => ?_)
      refine ga_astore ok hn4 dL_knows_13 ?_
      refine ga_iconst ok dL_knows_15 ?_
      exact ga_ireturn ok en rfl rfl (by exact Nat.le_refl _) (by exact Nat.le_refl _) dL_knows_16 ⟨by rw [hK], by rw [hK]; decide, fun h => absurd (hK.symm.trans h) (by decide), WEq.rf⟩
    · have hK : (if isG r g = true ∧ isV r v = true then (0 : Int) else 1) = 1 := b2_1 (Or.inr q2)
      refine gx_catch ok hS htab [] (0, 10, 13, 21) [] rfl (fun _ h => absurd h List.not_mem_nil) rfl (by decide) cl_IO cs_IO (fun q => ?_)
      refine ga_astore ok hn4 dL_knows_13 ?_
      refine ga_iconst ok dL_knows_15 ?_
      exact ga_ireturn ok en rfl rfl (by exact Nat.le_refl _) (by exact Nat.le_refl _) dL_knows_16 ⟨by rw [hK], by rw [hK]; decide, fun h => absurd (hK.symm.trans h) (by decide), WEq.rf⟩
theorem lw_L_191 : LinkW RL 191 yL_knows cL_knows 5 (some .int) [(0, 10, 13, 21)] 4 := ⟨List.forall_mem_cons.mpr ⟨tb_in 658 (by decide +kernel) (by decide +kernel), List.forall_mem_cons.mpr ⟨tb_in 659 (by decide +kernel) (by decide +kernel), List.forall_mem_cons.mpr ⟨tb_in 0 (by decide +kernel) (by decide +kernel), fun _ h => absurd h List.not_mem_nil⟩⟩⟩, tb_in 660 (by decide +kernel) (by decide +kernel), by decide +kernel⟩
set_option maxHeartbeats 4000000 in
set_option maxRecDepth 100000 in
theorem w_wouldPush {G : GG} {l : Launch} (hfl : l.stackTraces = false) (hG : MW G) (hS : SBW G) {m : Mm} {r : Nat → Int} {T : Int} (hI : gtIs m 64 r) (hT : gtOk T r) {g : Int} (hgR : -2147483648 ≤ g ∧ g ≤ 2147483647) {v : Int} (hvR : -2147483648 ≤ v ∧ v ≤ 2147483647) : CW G l yL_wouldPush cL_wouldPush 5 (some .int) [(0, 17, 20, 21)] (RM 9 2 12) [.ref 0, vI g, vI v, .ref 1600] m (fun r' m' => r' = some (vI (if isG r g = true ∧ isV r v = true then (0 : Int) else 1)) ∧ (0 ≤ (if isG r g = true ∧ isV r v = true then (0 : Int) else 1) ∧ (if isG r g = true ∧ isV r v = true then (0 : Int) else 1) ≤ 3) ∧ ((if isG r g = true ∧ isV r v = true then (0 : Int) else 1) = 0 → m'.1 1600 0 = w32 (b2i (psS (rg r g.toNat) (vX r v.toNat) (vF r v.toNat)))) ∧ WEq m m') (fun _ _ => False) := by
  refine CW.of RL [(0, .ref 0), (1, vI g), (2, vI v), (3, .ref 1600)] hfl (by decide +kernel) rfl rfl (Nat.le_of_ble_eq_true rfl) ?_
  intro E ok en hml hEl htab
  have hR : e_R E = RM 9 2 12 := en.2.2.2
  have hn0 : 0 < (e_c E).maxLocals := by rw [hml]; decide
  have hn1 : 1 < (e_c E).maxLocals := by rw [hml]; decide
  have hn2 : 2 < (e_c E).maxLocals := by rw [hml]; decide
  have hn3 : 3 < (e_c E).maxLocals := by rw [hml]; decide
  have hn4 : 4 < (e_c E).maxLocals := by rw [hml]; decide
  refine ga_aload_n ok 3 rfl rfl dL_wouldPush_0 ?_
  refine ga_iconst ok dL_wouldPush_1 ?_
  refine ga_aload_n ok 0 rfl rfl dL_wouldPush_2 ?_
  refine ga_iload_n ok 1 rfl rfl dL_wouldPush_3 ?_
  refine ga_iload_n ok 2 rfl rfl dL_wouldPush_4 ?_
  refine gc_X3_2 ok hG rfl lk_L_82 rfl (c_X3_wouldPush ok.fl hG hI hT hgR hvR) (by rw [hR]; exact ⟨by decide, by decide, by decide, by decide⟩) (Nat.le_of_ble_eq_true rfl) dL_wouldPush_5 (fun r9 m1 hq => ?_) (fun X9 m1 hq => ?_)
  · obtain ⟨q1, q2, rfl, hm9⟩ := hq
    subst m1
    simp only [Option.toList_some, List.singleton_append]
    have hK : (if isG r g = true ∧ isV r v = true then (0 : Int) else 1) = 0 := b2_0 q1 q2
    refine ga_if_eq ok 15 (by decide) (b2i_rng _) dL_wouldPush_8 (fun c_8 => ?_) (fun c_8 => ?_)
    · have f_8 := b2i_0.mp c_8
      refine ga_lconst (z := 0) ok dL_wouldPush_15 (by decide) ?_
      refine ga_lastore_la ok (ar_lo hG rfl) (by omega) dL_wouldPush_16 ?_
      refine ga_goto ok 24 (by decide) dL_wouldPush_17 ?_
      refine ga_iconst ok dL_wouldPush_24 ?_
      exact ga_ireturn ok en rfl rfl (by exact Nat.le_refl _) (by exact Nat.le_refl _) dL_wouldPush_25 ⟨by rw [hK], by rw [hK]; decide, fun _ => upI_at.trans (by rw [f_8]; decide), WEq.rf.u (Or.inl rfl)⟩
    · have f_8 := b2i_n0.mp c_8
      refine ga_lconst (z := 1) ok dL_wouldPush_11 (by decide) ?_
      refine ga_goto ok 16 (by decide) dL_wouldPush_12 ?_
      refine ga_lastore_la ok (ar_lo hG rfl) (by omega) dL_wouldPush_16 ?_
      refine ga_goto ok 24 (by decide) dL_wouldPush_17 ?_
      refine ga_iconst ok dL_wouldPush_24 ?_
      exact ga_ireturn ok en rfl rfl (by exact Nat.le_refl _) (by exact Nat.le_refl _) dL_wouldPush_25 ⟨by rw [hK], by rw [hK]; decide, fun _ => upI_at.trans (by rw [f_8]; decide), WEq.rf.u (Or.inl rfl)⟩
  · obtain ⟨hc, hm9⟩ := hq
    subst m1
    rcases hc with ⟨rfl, q1⟩ | ⟨rfl, q1, q2⟩
    · have hK : (if isG r g = true ∧ isV r v = true then (0 : Int) else 1) = 1 := b2_1 (Or.inl q1)
      refine gx_catch ok hS htab [] (0, 17, 20, 21) [] rfl (fun _ h => absurd h List.not_mem_nil) rfl (by decide) cl_IO cs_IO (fun q => ?_)
      refine ga_astore ok hn4 dL_wouldPush_20 ?_
      refine ga_iconst ok dL_wouldPush_22 ?_
      exact ga_ireturn ok en rfl rfl (by exact Nat.le_refl _) (by exact Nat.le_refl _) dL_wouldPush_23 ⟨by rw [hK], by rw [hK]; decide, fun h => absurd (hK.symm.trans h) (by decide), WEq.rf⟩
    · have hK : (if isG r g = true ∧ isV r v = true then (0 : Int) else 1) = 1 := b2_1 (Or.inr q2)
      refine gx_catch ok hS htab [] (0, 17, 20, 21) [] rfl (fun _ h => absurd h List.not_mem_nil) rfl (by decide) cl_IO cs_IO (fun q => ?_)
      refine ga_astore ok hn4 dL_wouldPush_20 ?_
      refine ga_iconst ok dL_wouldPush_22 ?_
      exact ga_ireturn ok en rfl rfl (by exact Nat.le_refl _) (by exact Nat.le_refl _) dL_wouldPush_23 ⟨by rw [hK], by rw [hK]; decide, fun h => absurd (hK.symm.trans h) (by decide), WEq.rf⟩
theorem lw_L_206 : LinkW RL 206 yL_wouldPush cL_wouldPush 5 (some .int) [(0, 17, 20, 21)] 4 := ⟨List.forall_mem_cons.mpr ⟨tb_in 736 (by decide +kernel) (by decide +kernel), List.forall_mem_cons.mpr ⟨tb_in 737 (by decide +kernel) (by decide +kernel), List.forall_mem_cons.mpr ⟨tb_in 0 (by decide +kernel) (by decide +kernel), fun _ h => absurd h List.not_mem_nil⟩⟩⟩, tb_in 738 (by decide +kernel) (by decide +kernel), by decide +kernel⟩
set_option maxHeartbeats 4000000 in
set_option maxRecDepth 100000 in
theorem w_votes {G : GG} {l : Launch} (hfl : l.stackTraces = false) (hG : MW G) (hS : SBW G) {m : Mm} {r : Nat → Int} {T : Int} (hI : gtIs m 64 r) (hT : gtOk T r) {x : Int} (hxR : -2147483648 ≤ x ∧ x ≤ 2147483647) : CW G l yL_votes cL_votes 4 (some .int) [(0, 9, 12, 13)] (RM 9 1 6) [.ref 0, vI x, .ref 1600] m (fun r' m' => r' = some (vI (if isS x = true then (0 : Int) else 1)) ∧ (0 ≤ (if isS x = true then (0 : Int) else 1) ∧ (if isS x = true then (0 : Int) else 1) ≤ 3) ∧ ((if isS x = true then (0 : Int) else 1) = 0 → m'.1 1600 0 = w32 (vts r x)) ∧ WEq m m') (fun _ _ => False) := by
  refine CW.of RL [(0, .ref 0), (1, vI x), (2, .ref 1600)] hfl (by decide +kernel) rfl rfl (Nat.le_of_ble_eq_true rfl) ?_
  intro E ok en hml hEl htab
  have hR : e_R E = RM 9 1 6 := en.2.2.2
  have hn0 : 0 < (e_c E).maxLocals := by rw [hml]; decide
  have hn1 : 1 < (e_c E).maxLocals := by rw [hml]; decide
  have hn2 : 2 < (e_c E).maxLocals := by rw [hml]; decide
  have hn3 : 3 < (e_c E).maxLocals := by rw [hml]; decide
  refine ga_aload_n ok 2 rfl rfl dL_votes_0 ?_
  refine ga_iconst ok dL_votes_1 ?_
  refine ga_aload_n ok 0 rfl rfl dL_votes_2 ?_
  refine ga_iload_n ok 1 rfl rfl dL_votes_3 ?_
  refine gc_X3_1 ok hG rfl lk_L_85 rfl (c_X3_votes ok.fl hG hI hT hxR) (by rw [hR]; exact ⟨by decide, by decide, by decide, by decide⟩) (Nat.le_of_ble_eq_true rfl) dL_votes_4 (fun r9 m1 hq => ?_) (fun X9 m1 hq => ?_)
  · obtain ⟨q1, rfl, hm9⟩ := hq
    subst m1
    simp only [Option.toList_some, List.singleton_append]
    have hK : (if isS x = true then (0 : Int) else 1) = 0 := bb_0 q1
    refine ga_i2lW ok dL_votes_7 ?_
    refine ga_lastore_la ok (ar_lo hG rfl) (by omega) dL_votes_8 ?_
    refine ga_goto ok 15 (by decide) dL_votes_9 ?_
    refine ga_iconst ok dL_votes_15 ?_
    exact ga_ireturn ok en rfl rfl (by exact Nat.le_refl _) (by exact Nat.le_refl _) dL_votes_16 ⟨by rw [hK], by rw [hK]; decide, fun _ => upI_at, WEq.rf.u (Or.inl rfl)⟩
  · obtain ⟨hc, hm9⟩ := hq
    subst m1
    obtain ⟨rfl, q1⟩ := hc
    have hK : (if isS x = true then (0 : Int) else 1) = 1 := bb_1 q1
    refine gx_catch ok hS htab [] (0, 9, 12, 13) [] rfl (fun _ h => absurd h List.not_mem_nil) rfl (by decide) cl_IA cs_IA (fun q => ?_)
    refine ga_astore_n ok 3 rfl hn3 dL_votes_12 ?_
    refine ga_iconst ok dL_votes_13 ?_
    exact ga_ireturn ok en rfl rfl (by exact Nat.le_refl _) (by exact Nat.le_refl _) dL_votes_14 ⟨by rw [hK], by rw [hK]; decide, fun h => absurd (hK.symm.trans h) (by decide), WEq.rf⟩
theorem lw_L_209 : LinkW RL 209 yL_votes cL_votes 4 (some .int) [(0, 9, 12, 13)] 3 := ⟨List.forall_mem_cons.mpr ⟨tb_in 744 (by decide +kernel) (by decide +kernel), List.forall_mem_cons.mpr ⟨tb_in 745 (by decide +kernel) (by decide +kernel), List.forall_mem_cons.mpr ⟨tb_in 0 (by decide +kernel) (by decide +kernel), fun _ h => absurd h List.not_mem_nil⟩⟩⟩, tb_in 746 (by decide +kernel) (by decide +kernel), by decide +kernel⟩
set_option maxHeartbeats 4000000 in
set_option maxRecDepth 100000 in
theorem w_isVotedIn {G : GG} {l : Launch} (hfl : l.stackTraces = false) (hG : MW G) (hS : SBW G) {m : Mm} {r : Nat → Int} {T : Int} (hI : gtIs m 64 r) (hT : gtOk T r) {x : Int} (hxR : -2147483648 ≤ x ∧ x ≤ 2147483647) : CW G l yL_isVotedIn cL_isVotedIn 4 (some .int) [(0, 16, 19, 13)] (RM 9 1 6) [.ref 0, vI x, .ref 1600] m (fun r' m' => r' = some (vI (if isS x = true then (0 : Int) else 1)) ∧ (0 ≤ (if isS x = true then (0 : Int) else 1) ∧ (if isS x = true then (0 : Int) else 1) ≤ 3) ∧ ((if isS x = true then (0 : Int) else 1) = 0 → m'.1 1600 0 = w32 (b2i (vin r x))) ∧ WEq m m') (fun _ _ => False) := by
  refine CW.of RL [(0, .ref 0), (1, vI x), (2, .ref 1600)] hfl (by decide +kernel) rfl rfl (Nat.le_of_ble_eq_true rfl) ?_
  intro E ok en hml hEl htab
  have hR : e_R E = RM 9 1 6 := en.2.2.2
  have hn0 : 0 < (e_c E).maxLocals := by rw [hml]; decide
  have hn1 : 1 < (e_c E).maxLocals := by rw [hml]; decide
  have hn2 : 2 < (e_c E).maxLocals := by rw [hml]; decide
  have hn3 : 3 < (e_c E).maxLocals := by rw [hml]; decide
  refine ga_aload_n ok 2 rfl rfl dL_isVotedIn_0 ?_
  refine ga_iconst ok dL_isVotedIn_1 ?_
  refine ga_aload_n ok 0 rfl rfl dL_isVotedIn_2 ?_
  refine ga_iload_n ok 1 rfl rfl dL_isVotedIn_3 ?_
  refine gc_X3_1 ok hG rfl lk_L_88 rfl (c_X3_isVotedIn ok.fl hG hI hT hxR) (by rw [hR]; exact ⟨by decide, by decide, by decide, by decide⟩) (Nat.le_of_ble_eq_true rfl) dL_isVotedIn_4 (fun r9 m1 hq => ?_) (fun X9 m1 hq => ?_)
  · obtain ⟨q1, rfl, hm9⟩ := hq
    subst m1
    simp only [Option.toList_some, List.singleton_append]
    have hK : (if isS x = true then (0 : Int) else 1) = 0 := bb_0 q1
    refine ga_if_eq ok 14 (by decide) (b2i_rng _) dL_isVotedIn_7 (fun c_7 => ?_) (fun c_7 => ?_)
    · have f_7 := b2i_0.mp c_7
      refine ga_lconst (z := 0) ok dL_isVotedIn_14 (by decide) ?_
      refine ga_lastore_la ok (ar_lo hG rfl) (by omega) dL_isVotedIn_15 ?_
      refine ga_goto ok 22 (by decide) dL_isVotedIn_16 ?_
      refine ga_iconst ok dL_isVotedIn_22 ?_
      exact ga_ireturn ok en rfl rfl (by exact Nat.le_refl _) (by exact Nat.le_refl _) dL_isVotedIn_23 ⟨by rw [hK], by rw [hK]; decide, fun _ => upI_at.trans (by rw [f_7]; decide), WEq.rf.u (Or.inl rfl)⟩
    · have f_7 := b2i_n0.mp c_7
      refine ga_lconst (z := 1) ok dL_isVotedIn_10 (by decide) ?_
      refine ga_goto ok 15 (by decide) dL_isVotedIn_11 ?_
      refine ga_lastore_la ok (ar_lo hG rfl) (by omega) dL_isVotedIn_15 ?_
      refine ga_goto ok 22 (by decide) dL_isVotedIn_16 ?_
      refine ga_iconst ok dL_isVotedIn_22 ?_
      exact ga_ireturn ok en rfl rfl (by exact Nat.le_refl _) (by exact Nat.le_refl _) dL_isVotedIn_23 ⟨by rw [hK], by rw [hK]; decide, fun _ => upI_at.trans (by rw [f_7]; decide), WEq.rf.u (Or.inl rfl)⟩
  · obtain ⟨hc, hm9⟩ := hq
    subst m1
    obtain ⟨rfl, q1⟩ := hc
    have hK : (if isS x = true then (0 : Int) else 1) = 1 := bb_1 q1
    refine gx_catch ok hS htab [] (0, 16, 19, 13) [] rfl (fun _ h => absurd h List.not_mem_nil) rfl (by decide) cl_IA cs_IA (fun q => ?_)
    refine ga_astore_n ok 3 rfl hn3 dL_isVotedIn_19 ?_
    refine ga_iconst ok dL_isVotedIn_20 ?_
    exact ga_ireturn ok en rfl rfl (by exact Nat.le_refl _) (by exact Nat.le_refl _) dL_isVotedIn_21 ⟨by rw [hK], by rw [hK]; decide, fun h => absurd (hK.symm.trans h) (by decide), WEq.rf⟩
theorem lw_L_212 : LinkW RL 212 yL_isVotedIn cL_isVotedIn 4 (some .int) [(0, 16, 19, 13)] 3 := ⟨List.forall_mem_cons.mpr ⟨tb_in 752 (by decide +kernel) (by decide +kernel), List.forall_mem_cons.mpr ⟨tb_in 753 (by decide +kernel) (by decide +kernel), List.forall_mem_cons.mpr ⟨tb_in 0 (by decide +kernel) (by decide +kernel), fun _ h => absurd h List.not_mem_nil⟩⟩⟩, tb_in 754 (by decide +kernel) (by decide +kernel), by decide +kernel⟩
set_option maxHeartbeats 4000000 in
set_option maxRecDepth 100000 in
theorem w_agree {G : GG} {l : Launch} (hfl : l.stackTraces = false) (hG : MW G) (hS : SBW G) {m : Mm} {r : Nat → Int} {T : Int} (hI : gtIs m 64 r) (hT : gtOk T r) {g : Int} (hgR : -2147483648 ≤ g ∧ g ≤ 2147483647) {h : Int} (hhR : -2147483648 ≤ h ∧ h ≤ 2147483647) : CW G l yL_agree cL_agree 5 (some .int) [(0, 10, 13, 21)] (RM 9 2 12) [.ref 0, vI g, vI h, .ref 1600] m (fun r' m' => r' = some (vI (if isG r g = true ∧ isG r h = true then (0 : Int) else 1)) ∧ (0 ≤ (if isG r g = true ∧ isG r h = true then (0 : Int) else 1) ∧ (if isG r g = true ∧ isG r h = true then (0 : Int) else 1) ≤ 3) ∧ ((if isG r g = true ∧ isG r h = true then (0 : Int) else 1) = 0 → m'.1 1600 0 = w32 (agr r g.toNat h.toNat)) ∧ WEq m m') (fun _ _ => False) := by
  refine CW.of RL [(0, .ref 0), (1, vI g), (2, vI h), (3, .ref 1600)] hfl (by decide +kernel) rfl rfl (Nat.le_of_ble_eq_true rfl) ?_
  intro E ok en hml hEl htab
  have hR : e_R E = RM 9 2 12 := en.2.2.2
  have hn0 : 0 < (e_c E).maxLocals := by rw [hml]; decide
  have hn1 : 1 < (e_c E).maxLocals := by rw [hml]; decide
  have hn2 : 2 < (e_c E).maxLocals := by rw [hml]; decide
  have hn3 : 3 < (e_c E).maxLocals := by rw [hml]; decide
  have hn4 : 4 < (e_c E).maxLocals := by rw [hml]; decide
  refine ga_aload_n ok 3 rfl rfl dL_agree_0 ?_
  refine ga_iconst ok dL_agree_1 ?_
  refine ga_aload_n ok 0 rfl rfl dL_agree_2 ?_
  refine ga_iload_n ok 1 rfl rfl dL_agree_3 ?_
  refine ga_iload_n ok 2 rfl rfl dL_agree_4 ?_
  refine gc_X3_2 ok hG rfl lk_L_92 rfl (c_X3_agree ok.fl hG hI hT hgR hhR) (by rw [hR]; exact ⟨by decide, by decide, by decide, by decide⟩) (Nat.le_of_ble_eq_true rfl) dL_agree_5 (fun r9 m1 hq => ?_) (fun X9 m1 hq => ?_)
  · obtain ⟨q1, q2, rfl, hm9⟩ := hq
    subst m1
    simp only [Option.toList_some, List.singleton_append]
    have hK : (if isG r g = true ∧ isG r h = true then (0 : Int) else 1) = 0 := b2_0 q1 q2
    refine ga_i2lW ok dL_agree_8 ?_
    refine ga_lastore_la ok (ar_lo hG rfl) (by omega) dL_agree_9 ?_
    refine ga_goto ok 17 (by decide) dL_agree_10 ?_
    refine ga_iconst ok dL_agree_17 ?_
    exact ga_ireturn ok en rfl rfl (by exact Nat.le_refl _) (by exact Nat.le_refl _) dL_agree_18 ⟨by rw [hK], by rw [hK]; decide, fun _ => upI_at, WEq.rf.u (Or.inl rfl)⟩
  · obtain ⟨hc, hm9⟩ := hq
    subst m1
    rcases hc with ⟨rfl, q1⟩ | ⟨rfl, q1, q2⟩
    · have hK : (if isG r g = true ∧ isG r h = true then (0 : Int) else 1) = 1 := b2_1 (Or.inl q1)
      refine gx_catch ok hS htab [] (0, 10, 13, 21) [] rfl (fun _ h => absurd h List.not_mem_nil) rfl (by decide) cl_IO cs_IO (fun q => ?_)
      refine ga_astore ok hn4 dL_agree_13 ?_
      refine ga_iconst ok dL_agree_15 ?_
      exact ga_ireturn ok en rfl rfl (by exact Nat.le_refl _) (by exact Nat.le_refl _) dL_agree_16 ⟨by rw [hK], by rw [hK]; decide, fun h => absurd (hK.symm.trans h) (by decide), WEq.rf⟩
    · have hK : (if isG r g = true ∧ isG r h = true then (0 : Int) else 1) = 1 := b2_1 (Or.inr q2)
      refine gx_catch ok hS htab [] (0, 10, 13, 21) [] rfl (fun _ h => absurd h List.not_mem_nil) rfl (by decide) cl_IO cs_IO (fun q => ?_)
      refine ga_astore ok hn4 dL_agree_13 ?_
      refine ga_iconst ok dL_agree_15 ?_
      exact ga_ireturn ok en rfl rfl (by exact Nat.le_refl _) (by exact Nat.le_refl _) dL_agree_16 ⟨by rw [hK], by rw [hK]; decide, fun h => absurd (hK.symm.trans h) (by decide), WEq.rf⟩
theorem lw_L_215 : LinkW RL 215 yL_agree cL_agree 5 (some .int) [(0, 10, 13, 21)] 4 := ⟨List.forall_mem_cons.mpr ⟨tb_in 759 (by decide +kernel) (by decide +kernel), List.forall_mem_cons.mpr ⟨tb_in 760 (by decide +kernel) (by decide +kernel), List.forall_mem_cons.mpr ⟨tb_in 0 (by decide +kernel) (by decide +kernel), fun _ h => absurd h List.not_mem_nil⟩⟩⟩, tb_in 761 (by decide +kernel) (by decide +kernel), by decide +kernel⟩
set_option maxHeartbeats 4000000 in
set_option maxRecDepth 100000 in
theorem w_ranked {G : GG} {l : Launch} (hfl : l.stackTraces = false) (hG : MW G) (hS : SBW G) {m : Mm} {r : Nat → Int} {T : Int} (hI : gtIs m 64 r) (hT : gtOk T r) (hTT : T ≤ 1000000000) {p : Int} (hpR : -2147483648 ≤ p ∧ p ≤ 2147483647) : CW G l yL_ranked cL_ranked 4 (some .int) [(0, 9, 12, 62)] (RM 9 1 6) [.ref 0, vI p, .ref 1600] m (fun r' m' => r' = some (vI (if isG r p = true then (0 : Int) else 1)) ∧ (0 ≤ (if isG r p = true then (0 : Int) else 1) ∧ (if isG r p = true then (0 : Int) else 1) ≤ 3) ∧ ((if isG r p = true then (0 : Int) else 1) = 0 → m'.1 1600 0 = w32 (ffd (fun g => aheadOf r g) p (r 0).toNat)) ∧ WEq m m') (fun _ _ => False) := by
  refine CW.of RL [(0, .ref 0), (1, vI p), (2, .ref 1600)] hfl (by decide +kernel) rfl rfl (Nat.le_of_ble_eq_true rfl) ?_
  intro E ok en hml hEl htab
  have hR : e_R E = RM 9 1 6 := en.2.2.2
  have hn0 : 0 < (e_c E).maxLocals := by rw [hml]; decide
  have hn1 : 1 < (e_c E).maxLocals := by rw [hml]; decide
  have hn2 : 2 < (e_c E).maxLocals := by rw [hml]; decide
  have hn3 : 3 < (e_c E).maxLocals := by rw [hml]; decide
  refine ga_aload_n ok 2 rfl rfl dL_ranked_0 ?_
  refine ga_iconst ok dL_ranked_1 ?_
  refine ga_aload_n ok 0 rfl rfl dL_ranked_2 ?_
  refine ga_iload_n ok 1 rfl rfl dL_ranked_3 ?_
  refine gc_X3_1 ok hG rfl lk_L_95 rfl (c_X3_ranked ok.fl hG hI hT hTT hpR) (by rw [hR]; exact ⟨by decide, by decide, by decide, by decide⟩) (Nat.le_of_ble_eq_true rfl) dL_ranked_4 (fun r9 m1 hq => ?_) (fun X9 m1 hq => ?_)
  · obtain ⟨q1, rfl, hm9⟩ := hq
    subst m1
    simp only [Option.toList_some, List.singleton_append]
    have hK : (if isG r p = true then (0 : Int) else 1) = 0 := bb_0 (Classical.byContradiction fun h => q1 (rank_n h hT.1.1))
    refine ga_i2lW ok dL_ranked_7 ?_
    refine ga_lastore_la ok (ar_lo hG rfl) (by omega) dL_ranked_8 ?_
    refine ga_goto ok 15 (by decide) dL_ranked_9 ?_
    refine ga_iconst ok dL_ranked_15 ?_
    exact ga_ireturn ok en rfl rfl (by exact Nat.le_refl _) (by exact Nat.le_refl _) dL_ranked_16 ⟨by rw [hK], by rw [hK]; decide, fun _ => upI_at, WEq.rf.u (Or.inl rfl)⟩
  · obtain ⟨hc, hm9⟩ := hq
    subst m1
    obtain ⟨rfl, q1⟩ := hc
    have hK : (if isG r p = true then (0 : Int) else 1) = 1 := bb_1 (fun h => (rank_f h).1 q1)
    refine gx_catch ok hS htab [] (0, 9, 12, 62) [] rfl (fun _ h => absurd h List.not_mem_nil) rfl (by decide) cl_NS cs_NS (fun q => ?_)
    refine ga_astore_n ok 3 rfl hn3 dL_ranked_12 ?_
    refine ga_iconst ok dL_ranked_13 ?_
    exact ga_ireturn ok en rfl rfl (by exact Nat.le_refl _) (by exact Nat.le_refl _) dL_ranked_14 ⟨by rw [hK], by rw [hK]; decide, fun h => absurd (hK.symm.trans h) (by decide), WEq.rf⟩
theorem lw_L_222 : LinkW RL 222 yL_ranked cL_ranked 4 (some .int) [(0, 9, 12, 62)] 3 := ⟨List.forall_mem_cons.mpr ⟨tb_in 766 (by decide +kernel) (by decide +kernel), List.forall_mem_cons.mpr ⟨tb_in 767 (by decide +kernel) (by decide +kernel), List.forall_mem_cons.mpr ⟨tb_in 0 (by decide +kernel) (by decide +kernel), fun _ h => absurd h List.not_mem_nil⟩⟩⟩, tb_in 768 (by decide +kernel) (by decide +kernel), by decide +kernel⟩
set_option maxHeartbeats 4000000 in
set_option maxRecDepth 100000 in
theorem w_account {G : GG} {l : Launch} (hfl : l.stackTraces = false) (hG : MW G) (hS : SBW G) {m : Mm} {r : Nat → Int} {T : Int} (hI : gtIs m 64 r) (hT : gtOk T r) {what : Int} (hwhatR : -2147483648 ≤ what ∧ what ≤ 2147483647) : CW G l yL_account cL_account 4 (some .int) [(0, 9, 12, 13)] (RM 9 1 6) [.ref 0, vI what, .ref 1600] m (fun r' m' => r' = some (vI (if decide (0 ≤ what ∧ what ≤ 8) = true then (0 : Int) else 1)) ∧ (0 ≤ (if decide (0 ≤ what ∧ what ≤ 8) = true then (0 : Int) else 1) ∧ (if decide (0 ≤ what ∧ what ≤ 8) = true then (0 : Int) else 1) ≤ 3) ∧ ((if decide (0 ≤ what ∧ what ≤ 8) = true then (0 : Int) else 1) = 0 → m'.1 1600 0 = w32 (if what = 0 then r 0 else if what = 1 then r 1 else if what = 2 then cof r 1 else if what = 3 then cof r 0 else if what = 4 then zs (fun g => rg r g 2) (r 0).toNat else if what = 5 then zs (fun g => rg r g 3) (r 0).toNat else if what = 6 then zs (fun g => ofG r g) (r 0).toNat else if what = 7 then m.1 640 1 else m.1 0 6)) ∧ WEq m m') (fun _ _ => False) := by
  refine CW.of RL [(0, .ref 0), (1, vI what), (2, .ref 1600)] hfl (by decide +kernel) rfl rfl (Nat.le_of_ble_eq_true rfl) ?_
  intro E ok en hml hEl htab
  have hR : e_R E = RM 9 1 6 := en.2.2.2
  have hn0 : 0 < (e_c E).maxLocals := by rw [hml]; decide
  have hn1 : 1 < (e_c E).maxLocals := by rw [hml]; decide
  have hn2 : 2 < (e_c E).maxLocals := by rw [hml]; decide
  have hn3 : 3 < (e_c E).maxLocals := by rw [hml]; decide
  refine ga_aload_n ok 2 rfl rfl dL_account_0 ?_
  refine ga_iconst ok dL_account_1 ?_
  refine ga_aload_n ok 0 rfl rfl dL_account_2 ?_
  refine ga_iload_n ok 1 rfl rfl dL_account_3 ?_
  refine gc_X3_1 ok hG rfl lk_L_122 rfl (c_X3_account ok.fl hG hI hT hwhatR) (by rw [hR]; exact ⟨by decide, by decide, by decide, by decide⟩) (Nat.le_of_ble_eq_true rfl) dL_account_4 (fun r9 m1 hq => ?_) (fun X9 m1 hq => ?_)
  · obtain ⟨q1, rfl, hm9⟩ := hq
    subst m1
    simp only [Option.toList_some, List.singleton_append]
    have hK : (if decide (0 ≤ what ∧ what ≤ 8) = true then (0 : Int) else 1) = 0 := bb_0 q1
    refine ga_i2lW ok dL_account_7 ?_
    refine ga_lastore_la ok (ar_lo hG rfl) (by omega) dL_account_8 ?_
    refine ga_goto ok 15 (by decide) dL_account_9 ?_
    refine ga_iconst ok dL_account_15 ?_
    exact ga_ireturn ok en rfl rfl (by exact Nat.le_refl _) (by exact Nat.le_refl _) dL_account_16 ⟨by rw [hK], by rw [hK]; decide, fun _ => upI_at, WEq.rf.u (Or.inl rfl)⟩
  · obtain ⟨hc, hm9⟩ := hq
    subst m1
    obtain ⟨rfl, q1⟩ := hc
    have hK : (if decide (0 ≤ what ∧ what ≤ 8) = true then (0 : Int) else 1) = 1 := bb_1 q1
    refine gx_catch ok hS htab [] (0, 9, 12, 13) [] rfl (fun _ h => absurd h List.not_mem_nil) rfl (by decide) cl_IA cs_IA (fun q => ?_)
    refine ga_astore_n ok 3 rfl hn3 dL_account_12 ?_
    refine ga_iconst ok dL_account_13 ?_
    exact ga_ireturn ok en rfl rfl (by exact Nat.le_refl _) (by exact Nat.le_refl _) dL_account_14 ⟨by rw [hK], by rw [hK]; decide, fun h => absurd (hK.symm.trans h) (by decide), WEq.rf⟩
theorem lw_L_250 : LinkW RL 250 yL_account cL_account 4 (some .int) [(0, 9, 12, 13)] 3 := ⟨List.forall_mem_cons.mpr ⟨tb_in 1187 (by decide +kernel) (by decide +kernel), List.forall_mem_cons.mpr ⟨tb_in 1188 (by decide +kernel) (by decide +kernel), List.forall_mem_cons.mpr ⟨tb_in 0 (by decide +kernel) (by decide +kernel), fun _ h => absurd h List.not_mem_nil⟩⟩⟩, tb_in 1189 (by decide +kernel) (by decide +kernel), by decide +kernel⟩
set_option maxHeartbeats 4000000 in
set_option maxRecDepth 100000 in
theorem w_refusal {G : GG} {l : Launch} (hfl : l.stackTraces = false) (hG : MW G) (hS : SBW G) {m : Mm} (hrs : -2147483648 ≤ m.1 0 11 ∧ m.1 0 11 ≤ 2147483647) {fr : Int} (hfr : fr = 0 ∨ fr = 1) : CW G l yL_refusal cL_refusal 4 (some .int) [(0, 9, 12, 62)] (RM 9 1 6) [.ref 0, vI fr, .ref 1600] m (fun r' m' => r' = some (vI (if m.1 0 11 = 0 then (1 : Int) else 0)) ∧ (0 ≤ (if m.1 0 11 = 0 then (1 : Int) else 0) ∧ (if m.1 0 11 = 0 then (1 : Int) else 0) ≤ 3) ∧ ((if m.1 0 11 = 0 then (1 : Int) else 0) = 0 → m'.1 1600 0 = w32 (if fr = 1 then m.1 0 12 else m.1 0 11)) ∧ WEq m m') (fun _ _ => False) := by
  refine CW.of RL [(0, .ref 0), (1, vI fr), (2, .ref 1600)] hfl (by decide +kernel) rfl rfl (Nat.le_of_ble_eq_true rfl) ?_
  intro E ok en hml hEl htab
  have hR : e_R E = RM 9 1 6 := en.2.2.2
  have hn0 : 0 < (e_c E).maxLocals := by rw [hml]; decide
  have hn1 : 1 < (e_c E).maxLocals := by rw [hml]; decide
  have hn2 : 2 < (e_c E).maxLocals := by rw [hml]; decide
  have hn3 : 3 < (e_c E).maxLocals := by rw [hml]; decide
  refine ga_aload_n ok 2 rfl rfl dL_refusal_0 ?_
  refine ga_iconst ok dL_refusal_1 ?_
  refine ga_aload_n ok 0 rfl rfl dL_refusal_2 ?_
  refine ga_iload_n ok 1 rfl rfl dL_refusal_3 ?_
  refine gc_X3_1 ok hG rfl lk_L_118 rfl (c_X3_refusal ok.fl hG hrs hfr) (by rw [hR]; exact ⟨by decide, by decide, by decide, by decide⟩) (Nat.le_of_ble_eq_true rfl) dL_refusal_4 (fun r9 m1 hq => ?_) (fun X9 m1 hq => ?_)
  · obtain ⟨q1, rfl, hm9⟩ := hq
    subst m1
    simp only [Option.toList_some, List.singleton_append]
    have hK : (if m.1 0 11 = 0 then (1 : Int) else 0) = 0 := if_neg q1
    refine ga_i2lW ok dL_refusal_7 ?_
    refine ga_lastore_la ok (ar_lo hG rfl) (by omega) dL_refusal_8 ?_
    refine ga_goto ok 15 (by decide) dL_refusal_9 ?_
    refine ga_iconst ok dL_refusal_15 ?_
    exact ga_ireturn ok en rfl rfl (by exact Nat.le_refl _) (by exact Nat.le_refl _) dL_refusal_16 ⟨by rw [hK], by rw [hK]; decide, fun _ => upI_at, WEq.rf.u (Or.inl rfl)⟩
  · obtain ⟨hc, hm9⟩ := hq
    subst m1
    obtain ⟨rfl, q1⟩ := hc
    have hK : (if m.1 0 11 = 0 then (1 : Int) else 0) = 1 := if_pos q1
    refine gx_catch ok hS htab [] (0, 9, 12, 62) [] rfl (fun _ h => absurd h List.not_mem_nil) rfl (by decide) cl_NS cs_NS (fun q => ?_)
    refine ga_astore_n ok 3 rfl hn3 dL_refusal_12 ?_
    refine ga_iconst ok dL_refusal_13 ?_
    exact ga_ireturn ok en rfl rfl (by exact Nat.le_refl _) (by exact Nat.le_refl _) dL_refusal_14 ⟨by rw [hK], by rw [hK]; decide, fun h => absurd (hK.symm.trans h) (by decide), WEq.rf⟩
theorem lw_L_246 : LinkW RL 246 yL_refusal cL_refusal 4 (some .int) [(0, 9, 12, 62)] 3 := ⟨List.forall_mem_cons.mpr ⟨tb_in 1179 (by decide +kernel) (by decide +kernel), List.forall_mem_cons.mpr ⟨tb_in 1180 (by decide +kernel) (by decide +kernel), List.forall_mem_cons.mpr ⟨tb_in 0 (by decide +kernel) (by decide +kernel), fun _ h => absurd h List.not_mem_nil⟩⟩⟩, tb_in 1181 (by decide +kernel) (by decide +kernel), by decide +kernel⟩
set_option maxHeartbeats 4000000 in
set_option maxRecDepth 100000 in
theorem w_meanBadges {G : GG} {l : Launch} (hfl : l.stackTraces = false) (hG : MW G) (hS : SBW G) {m : Mm} {r : Nat → Int} {T : Int} (hI : gtIs m 64 r) (hT : gtOk T r) : CW G l yL_meanBadges cL_meanBadges 3 (some .int) [(0, 7, 10, 57)] (RM 9 2 12) [.ref 0, .ref 1664] m (fun r' m' => r' = some (vI (if r 1 = 0 then (1 : Int) else 0)) ∧ (0 ≤ (if r 1 = 0 then (1 : Int) else 0) ∧ (if r 1 = 0 then (1 : Int) else 0) ≤ 3) ∧ ((if r 1 = 0 then (1 : Int) else 0) = 0 → m'.1 1664 0 = (((FP.ddiv (FP.i2d (Int32.ofInt (zs (fun v => szO (vX r v) 10) (r 1).toNat))) (FP.i2d (Int32.ofInt (r 1))))).toNat : Int) ∧ vf_n64 (FP.ddiv (FP.i2d (Int32.ofInt (zs (fun v => szO (vX r v) 10) (r 1).toNat))) (FP.i2d (Int32.ofInt (r 1))))) ∧ WEq m m') (fun _ _ => False) := by
  refine CW.of RL [(0, .ref 0), (1, .ref 1664)] hfl (by decide +kernel) rfl rfl (Nat.le_of_ble_eq_true rfl) ?_
  intro E ok en hml hEl htab
  have hR : e_R E = RM 9 2 12 := en.2.2.2
  have hn0 : 0 < (e_c E).maxLocals := by rw [hml]; decide
  have hn1 : 1 < (e_c E).maxLocals := by rw [hml]; decide
  have hn2 : 2 < (e_c E).maxLocals := by rw [hml]; decide
  refine ga_aload_n ok 1 rfl rfl dL_meanBadges_0 ?_
  refine ga_iconst ok dL_meanBadges_1 ?_
  refine ga_aload_n ok 0 rfl rfl dL_meanBadges_2 ?_
  refine gc_X3_0 ok hG rfl lk_L_125 rfl (c_X3_meanBadges ok.fl hG hI hT) (by rw [hR]; exact ⟨by decide, by decide, by decide, by decide⟩) (Nat.le_of_ble_eq_true rfl) dL_meanBadges_3 (fun r9 m1 hq => ?_) (fun X9 m1 hq => ?_)
  · obtain ⟨q1, rfl, hm9⟩ := hq
    subst m1
    simp only [Option.toList_some, List.singleton_append]
    have hK : (if r 1 = 0 then (1 : Int) else 0) = 0 := if_neg q1
    refine ga_dastore_da ok (ar_ld hG rfl) (by omega) dL_meanBadges_6 ?_
    refine ga_goto ok 13 (by decide) dL_meanBadges_7 ?_
    refine ga_iconst ok dL_meanBadges_13 ?_
    exact ga_ireturn ok en rfl rfl (by exact Nat.le_refl _) (by exact Nat.le_refl _) dL_meanBadges_14 ⟨by rw [hK], by rw [hK]; decide, fun _ => ⟨upI_at, n64_div (by have := hT.2.1; omega)⟩, WEq.rf.u (Or.inr rfl)⟩
  · obtain ⟨hc, hm9⟩ := hq
    subst m1
    obtain ⟨rfl, q1⟩ := hc
    have hK : (if r 1 = 0 then (1 : Int) else 0) = 1 := if_pos q1
    refine gx_catch ok hS htab [] (0, 7, 10, 57) [] rfl (fun _ h => absurd h List.not_mem_nil) rfl (by decide) cl_AR cs_AR (fun q => ?_)
    refine ga_astore_n ok 2 rfl hn2 dL_meanBadges_10 ?_
    refine ga_iconst ok dL_meanBadges_11 ?_
    exact ga_ireturn ok en rfl rfl (by exact Nat.le_refl _) (by exact Nat.le_refl _) dL_meanBadges_12 ⟨by rw [hK], by rw [hK]; decide, fun h => absurd (hK.symm.trans h) (by decide), WEq.rf⟩
theorem lw_L_258 : LinkW RL 258 yL_meanBadges cL_meanBadges 3 (some .int) [(0, 7, 10, 57)] 2 := ⟨List.forall_mem_cons.mpr ⟨tb_in 1207 (by decide +kernel) (by decide +kernel), List.forall_mem_cons.mpr ⟨tb_in 1208 (by decide +kernel) (by decide +kernel), List.forall_mem_cons.mpr ⟨tb_in 0 (by decide +kernel) (by decide +kernel), fun _ h => absurd h List.not_mem_nil⟩⟩⟩, tb_in 1209 (by decide +kernel) (by decide +kernel), by decide +kernel⟩
set_option maxHeartbeats 4000000 in
set_option maxRecDepth 100000 in
theorem w_character {G : GG} {l : Launch} (hfl : l.stackTraces = false) (hG : MW G) (hS : SBW G) {m : Mm} {g : Gm} {T : Int} (hX : XIs T m g) (hB : BLs m (g.ln, g.nn)) (hln : LnOk (g.ln, g.nn)) {i : Int} (hiR : -2147483648 ≤ i ∧ i ≤ 2147483647) : CW G l yL_character cL_character 4 (some .int) [(0, 9, 12, 21)] (RM 10 1 6) [.ref 0, vI i, .ref 1600] m (fun r' m' => r' = some (vI (if 0 ≤ i ∧ i < g.nn then (0 : Int) else 1)) ∧ (0 ≤ (if 0 ≤ i ∧ i < g.nn then (0 : Int) else 1) ∧ (if 0 ≤ i ∧ i < g.nn then (0 : Int) else 1) ≤ 3) ∧ ((if 0 ≤ i ∧ i < g.nn then (0 : Int) else 1) = 0 → m'.1 1600 0 = w32 (g.ln i.toNat)) ∧ WEq m m') (fun _ _ => False) := by
  refine CW.of RL [(0, .ref 0), (1, vI i), (2, .ref 1600)] hfl (by decide +kernel) rfl rfl (Nat.le_of_ble_eq_true rfl) ?_
  intro E ok en hml hEl htab
  have hR : e_R E = RM 10 1 6 := en.2.2.2
  have hn0 : 0 < (e_c E).maxLocals := by rw [hml]; decide
  have hn1 : 1 < (e_c E).maxLocals := by rw [hml]; decide
  have hn2 : 2 < (e_c E).maxLocals := by rw [hml]; decide
  have hn3 : 3 < (e_c E).maxLocals := by rw [hml]; decide
  refine ga_aload_n ok 2 rfl rfl dL_character_0 ?_
  refine ga_iconst ok dL_character_1 ?_
  refine ga_aload_n ok 0 rfl rfl dL_character_2 ?_
  refine ga_iload_n ok 1 rfl rfl dL_character_3 ?_
  refine gc_X3_1 ok hG rfl lk_L_104 rfl (c_X3_character ok.fl hG hS hX hB hln hiR) (by rw [hR]; exact ⟨by decide, by decide, by decide, by decide⟩) (Nat.le_of_ble_eq_true rfl) dL_character_4 (fun r9 m1 hq => ?_) (fun X9 m1 hq => ?_)
  · obtain ⟨q1, rfl, hm9⟩ := hq
    subst m1
    simp only [Option.toList_some, List.singleton_append]
    have hK : (if 0 ≤ i ∧ i < g.nn then (0 : Int) else 1) = 0 := ei_0 q1
    refine ga_i2lW ok dL_character_7 ?_
    refine ga_lastore_la ok (ar_lo hG rfl) (by omega) dL_character_8 ?_
    refine ga_goto ok 15 (by decide) dL_character_9 ?_
    refine ga_iconst ok dL_character_15 ?_
    exact ga_ireturn ok en rfl rfl (by exact Nat.le_refl _) (by exact Nat.le_refl _) dL_character_16 ⟨by rw [hK], by rw [hK]; decide, fun _ => upI_at, WEq.rf.u (Or.inl rfl)⟩
  · obtain ⟨hX9, hc2, hm9⟩ := hq
    subst m1
    have hc := And.intro hX9 hc2
    obtain ⟨rfl, q1⟩ := hc
    have hK : (if 0 ≤ i ∧ i < g.nn then (0 : Int) else 1) = 1 := ei_1 q1
    refine gx_catch ok hS htab [] (0, 9, 12, 21) [] rfl (fun _ h => absurd h List.not_mem_nil) rfl (by decide) cl_IO cs_IO (fun q => ?_)
    refine ga_astore_n ok 3 rfl hn3 dL_character_12 ?_
    refine ga_iconst ok dL_character_13 ?_
    exact ga_ireturn ok en rfl rfl (by exact Nat.le_refl _) (by exact Nat.le_refl _) dL_character_14 ⟨by rw [hK], by rw [hK]; decide, fun h => absurd (hK.symm.trans h) (by decide), WEq.rf⟩
theorem lw_L_231 : LinkW RL 231 yL_character cL_character 4 (some .int) [(0, 9, 12, 21)] 3 := ⟨List.forall_mem_cons.mpr ⟨tb_in 1075 (by decide +kernel) (by decide +kernel), List.forall_mem_cons.mpr ⟨tb_in 1076 (by decide +kernel) (by decide +kernel), List.forall_mem_cons.mpr ⟨tb_in 0 (by decide +kernel) (by decide +kernel), fun _ h => absurd h List.not_mem_nil⟩⟩⟩, tb_in 1077 (by decide +kernel) (by decide +kernel), by decide +kernel⟩
set_option maxHeartbeats 4000000 in
set_option maxRecDepth 100000 in
theorem w_line {G : GG} {l : Launch} (hfl : l.stackTraces = false) (hG : MW G) (hS : SBW G) {m : Mm} {g : Gm} {T : Int} (hX : XIs T m g) (hB : BLs m (g.ln, g.nn)) {v : Int} (hvR : -2147483648 ≤ v ∧ v ≤ 2147483647) : CW G l yL_line cL_line 4 (some .int) [(0, 9, 12, 21)] (RM 10 16 4900) [.ref 0, vI v, .ref 1600] m (fun r' m' => r' = some (vI (sp_line g v).1) ∧ (0 ≤ (sp_line g v).1 ∧ (sp_line g v).1 ≤ 3) ∧ ((sp_line g v).1 = 0 → m'.1 1600 0 = w32 (sp_line g v).2.1) ∧ XIs T m' (sp_line g v).2.2 ∧ BLs m' ((sp_line g v).2.2.ln, (sp_line g v).2.2.nn) ∧ LX m m') (fun _ _ => False) := by
  refine CW.of RL [(0, .ref 0), (1, vI v), (2, .ref 1600)] hfl (by decide +kernel) rfl rfl (Nat.le_of_ble_eq_true rfl) ?_
  intro E ok en hml hEl htab
  have hR : e_R E = RM 10 16 4900 := en.2.2.2
  have hn0 : 0 < (e_c E).maxLocals := by rw [hml]; decide
  have hn1 : 1 < (e_c E).maxLocals := by rw [hml]; decide
  have hn2 : 2 < (e_c E).maxLocals := by rw [hml]; decide
  have hn3 : 3 < (e_c E).maxLocals := by rw [hml]; decide
  refine ga_aload_n ok 2 rfl rfl dL_line_0 ?_
  refine ga_iconst ok dL_line_1 ?_
  refine ga_aload_n ok 0 rfl rfl dL_line_2 ?_
  refine ga_iload_n ok 1 rfl rfl dL_line_3 ?_
  refine gc_X3_1 ok hG rfl lk_L_98 rfl (c_X3_line ok.fl hG hS hX hB hvR) (by rw [hR]; exact ⟨by decide, by decide, by decide, by decide⟩) (Nat.le_of_ble_eq_true rfl) dL_line_4 (fun r9 m1 hq => ?_) (fun X9 m1 hq => ?_)
  · obtain ⟨q1, rfl, hX1, hB1, hxb1⟩ := hq
    have hd : (sp_line g v) = (0, (vLn (vX g.r v.toNat) (vF g.r v.toNat) 10).2, lnG g (vLn (vX g.r v.toNat) (vF g.r v.toNat) 10)) := by unfold sp_line; rw [if_neg (fun h => h q1)]
    simp only [Option.toList_some, List.singleton_append]
    have hK : (sp_line g v).1 = 0 := by rw [hd]
    refine ga_i2lW ok dL_line_7 ?_
    refine ga_lastore_la ok (ar_lo hG rfl) (by omega) dL_line_8 ?_
    refine ga_goto ok 15 (by decide) dL_line_9 ?_
    refine ga_iconst ok dL_line_15 ?_
    exact ga_ireturn ok en rfl rfl (by exact Nat.le_refl _) (by exact Nat.le_refl _) dL_line_16 ⟨by rw [hK], by rw [hK]; decide, fun _ => by rw [hd]; exact upI_at, by rw [hd]; exact hX1.out (Or.inl rfl), by rw [hd]; exact hB1.out (Or.inl rfl), (LX.of hxb1).u (Or.inl rfl)⟩
  · obtain ⟨hX9, hc2, hm9⟩ := hq
    subst m1
    have hc := And.intro hX9 hc2
    obtain ⟨rfl, q1⟩ := hc
    have hK : (sp_line g v).1 = 1 := by unfold sp_line; rw [if_pos q1]
    refine gx_catch ok hS htab [] (0, 9, 12, 21) [] rfl (fun _ h => absurd h List.not_mem_nil) rfl (by decide) cl_IO cs_IO (fun q => ?_)
    refine ga_astore_n ok 3 rfl hn3 dL_line_12 ?_
    refine ga_iconst ok dL_line_13 ?_
    exact ga_ireturn ok en rfl rfl (by exact Nat.le_refl _) (by exact Nat.le_refl _) dL_line_14 (by
    have hd : (sp_line g v) = (1, 0, g) := by unfold sp_line; rw [if_pos q1]
    exact ⟨by rw [hK], by rw [hK]; decide, fun h => absurd (hK.symm.trans h) (by decide), by rw [hd]; exact hX, by rw [hd]; exact hB, LX.rf⟩)
theorem lw_L_225 : LinkW RL 225 yL_line cL_line 4 (some .int) [(0, 9, 12, 21)] 3 := ⟨List.forall_mem_cons.mpr ⟨tb_in 782 (by decide +kernel) (by decide +kernel), List.forall_mem_cons.mpr ⟨tb_in 783 (by decide +kernel) (by decide +kernel), List.forall_mem_cons.mpr ⟨tb_in 0 (by decide +kernel) (by decide +kernel), fun _ h => absurd h List.not_mem_nil⟩⟩⟩, tb_in 784 (by decide +kernel) (by decide +kernel), by decide +kernel⟩
set_option maxHeartbeats 4000000 in
set_option maxRecDepth 100000 in
theorem w_guardLine {G : GG} {l : Launch} (hfl : l.stackTraces = false) (hG : MW G) (hS : SBW G) {m : Mm} {g : Gm} {T : Int} (hX : XIs T m g) (hB : BLs m (g.ln, g.nn)) {n : Int} (hnR : -2147483648 ≤ n ∧ n ≤ 2147483647) : CW G l yL_guardLine cL_guardLine 4 (some .int) [(0, 9, 12, 21)] (RM 10 24 9206) [.ref 0, vI n, .ref 1600] m (fun r' m' => r' = some (vI (sp_guardLine g n).1) ∧ (0 ≤ (sp_guardLine g n).1 ∧ (sp_guardLine g n).1 ≤ 3) ∧ ((sp_guardLine g n).1 = 0 → m'.1 1600 0 = w32 (sp_guardLine g n).2.1) ∧ XIs T m' (sp_guardLine g n).2.2 ∧ BLs m' ((sp_guardLine g n).2.2.ln, (sp_guardLine g n).2.2.nn) ∧ LX m m') (fun _ _ => False) := by
  refine CW.of RL [(0, .ref 0), (1, vI n), (2, .ref 1600)] hfl (by decide +kernel) rfl rfl (Nat.le_of_ble_eq_true rfl) ?_
  intro E ok en hml hEl htab
  have hR : e_R E = RM 10 24 9206 := en.2.2.2
  have hn0 : 0 < (e_c E).maxLocals := by rw [hml]; decide
  have hn1 : 1 < (e_c E).maxLocals := by rw [hml]; decide
  have hn2 : 2 < (e_c E).maxLocals := by rw [hml]; decide
  have hn3 : 3 < (e_c E).maxLocals := by rw [hml]; decide
  refine ga_aload_n ok 2 rfl rfl dL_guardLine_0 ?_
  refine ga_iconst ok dL_guardLine_1 ?_
  refine ga_aload_n ok 0 rfl rfl dL_guardLine_2 ?_
  refine ga_iload_n ok 1 rfl rfl dL_guardLine_3 ?_
  refine gc_X3_1 ok hG rfl lk_L_101 rfl (c_X3_guardLine ok.fl hG hS hX hB hnR) (by rw [hR]; exact ⟨by decide, by decide, by decide, by decide⟩) (Nat.le_of_ble_eq_true rfl) dL_guardLine_4 (fun r9 m1 hq => ?_) (fun X9 m1 hq => ?_)
  · obtain ⟨q1, rfl, hX1, hB1, hxb1⟩ := hq
    have hd : (sp_guardLine g n) = (0, (gLn (gcn (rg g.r n.toNat)) 11).2, lnG g (gLn (gcn (rg g.r n.toNat)) 11)) := by unfold sp_guardLine; rw [if_neg (fun h => h q1)]
    simp only [Option.toList_some, List.singleton_append]
    have hK : (sp_guardLine g n).1 = 0 := by rw [hd]
    refine ga_i2lW ok dL_guardLine_7 ?_
    refine ga_lastore_la ok (ar_lo hG rfl) (by omega) dL_guardLine_8 ?_
    refine ga_goto ok 15 (by decide) dL_guardLine_9 ?_
    refine ga_iconst ok dL_guardLine_15 ?_
    exact ga_ireturn ok en rfl rfl (by exact Nat.le_refl _) (by exact Nat.le_refl _) dL_guardLine_16 ⟨by rw [hK], by rw [hK]; decide, fun _ => by rw [hd]; exact upI_at, by rw [hd]; exact hX1.out (Or.inl rfl), by rw [hd]; exact hB1.out (Or.inl rfl), (LX.of hxb1).u (Or.inl rfl)⟩
  · obtain ⟨hX9, hc2, hm9⟩ := hq
    subst m1
    have hc := And.intro hX9 hc2
    obtain ⟨rfl, q1⟩ := hc
    have hK : (sp_guardLine g n).1 = 1 := by unfold sp_guardLine; rw [if_pos q1]
    refine gx_catch ok hS htab [] (0, 9, 12, 21) [] rfl (fun _ h => absurd h List.not_mem_nil) rfl (by decide) cl_IO cs_IO (fun q => ?_)
    refine ga_astore_n ok 3 rfl hn3 dL_guardLine_12 ?_
    refine ga_iconst ok dL_guardLine_13 ?_
    exact ga_ireturn ok en rfl rfl (by exact Nat.le_refl _) (by exact Nat.le_refl _) dL_guardLine_14 (by
    have hd : (sp_guardLine g n) = (1, 0, g) := by unfold sp_guardLine; rw [if_pos q1]
    exact ⟨by rw [hK], by rw [hK]; decide, fun h => absurd (hK.symm.trans h) (by decide), by rw [hd]; exact hX, by rw [hd]; exact hB, LX.rf⟩)
theorem lw_L_228 : LinkW RL 228 yL_guardLine cL_guardLine 4 (some .int) [(0, 9, 12, 21)] 3 := ⟨List.forall_mem_cons.mpr ⟨tb_in 1067 (by decide +kernel) (by decide +kernel), List.forall_mem_cons.mpr ⟨tb_in 1068 (by decide +kernel) (by decide +kernel), List.forall_mem_cons.mpr ⟨tb_in 0 (by decide +kernel) (by decide +kernel), fun _ h => absurd h List.not_mem_nil⟩⟩⟩, tb_in 1069 (by decide +kernel) (by decide +kernel), by decide +kernel⟩
