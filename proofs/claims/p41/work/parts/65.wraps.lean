/-! THE LAW'S WRAPPERS -/
/-- the class's state, with its line -/
def LWX (T : Int) (m : Mm) (g : Gm) : Prop := XIs T m g ∧ BLs m (g.ln, g.nn) ∧ LnOk (g.ln, g.nn)
theorem LWX.h40 {T : Int} {m : Mm} {g : Gm} (h : LWX T m g) : m.1 960 4 = 0 := h.2.1.2.1
theorem LWX.I {T : Int} {m : Mm} {g : Gm} (h : LWX T m g) : gtIs m 64 g.r := h.1.1.1
theorem LWX.O {T : Int} {m : Mm} {g : Gm} (h : LWX T m g) : gtOk T g.r := h.1.1.2
theorem BLs.w {m m' : Mm} {q : (Nat → Int) × Int} (h : BLs m q) (h0 : m'.1 960 = m.1 960) (h1 : m'.1 961 = m.1 961) : BLs m' q := by
  unfold BLs SBk at *
  rw [h0, h1]
  exact h
theorem LWX.chg {T T' : Int} {m m' : Mm} {g g' : Gm} (h : LWX T m g) (hX : XIs T' m' g') (hf : XFr m m') : LWX T' m' g' := by
  obtain ⟨hX0, hB, hl⟩ := h
  have e0 := (hf 960 (by omega)).1
  have e1 := (hf 961 (by omega)).1
  obtain ⟨l1, l2, l3⟩ := hX.2.2.2.2.2
  obtain ⟨k1, k2, k3⟩ := hX0.2.2.2.2.2
  have hnn : g'.nn = g.nn := by rw [← l1, ← k1, e0]
  have hB2 := hB.w e0 e1
  refine ⟨hX, ⟨hB2.1, hB2.2.1, l1, l3⟩, l2.1, fun i hi => ?_⟩
  have hi : (i : Int) < g'.nn := hi
  have e9 : g'.ln i = g.ln i := by rw [← l3 i hi, ← k3 i (by omega), e1]
  show 0 ≤ g'.ln i ∧ g'.ln i ≤ 127
  rw [e9]
  exact hl.2 i (by show (i : Int) < g.nn; omega)
theorem LWX.lin {T : Int} {m' : Mm} {g : Gm} {q : (Nat → Int) × Int} (hX : XIs T m' (lnG g q)) (hB : BLs m' q) (hl : LnOk q) : LWX T m' (lnG g q) := ⟨hX, hB, hl⟩
theorem LWX.mono {T T' : Int} {m : Mm} {g : Gm} (h : LWX T m g) (ht : T ≤ T') : LWX T' m g := ⟨h.1.mono ht, h.2⟩
theorem fdiv_nn {x : UInt32} {d : Int} (hx : FP.Core.val32 x ≠ .nan) (hd : 1 ≤ d ∧ d ≤ 2147483647) : FP.Core.val32 (FP.fdiv x (FP.i2f (Int32.ofInt d))) ≠ .nan := by
  refine ((FP.Core.notNaN_iff32 _).mp (FP.Core.fdiv_out ((FP.Core.notNaN_iff32 x).mpr hx) (FP.Core.i2f_fin _) ?_))
  rw [FP.Core.zero_bits232]
  refine FP.Core.i2f_ne_zero (fun h => ?_)
  have h1 : (Int32.ofInt d).toInt = d := oi_T (by omega)
  rw [h] at h1
  have h2 : ((0 : Int32)).toInt = 0 := by decide
  omega
/-- what a wrapper of a change answers -/
def wr (q : Int × Int × Gm) : Int := if q.1 = 0 then q.2.1 else -q.1
theorem cl_IA : Cond.classLink RL 14 "java/lang/IllegalArgumentException" ∈ BIG := tb_in 235 (by decide +kernel) (by decide +kernel)
theorem cs_IA : Cond.castable "java/lang/IllegalArgumentException" "java/lang/IllegalArgumentException" ∈ SPW := spw_in 249 (by decide +kernel) rfl
theorem cl_UO : Cond.classLink RL 16 "java/lang/UnsupportedOperationException" ∈ BIG := tb_in 236 (by decide +kernel) (by decide +kernel)
theorem cs_UO : Cond.castable "java/lang/UnsupportedOperationException" "java/lang/UnsupportedOperationException" ∈ SPW := spw_in 329 (by decide +kernel) rfl
theorem cl_IO : Cond.classLink RL 22 "java/lang/IndexOutOfBoundsException" ∈ BIG := tb_in 369 (by decide +kernel) (by decide +kernel)
theorem cs_IO : Cond.castable "java/lang/IndexOutOfBoundsException" "java/lang/IndexOutOfBoundsException" ∈ SPW := spw_in 407 (by decide +kernel) rfl
theorem cl_NS : Cond.classLink RL 71 "java/util/NoSuchElementException" ∈ BIG := tb_in 447 (by decide +kernel) (by decide +kernel)
theorem cs_NS : Cond.castable "java/util/NoSuchElementException" "java/util/NoSuchElementException" ∈ SPW := spw_in 454 (by decide +kernel) rfl
theorem cl_AR : Cond.classLink RL 66 "java/lang/ArithmeticException" ∈ BIG := tb_in 988 (by decide +kernel) (by decide +kernel)
theorem cs_AR : Cond.castable "java/lang/ArithmeticException" "java/lang/ArithmeticException" ∈ SPW := spw_in 1000 (by decide +kernel) rfl
theorem cl_IS : Cond.classLink RL 121 "java/lang/IllegalStateException" ∈ BIG := tb_in 1197 (by decide +kernel) (by decide +kernel)
theorem cs_IS : Cond.castable "java/lang/IllegalStateException" "java/lang/IllegalStateException" ∈ SPW := spw_in 1204 (by decide +kernel) rfl
set_option maxHeartbeats 4000000 in
set_option maxRecDepth 100000 in
theorem w_guard {G : GG} {l : Launch} (hfl : l.stackTraces = false) (hG : MW G) (hS : SBW G) {m : Mm} {g : Gm} {T : Int} (hX : LWX T m g) (hT0 : 0 ≤ T ∧ T ≤ 999990000) {x : Int} (hxR : -2147483648 ≤ x ∧ x ≤ 2147483647) : CW G l yL_guard cL_guard 3 (some .int) [(0, 5, 6, 14), (0, 5, 9, 16)] (RM 10 4 24) [.ref 0, vI x] m (fun r' m' => r' = some (vI (wr (sp_guard g x))) ∧ LWX (T + 1000) m' (sp_guard g x).2.2) (fun _ _ => False) := by
  refine CW.of RL [(0, .ref 0), (1, vI x)] hfl (by decide +kernel) rfl rfl (Nat.le_of_ble_eq_true rfl) ?_
  intro E ok en hml hEl htab
  have hR : e_R E = RM 10 4 24 := en.2.2.2
  have hn0 : 0 < (e_c E).maxLocals := by rw [hml]; decide
  have hn1 : 1 < (e_c E).maxLocals := by rw [hml]; decide
  have hn2 : 2 < (e_c E).maxLocals := by rw [hml]; decide
  refine ga_aload_n ok 0 rfl rfl dL_guard_0 ?_
  refine ga_iload_n ok 1 rfl rfl dL_guard_1 ?_
  refine gc_X3_1 ok hG rfl lk_L_8 rfl (c_X3_guard ok.fl hG hX.1 (by omega) hxR) (by rw [hR]; exact ⟨by decide, by decide, by decide, by decide⟩) (Nat.le_of_ble_eq_true rfl) dL_guard_2 (fun r9 m1 hq => ?_) (fun X9 m1 hq => ?_)
  · obtain ⟨h0, rfl, hX1, hf1⟩ := hq
    simp only [Option.toList_some, List.singleton_append]
    exact ga_ireturn ok en rfl rfl (by exact Nat.le_refl _) (by exact Nat.le_refl _) dL_guard_5 ⟨by unfold wr; rw [if_pos h0], hX.chg hX1 hf1⟩
  · obtain ⟨hc, hm9⟩ := hq
    rcases hc with ⟨h1, rfl⟩ | ⟨h1, rfl⟩
    · refine gx_catch ok hS htab [] (0, 5, 6, 14) [(0, 5, 9, 16)] rfl (fun _ h => absurd h List.not_mem_nil) rfl (by decide) cl_IA cs_IA (fun q => ?_)
      refine ga_astore_n ok 2 rfl hn2 dL_guard_6 ?_
      refine ga_iconst ok dL_guard_7 ?_
      exact ga_ireturn ok en rfl rfl (by exact Nat.le_refl _) (by exact Nat.le_refl _) dL_guard_8 ⟨by unfold wr; rw [h1]; rfl, hX.chg hm9.1 hm9.2⟩
    · refine gx_catch ok hS htab [(0, 5, 6, 14)] (0, 5, 9, 16) [] rfl (List.forall_mem_cons.mpr ⟨⟨by decide, _, cl_IA, by decide +kernel, by decide +kernel, by decide +kernel⟩, fun _ h => absurd h List.not_mem_nil⟩) rfl (by decide) cl_UO cs_UO (fun q => ?_)
      refine ga_astore_n ok 2 rfl hn2 dL_guard_9 ?_
      refine ga_bipush ok dL_guard_10 (by decide) ?_
      exact ga_ireturn ok en rfl rfl (by exact Nat.le_refl _) (by exact Nat.le_refl _) dL_guard_12 ⟨by unfold wr; rw [h1]; rfl, hX.chg hm9.1 hm9.2⟩
theorem lw_L_156 : LinkW RL 156 yL_guard cL_guard 3 (some .int) [(0, 5, 6, 14), (0, 5, 9, 16)] 2 := ⟨List.forall_mem_cons.mpr ⟨tb_in 232 (by decide +kernel) (by decide +kernel), List.forall_mem_cons.mpr ⟨tb_in 233 (by decide +kernel) (by decide +kernel), List.forall_mem_cons.mpr ⟨tb_in 0 (by decide +kernel) (by decide +kernel), fun _ h => absurd h List.not_mem_nil⟩⟩⟩, tb_in 234 (by decide +kernel) (by decide +kernel), by decide +kernel⟩
set_option maxHeartbeats 4000000 in
set_option maxRecDepth 100000 in
theorem w_rate {G : GG} {l : Launch} (hfl : l.stackTraces = false) (hG : MW G) (hS : SBW G) {m : Mm} {g : Gm} {T : Int} (hX : LWX T m g) (hT0 : 0 ≤ T ∧ T ≤ 999990000) {n : Int} (hnR : -2147483648 ≤ n ∧ n ≤ 2147483647) {x : Int} (hxR : -2147483648 ≤ x ∧ x ≤ 2147483647) : CW G l yL_rate cL_rate 4 (some .int) [(0, 6, 7, 22), (0, 6, 10, 14), (0, 6, 14, 16)] (RM 10 4 24) [.ref 0, vI n, vI x] m (fun r' m' => r' = some (vI (wr (sp_rate g n x))) ∧ LWX (T + 1000) m' (sp_rate g n x).2.2) (fun _ _ => False) := by
  refine CW.of RL [(0, .ref 0), (1, vI n), (2, vI x)] hfl (by decide +kernel) rfl rfl (Nat.le_of_ble_eq_true rfl) ?_
  intro E ok en hml hEl htab
  have hR : e_R E = RM 10 4 24 := en.2.2.2
  have hn0 : 0 < (e_c E).maxLocals := by rw [hml]; decide
  have hn1 : 1 < (e_c E).maxLocals := by rw [hml]; decide
  have hn2 : 2 < (e_c E).maxLocals := by rw [hml]; decide
  have hn3 : 3 < (e_c E).maxLocals := by rw [hml]; decide
  refine ga_aload_n ok 0 rfl rfl dL_rate_0 ?_
  refine ga_iload_n ok 1 rfl rfl dL_rate_1 ?_
  refine ga_iload_n ok 2 rfl rfl dL_rate_2 ?_
  refine gc_X3_2 ok hG rfl lk_L_18 rfl (c_X3_rate ok.fl hG hX.1 (by omega) hnR hxR) (by rw [hR]; exact ⟨by decide, by decide, by decide, by decide⟩) (Nat.le_of_ble_eq_true rfl) dL_rate_3 (fun r9 m1 hq => ?_) (fun X9 m1 hq => ?_)
  · obtain ⟨h0, rfl, hX1, hf1⟩ := hq
    simp only [Option.toList_some, List.singleton_append]
    exact ga_ireturn ok en rfl rfl (by exact Nat.le_refl _) (by exact Nat.le_refl _) dL_rate_6 ⟨by unfold wr; rw [if_pos h0], hX.chg hX1 hf1⟩
  · obtain ⟨hc, hm9⟩ := hq
    rcases hc with ⟨h1, rfl⟩ | ⟨h1, rfl⟩ | ⟨h1, rfl⟩
    · refine gx_catch ok hS htab [] (0, 6, 7, 22) [(0, 6, 10, 14), (0, 6, 14, 16)] rfl (fun _ h => absurd h List.not_mem_nil) rfl (by decide) cl_IO cs_IO (fun q => ?_)
      refine ga_astore_n ok 3 rfl hn3 dL_rate_7 ?_
      refine ga_iconst ok dL_rate_8 ?_
      exact ga_ireturn ok en rfl rfl (by exact Nat.le_refl _) (by exact Nat.le_refl _) dL_rate_9 ⟨by unfold wr; rw [h1]; rfl, hX.chg hm9.1 hm9.2⟩
    · refine gx_catch ok hS htab [(0, 6, 7, 22)] (0, 6, 10, 14) [(0, 6, 14, 16)] rfl (List.forall_mem_cons.mpr ⟨⟨by decide, _, cl_IO, by decide +kernel, by decide +kernel, by decide +kernel⟩, fun _ h => absurd h List.not_mem_nil⟩) rfl (by decide) cl_IA cs_IA (fun q => ?_)
      refine ga_astore_n ok 3 rfl hn3 dL_rate_10 ?_
      refine ga_bipush ok dL_rate_11 (by decide) ?_
      exact ga_ireturn ok en rfl rfl (by exact Nat.le_refl _) (by exact Nat.le_refl _) dL_rate_13 ⟨by unfold wr; rw [h1]; rfl, hX.chg hm9.1 hm9.2⟩
    · refine gx_catch ok hS htab [(0, 6, 7, 22), (0, 6, 10, 14)] (0, 6, 14, 16) [] rfl (List.forall_mem_cons.mpr ⟨⟨by decide, _, cl_IO, by decide +kernel, by decide +kernel, by decide +kernel⟩, List.forall_mem_cons.mpr ⟨⟨by decide, _, cl_IA, by decide +kernel, by decide +kernel, by decide +kernel⟩, fun _ h => absurd h List.not_mem_nil⟩⟩) rfl (by decide) cl_UO cs_UO (fun q => ?_)
      refine ga_astore_n ok 3 rfl hn3 dL_rate_14 ?_
      refine ga_bipush ok dL_rate_15 (by decide) ?_
      exact ga_ireturn ok en rfl rfl (by exact Nat.le_refl _) (by exact Nat.le_refl _) dL_rate_17 ⟨by unfold wr; rw [h1]; rfl, hX.chg hm9.1 hm9.2⟩
theorem lw_L_305 : LinkW RL 305 yL_rate cL_rate 4 (some .int) [(0, 6, 7, 22), (0, 6, 10, 14), (0, 6, 14, 16)] 3 := ⟨List.forall_mem_cons.mpr ⟨tb_in 1168 (by decide +kernel) (by decide +kernel), List.forall_mem_cons.mpr ⟨tb_in 1169 (by decide +kernel) (by decide +kernel), List.forall_mem_cons.mpr ⟨tb_in 0 (by decide +kernel) (by decide +kernel), fun _ h => absurd h List.not_mem_nil⟩⟩⟩, tb_in 1170 (by decide +kernel) (by decide +kernel), by decide +kernel⟩
set_option maxHeartbeats 4000000 in
set_option maxRecDepth 100000 in
theorem w_caution {G : GG} {l : Launch} (hfl : l.stackTraces = false) (hG : MW G) (hS : SBW G) {m : Mm} {g : Gm} {T : Int} (hX : LWX T m g) (hT0 : 0 ≤ T ∧ T ≤ 999990000) {n : Int} (hnR : -2147483648 ≤ n ∧ n ≤ 2147483647) {x : Int} (hxR : -2147483648 ≤ x ∧ x ≤ 2147483647) : CW G l yL_caution cL_caution 4 (some .int) [(0, 6, 7, 22), (0, 6, 10, 14), (0, 6, 14, 16)] (RM 10 4 24) [.ref 0, vI n, vI x] m (fun r' m' => r' = some (vI (wr (sp_caution g n x))) ∧ LWX (T + 1000) m' (sp_caution g n x).2.2) (fun _ _ => False) := by
  refine CW.of RL [(0, .ref 0), (1, vI n), (2, vI x)] hfl (by decide +kernel) rfl rfl (Nat.le_of_ble_eq_true rfl) ?_
  intro E ok en hml hEl htab
  have hR : e_R E = RM 10 4 24 := en.2.2.2
  have hn0 : 0 < (e_c E).maxLocals := by rw [hml]; decide
  have hn1 : 1 < (e_c E).maxLocals := by rw [hml]; decide
  have hn2 : 2 < (e_c E).maxLocals := by rw [hml]; decide
  have hn3 : 3 < (e_c E).maxLocals := by rw [hml]; decide
  refine ga_aload_n ok 0 rfl rfl dL_caution_0 ?_
  refine ga_iload_n ok 1 rfl rfl dL_caution_1 ?_
  refine ga_iload_n ok 2 rfl rfl dL_caution_2 ?_
  refine gc_X3_2 ok hG rfl lk_L_24 rfl (c_X3_caution ok.fl hG hX.1 (by omega) hnR hxR) (by rw [hR]; exact ⟨by decide, by decide, by decide, by decide⟩) (Nat.le_of_ble_eq_true rfl) dL_caution_3 (fun r9 m1 hq => ?_) (fun X9 m1 hq => ?_)
  · obtain ⟨h0, rfl, hX1, hf1⟩ := hq
    simp only [Option.toList_some, List.singleton_append]
    exact ga_ireturn ok en rfl rfl (by exact Nat.le_refl _) (by exact Nat.le_refl _) dL_caution_6 ⟨by unfold wr; rw [if_pos h0], hX.chg hX1 hf1⟩
  · obtain ⟨hc, hm9⟩ := hq
    rcases hc with ⟨h1, rfl⟩ | ⟨h1, rfl⟩ | ⟨h1, rfl⟩
    · refine gx_catch ok hS htab [] (0, 6, 7, 22) [(0, 6, 10, 14), (0, 6, 14, 16)] rfl (fun _ h => absurd h List.not_mem_nil) rfl (by decide) cl_IO cs_IO (fun q => ?_)
      refine ga_astore_n ok 3 rfl hn3 dL_caution_7 ?_
      refine ga_iconst ok dL_caution_8 ?_
      exact ga_ireturn ok en rfl rfl (by exact Nat.le_refl _) (by exact Nat.le_refl _) dL_caution_9 ⟨by unfold wr; rw [h1]; rfl, hX.chg hm9.1 hm9.2⟩
    · refine gx_catch ok hS htab [(0, 6, 7, 22)] (0, 6, 10, 14) [(0, 6, 14, 16)] rfl (List.forall_mem_cons.mpr ⟨⟨by decide, _, cl_IO, by decide +kernel, by decide +kernel, by decide +kernel⟩, fun _ h => absurd h List.not_mem_nil⟩) rfl (by decide) cl_IA cs_IA (fun q => ?_)
      refine ga_astore_n ok 3 rfl hn3 dL_caution_10 ?_
      refine ga_bipush ok dL_caution_11 (by decide) ?_
      exact ga_ireturn ok en rfl rfl (by exact Nat.le_refl _) (by exact Nat.le_refl _) dL_caution_13 ⟨by unfold wr; rw [h1]; rfl, hX.chg hm9.1 hm9.2⟩
    · refine gx_catch ok hS htab [(0, 6, 7, 22), (0, 6, 10, 14)] (0, 6, 14, 16) [] rfl (List.forall_mem_cons.mpr ⟨⟨by decide, _, cl_IO, by decide +kernel, by decide +kernel, by decide +kernel⟩, List.forall_mem_cons.mpr ⟨⟨by decide, _, cl_IA, by decide +kernel, by decide +kernel, by decide +kernel⟩, fun _ h => absurd h List.not_mem_nil⟩⟩) rfl (by decide) cl_UO cs_UO (fun q => ?_)
      refine ga_astore_n ok 3 rfl hn3 dL_caution_14 ?_
      refine ga_bipush ok dL_caution_15 (by decide) ?_
      exact ga_ireturn ok en rfl rfl (by exact Nat.le_refl _) (by exact Nat.le_refl _) dL_caution_17 ⟨by unfold wr; rw [h1]; rfl, hX.chg hm9.1 hm9.2⟩
theorem lw_L_159 : LinkW RL 159 yL_caution cL_caution 4 (some .int) [(0, 6, 7, 22), (0, 6, 10, 14), (0, 6, 14, 16)] 3 := ⟨List.forall_mem_cons.mpr ⟨tb_in 366 (by decide +kernel) (by decide +kernel), List.forall_mem_cons.mpr ⟨tb_in 367 (by decide +kernel) (by decide +kernel), List.forall_mem_cons.mpr ⟨tb_in 0 (by decide +kernel) (by decide +kernel), fun _ h => absurd h List.not_mem_nil⟩⟩⟩, tb_in 368 (by decide +kernel) (by decide +kernel), by decide +kernel⟩
set_option maxHeartbeats 4000000 in
set_option maxRecDepth 100000 in
theorem w_visitor {G : GG} {l : Launch} (hfl : l.stackTraces = false) (hG : MW G) (hS : SBW G) {m : Mm} {g : Gm} {T : Int} (hX : LWX T m g) (hT0 : 0 ≤ T ∧ T ≤ 999990000) {x : Int} (hxR : -2147483648 ≤ x ∧ x ≤ 2147483647) {f : Int} (hf01 : f = 0 ∨ f = 1) : CW G l yL_visitor cL_visitor 4 (some .int) [(0, 6, 7, 14), (0, 6, 10, 16)] (RM 10 4 24) [.ref 0, vI x, vI f] m (fun r' m' => r' = some (vI (wr (sp_visitor g x f))) ∧ LWX (T + 1000) m' (sp_visitor g x f).2.2) (fun _ _ => False) := by
  refine CW.of RL [(0, .ref 0), (1, vI x), (2, vI f)] hfl (by decide +kernel) rfl rfl (Nat.le_of_ble_eq_true rfl) ?_
  intro E ok en hml hEl htab
  have hR : e_R E = RM 10 4 24 := en.2.2.2
  have hn0 : 0 < (e_c E).maxLocals := by rw [hml]; decide
  have hn1 : 1 < (e_c E).maxLocals := by rw [hml]; decide
  have hn2 : 2 < (e_c E).maxLocals := by rw [hml]; decide
  have hn3 : 3 < (e_c E).maxLocals := by rw [hml]; decide
  refine ga_aload_n ok 0 rfl rfl dL_visitor_0 ?_
  refine ga_iload_n ok 1 rfl rfl dL_visitor_1 ?_
  refine ga_iload_n ok 2 rfl rfl dL_visitor_2 ?_
  refine gc_X3_2 ok hG rfl lk_L_27 rfl (c_X3_visitor ok.fl hG hX.1 (by omega) hxR hf01) (by rw [hR]; exact ⟨by decide, by decide, by decide, by decide⟩) (Nat.le_of_ble_eq_true rfl) dL_visitor_3 (fun r9 m1 hq => ?_) (fun X9 m1 hq => ?_)
  · obtain ⟨h0, rfl, hX1, hf1⟩ := hq
    simp only [Option.toList_some, List.singleton_append]
    exact ga_ireturn ok en rfl rfl (by exact Nat.le_refl _) (by exact Nat.le_refl _) dL_visitor_6 ⟨by unfold wr; rw [if_pos h0], hX.chg hX1 hf1⟩
  · obtain ⟨hc, hm9⟩ := hq
    rcases hc with ⟨h1, rfl⟩ | ⟨h1, rfl⟩
    · refine gx_catch ok hS htab [] (0, 6, 7, 14) [(0, 6, 10, 16)] rfl (fun _ h => absurd h List.not_mem_nil) rfl (by decide) cl_IA cs_IA (fun q => ?_)
      refine ga_astore_n ok 3 rfl hn3 dL_visitor_7 ?_
      refine ga_iconst ok dL_visitor_8 ?_
      exact ga_ireturn ok en rfl rfl (by exact Nat.le_refl _) (by exact Nat.le_refl _) dL_visitor_9 ⟨by unfold wr; rw [h1]; rfl, hX.chg hm9.1 hm9.2⟩
    · refine gx_catch ok hS htab [(0, 6, 7, 14)] (0, 6, 10, 16) [] rfl (List.forall_mem_cons.mpr ⟨⟨by decide, _, cl_IA, by decide +kernel, by decide +kernel, by decide +kernel⟩, fun _ h => absurd h List.not_mem_nil⟩) rfl (by decide) cl_UO cs_UO (fun q => ?_)
      refine ga_astore_n ok 3 rfl hn3 dL_visitor_10 ?_
      refine ga_bipush ok dL_visitor_11 (by decide) ?_
      exact ga_ireturn ok en rfl rfl (by exact Nat.le_refl _) (by exact Nat.le_refl _) dL_visitor_13 ⟨by unfold wr; rw [h1]; rfl, hX.chg hm9.1 hm9.2⟩
theorem lw_L_162 : LinkW RL 162 yL_visitor cL_visitor 4 (some .int) [(0, 6, 7, 14), (0, 6, 10, 16)] 3 := ⟨List.forall_mem_cons.mpr ⟨tb_in 420 (by decide +kernel) (by decide +kernel), List.forall_mem_cons.mpr ⟨tb_in 421 (by decide +kernel) (by decide +kernel), List.forall_mem_cons.mpr ⟨tb_in 0 (by decide +kernel) (by decide +kernel), fun _ h => absurd h List.not_mem_nil⟩⟩⟩, tb_in 422 (by decide +kernel) (by decide +kernel), by decide +kernel⟩
set_option maxHeartbeats 4000000 in
set_option maxRecDepth 100000 in
theorem w_forget {G : GG} {l : Launch} (hfl : l.stackTraces = false) (hG : MW G) (hS : SBW G) {m : Mm} {g : Gm} {T : Int} (hX : LWX T m g) (hT0 : 0 ≤ T ∧ T ≤ 999990000) {v : Int} (hvR : -2147483648 ≤ v ∧ v ≤ 2147483647) : CW G l yL_forget cL_forget 3 (some .int) [(0, 5, 6, 22)] (RM 10 4 24) [.ref 0, vI v] m (fun r' m' => r' = some (vI (wr (sp_forget g v))) ∧ LWX (T + 1000) m' (sp_forget g v).2.2) (fun _ _ => False) := by
  refine CW.of RL [(0, .ref 0), (1, vI v)] hfl (by decide +kernel) rfl rfl (Nat.le_of_ble_eq_true rfl) ?_
  intro E ok en hml hEl htab
  have hR : e_R E = RM 10 4 24 := en.2.2.2
  have hn0 : 0 < (e_c E).maxLocals := by rw [hml]; decide
  have hn1 : 1 < (e_c E).maxLocals := by rw [hml]; decide
  have hn2 : 2 < (e_c E).maxLocals := by rw [hml]; decide
  refine ga_aload_n ok 0 rfl rfl dL_forget_0 ?_
  refine ga_iload_n ok 1 rfl rfl dL_forget_1 ?_
  refine gc_X3_1 ok hG rfl lk_L_31 rfl (c_X3_forget ok.fl hG hX.1 (by omega) hvR) (by rw [hR]; exact ⟨by decide, by decide, by decide, by decide⟩) (Nat.le_of_ble_eq_true rfl) dL_forget_2 (fun r9 m1 hq => ?_) (fun X9 m1 hq => ?_)
  · obtain ⟨h0, rfl, hX1, hf1⟩ := hq
    simp only [Option.toList_some, List.singleton_append]
    exact ga_ireturn ok en rfl rfl (by exact Nat.le_refl _) (by exact Nat.le_refl _) dL_forget_5 ⟨by unfold wr; rw [if_pos h0], hX.chg hX1 hf1⟩
  · obtain ⟨hc, hm9⟩ := hq
    obtain ⟨h1, rfl⟩ := hc
    refine gx_catch ok hS htab [] (0, 5, 6, 22) [] rfl (fun _ h => absurd h List.not_mem_nil) rfl (by decide) cl_IO cs_IO (fun q => ?_)
    refine ga_astore_n ok 2 rfl hn2 dL_forget_6 ?_
    refine ga_iconst ok dL_forget_7 ?_
    exact ga_ireturn ok en rfl rfl (by exact Nat.le_refl _) (by exact Nat.le_refl _) dL_forget_8 ⟨by unfold wr; rw [h1]; rfl, hX.chg hm9.1 hm9.2⟩
theorem lw_L_307 : LinkW RL 307 yL_forget cL_forget 3 (some .int) [(0, 5, 6, 22)] 2 := ⟨List.forall_mem_cons.mpr ⟨tb_in 1176 (by decide +kernel) (by decide +kernel), List.forall_mem_cons.mpr ⟨tb_in 1177 (by decide +kernel) (by decide +kernel), List.forall_mem_cons.mpr ⟨tb_in 0 (by decide +kernel) (by decide +kernel), fun _ h => absurd h List.not_mem_nil⟩⟩⟩, tb_in 1178 (by decide +kernel) (by decide +kernel), by decide +kernel⟩
set_option maxHeartbeats 4000000 in
set_option maxRecDepth 100000 in
theorem w_teach {G : GG} {l : Launch} (hfl : l.stackTraces = false) (hG : MW G) (hS : SBW G) {m : Mm} {g : Gm} {T : Int} (hX : LWX T m g) (hT0 : 0 ≤ T ∧ T ≤ 999990000) {n : Int} (hnR : -2147483648 ≤ n ∧ n ≤ 2147483647) {v : Int} (hvR : -2147483648 ≤ v ∧ v ≤ 2147483647) : CW G l yL_teach cL_teach 4 (some .int) [(0, 6, 7, 22), (0, 6, 10, 16)] (RM 10 4 24) [.ref 0, vI n, vI v] m (fun r' m' => r' = some (vI (wr (sp_teach g n v))) ∧ LWX (T + 1000) m' (sp_teach g n v).2.2) (fun _ _ => False) := by
  refine CW.of RL [(0, .ref 0), (1, vI n), (2, vI v)] hfl (by decide +kernel) rfl rfl (Nat.le_of_ble_eq_true rfl) ?_
  intro E ok en hml hEl htab
  have hR : e_R E = RM 10 4 24 := en.2.2.2
  have hn0 : 0 < (e_c E).maxLocals := by rw [hml]; decide
  have hn1 : 1 < (e_c E).maxLocals := by rw [hml]; decide
  have hn2 : 2 < (e_c E).maxLocals := by rw [hml]; decide
  have hn3 : 3 < (e_c E).maxLocals := by rw [hml]; decide
  refine ga_aload_n ok 0 rfl rfl dL_teach_0 ?_
  refine ga_iload_n ok 1 rfl rfl dL_teach_1 ?_
  refine ga_iload_n ok 2 rfl rfl dL_teach_2 ?_
  refine gc_X3_2 ok hG rfl lk_L_79 rfl (c_X3_teach ok.fl hG hX.1 (by omega) hnR hvR) (by rw [hR]; exact ⟨by decide, by decide, by decide, by decide⟩) (Nat.le_of_ble_eq_true rfl) dL_teach_3 (fun r9 m1 hq => ?_) (fun X9 m1 hq => ?_)
  · obtain ⟨h0, rfl, hX1, hf1⟩ := hq
    simp only [Option.toList_some, List.singleton_append]
    exact ga_ireturn ok en rfl rfl (by exact Nat.le_refl _) (by exact Nat.le_refl _) dL_teach_6 ⟨by unfold wr; rw [if_pos h0], hX.chg hX1 hf1⟩
  · obtain ⟨hc, hm9⟩ := hq
    rcases hc with ⟨h1, rfl⟩ | ⟨h1, rfl⟩
    · refine gx_catch ok hS htab [] (0, 6, 7, 22) [(0, 6, 10, 16)] rfl (fun _ h => absurd h List.not_mem_nil) rfl (by decide) cl_IO cs_IO (fun q => ?_)
      refine ga_astore_n ok 3 rfl hn3 dL_teach_7 ?_
      refine ga_iconst ok dL_teach_8 ?_
      exact ga_ireturn ok en rfl rfl (by exact Nat.le_refl _) (by exact Nat.le_refl _) dL_teach_9 ⟨by unfold wr; rw [h1]; rfl, hX.chg hm9.1 hm9.2⟩
    · refine gx_catch ok hS htab [(0, 6, 7, 22)] (0, 6, 10, 16) [] rfl (List.forall_mem_cons.mpr ⟨⟨by decide, _, cl_IO, by decide +kernel, by decide +kernel, by decide +kernel⟩, fun _ h => absurd h List.not_mem_nil⟩) rfl (by decide) cl_UO cs_UO (fun q => ?_)
      refine ga_astore_n ok 3 rfl hn3 dL_teach_10 ?_
      refine ga_bipush ok dL_teach_11 (by decide) ?_
      exact ga_ireturn ok en rfl rfl (by exact Nat.le_refl _) (by exact Nat.le_refl _) dL_teach_13 ⟨by unfold wr; rw [h1]; rfl, hX.chg hm9.1 hm9.2⟩
theorem lw_L_171 : LinkW RL 171 yL_teach cL_teach 4 (some .int) [(0, 6, 7, 22), (0, 6, 10, 16)] 3 := ⟨List.forall_mem_cons.mpr ⟨tb_in 505 (by decide +kernel) (by decide +kernel), List.forall_mem_cons.mpr ⟨tb_in 506 (by decide +kernel) (by decide +kernel), List.forall_mem_cons.mpr ⟨tb_in 0 (by decide +kernel) (by decide +kernel), fun _ h => absurd h List.not_mem_nil⟩⟩⟩, tb_in 507 (by decide +kernel) (by decide +kernel), by decide +kernel⟩
set_option maxHeartbeats 4000000 in
set_option maxRecDepth 100000 in
theorem w_day {G : GG} {l : Launch} (hfl : l.stackTraces = false) (hG : MW G) (hS : SBW G) {m : Mm} {g : Gm} {T : Int} (hX : LWX T m g) (hT0 : 0 ≤ T ∧ T ≤ 999990000) {n : Int} (hnR : -2147483648 ≤ n ∧ n ≤ 2147483647) : CW G l yL_day cL_day 3 (some .int) [(0, 5, 6, 22), (0, 5, 9, 16)] (RM 10 4 24) [.ref 0, vI n] m (fun r' m' => r' = some (vI (wr (sp_day g n))) ∧ LWX (T + 1000) m' (sp_day g n).2.2) (fun _ _ => False) := by
  refine CW.of RL [(0, .ref 0), (1, vI n)] hfl (by decide +kernel) rfl rfl (Nat.le_of_ble_eq_true rfl) ?_
  intro E ok en hml hEl htab
  have hR : e_R E = RM 10 4 24 := en.2.2.2
  have hn0 : 0 < (e_c E).maxLocals := by rw [hml]; decide
  have hn1 : 1 < (e_c E).maxLocals := by rw [hml]; decide
  have hn2 : 2 < (e_c E).maxLocals := by rw [hml]; decide
  refine ga_aload_n ok 0 rfl rfl dL_day_0 ?_
  refine ga_iload_n ok 1 rfl rfl dL_day_1 ?_
  refine gc_X3_1 ok hG rfl lk_L_82 rfl (c_X3_day ok.fl hG hX.1 (by omega) hnR) (by rw [hR]; exact ⟨by decide, by decide, by decide, by decide⟩) (Nat.le_of_ble_eq_true rfl) dL_day_2 (fun r9 m1 hq => ?_) (fun X9 m1 hq => ?_)
  · obtain ⟨h0, rfl, hX1, hf1⟩ := hq
    simp only [Option.toList_some, List.singleton_append]
    exact ga_ireturn ok en rfl rfl (by exact Nat.le_refl _) (by exact Nat.le_refl _) dL_day_5 ⟨by unfold wr; rw [if_pos h0], hX.chg hX1 hf1⟩
  · obtain ⟨hc, hm9⟩ := hq
    rcases hc with ⟨h1, rfl⟩ | ⟨h1, rfl⟩
    · refine gx_catch ok hS htab [] (0, 5, 6, 22) [(0, 5, 9, 16)] rfl (fun _ h => absurd h List.not_mem_nil) rfl (by decide) cl_IO cs_IO (fun q => ?_)
      refine ga_astore_n ok 2 rfl hn2 dL_day_6 ?_
      refine ga_iconst ok dL_day_7 ?_
      exact ga_ireturn ok en rfl rfl (by exact Nat.le_refl _) (by exact Nat.le_refl _) dL_day_8 ⟨by unfold wr; rw [h1]; rfl, hX.chg hm9.1 hm9.2⟩
    · refine gx_catch ok hS htab [(0, 5, 6, 22)] (0, 5, 9, 16) [] rfl (List.forall_mem_cons.mpr ⟨⟨by decide, _, cl_IO, by decide +kernel, by decide +kernel, by decide +kernel⟩, fun _ h => absurd h List.not_mem_nil⟩) rfl (by decide) cl_UO cs_UO (fun q => ?_)
      refine ga_astore_n ok 2 rfl hn2 dL_day_9 ?_
      refine ga_bipush ok dL_day_10 (by decide) ?_
      exact ga_ireturn ok en rfl rfl (by exact Nat.le_refl _) (by exact Nat.le_refl _) dL_day_12 ⟨by unfold wr; rw [h1]; rfl, hX.chg hm9.1 hm9.2⟩
theorem lw_L_173 : LinkW RL 173 yL_day cL_day 3 (some .int) [(0, 5, 6, 22), (0, 5, 9, 16)] 2 := ⟨List.forall_mem_cons.mpr ⟨tb_in 546 (by decide +kernel) (by decide +kernel), List.forall_mem_cons.mpr ⟨tb_in 547 (by decide +kernel) (by decide +kernel), List.forall_mem_cons.mpr ⟨tb_in 0 (by decide +kernel) (by decide +kernel), fun _ h => absurd h List.not_mem_nil⟩⟩⟩, tb_in 548 (by decide +kernel) (by decide +kernel), by decide +kernel⟩
set_option maxHeartbeats 4000000 in
set_option maxRecDepth 100000 in
theorem w_days {G : GG} {l : Launch} (hfl : l.stackTraces = false) (hG : MW G) (hS : SBW G) {m : Mm} {g : Gm} {T : Int} (hX : LWX T m g) (hT0 : 0 ≤ T ∧ T ≤ 999990000) {n : Int} (hnR : -2147483648 ≤ n ∧ n ≤ 2147483647) {most : Int} (hmostR : -2147483648 ≤ most ∧ most ≤ 2147483647) : CW G l yL_days cL_days 4 (some .int) [(0, 6, 7, 22), (0, 6, 10, 14), (0, 6, 14, 16)] (RM 10 4 24) [.ref 0, vI n, vI most] m (fun r' m' => r' = some (vI (wr (sp_days g n most))) ∧ LWX (T + 1000) m' (sp_days g n most).2.2) (fun _ _ => False) := by
  refine CW.of RL [(0, .ref 0), (1, vI n), (2, vI most)] hfl (by decide +kernel) rfl rfl (Nat.le_of_ble_eq_true rfl) ?_
  intro E ok en hml hEl htab
  have hR : e_R E = RM 10 4 24 := en.2.2.2
  have hn0 : 0 < (e_c E).maxLocals := by rw [hml]; decide
  have hn1 : 1 < (e_c E).maxLocals := by rw [hml]; decide
  have hn2 : 2 < (e_c E).maxLocals := by rw [hml]; decide
  have hn3 : 3 < (e_c E).maxLocals := by rw [hml]; decide
  refine ga_aload_n ok 0 rfl rfl dL_days_0 ?_
  refine ga_iload_n ok 1 rfl rfl dL_days_1 ?_
  refine ga_iload_n ok 2 rfl rfl dL_days_2 ?_
  refine gc_X3_2 ok hG rfl lk_L_85 rfl (c_X3_days ok.fl hG hX.1 (by omega) hnR hmostR) (by rw [hR]; exact ⟨by decide, by decide, by decide, by decide⟩) (Nat.le_of_ble_eq_true rfl) dL_days_3 (fun r9 m1 hq => ?_) (fun X9 m1 hq => ?_)
  · obtain ⟨h0, rfl, hX1, hf1⟩ := hq
    simp only [Option.toList_some, List.singleton_append]
    exact ga_ireturn ok en rfl rfl (by exact Nat.le_refl _) (by exact Nat.le_refl _) dL_days_6 ⟨by unfold wr; rw [if_pos h0], hX.chg hX1 hf1⟩
  · obtain ⟨hc, hm9⟩ := hq
    rcases hc with ⟨h1, rfl⟩ | ⟨h1, rfl⟩ | ⟨h1, rfl⟩
    · refine gx_catch ok hS htab [] (0, 6, 7, 22) [(0, 6, 10, 14), (0, 6, 14, 16)] rfl (fun _ h => absurd h List.not_mem_nil) rfl (by decide) cl_IO cs_IO (fun q => ?_)
      refine ga_astore_n ok 3 rfl hn3 dL_days_7 ?_
      refine ga_iconst ok dL_days_8 ?_
      exact ga_ireturn ok en rfl rfl (by exact Nat.le_refl _) (by exact Nat.le_refl _) dL_days_9 ⟨by unfold wr; rw [h1]; rfl, hX.chg hm9.1 hm9.2⟩
    · refine gx_catch ok hS htab [(0, 6, 7, 22)] (0, 6, 10, 14) [(0, 6, 14, 16)] rfl (List.forall_mem_cons.mpr ⟨⟨by decide, _, cl_IO, by decide +kernel, by decide +kernel, by decide +kernel⟩, fun _ h => absurd h List.not_mem_nil⟩) rfl (by decide) cl_IA cs_IA (fun q => ?_)
      refine ga_astore_n ok 3 rfl hn3 dL_days_10 ?_
      refine ga_bipush ok dL_days_11 (by decide) ?_
      exact ga_ireturn ok en rfl rfl (by exact Nat.le_refl _) (by exact Nat.le_refl _) dL_days_13 ⟨by unfold wr; rw [h1]; rfl, hX.chg hm9.1 hm9.2⟩
    · refine gx_catch ok hS htab [(0, 6, 7, 22), (0, 6, 10, 14)] (0, 6, 14, 16) [] rfl (List.forall_mem_cons.mpr ⟨⟨by decide, _, cl_IO, by decide +kernel, by decide +kernel, by decide +kernel⟩, List.forall_mem_cons.mpr ⟨⟨by decide, _, cl_IA, by decide +kernel, by decide +kernel, by decide +kernel⟩, fun _ h => absurd h List.not_mem_nil⟩⟩) rfl (by decide) cl_UO cs_UO (fun q => ?_)
      refine ga_astore_n ok 3 rfl hn3 dL_days_14 ?_
      refine ga_bipush ok dL_days_15 (by decide) ?_
      exact ga_ireturn ok en rfl rfl (by exact Nat.le_refl _) (by exact Nat.le_refl _) dL_days_17 ⟨by unfold wr; rw [h1]; rfl, hX.chg hm9.1 hm9.2⟩
theorem lw_L_175 : LinkW RL 175 yL_days cL_days 4 (some .int) [(0, 6, 7, 22), (0, 6, 10, 14), (0, 6, 14, 16)] 3 := ⟨List.forall_mem_cons.mpr ⟨tb_in 567 (by decide +kernel) (by decide +kernel), List.forall_mem_cons.mpr ⟨tb_in 568 (by decide +kernel) (by decide +kernel), List.forall_mem_cons.mpr ⟨tb_in 0 (by decide +kernel) (by decide +kernel), fun _ h => absurd h List.not_mem_nil⟩⟩⟩, tb_in 569 (by decide +kernel) (by decide +kernel), by decide +kernel⟩
set_option maxHeartbeats 4000000 in
set_option maxRecDepth 100000 in
theorem w_append {G : GG} {l : Launch} (hfl : l.stackTraces = false) (hG : MW G) (hS : SBW G) {m : Mm} {g : Gm} {T : Int} (hX : LWX T m g) (hT0 : 0 ≤ T ∧ T ≤ 999990000) {c : Int} (hc9 : 0 ≤ c ∧ c ≤ 65535) : CW G l yL_append cL_append 3 (some .int) [(0, 5, 6, 121)] (RM 10 4 24) [.ref 0, vI c] m (fun r' m' => r' = some (vI (wr (sp_append g c))) ∧ LWX (T + 1000) m' (sp_append g c).2.2) (fun _ _ => False) := by
  refine CW.of RL [(0, .ref 0), (1, vI c)] hfl (by decide +kernel) rfl rfl (Nat.le_of_ble_eq_true rfl) ?_
  intro E ok en hml hEl htab
  have hR : e_R E = RM 10 4 24 := en.2.2.2
  have hn0 : 0 < (e_c E).maxLocals := by rw [hml]; decide
  have hn1 : 1 < (e_c E).maxLocals := by rw [hml]; decide
  have hn2 : 2 < (e_c E).maxLocals := by rw [hml]; decide
  refine ga_aload_n ok 0 rfl rfl dL_append_0 ?_
  refine ga_iload_n ok 1 rfl rfl dL_append_1 ?_
  refine gc_X3_1 ok hG rfl lk_L_117 rfl (c_X3_append ok.fl hG hX.1 (by omega) hc9) (by rw [hR]; exact ⟨by decide, by decide, by decide, by decide⟩) (Nat.le_of_ble_eq_true rfl) dL_append_2 (fun r9 m1 hq => ?_) (fun X9 m1 hq => ?_)
  · obtain ⟨h0, rfl, hX1, hf1⟩ := hq
    simp only [Option.toList_some, List.singleton_append]
    exact ga_ireturn ok en rfl rfl (by exact Nat.le_refl _) (by exact Nat.le_refl _) dL_append_5 ⟨by unfold wr; rw [if_pos h0], hX.chg hX1 hf1⟩
  · obtain ⟨hc, hm9⟩ := hq
    obtain ⟨h1, rfl⟩ := hc
    refine gx_catch ok hS htab [] (0, 5, 6, 121) [] rfl (fun _ h => absurd h List.not_mem_nil) rfl (by decide) cl_IS cs_IS (fun q => ?_)
    refine ga_astore_n ok 2 rfl hn2 dL_append_6 ?_
    refine ga_iconst ok dL_append_7 ?_
    exact ga_ireturn ok en rfl rfl (by exact Nat.le_refl _) (by exact Nat.le_refl _) dL_append_8 ⟨by unfold wr; rw [h1]; rfl, hX.chg hm9.1 hm9.2⟩
theorem lw_L_135 : LinkW RL 135 yL_append cL_append 3 (some .int) [(0, 5, 6, 121)] 2 := ⟨List.forall_mem_cons.mpr ⟨tb_in 1194 (by decide +kernel) (by decide +kernel), List.forall_mem_cons.mpr ⟨tb_in 1195 (by decide +kernel) (by decide +kernel), List.forall_mem_cons.mpr ⟨tb_in 0 (by decide +kernel) (by decide +kernel), fun _ h => absurd h List.not_mem_nil⟩⟩⟩, tb_in 1196 (by decide +kernel) (by decide +kernel), by decide +kernel⟩
set_option maxHeartbeats 4000000 in
set_option maxRecDepth 100000 in
theorem w_undo {G : GG} {l : Launch} (hfl : l.stackTraces = false) (hG : MW G) (hS : SBW G) {m : Mm} {g : Gm} {T : Int} (hX : LWX T m g) (hT0 : 0 ≤ T ∧ T ≤ 999990000)  : CW G l yL_undo cL_undo 2 (some .int) [(0, 4, 5, 121)] (RM 10 4 24) [.ref 0] m (fun r' m' => r' = some (vI (wr (sp_undo g))) ∧ LWX (T + 1000) m' (sp_undo g).2.2) (fun _ _ => False) := by
  refine CW.of RL [(0, .ref 0)] hfl (by decide +kernel) rfl rfl (Nat.le_of_ble_eq_true rfl) ?_
  intro E ok en hml hEl htab
  have hR : e_R E = RM 10 4 24 := en.2.2.2
  have hn0 : 0 < (e_c E).maxLocals := by rw [hml]; decide
  have hn1 : 1 < (e_c E).maxLocals := by rw [hml]; decide
  refine ga_aload_n ok 0 rfl rfl dL_undo_0 ?_
  refine gc_X3_0 ok hG rfl lk_L_148 rfl (c_X3_undo ok.fl hG hX.1 (by omega)) (by rw [hR]; exact ⟨by decide, by decide, by decide, by decide⟩) (Nat.le_of_ble_eq_true rfl) dL_undo_1 (fun r9 m1 hq => ?_) (fun X9 m1 hq => ?_)
  · obtain ⟨h0, rfl, hX1, hf1⟩ := hq
    simp only [Option.toList_some, List.singleton_append]
    exact ga_ireturn ok en rfl rfl (by exact Nat.le_refl _) (by exact Nat.le_refl _) dL_undo_4 ⟨by unfold wr; rw [if_pos h0], hX.chg hX1 hf1⟩
  · obtain ⟨hc, hm9⟩ := hq
    obtain ⟨h1, rfl⟩ := hc
    refine gx_catch ok hS htab [] (0, 4, 5, 121) [] rfl (fun _ h => absurd h List.not_mem_nil) rfl (by decide) cl_IS cs_IS (fun q => ?_)
    refine ga_astore_n ok 1 rfl hn1 dL_undo_5 ?_
    refine ga_iconst ok dL_undo_6 ?_
    exact ga_ireturn ok en rfl rfl (by exact Nat.le_refl _) (by exact Nat.le_refl _) dL_undo_7 ⟨by unfold wr; rw [h1]; rfl, hX.chg hm9.1 hm9.2⟩
theorem lw_L_320 : LinkW RL 320 yL_undo cL_undo 2 (some .int) [(0, 4, 5, 121)] 1 := ⟨List.forall_mem_cons.mpr ⟨tb_in 1281 (by decide +kernel) (by decide +kernel), List.forall_mem_cons.mpr ⟨tb_in 1282 (by decide +kernel) (by decide +kernel), List.forall_mem_cons.mpr ⟨tb_in 0 (by decide +kernel) (by decide +kernel), fun _ h => absurd h List.not_mem_nil⟩⟩⟩, tb_in 1283 (by decide +kernel) (by decide +kernel), by decide +kernel⟩
set_option maxHeartbeats 4000000 in
set_option maxRecDepth 100000 in
theorem w_runs {G : GG} {l : Launch} (hfl : l.stackTraces = false) (hG : MW G) (hS : SBW G) {m : Mm} {g : Gm} {T : Int} (hX : LWX T m g) (hT0 : 0 ≤ T ∧ T ≤ 999990000)  : CW G l yL_runs cL_runs 2 (some .int) [(0, 4, 5, 14), (0, 4, 8, 16)] (RM 10 4 24) [.ref 0] m (fun r' m' => r' = some (vI (wr (sp_run g))) ∧ LWX (T + 1000) m' (sp_run g).2.2) (fun _ _ => False) := by
  refine CW.of RL [(0, .ref 0)] hfl (by decide +kernel) rfl rfl (Nat.le_of_ble_eq_true rfl) ?_
  intro E ok en hml hEl htab
  have hR : e_R E = RM 10 4 24 := en.2.2.2
  have hn0 : 0 < (e_c E).maxLocals := by rw [hml]; decide
  have hn1 : 1 < (e_c E).maxLocals := by rw [hml]; decide
  refine ga_aload_n ok 0 rfl rfl dL_runs_0 ?_
  refine gc_X3_0 ok hG rfl lk_L_123 rfl (c_X3_run ok.fl hG hX.1 (by omega)) (by rw [hR]; exact ⟨by decide, by decide, by decide, by decide⟩) (Nat.le_of_ble_eq_true rfl) dL_runs_1 (fun r9 m1 hq => ?_) (fun X9 m1 hq => ?_)
  · obtain ⟨h0, rfl, hX1, hf1⟩ := hq
    simp only [Option.toList_some, List.singleton_append]
    exact ga_ireturn ok en rfl rfl (by exact Nat.le_refl _) (by exact Nat.le_refl _) dL_runs_4 ⟨by unfold wr; rw [if_pos h0], hX.chg hX1 hf1⟩
  · obtain ⟨hc, hm9⟩ := hq
    rcases hc with ⟨h1, rfl⟩ | ⟨h1, rfl⟩
    · refine gx_catch ok hS htab [] (0, 4, 5, 14) [(0, 4, 8, 16)] rfl (fun _ h => absurd h List.not_mem_nil) rfl (by decide) cl_IA cs_IA (fun q => ?_)
      refine ga_astore_n ok 1 rfl hn1 dL_runs_5 ?_
      refine ga_iconst ok dL_runs_6 ?_
      exact ga_ireturn ok en rfl rfl (by exact Nat.le_refl _) (by exact Nat.le_refl _) dL_runs_7 ⟨by unfold wr; rw [h1]; rfl, hX.chg hm9.1 hm9.2⟩
    · refine gx_catch ok hS htab [(0, 4, 5, 14)] (0, 4, 8, 16) [] rfl (List.forall_mem_cons.mpr ⟨⟨by decide, _, cl_IA, by decide +kernel, by decide +kernel, by decide +kernel⟩, fun _ h => absurd h List.not_mem_nil⟩) rfl (by decide) cl_UO cs_UO (fun q => ?_)
      refine ga_astore_n ok 1 rfl hn1 dL_runs_8 ?_
      refine ga_bipush ok dL_runs_9 (by decide) ?_
      exact ga_ireturn ok en rfl rfl (by exact Nat.le_refl _) (by exact Nat.le_refl _) dL_runs_11 ⟨by unfold wr; rw [h1]; rfl, hX.chg hm9.1 hm9.2⟩
theorem lw_L_140 : LinkW RL 140 yL_runs cL_runs 2 (some .int) [(0, 4, 5, 14), (0, 4, 8, 16)] 1 := ⟨List.forall_mem_cons.mpr ⟨tb_in 1219 (by decide +kernel) (by decide +kernel), List.forall_mem_cons.mpr ⟨tb_in 1220 (by decide +kernel) (by decide +kernel), List.forall_mem_cons.mpr ⟨tb_in 0 (by decide +kernel) (by decide +kernel), fun _ h => absurd h List.not_mem_nil⟩⟩⟩, tb_in 1221 (by decide +kernel) (by decide +kernel), by decide +kernel⟩
def q_visitorOf (r : Nat → Int) (v : Int) (what : Int) : Int := if (0 ≤ v ∧ v < r 1) then (if (0 ≤ what ∧ what ≤ 4) then ((if what = 0 then vX r v.toNat else if what = 1 then vF r v.toNat else if what = 2 then szO (vX r v.toNat) 10 else if what = 3 then ofV r v.toNat else plc r v.toNat)) else -12) else -11
set_option maxHeartbeats 4000000 in
set_option maxRecDepth 100000 in
theorem w_visitorOf {G : GG} {l : Launch} (hfl : l.stackTraces = false) (hG : MW G) (hS : SBW G) {m : Mm} {g : Gm} {T : Int} (hX : LWX T m g) (hT0 : 0 ≤ T ∧ T ≤ 999990000) {v : Int} (hvR : -2147483648 ≤ v ∧ v ≤ 2147483647) {what : Int} (hwhatR : -2147483648 ≤ what ∧ what ≤ 2147483647) : CW G l yL_visitorOf cL_visitorOf 4 (some .int) [(0, 6, 7, 22), (0, 6, 11, 14)] (RM 9 2 12) [.ref 0, vI v, vI what] m (fun r' m' => r' = some (vI (q_visitorOf g.r v what)) ∧ m' = m) (fun _ _ => False) := by
  refine CW.of RL [(0, .ref 0), (1, vI v), (2, vI what)] hfl (by decide +kernel) rfl rfl (Nat.le_of_ble_eq_true rfl) ?_
  intro E ok en hml hEl htab
  have hR : e_R E = RM 9 2 12 := en.2.2.2
  have hn0 : 0 < (e_c E).maxLocals := by rw [hml]; decide
  have hn1 : 1 < (e_c E).maxLocals := by rw [hml]; decide
  have hn2 : 2 < (e_c E).maxLocals := by rw [hml]; decide
  have hn3 : 3 < (e_c E).maxLocals := by rw [hml]; decide
  refine ga_aload_n ok 0 rfl rfl dL_visitorOf_0 ?_
  refine ga_iload_n ok 1 rfl rfl dL_visitorOf_1 ?_
  refine ga_iload_n ok 2 rfl rfl dL_visitorOf_2 ?_
  refine gc_X3_2 ok hG rfl lk_L_34 rfl (c_X3_visitorOf ok.fl hG hX.I hX.O hvR hwhatR) (by rw [hR]; exact ⟨by decide, by decide, by decide, by decide⟩) (Nat.le_of_ble_eq_true rfl) dL_visitorOf_3 (fun r9 m1 hq => ?_) (fun X9 m1 hq => ?_)
  · obtain ⟨q1, q2, rfl, hm9⟩ := hq
    subst m1
    simp only [Option.toList_some, List.singleton_append]
    exact ga_ireturn ok en rfl rfl (by exact Nat.le_refl _) (by exact Nat.le_refl _) dL_visitorOf_6 ⟨by unfold q_visitorOf; rw [if_pos q1, if_pos q2], rfl⟩
  · obtain ⟨hc, hm9⟩ := hq
    rcases hc with ⟨rfl, q1⟩ | ⟨rfl, q1, q2⟩
    · refine gx_catch ok hS htab [] (0, 6, 7, 22) [(0, 6, 11, 14)] rfl (fun _ h => absurd h List.not_mem_nil) rfl (by decide) cl_IO cs_IO (fun q => ?_)
      refine ga_astore_n ok 3 rfl hn3 dL_visitorOf_7 ?_
      refine ga_bipush ok dL_visitorOf_8 (by decide) ?_
      exact ga_ireturn ok en rfl rfl (by exact Nat.le_refl _) (by exact Nat.le_refl _) dL_visitorOf_10 ⟨by unfold q_visitorOf; rw [if_neg q1], hm9⟩
    · refine gx_catch ok hS htab [(0, 6, 7, 22)] (0, 6, 11, 14) [] rfl (List.forall_mem_cons.mpr ⟨⟨by decide, _, cl_IO, by decide +kernel, by decide +kernel, by decide +kernel⟩, fun _ h => absurd h List.not_mem_nil⟩) rfl (by decide) cl_IA cs_IA (fun q => ?_)
      refine ga_astore_n ok 3 rfl hn3 dL_visitorOf_11 ?_
      refine ga_bipush ok dL_visitorOf_12 (by decide) ?_
      exact ga_ireturn ok en rfl rfl (by exact Nat.le_refl _) (by exact Nat.le_refl _) dL_visitorOf_14 ⟨by unfold q_visitorOf; rw [if_pos q1, if_neg q2], hm9⟩
theorem lw_L_252 : LinkW RL 252 yL_visitorOf cL_visitorOf 4 (some .int) [(0, 6, 7, 22), (0, 6, 11, 14)] 3 := ⟨List.forall_mem_cons.mpr ⟨tb_in 1035 (by decide +kernel) (by decide +kernel), List.forall_mem_cons.mpr ⟨tb_in 1036 (by decide +kernel) (by decide +kernel), List.forall_mem_cons.mpr ⟨tb_in 0 (by decide +kernel) (by decide +kernel), fun _ h => absurd h List.not_mem_nil⟩⟩⟩, tb_in 1037 (by decide +kernel) (by decide +kernel), by decide +kernel⟩
def q_of (r : Nat → Int) (n : Int) (what : Int) : Int := if (0 ≤ n ∧ n < r 0) then (if (0 ≤ what ∧ what ≤ 6) then ((if what = 0 then rg r n.toNat 0 else if what = 1 then rg r n.toNat 1 else if what = 2 then rg r n.toNat 2 else if what = 3 then rg r n.toNat 3 else if what = 4 then ofG r n.toNat else if what = 5 then rg r n.toNat 4 else rg r n.toNat 5)) else -12) else -11
set_option maxHeartbeats 4000000 in
set_option maxRecDepth 100000 in
theorem w_of {G : GG} {l : Launch} (hfl : l.stackTraces = false) (hG : MW G) (hS : SBW G) {m : Mm} {g : Gm} {T : Int} (hX : LWX T m g) (hT0 : 0 ≤ T ∧ T ≤ 999990000) {n : Int} (hnR : -2147483648 ≤ n ∧ n ≤ 2147483647) {what : Int} (hwhatR : -2147483648 ≤ what ∧ what ≤ 2147483647) : CW G l yL_of cL_of 4 (some .int) [(0, 6, 7, 22), (0, 6, 11, 14)] (RM 9 2 12) [.ref 0, vI n, vI what] m (fun r' m' => r' = some (vI (q_of g.r n what)) ∧ m' = m) (fun _ _ => False) := by
  refine CW.of RL [(0, .ref 0), (1, vI n), (2, vI what)] hfl (by decide +kernel) rfl rfl (Nat.le_of_ble_eq_true rfl) ?_
  intro E ok en hml hEl htab
  have hR : e_R E = RM 9 2 12 := en.2.2.2
  have hn0 : 0 < (e_c E).maxLocals := by rw [hml]; decide
  have hn1 : 1 < (e_c E).maxLocals := by rw [hml]; decide
  have hn2 : 2 < (e_c E).maxLocals := by rw [hml]; decide
  have hn3 : 3 < (e_c E).maxLocals := by rw [hml]; decide
  refine ga_aload_n ok 0 rfl rfl dL_of_0 ?_
  refine ga_iload_n ok 1 rfl rfl dL_of_1 ?_
  refine ga_iload_n ok 2 rfl rfl dL_of_2 ?_
  refine gc_X3_2 ok hG rfl lk_L_37 rfl (c_X3_guardOf ok.fl hG hX.I hX.O hnR hwhatR) (by rw [hR]; exact ⟨by decide, by decide, by decide, by decide⟩) (Nat.le_of_ble_eq_true rfl) dL_of_3 (fun r9 m1 hq => ?_) (fun X9 m1 hq => ?_)
  · obtain ⟨q1, q2, rfl, hm9⟩ := hq
    subst m1
    simp only [Option.toList_some, List.singleton_append]
    exact ga_ireturn ok en rfl rfl (by exact Nat.le_refl _) (by exact Nat.le_refl _) dL_of_6 ⟨by unfold q_of; rw [if_pos q1, if_pos q2], rfl⟩
  · obtain ⟨hc, hm9⟩ := hq
    rcases hc with ⟨rfl, q1⟩ | ⟨rfl, q1, q2⟩
    · refine gx_catch ok hS htab [] (0, 6, 7, 22) [(0, 6, 11, 14)] rfl (fun _ h => absurd h List.not_mem_nil) rfl (by decide) cl_IO cs_IO (fun q => ?_)
      refine ga_astore_n ok 3 rfl hn3 dL_of_7 ?_
      refine ga_bipush ok dL_of_8 (by decide) ?_
      exact ga_ireturn ok en rfl rfl (by exact Nat.le_refl _) (by exact Nat.le_refl _) dL_of_10 ⟨by unfold q_of; rw [if_neg q1], hm9⟩
    · refine gx_catch ok hS htab [(0, 6, 7, 22)] (0, 6, 11, 14) [] rfl (List.forall_mem_cons.mpr ⟨⟨by decide, _, cl_IO, by decide +kernel, by decide +kernel, by decide +kernel⟩, fun _ h => absurd h List.not_mem_nil⟩) rfl (by decide) cl_IA cs_IA (fun q => ?_)
      refine ga_astore_n ok 3 rfl hn3 dL_of_11 ?_
      refine ga_bipush ok dL_of_12 (by decide) ?_
      exact ga_ireturn ok en rfl rfl (by exact Nat.le_refl _) (by exact Nat.le_refl _) dL_of_14 ⟨by unfold q_of; rw [if_pos q1, if_neg q2], hm9⟩
theorem lw_L_245 : LinkW RL 245 yL_of cL_of 4 (some .int) [(0, 6, 7, 22), (0, 6, 11, 14)] 3 := ⟨List.forall_mem_cons.mpr ⟨tb_in 1009 (by decide +kernel) (by decide +kernel), List.forall_mem_cons.mpr ⟨tb_in 1010 (by decide +kernel) (by decide +kernel), List.forall_mem_cons.mpr ⟨tb_in 0 (by decide +kernel) (by decide +kernel), fun _ h => absurd h List.not_mem_nil⟩⟩⟩, tb_in 1011 (by decide +kernel) (by decide +kernel), by decide +kernel⟩
def q_bits (r : Nat → Int) (n : Int) (x : Int) : Int := if (0 ≤ n ∧ n < r 0) then (if (1 ≤ x ∧ x ≤ 1023) then ((fword (fq (mg (gcn (rg r n.toNat)) x)))) else -12) else -11
set_option maxHeartbeats 4000000 in
set_option maxRecDepth 100000 in
theorem w_bits {G : GG} {l : Launch} (hfl : l.stackTraces = false) (hG : MW G) (hS : SBW G) {m : Mm} {g : Gm} {T : Int} (hX : LWX T m g) (hT0 : 0 ≤ T ∧ T ≤ 999990000) {n : Int} (hnR : -2147483648 ≤ n ∧ n ≤ 2147483647) {x : Int} (hxR : -2147483648 ≤ x ∧ x ≤ 2147483647) {again : Int} (hag : again = 0 ∨ again = 1) : CW G l yL_bits cL_bits 5 (some .int) [(0, 10, 11, 22), (0, 10, 16, 14)] (RM 9 2 12) [.ref 0, vI n, vI x, vI again] m (fun r' m' => r' = some (vI (q_bits g.r n x)) ∧ m' = m) (fun _ _ => False) := by
  refine CW.of RL [(0, .ref 0), (1, vI n), (2, vI x), (3, vI again)] hfl (by decide +kernel) rfl rfl (Nat.le_of_ble_eq_true rfl) ?_
  intro E ok en hml hEl htab
  have hR : e_R E = RM 9 2 12 := en.2.2.2
  have hn0 : 0 < (e_c E).maxLocals := by rw [hml]; decide
  have hn1 : 1 < (e_c E).maxLocals := by rw [hml]; decide
  have hn2 : 2 < (e_c E).maxLocals := by rw [hml]; decide
  have hn3 : 3 < (e_c E).maxLocals := by rw [hml]; decide
  have hn4 : 4 < (e_c E).maxLocals := by rw [hml]; decide
  refine ga_aload_n ok 0 rfl rfl dL_bits_0 ?_
  refine ga_iload_n ok 1 rfl rfl dL_bits_1 ?_
  refine ga_iload_n ok 2 rfl rfl dL_bits_2 ?_
  refine ga_iload_n ok 3 rfl rfl dL_bits_3 ?_
  refine gc_X3_3 ok hG rfl lk_L_40 rfl (c_X3_margin ok.fl hG hX.I hX.O hnR hxR hag) (by rw [hR]; exact ⟨by decide, by decide, by decide, by decide⟩) (Nat.le_of_ble_eq_true rfl) dL_bits_4 (fun r9 m1 hq => ?_) (fun X9 m1 hq => ?_)
  · obtain ⟨q1, q2, rfl, hm9⟩ := hq
    subst m1
    simp only [Option.toList_some, List.singleton_append]
    refine gd_J_1 ok lj_L_44 (c_Jf_bits ok.fl hG (fq_nan (mg_bd (hX.O.2.2.2 n.toNat (by omega)).2.2.2.1 x))) (by rw [hR]; exact ⟨by decide, by decide, by decide, by decide⟩) (Nat.le_of_ble_eq_true rfl) dL_bits_7 ?_
    exact ga_ireturn ok en rfl rfl (by exact Nat.le_refl _) (by exact Nat.le_refl _) dL_bits_10 ⟨by unfold q_bits; rw [if_pos q1, if_pos q2], rfl⟩
  · obtain ⟨hc, hm9⟩ := hq
    rcases hc with ⟨rfl, q1⟩ | ⟨rfl, q1, q2⟩
    · refine gx_catch ok hS htab [] (0, 10, 11, 22) [(0, 10, 16, 14)] rfl (fun _ h => absurd h List.not_mem_nil) rfl (by decide) cl_IO cs_IO (fun q => ?_)
      refine ga_astore ok hn4 dL_bits_11 ?_
      refine ga_bipush ok dL_bits_13 (by decide) ?_
      exact ga_ireturn ok en rfl rfl (by exact Nat.le_refl _) (by exact Nat.le_refl _) dL_bits_15 ⟨by unfold q_bits; rw [if_neg q1], hm9⟩
    · refine gx_catch ok hS htab [(0, 10, 11, 22)] (0, 10, 16, 14) [] rfl (List.forall_mem_cons.mpr ⟨⟨by decide, _, cl_IO, by decide +kernel, by decide +kernel, by decide +kernel⟩, fun _ h => absurd h List.not_mem_nil⟩) rfl (by decide) cl_IA cs_IA (fun q => ?_)
      refine ga_astore ok hn4 dL_bits_16 ?_
      refine ga_bipush ok dL_bits_18 (by decide) ?_
      exact ga_ireturn ok en rfl rfl (by exact Nat.le_refl _) (by exact Nat.le_refl _) dL_bits_20 ⟨by unfold q_bits; rw [if_pos q1, if_neg q2], hm9⟩
theorem lw_L_234 : LinkW RL 234 yL_bits cL_bits 5 (some .int) [(0, 10, 11, 22), (0, 10, 16, 14)] 4 := ⟨List.forall_mem_cons.mpr ⟨tb_in 953 (by decide +kernel) (by decide +kernel), List.forall_mem_cons.mpr ⟨tb_in 954 (by decide +kernel) (by decide +kernel), List.forall_mem_cons.mpr ⟨tb_in 0 (by decide +kernel) (by decide +kernel), fun _ h => absurd h List.not_mem_nil⟩⟩⟩, tb_in 955 (by decide +kernel) (by decide +kernel), by decide +kernel⟩
def q_letsIn (r : Nat → Int) (n : Int) (x : Int) : Int := if (0 ≤ n ∧ n < r 0) then (if (1 ≤ x ∧ x ≤ 1023) then ((b2i (adm (gcn (rg r n.toNat)) x))) else -12) else -11
set_option maxHeartbeats 4000000 in
set_option maxRecDepth 100000 in
theorem w_letsIn {G : GG} {l : Launch} (hfl : l.stackTraces = false) (hG : MW G) (hS : SBW G) {m : Mm} {g : Gm} {T : Int} (hX : LWX T m g) (hT0 : 0 ≤ T ∧ T ≤ 999990000) {n : Int} (hnR : -2147483648 ≤ n ∧ n ≤ 2147483647) {x : Int} (hxR : -2147483648 ≤ x ∧ x ≤ 2147483647) : CW G l yL_letsIn cL_letsIn 4 (some .int) [(0, 14, 15, 22), (0, 14, 19, 14)] (RM 9 2 12) [.ref 0, vI n, vI x] m (fun r' m' => r' = some (vI (q_letsIn g.r n x)) ∧ m' = m) (fun _ _ => False) := by
  refine CW.of RL [(0, .ref 0), (1, vI n), (2, vI x)] hfl (by decide +kernel) rfl rfl (Nat.le_of_ble_eq_true rfl) ?_
  intro E ok en hml hEl htab
  have hR : e_R E = RM 9 2 12 := en.2.2.2
  have hn0 : 0 < (e_c E).maxLocals := by rw [hml]; decide
  have hn1 : 1 < (e_c E).maxLocals := by rw [hml]; decide
  have hn2 : 2 < (e_c E).maxLocals := by rw [hml]; decide
  have hn3 : 3 < (e_c E).maxLocals := by rw [hml]; decide
  refine ga_aload_n ok 0 rfl rfl dL_letsIn_0 ?_
  refine ga_iload_n ok 1 rfl rfl dL_letsIn_1 ?_
  refine ga_iload_n ok 2 rfl rfl dL_letsIn_2 ?_
  refine gc_X3_2 ok hG rfl lk_L_50 rfl (c_X3_letsIn ok.fl hG hX.I hX.O hnR hxR) (by rw [hR]; exact ⟨by decide, by decide, by decide, by decide⟩) (Nat.le_of_ble_eq_true rfl) dL_letsIn_3 (fun r9 m1 hq => ?_) (fun X9 m1 hq => ?_)
  · obtain ⟨q1, q2, rfl, hm9⟩ := hq
    subst m1
    simp only [Option.toList_some, List.singleton_append]
    refine ga_if_eq ok 13 (by decide) (b2i_rng _) dL_letsIn_6 (fun c_6 => ?_) (fun c_6 => ?_)
    · have f_6 := b2i_0.mp c_6
      refine ga_iconst ok dL_letsIn_13 ?_
      exact ga_ireturn ok en rfl rfl (by exact Nat.le_refl _) (by exact Nat.le_refl _) dL_letsIn_14 ⟨by unfold q_letsIn; rw [if_pos q1, if_pos q2, f_6]; rfl, rfl⟩
    · have f_6 := b2i_n0.mp c_6
      refine ga_iconst ok dL_letsIn_9 ?_
      refine ga_goto ok 14 (by decide) dL_letsIn_10 ?_
      exact ga_ireturn ok en rfl rfl (by exact Nat.le_refl _) (by exact Nat.le_refl _) dL_letsIn_14 ⟨by unfold q_letsIn; rw [if_pos q1, if_pos q2, f_6]; rfl, rfl⟩
  · obtain ⟨hc, hm9⟩ := hq
    rcases hc with ⟨rfl, q1⟩ | ⟨rfl, q1, q2⟩
    · refine gx_catch ok hS htab [] (0, 14, 15, 22) [(0, 14, 19, 14)] rfl (fun _ h => absurd h List.not_mem_nil) rfl (by decide) cl_IO cs_IO (fun q => ?_)
      refine ga_astore_n ok 3 rfl hn3 dL_letsIn_15 ?_
      refine ga_bipush ok dL_letsIn_16 (by decide) ?_
      exact ga_ireturn ok en rfl rfl (by exact Nat.le_refl _) (by exact Nat.le_refl _) dL_letsIn_18 ⟨by unfold q_letsIn; rw [if_neg q1], hm9⟩
    · refine gx_catch ok hS htab [(0, 14, 15, 22)] (0, 14, 19, 14) [] rfl (List.forall_mem_cons.mpr ⟨⟨by decide, _, cl_IO, by decide +kernel, by decide +kernel, by decide +kernel⟩, fun _ h => absurd h List.not_mem_nil⟩) rfl (by decide) cl_IA cs_IA (fun q => ?_)
      refine ga_astore_n ok 3 rfl hn3 dL_letsIn_19 ?_
      refine ga_bipush ok dL_letsIn_20 (by decide) ?_
      exact ga_ireturn ok en rfl rfl (by exact Nat.le_refl _) (by exact Nat.le_refl _) dL_letsIn_22 ⟨by unfold q_letsIn; rw [if_pos q1, if_neg q2], hm9⟩
theorem lw_L_238 : LinkW RL 238 yL_letsIn cL_letsIn 4 (some .int) [(0, 14, 15, 22), (0, 14, 19, 14)] 3 := ⟨List.forall_mem_cons.mpr ⟨tb_in 965 (by decide +kernel) (by decide +kernel), List.forall_mem_cons.mpr ⟨tb_in 966 (by decide +kernel) (by decide +kernel), List.forall_mem_cons.mpr ⟨tb_in 0 (by decide +kernel) (by decide +kernel), fun _ h => absurd h List.not_mem_nil⟩⟩⟩, tb_in 967 (by decide +kernel) (by decide +kernel), by decide +kernel⟩
def q_weightBits (r : Nat → Int) (n : Int) (x : Int) : Int := if (0 ≤ n ∧ n < r 0) then (if (-1 ≤ x ∧ x < 10) then ((fword (fq (gcn (rg r n.toNat) (x + 1).toNat)))) else -12) else -11
set_option maxHeartbeats 4000000 in
set_option maxRecDepth 100000 in
theorem w_weightBits {G : GG} {l : Launch} (hfl : l.stackTraces = false) (hG : MW G) (hS : SBW G) {m : Mm} {g : Gm} {T : Int} (hX : LWX T m g) (hT0 : 0 ≤ T ∧ T ≤ 999990000) {n : Int} (hnR : -2147483648 ≤ n ∧ n ≤ 2147483647) {x : Int} (hxR : -2147483648 ≤ x ∧ x ≤ 2147483647) : CW G l yL_weightBits cL_weightBits 4 (some .int) [(0, 6, 7, 22), (0, 6, 11, 14)] (RM 9 2 12) [.ref 0, vI n, vI x] m (fun r' m' => r' = some (vI (q_weightBits g.r n x)) ∧ m' = m) (fun _ _ => False) := by
  refine CW.of RL [(0, .ref 0), (1, vI n), (2, vI x)] hfl (by decide +kernel) rfl rfl (Nat.le_of_ble_eq_true rfl) ?_
  intro E ok en hml hEl htab
  have hR : e_R E = RM 9 2 12 := en.2.2.2
  have hn0 : 0 < (e_c E).maxLocals := by rw [hml]; decide
  have hn1 : 1 < (e_c E).maxLocals := by rw [hml]; decide
  have hn2 : 2 < (e_c E).maxLocals := by rw [hml]; decide
  have hn3 : 3 < (e_c E).maxLocals := by rw [hml]; decide
  refine ga_aload_n ok 0 rfl rfl dL_weightBits_0 ?_
  refine ga_iload_n ok 1 rfl rfl dL_weightBits_1 ?_
  refine ga_iload_n ok 2 rfl rfl dL_weightBits_2 ?_
  refine gc_X3_2 ok hG rfl lk_L_54 rfl (c_X3_weightBits ok.fl hG hX.I hX.O hnR hxR) (by rw [hR]; exact ⟨by decide, by decide, by decide, by decide⟩) (Nat.le_of_ble_eq_true rfl) dL_weightBits_3 (fun r9 m1 hq => ?_) (fun X9 m1 hq => ?_)
  · obtain ⟨q1, q2, rfl, hm9⟩ := hq
    subst m1
    simp only [Option.toList_some, List.singleton_append]
    exact ga_ireturn ok en rfl rfl (by exact Nat.le_refl _) (by exact Nat.le_refl _) dL_weightBits_6 ⟨by unfold q_weightBits; rw [if_pos q1, if_pos q2], rfl⟩
  · obtain ⟨hc, hm9⟩ := hq
    rcases hc with ⟨rfl, q1⟩ | ⟨rfl, q1, q2⟩
    · refine gx_catch ok hS htab [] (0, 6, 7, 22) [(0, 6, 11, 14)] rfl (fun _ h => absurd h List.not_mem_nil) rfl (by decide) cl_IO cs_IO (fun q => ?_)
      refine ga_astore_n ok 3 rfl hn3 dL_weightBits_7 ?_
      refine ga_bipush ok dL_weightBits_8 (by decide) ?_
      exact ga_ireturn ok en rfl rfl (by exact Nat.le_refl _) (by exact Nat.le_refl _) dL_weightBits_10 ⟨by unfold q_weightBits; rw [if_neg q1], hm9⟩
    · refine gx_catch ok hS htab [(0, 6, 7, 22)] (0, 6, 11, 14) [] rfl (List.forall_mem_cons.mpr ⟨⟨by decide, _, cl_IO, by decide +kernel, by decide +kernel, by decide +kernel⟩, fun _ h => absurd h List.not_mem_nil⟩) rfl (by decide) cl_IA cs_IA (fun q => ?_)
      refine ga_astore_n ok 3 rfl hn3 dL_weightBits_11 ?_
      refine ga_bipush ok dL_weightBits_12 (by decide) ?_
      exact ga_ireturn ok en rfl rfl (by exact Nat.le_refl _) (by exact Nat.le_refl _) dL_weightBits_14 ⟨by unfold q_weightBits; rw [if_pos q1, if_neg q2], hm9⟩
theorem lw_L_228 : LinkW RL 228 yL_weightBits cL_weightBits 4 (some .int) [(0, 6, 7, 22), (0, 6, 11, 14)] 3 := ⟨List.forall_mem_cons.mpr ⟨tb_in 807 (by decide +kernel) (by decide +kernel), List.forall_mem_cons.mpr ⟨tb_in 808 (by decide +kernel) (by decide +kernel), List.forall_mem_cons.mpr ⟨tb_in 0 (by decide +kernel) (by decide +kernel), fun _ h => absurd h List.not_mem_nil⟩⟩⟩, tb_in 809 (by decide +kernel) (by decide +kernel), by decide +kernel⟩
def q_counted (r : Nat → Int) (n : Int) (x : Int) : Int := if (0 ≤ n ∧ n < r 0) then (if (-1 ≤ x ∧ x < 10) then ((gcn (rg r n.toNat) (x + 1).toNat)) else -70012) else -70011
set_option maxHeartbeats 4000000 in
set_option maxRecDepth 100000 in
theorem w_counted {G : GG} {l : Launch} (hfl : l.stackTraces = false) (hG : MW G) (hS : SBW G) {m : Mm} {g : Gm} {T : Int} (hX : LWX T m g) (hT0 : 0 ≤ T ∧ T ≤ 999990000) {n : Int} (hnR : -2147483648 ≤ n ∧ n ≤ 2147483647) {x : Int} (hxR : -2147483648 ≤ x ∧ x ≤ 2147483647) : CW G l yL_counted cL_counted 4 (some .int) [(0, 6, 7, 22), (0, 6, 11, 14)] (RM 9 2 12) [.ref 0, vI n, vI x] m (fun r' m' => r' = some (vI (q_counted g.r n x)) ∧ m' = m) (fun _ _ => False) := by
  refine CW.of RL [(0, .ref 0), (1, vI n), (2, vI x)] hfl (by decide +kernel) rfl rfl (Nat.le_of_ble_eq_true rfl) ?_
  intro E ok en hml hEl htab
  have hR : e_R E = RM 9 2 12 := en.2.2.2
  have hn0 : 0 < (e_c E).maxLocals := by rw [hml]; decide
  have hn1 : 1 < (e_c E).maxLocals := by rw [hml]; decide
  have hn2 : 2 < (e_c E).maxLocals := by rw [hml]; decide
  have hn3 : 3 < (e_c E).maxLocals := by rw [hml]; decide
  refine ga_aload_n ok 0 rfl rfl dL_counted_0 ?_
  refine ga_iload_n ok 1 rfl rfl dL_counted_1 ?_
  refine ga_iload_n ok 2 rfl rfl dL_counted_2 ?_
  refine gc_X3_2 ok hG rfl lk_L_57 rfl (c_X3_counted ok.fl hG hX.I hX.O hnR hxR) (by rw [hR]; exact ⟨by decide, by decide, by decide, by decide⟩) (Nat.le_of_ble_eq_true rfl) dL_counted_3 (fun r9 m1 hq => ?_) (fun X9 m1 hq => ?_)
  · obtain ⟨q1, q2, rfl, hm9⟩ := hq
    subst m1
    simp only [Option.toList_some, List.singleton_append]
    exact ga_ireturn ok en rfl rfl (by exact Nat.le_refl _) (by exact Nat.le_refl _) dL_counted_6 ⟨by unfold q_counted; rw [if_pos q1, if_pos q2], rfl⟩
  · obtain ⟨hc, hm9⟩ := hq
    rcases hc with ⟨rfl, q1⟩ | ⟨rfl, q1, q2⟩
    · refine gx_catch ok hS htab [] (0, 6, 7, 22) [(0, 6, 11, 14)] rfl (fun _ h => absurd h List.not_mem_nil) rfl (by decide) cl_IO cs_IO (fun q => ?_)
      refine ga_astore_n ok 3 rfl hn3 dL_counted_7 ?_
      refine ga_ldc (z := -70011) ok dL_counted_8 (tb_in 595 (by decide +kernel) (by decide +kernel)) ?_
      exact ga_ireturn ok en rfl rfl (by exact Nat.le_refl _) (by exact Nat.le_refl _) dL_counted_10 ⟨by unfold q_counted; rw [if_neg q1], hm9⟩
    · refine gx_catch ok hS htab [(0, 6, 7, 22)] (0, 6, 11, 14) [] rfl (List.forall_mem_cons.mpr ⟨⟨by decide, _, cl_IO, by decide +kernel, by decide +kernel, by decide +kernel⟩, fun _ h => absurd h List.not_mem_nil⟩) rfl (by decide) cl_IA cs_IA (fun q => ?_)
      refine ga_astore_n ok 3 rfl hn3 dL_counted_11 ?_
      refine ga_ldc (z := -70012) ok dL_counted_12 (tb_in 596 (by decide +kernel) (by decide +kernel)) ?_
      exact ga_ireturn ok en rfl rfl (by exact Nat.le_refl _) (by exact Nat.le_refl _) dL_counted_14 ⟨by unfold q_counted; rw [if_pos q1, if_neg q2], hm9⟩
theorem lw_L_181 : LinkW RL 181 yL_counted cL_counted 4 (some .int) [(0, 6, 7, 22), (0, 6, 11, 14)] 3 := ⟨List.forall_mem_cons.mpr ⟨tb_in 584 (by decide +kernel) (by decide +kernel), List.forall_mem_cons.mpr ⟨tb_in 585 (by decide +kernel) (by decide +kernel), List.forall_mem_cons.mpr ⟨tb_in 0 (by decide +kernel) (by decide +kernel), fun _ h => absurd h List.not_mem_nil⟩⟩⟩, tb_in 586 (by decide +kernel) (by decide +kernel), by decide +kernel⟩
def q_meanBits (r : Nat → Int) (n : Int) (x : Int) : Int := if (0 ≤ n ∧ n < r 0) then (if (0 ≤ x ∧ x < 10) then (if rg r n.toNat 2 ≠ 0 then ((fword (FP.fdiv (fbits (rg r n.toNat (17 + x.toNat))) (FP.i2f (Int32.ofInt (rg r n.toNat 2)))))) else -14) else -12) else -11
set_option maxHeartbeats 4000000 in
set_option maxRecDepth 100000 in
theorem w_meanBits {G : GG} {l : Launch} (hfl : l.stackTraces = false) (hG : MW G) (hS : SBW G) {m : Mm} {g : Gm} {T : Int} (hX : LWX T m g) (hT0 : 0 ≤ T ∧ T ≤ 999990000) {n : Int} (hnR : -2147483648 ≤ n ∧ n ≤ 2147483647) {x : Int} (hxR : -2147483648 ≤ x ∧ x ≤ 2147483647) : CW G l yL_meanBits cL_meanBits 4 (some .int) [(0, 9, 10, 22), (0, 9, 14, 14), (0, 9, 18, 66)] (RM 9 3 18) [.ref 0, vI n, vI x] m (fun r' m' => r' = some (vI (q_meanBits g.r n x)) ∧ m' = m) (fun _ _ => False) := by
  refine CW.of RL [(0, .ref 0), (1, vI n), (2, vI x)] hfl (by decide +kernel) rfl rfl (Nat.le_of_ble_eq_true rfl) ?_
  intro E ok en hml hEl htab
  have hR : e_R E = RM 9 3 18 := en.2.2.2
  have hn0 : 0 < (e_c E).maxLocals := by rw [hml]; decide
  have hn1 : 1 < (e_c E).maxLocals := by rw [hml]; decide
  have hn2 : 2 < (e_c E).maxLocals := by rw [hml]; decide
  have hn3 : 3 < (e_c E).maxLocals := by rw [hml]; decide
  refine ga_aload_n ok 0 rfl rfl dL_meanBits_0 ?_
  refine ga_iload_n ok 1 rfl rfl dL_meanBits_1 ?_
  refine ga_iload_n ok 2 rfl rfl dL_meanBits_2 ?_
  refine gc_X3_2 ok hG rfl lk_L_62 rfl (c_X3_mean ok.fl hG hX.I hX.O (by omega) hnR hxR) (by rw [hR]; exact ⟨by decide, by decide, by decide, by decide⟩) (Nat.le_of_ble_eq_true rfl) dL_meanBits_3 (fun r9 m1 hq => ?_) (fun X9 m1 hq => ?_)
  · obtain ⟨q1, q2, q3, rfl, hm9⟩ := hq
    subst m1
    simp only [Option.toList_some, List.singleton_append]
    refine gd_J_1 ok lj_L_44 (c_Jf_bits ok.fl hG (fdiv_nn ((hX.O.2.2.2 n.toNat (by omega)).2.2.2.2 x.toNat (by omega)).1 (by have := (hX.O.2.2.2 n.toNat (by omega)).2.2.1 2 (by omega) (by omega); omega))) (by rw [hR]; exact ⟨by decide, by decide, by decide, by decide⟩) (Nat.le_of_ble_eq_true rfl) dL_meanBits_6 ?_
    exact ga_ireturn ok en rfl rfl (by exact Nat.le_refl _) (by exact Nat.le_refl _) dL_meanBits_9 ⟨by unfold q_meanBits; rw [if_pos q1, if_pos q2, if_pos q3], rfl⟩
  · obtain ⟨hc, hm9⟩ := hq
    rcases hc with ⟨rfl, q1⟩ | ⟨rfl, q1, q2⟩ | ⟨rfl, q1, q2, q3⟩
    · refine gx_catch ok hS htab [] (0, 9, 10, 22) [(0, 9, 14, 14), (0, 9, 18, 66)] rfl (fun _ h => absurd h List.not_mem_nil) rfl (by decide) cl_IO cs_IO (fun q => ?_)
      refine ga_astore_n ok 3 rfl hn3 dL_meanBits_10 ?_
      refine ga_bipush ok dL_meanBits_11 (by decide) ?_
      exact ga_ireturn ok en rfl rfl (by exact Nat.le_refl _) (by exact Nat.le_refl _) dL_meanBits_13 ⟨by unfold q_meanBits; rw [if_neg q1], hm9⟩
    · refine gx_catch ok hS htab [(0, 9, 10, 22)] (0, 9, 14, 14) [(0, 9, 18, 66)] rfl (List.forall_mem_cons.mpr ⟨⟨by decide, _, cl_IO, by decide +kernel, by decide +kernel, by decide +kernel⟩, fun _ h => absurd h List.not_mem_nil⟩) rfl (by decide) cl_IA cs_IA (fun q => ?_)
      refine ga_astore_n ok 3 rfl hn3 dL_meanBits_14 ?_
      refine ga_bipush ok dL_meanBits_15 (by decide) ?_
      exact ga_ireturn ok en rfl rfl (by exact Nat.le_refl _) (by exact Nat.le_refl _) dL_meanBits_17 ⟨by unfold q_meanBits; rw [if_pos q1, if_neg q2], hm9⟩
    · refine gx_catch ok hS htab [(0, 9, 10, 22), (0, 9, 14, 14)] (0, 9, 18, 66) [] rfl (List.forall_mem_cons.mpr ⟨⟨by decide, _, cl_IO, by decide +kernel, by decide +kernel, by decide +kernel⟩, List.forall_mem_cons.mpr ⟨⟨by decide, _, cl_IA, by decide +kernel, by decide +kernel, by decide +kernel⟩, fun _ h => absurd h List.not_mem_nil⟩⟩) rfl (by decide) cl_AR cs_AR (fun q => ?_)
      refine ga_astore_n ok 3 rfl hn3 dL_meanBits_18 ?_
      refine ga_bipush ok dL_meanBits_19 (by decide) ?_
      exact ga_ireturn ok en rfl rfl (by exact Nat.le_refl _) (by exact Nat.le_refl _) dL_meanBits_21 ⟨by unfold q_meanBits; rw [if_pos q1, if_pos q2, if_neg (fun h => h q3)], hm9⟩
theorem lw_L_242 : LinkW RL 242 yL_meanBits cL_meanBits 4 (some .int) [(0, 9, 10, 22), (0, 9, 14, 14), (0, 9, 18, 66)] 3 := ⟨List.forall_mem_cons.mpr ⟨tb_in 985 (by decide +kernel) (by decide +kernel), List.forall_mem_cons.mpr ⟨tb_in 986 (by decide +kernel) (by decide +kernel), List.forall_mem_cons.mpr ⟨tb_in 0 (by decide +kernel) (by decide +kernel), fun _ h => absurd h List.not_mem_nil⟩⟩⟩, tb_in 987 (by decide +kernel) (by decide +kernel), by decide +kernel⟩
def q_strongest (r : Nat → Int) (n : Int) (p : Int) : Int := if (0 ≤ n ∧ n < r 0) then (if ffd (fun b => ahd (gcn (rg r n.toNat)) b 10) p 10 ≠ -1 then ((ffd (fun b => ahd (gcn (rg r n.toNat)) b 10) p 10)) else -13) else -11
set_option maxHeartbeats 4000000 in
set_option maxRecDepth 100000 in
theorem w_strongest {G : GG} {l : Launch} (hfl : l.stackTraces = false) (hG : MW G) (hS : SBW G) {m : Mm} {g : Gm} {T : Int} (hX : LWX T m g) (hT0 : 0 ≤ T ∧ T ≤ 999990000) {n : Int} (hnR : -2147483648 ≤ n ∧ n ≤ 2147483647) {p : Int} (hpR : -2147483648 ≤ p ∧ p ≤ 2147483647) : CW G l yL_strongest cL_strongest 4 (some .int) [(0, 6, 7, 22), (0, 6, 11, 71)] (RM 9 2 12) [.ref 0, vI n, vI p] m (fun r' m' => r' = some (vI (q_strongest g.r n p)) ∧ m' = m) (fun _ _ => False) := by
  refine CW.of RL [(0, .ref 0), (1, vI n), (2, vI p)] hfl (by decide +kernel) rfl rfl (Nat.le_of_ble_eq_true rfl) ?_
  intro E ok en hml hEl htab
  have hR : e_R E = RM 9 2 12 := en.2.2.2
  have hn0 : 0 < (e_c E).maxLocals := by rw [hml]; decide
  have hn1 : 1 < (e_c E).maxLocals := by rw [hml]; decide
  have hn2 : 2 < (e_c E).maxLocals := by rw [hml]; decide
  have hn3 : 3 < (e_c E).maxLocals := by rw [hml]; decide
  refine ga_aload_n ok 0 rfl rfl dL_strongest_0 ?_
  refine ga_iload_n ok 1 rfl rfl dL_strongest_1 ?_
  refine ga_iload_n ok 2 rfl rfl dL_strongest_2 ?_
  refine gc_X3_2 ok hG rfl lk_L_68 rfl (c_X3_strongest ok.fl hG hX.I hX.O hnR hpR) (by rw [hR]; exact ⟨by decide, by decide, by decide, by decide⟩) (Nat.le_of_ble_eq_true rfl) dL_strongest_3 (fun r9 m1 hq => ?_) (fun X9 m1 hq => ?_)
  · obtain ⟨q1, q2, rfl, hm9⟩ := hq
    subst m1
    simp only [Option.toList_some, List.singleton_append]
    exact ga_ireturn ok en rfl rfl (by exact Nat.le_refl _) (by exact Nat.le_refl _) dL_strongest_6 ⟨by unfold q_strongest; rw [if_pos q1, if_pos q2], rfl⟩
  · obtain ⟨hc, hm9⟩ := hq
    rcases hc with ⟨rfl, q1⟩ | ⟨rfl, q1, q2⟩
    · refine gx_catch ok hS htab [] (0, 6, 7, 22) [(0, 6, 11, 71)] rfl (fun _ h => absurd h List.not_mem_nil) rfl (by decide) cl_IO cs_IO (fun q => ?_)
      refine ga_astore_n ok 3 rfl hn3 dL_strongest_7 ?_
      refine ga_bipush ok dL_strongest_8 (by decide) ?_
      exact ga_ireturn ok en rfl rfl (by exact Nat.le_refl _) (by exact Nat.le_refl _) dL_strongest_10 ⟨by unfold q_strongest; rw [if_neg q1], hm9⟩
    · refine gx_catch ok hS htab [(0, 6, 7, 22)] (0, 6, 11, 71) [] rfl (List.forall_mem_cons.mpr ⟨⟨by decide, _, cl_IO, by decide +kernel, by decide +kernel, by decide +kernel⟩, fun _ h => absurd h List.not_mem_nil⟩) rfl (by decide) cl_NS cs_NS (fun q => ?_)
      refine ga_astore_n ok 3 rfl hn3 dL_strongest_11 ?_
      refine ga_bipush ok dL_strongest_12 (by decide) ?_
      exact ga_ireturn ok en rfl rfl (by exact Nat.le_refl _) (by exact Nat.le_refl _) dL_strongest_14 ⟨by unfold q_strongest; rw [if_pos q1, if_neg (fun h => h q2)], hm9⟩
theorem lw_L_240 : LinkW RL 240 yL_strongest cL_strongest 4 (some .int) [(0, 6, 7, 22), (0, 6, 11, 71)] 3 := ⟨List.forall_mem_cons.mpr ⟨tb_in 973 (by decide +kernel) (by decide +kernel), List.forall_mem_cons.mpr ⟨tb_in 974 (by decide +kernel) (by decide +kernel), List.forall_mem_cons.mpr ⟨tb_in 0 (by decide +kernel) (by decide +kernel), fun _ h => absurd h List.not_mem_nil⟩⟩⟩, tb_in 975 (by decide +kernel) (by decide +kernel), by decide +kernel⟩
def q_closest (r : Nat → Int) (n : Int) : Int := if (0 ≤ n ∧ n < r 0) then (if r 1 ≠ 0 then ((clo r n.toNat (r 1).toNat : Nat)) else -13) else -11
set_option maxHeartbeats 4000000 in
set_option maxRecDepth 100000 in
theorem w_closest {G : GG} {l : Launch} (hfl : l.stackTraces = false) (hG : MW G) (hS : SBW G) {m : Mm} {g : Gm} {T : Int} (hX : LWX T m g) (hT0 : 0 ≤ T ∧ T ≤ 999990000) {n : Int} (hnR : -2147483648 ≤ n ∧ n ≤ 2147483647) : CW G l yL_closest cL_closest 3 (some .int) [(0, 5, 6, 22), (0, 5, 10, 71)] (RM 9 2 12) [.ref 0, vI n] m (fun r' m' => r' = some (vI (q_closest g.r n)) ∧ m' = m) (fun _ _ => False) := by
  refine CW.of RL [(0, .ref 0), (1, vI n)] hfl (by decide +kernel) rfl rfl (Nat.le_of_ble_eq_true rfl) ?_
  intro E ok en hml hEl htab
  have hR : e_R E = RM 9 2 12 := en.2.2.2
  have hn0 : 0 < (e_c E).maxLocals := by rw [hml]; decide
  have hn1 : 1 < (e_c E).maxLocals := by rw [hml]; decide
  have hn2 : 2 < (e_c E).maxLocals := by rw [hml]; decide
  refine ga_aload_n ok 0 rfl rfl dL_closest_0 ?_
  refine ga_iload_n ok 1 rfl rfl dL_closest_1 ?_
  refine gc_X3_1 ok hG rfl lk_L_73 rfl (c_X3_closest ok.fl hG hX.I hX.O hnR) (by rw [hR]; exact ⟨by decide, by decide, by decide, by decide⟩) (Nat.le_of_ble_eq_true rfl) dL_closest_2 (fun r9 m1 hq => ?_) (fun X9 m1 hq => ?_)
  · obtain ⟨q1, q2, rfl, hm9⟩ := hq
    subst m1
    simp only [Option.toList_some, List.singleton_append]
    exact ga_ireturn ok en rfl rfl (by exact Nat.le_refl _) (by exact Nat.le_refl _) dL_closest_5 ⟨by unfold q_closest; rw [if_pos q1, if_pos q2], rfl⟩
  · obtain ⟨hc, hm9⟩ := hq
    rcases hc with ⟨rfl, q1⟩ | ⟨rfl, q1, q2⟩
    · refine gx_catch ok hS htab [] (0, 5, 6, 22) [(0, 5, 10, 71)] rfl (fun _ h => absurd h List.not_mem_nil) rfl (by decide) cl_IO cs_IO (fun q => ?_)
      refine ga_astore_n ok 2 rfl hn2 dL_closest_6 ?_
      refine ga_bipush ok dL_closest_7 (by decide) ?_
      exact ga_ireturn ok en rfl rfl (by exact Nat.le_refl _) (by exact Nat.le_refl _) dL_closest_9 ⟨by unfold q_closest; rw [if_neg q1], hm9⟩
    · refine gx_catch ok hS htab [(0, 5, 6, 22)] (0, 5, 10, 71) [] rfl (List.forall_mem_cons.mpr ⟨⟨by decide, _, cl_IO, by decide +kernel, by decide +kernel, by decide +kernel⟩, fun _ h => absurd h List.not_mem_nil⟩) rfl (by decide) cl_NS cs_NS (fun q => ?_)
      refine ga_astore_n ok 2 rfl hn2 dL_closest_10 ?_
      refine ga_bipush ok dL_closest_11 (by decide) ?_
      exact ga_ireturn ok en rfl rfl (by exact Nat.le_refl _) (by exact Nat.le_refl _) dL_closest_13 ⟨by unfold q_closest; rw [if_pos q1, if_neg (fun h => h q2)], hm9⟩
theorem lw_L_263 : LinkW RL 263 yL_closest cL_closest 3 (some .int) [(0, 5, 6, 22), (0, 5, 10, 71)] 2 := ⟨List.forall_mem_cons.mpr ⟨tb_in 1079 (by decide +kernel) (by decide +kernel), List.forall_mem_cons.mpr ⟨tb_in 1080 (by decide +kernel) (by decide +kernel), List.forall_mem_cons.mpr ⟨tb_in 0 (by decide +kernel) (by decide +kernel), fun _ h => absurd h List.not_mem_nil⟩⟩⟩, tb_in 1081 (by decide +kernel) (by decide +kernel), by decide +kernel⟩
def q_knowsBits (r : Nat → Int) (n : Int) (v : Int) : Int := if (0 ≤ n ∧ n < r 0) then (if (0 ≤ v ∧ v < r 1) then ((fword (fq (kno r n.toNat v.toNat)))) else -11) else -11
set_option maxHeartbeats 4000000 in
set_option maxRecDepth 100000 in
theorem w_knowsBits {G : GG} {l : Launch} (hfl : l.stackTraces = false) (hG : MW G) (hS : SBW G) {m : Mm} {g : Gm} {T : Int} (hX : LWX T m g) (hT0 : 0 ≤ T ∧ T ≤ 999990000) {n : Int} (hnR : -2147483648 ≤ n ∧ n ≤ 2147483647) {v : Int} (hvR : -2147483648 ≤ v ∧ v ≤ 2147483647) : CW G l yL_knowsBits cL_knowsBits 4 (some .int) [(0, 9, 10, 22)] (RM 9 2 12) [.ref 0, vI n, vI v] m (fun r' m' => r' = some (vI (q_knowsBits g.r n v)) ∧ m' = m) (fun _ _ => False) := by
  refine CW.of RL [(0, .ref 0), (1, vI n), (2, vI v)] hfl (by decide +kernel) rfl rfl (Nat.le_of_ble_eq_true rfl) ?_
  intro E ok en hml hEl htab
  have hR : e_R E = RM 9 2 12 := en.2.2.2
  have hn0 : 0 < (e_c E).maxLocals := by rw [hml]; decide
  have hn1 : 1 < (e_c E).maxLocals := by rw [hml]; decide
  have hn2 : 2 < (e_c E).maxLocals := by rw [hml]; decide
  have hn3 : 3 < (e_c E).maxLocals := by rw [hml]; decide
  refine ga_aload_n ok 0 rfl rfl dL_knowsBits_0 ?_
  refine ga_iload_n ok 1 rfl rfl dL_knowsBits_1 ?_
  refine ga_iload_n ok 2 rfl rfl dL_knowsBits_2 ?_
  refine gc_X3_2 ok hG rfl lk_L_76 rfl (c_X3_knows ok.fl hG hX.I hX.O hnR hvR) (by rw [hR]; exact ⟨by decide, by decide, by decide, by decide⟩) (Nat.le_of_ble_eq_true rfl) dL_knowsBits_3 (fun r9 m1 hq => ?_) (fun X9 m1 hq => ?_)
  · obtain ⟨q1, q2, rfl, hm9⟩ := hq
    subst m1
    simp only [Option.toList_some, List.singleton_append]
    refine gd_J_1 ok lj_L_44 (c_Jf_bits ok.fl hG (fq_nan (kno_bd (hX.O.2.2.2 n.toNat (by omega))))) (by rw [hR]; exact ⟨by decide, by decide, by decide, by decide⟩) (Nat.le_of_ble_eq_true rfl) dL_knowsBits_6 ?_
    exact ga_ireturn ok en rfl rfl (by exact Nat.le_refl _) (by exact Nat.le_refl _) dL_knowsBits_9 ⟨by unfold q_knowsBits; rw [if_pos q1, if_pos q2], rfl⟩
  · obtain ⟨hc, hm9⟩ := hq
    rcases hc with ⟨rfl, q1⟩ | ⟨rfl, q1, q2⟩
    · refine gx_catch ok hS htab [] (0, 9, 10, 22) [] rfl (fun _ h => absurd h List.not_mem_nil) rfl (by decide) cl_IO cs_IO (fun q => ?_)
      refine ga_astore_n ok 3 rfl hn3 dL_knowsBits_10 ?_
      refine ga_bipush ok dL_knowsBits_11 (by decide) ?_
      exact ga_ireturn ok en rfl rfl (by exact Nat.le_refl _) (by exact Nat.le_refl _) dL_knowsBits_13 ⟨by unfold q_knowsBits; rw [if_neg q1], hm9⟩
    · refine gx_catch ok hS htab [] (0, 9, 10, 22) [] rfl (fun _ h => absurd h List.not_mem_nil) rfl (by decide) cl_IO cs_IO (fun q => ?_)
      refine ga_astore_n ok 3 rfl hn3 dL_knowsBits_10 ?_
      refine ga_bipush ok dL_knowsBits_11 (by decide) ?_
      exact ga_ireturn ok en rfl rfl (by exact Nat.le_refl _) (by exact Nat.le_refl _) dL_knowsBits_13 ⟨by unfold q_knowsBits; rw [if_pos q1, if_neg q2], hm9⟩
theorem lw_L_254 : LinkW RL 254 yL_knowsBits cL_knowsBits 4 (some .int) [(0, 9, 10, 22)] 3 := ⟨List.forall_mem_cons.mpr ⟨tb_in 1057 (by decide +kernel) (by decide +kernel), List.forall_mem_cons.mpr ⟨tb_in 1058 (by decide +kernel) (by decide +kernel), List.forall_mem_cons.mpr ⟨tb_in 0 (by decide +kernel) (by decide +kernel), fun _ h => absurd h List.not_mem_nil⟩⟩⟩, tb_in 1059 (by decide +kernel) (by decide +kernel), by decide +kernel⟩
def q_wouldPush (r : Nat → Int) (n : Int) (v : Int) : Int := if (0 ≤ n ∧ n < r 0) then (if (0 ≤ v ∧ v < r 1) then ((b2i (psS (rg r n.toNat) (vX r v.toNat) (vF r v.toNat)))) else -11) else -11
set_option maxHeartbeats 4000000 in
set_option maxRecDepth 100000 in
theorem w_wouldPush {G : GG} {l : Launch} (hfl : l.stackTraces = false) (hG : MW G) (hS : SBW G) {m : Mm} {g : Gm} {T : Int} (hX : LWX T m g) (hT0 : 0 ≤ T ∧ T ≤ 999990000) {n : Int} (hnR : -2147483648 ≤ n ∧ n ≤ 2147483647) {v : Int} (hvR : -2147483648 ≤ v ∧ v ≤ 2147483647) : CW G l yL_wouldPush cL_wouldPush 4 (some .int) [(0, 14, 15, 22)] (RM 9 2 12) [.ref 0, vI n, vI v] m (fun r' m' => r' = some (vI (q_wouldPush g.r n v)) ∧ m' = m) (fun _ _ => False) := by
  refine CW.of RL [(0, .ref 0), (1, vI n), (2, vI v)] hfl (by decide +kernel) rfl rfl (Nat.le_of_ble_eq_true rfl) ?_
  intro E ok en hml hEl htab
  have hR : e_R E = RM 9 2 12 := en.2.2.2
  have hn0 : 0 < (e_c E).maxLocals := by rw [hml]; decide
  have hn1 : 1 < (e_c E).maxLocals := by rw [hml]; decide
  have hn2 : 2 < (e_c E).maxLocals := by rw [hml]; decide
  have hn3 : 3 < (e_c E).maxLocals := by rw [hml]; decide
  refine ga_aload_n ok 0 rfl rfl dL_wouldPush_0 ?_
  refine ga_iload_n ok 1 rfl rfl dL_wouldPush_1 ?_
  refine ga_iload_n ok 2 rfl rfl dL_wouldPush_2 ?_
  refine gc_X3_2 ok hG rfl lk_L_91 rfl (c_X3_wouldPush ok.fl hG hX.I hX.O hnR hvR) (by rw [hR]; exact ⟨by decide, by decide, by decide, by decide⟩) (Nat.le_of_ble_eq_true rfl) dL_wouldPush_3 (fun r9 m1 hq => ?_) (fun X9 m1 hq => ?_)
  · obtain ⟨q1, q2, rfl, hm9⟩ := hq
    subst m1
    simp only [Option.toList_some, List.singleton_append]
    refine ga_if_eq ok 13 (by decide) (b2i_rng _) dL_wouldPush_6 (fun c_6 => ?_) (fun c_6 => ?_)
    · have f_6 := b2i_0.mp c_6
      refine ga_iconst ok dL_wouldPush_13 ?_
      exact ga_ireturn ok en rfl rfl (by exact Nat.le_refl _) (by exact Nat.le_refl _) dL_wouldPush_14 ⟨by unfold q_wouldPush; rw [if_pos q1, if_pos q2, f_6]; rfl, rfl⟩
    · have f_6 := b2i_n0.mp c_6
      refine ga_iconst ok dL_wouldPush_9 ?_
      refine ga_goto ok 14 (by decide) dL_wouldPush_10 ?_
      exact ga_ireturn ok en rfl rfl (by exact Nat.le_refl _) (by exact Nat.le_refl _) dL_wouldPush_14 ⟨by unfold q_wouldPush; rw [if_pos q1, if_pos q2, f_6]; rfl, rfl⟩
  · obtain ⟨hc, hm9⟩ := hq
    rcases hc with ⟨rfl, q1⟩ | ⟨rfl, q1, q2⟩
    · refine gx_catch ok hS htab [] (0, 14, 15, 22) [] rfl (fun _ h => absurd h List.not_mem_nil) rfl (by decide) cl_IO cs_IO (fun q => ?_)
      refine ga_astore_n ok 3 rfl hn3 dL_wouldPush_15 ?_
      refine ga_bipush ok dL_wouldPush_16 (by decide) ?_
      exact ga_ireturn ok en rfl rfl (by exact Nat.le_refl _) (by exact Nat.le_refl _) dL_wouldPush_18 ⟨by unfold q_wouldPush; rw [if_neg q1], hm9⟩
    · refine gx_catch ok hS htab [] (0, 14, 15, 22) [] rfl (fun _ h => absurd h List.not_mem_nil) rfl (by decide) cl_IO cs_IO (fun q => ?_)
      refine ga_astore_n ok 3 rfl hn3 dL_wouldPush_15 ?_
      refine ga_bipush ok dL_wouldPush_16 (by decide) ?_
      exact ga_ireturn ok en rfl rfl (by exact Nat.le_refl _) (by exact Nat.le_refl _) dL_wouldPush_18 ⟨by unfold q_wouldPush; rw [if_pos q1, if_neg q2], hm9⟩
theorem lw_L_257 : LinkW RL 257 yL_wouldPush cL_wouldPush 4 (some .int) [(0, 14, 15, 22)] 3 := ⟨List.forall_mem_cons.mpr ⟨tb_in 1068 (by decide +kernel) (by decide +kernel), List.forall_mem_cons.mpr ⟨tb_in 1069 (by decide +kernel) (by decide +kernel), List.forall_mem_cons.mpr ⟨tb_in 0 (by decide +kernel) (by decide +kernel), fun _ h => absurd h List.not_mem_nil⟩⟩⟩, tb_in 1070 (by decide +kernel) (by decide +kernel), by decide +kernel⟩
def q_votes (r : Nat → Int) (x : Int) : Int := if (1 ≤ x ∧ x ≤ 1023) then ((vts r x)) else -12
set_option maxHeartbeats 4000000 in
set_option maxRecDepth 100000 in
theorem w_votes {G : GG} {l : Launch} (hfl : l.stackTraces = false) (hG : MW G) (hS : SBW G) {m : Mm} {g : Gm} {T : Int} (hX : LWX T m g) (hT0 : 0 ≤ T ∧ T ≤ 999990000) {x : Int} (hxR : -2147483648 ≤ x ∧ x ≤ 2147483647) : CW G l yL_votes cL_votes 3 (some .int) [(0, 5, 6, 14)] (RM 9 1 6) [.ref 0, vI x] m (fun r' m' => r' = some (vI (q_votes g.r x)) ∧ m' = m) (fun _ _ => False) := by
  refine CW.of RL [(0, .ref 0), (1, vI x)] hfl (by decide +kernel) rfl rfl (Nat.le_of_ble_eq_true rfl) ?_
  intro E ok en hml hEl htab
  have hR : e_R E = RM 9 1 6 := en.2.2.2
  have hn0 : 0 < (e_c E).maxLocals := by rw [hml]; decide
  have hn1 : 1 < (e_c E).maxLocals := by rw [hml]; decide
  have hn2 : 2 < (e_c E).maxLocals := by rw [hml]; decide
  refine ga_aload_n ok 0 rfl rfl dL_votes_0 ?_
  refine ga_iload_n ok 1 rfl rfl dL_votes_1 ?_
  refine gc_X3_1 ok hG rfl lk_L_94 rfl (c_X3_votes ok.fl hG hX.I hX.O hxR) (by rw [hR]; exact ⟨by decide, by decide, by decide, by decide⟩) (Nat.le_of_ble_eq_true rfl) dL_votes_2 (fun r9 m1 hq => ?_) (fun X9 m1 hq => ?_)
  · obtain ⟨q1, rfl, hm9⟩ := hq
    subst m1
    simp only [Option.toList_some, List.singleton_append]
    exact ga_ireturn ok en rfl rfl (by exact Nat.le_refl _) (by exact Nat.le_refl _) dL_votes_5 ⟨by unfold q_votes; rw [if_pos q1], rfl⟩
  · obtain ⟨hc, hm9⟩ := hq
    obtain ⟨rfl, q1⟩ := hc
    refine gx_catch ok hS htab [] (0, 5, 6, 14) [] rfl (fun _ h => absurd h List.not_mem_nil) rfl (by decide) cl_IA cs_IA (fun q => ?_)
    refine ga_astore_n ok 2 rfl hn2 dL_votes_6 ?_
    refine ga_bipush ok dL_votes_7 (by decide) ?_
    exact ga_ireturn ok en rfl rfl (by exact Nat.le_refl _) (by exact Nat.le_refl _) dL_votes_9 ⟨by unfold q_votes; rw [if_neg q1], hm9⟩
theorem lw_L_265 : LinkW RL 265 yL_votes cL_votes 3 (some .int) [(0, 5, 6, 14)] 2 := ⟨List.forall_mem_cons.mpr ⟨tb_in 1090 (by decide +kernel) (by decide +kernel), List.forall_mem_cons.mpr ⟨tb_in 1091 (by decide +kernel) (by decide +kernel), List.forall_mem_cons.mpr ⟨tb_in 0 (by decide +kernel) (by decide +kernel), fun _ h => absurd h List.not_mem_nil⟩⟩⟩, tb_in 1092 (by decide +kernel) (by decide +kernel), by decide +kernel⟩
def q_isVotedIn (r : Nat → Int) (x : Int) : Int := if (1 ≤ x ∧ x ≤ 1023) then ((b2i (vin r x))) else -12
set_option maxHeartbeats 4000000 in
set_option maxRecDepth 100000 in
theorem w_isVotedIn {G : GG} {l : Launch} (hfl : l.stackTraces = false) (hG : MW G) (hS : SBW G) {m : Mm} {g : Gm} {T : Int} (hX : LWX T m g) (hT0 : 0 ≤ T ∧ T ≤ 999990000) {x : Int} (hxR : -2147483648 ≤ x ∧ x ≤ 2147483647) : CW G l yL_isVotedIn cL_isVotedIn 3 (some .int) [(0, 13, 14, 14)] (RM 9 1 6) [.ref 0, vI x] m (fun r' m' => r' = some (vI (q_isVotedIn g.r x)) ∧ m' = m) (fun _ _ => False) := by
  refine CW.of RL [(0, .ref 0), (1, vI x)] hfl (by decide +kernel) rfl rfl (Nat.le_of_ble_eq_true rfl) ?_
  intro E ok en hml hEl htab
  have hR : e_R E = RM 9 1 6 := en.2.2.2
  have hn0 : 0 < (e_c E).maxLocals := by rw [hml]; decide
  have hn1 : 1 < (e_c E).maxLocals := by rw [hml]; decide
  have hn2 : 2 < (e_c E).maxLocals := by rw [hml]; decide
  refine ga_aload_n ok 0 rfl rfl dL_isVotedIn_0 ?_
  refine ga_iload_n ok 1 rfl rfl dL_isVotedIn_1 ?_
  refine gc_X3_1 ok hG rfl lk_L_97 rfl (c_X3_isVotedIn ok.fl hG hX.I hX.O hxR) (by rw [hR]; exact ⟨by decide, by decide, by decide, by decide⟩) (Nat.le_of_ble_eq_true rfl) dL_isVotedIn_2 (fun r9 m1 hq => ?_) (fun X9 m1 hq => ?_)
  · obtain ⟨q1, rfl, hm9⟩ := hq
    subst m1
    simp only [Option.toList_some, List.singleton_append]
    refine ga_if_eq ok 12 (by decide) (b2i_rng _) dL_isVotedIn_5 (fun c_5 => ?_) (fun c_5 => ?_)
    · have f_5 := b2i_0.mp c_5
      refine ga_iconst ok dL_isVotedIn_12 ?_
      exact ga_ireturn ok en rfl rfl (by exact Nat.le_refl _) (by exact Nat.le_refl _) dL_isVotedIn_13 ⟨by unfold q_isVotedIn; rw [if_pos q1, f_5]; rfl, rfl⟩
    · have f_5 := b2i_n0.mp c_5
      refine ga_iconst ok dL_isVotedIn_8 ?_
      refine ga_goto ok 13 (by decide) dL_isVotedIn_9 ?_
      exact ga_ireturn ok en rfl rfl (by exact Nat.le_refl _) (by exact Nat.le_refl _) dL_isVotedIn_13 ⟨by unfold q_isVotedIn; rw [if_pos q1, f_5]; rfl, rfl⟩
  · obtain ⟨hc, hm9⟩ := hq
    obtain ⟨rfl, q1⟩ := hc
    refine gx_catch ok hS htab [] (0, 13, 14, 14) [] rfl (fun _ h => absurd h List.not_mem_nil) rfl (by decide) cl_IA cs_IA (fun q => ?_)
    refine ga_astore_n ok 2 rfl hn2 dL_isVotedIn_14 ?_
    refine ga_bipush ok dL_isVotedIn_15 (by decide) ?_
    exact ga_ireturn ok en rfl rfl (by exact Nat.le_refl _) (by exact Nat.le_refl _) dL_isVotedIn_17 ⟨by unfold q_isVotedIn; rw [if_neg q1], hm9⟩
theorem lw_L_267 : LinkW RL 267 yL_isVotedIn cL_isVotedIn 3 (some .int) [(0, 13, 14, 14)] 2 := ⟨List.forall_mem_cons.mpr ⟨tb_in 1101 (by decide +kernel) (by decide +kernel), List.forall_mem_cons.mpr ⟨tb_in 1102 (by decide +kernel) (by decide +kernel), List.forall_mem_cons.mpr ⟨tb_in 0 (by decide +kernel) (by decide +kernel), fun _ h => absurd h List.not_mem_nil⟩⟩⟩, tb_in 1103 (by decide +kernel) (by decide +kernel), by decide +kernel⟩
def q_agree (r : Nat → Int) (n : Int) (h : Int) : Int := if (0 ≤ n ∧ n < r 0) then (if (0 ≤ h ∧ h < r 0) then ((agr r n.toNat h.toNat)) else -11) else -11
set_option maxHeartbeats 4000000 in
set_option maxRecDepth 100000 in
theorem w_agree {G : GG} {l : Launch} (hfl : l.stackTraces = false) (hG : MW G) (hS : SBW G) {m : Mm} {g : Gm} {T : Int} (hX : LWX T m g) (hT0 : 0 ≤ T ∧ T ≤ 999990000) {n : Int} (hnR : -2147483648 ≤ n ∧ n ≤ 2147483647) {h : Int} (hhR : -2147483648 ≤ h ∧ h ≤ 2147483647) : CW G l yL_agree cL_agree 4 (some .int) [(0, 6, 7, 22)] (RM 9 2 12) [.ref 0, vI n, vI h] m (fun r' m' => r' = some (vI (q_agree g.r n h)) ∧ m' = m) (fun _ _ => False) := by
  refine CW.of RL [(0, .ref 0), (1, vI n), (2, vI h)] hfl (by decide +kernel) rfl rfl (Nat.le_of_ble_eq_true rfl) ?_
  intro E ok en hml hEl htab
  have hR : e_R E = RM 9 2 12 := en.2.2.2
  have hn0 : 0 < (e_c E).maxLocals := by rw [hml]; decide
  have hn1 : 1 < (e_c E).maxLocals := by rw [hml]; decide
  have hn2 : 2 < (e_c E).maxLocals := by rw [hml]; decide
  have hn3 : 3 < (e_c E).maxLocals := by rw [hml]; decide
  refine ga_aload_n ok 0 rfl rfl dL_agree_0 ?_
  refine ga_iload_n ok 1 rfl rfl dL_agree_1 ?_
  refine ga_iload_n ok 2 rfl rfl dL_agree_2 ?_
  refine gc_X3_2 ok hG rfl lk_L_101 rfl (c_X3_agree ok.fl hG hX.I hX.O hnR hhR) (by rw [hR]; exact ⟨by decide, by decide, by decide, by decide⟩) (Nat.le_of_ble_eq_true rfl) dL_agree_3 (fun r9 m1 hq => ?_) (fun X9 m1 hq => ?_)
  · obtain ⟨q1, q2, rfl, hm9⟩ := hq
    subst m1
    simp only [Option.toList_some, List.singleton_append]
    exact ga_ireturn ok en rfl rfl (by exact Nat.le_refl _) (by exact Nat.le_refl _) dL_agree_6 ⟨by unfold q_agree; rw [if_pos q1, if_pos q2], rfl⟩
  · obtain ⟨hc, hm9⟩ := hq
    rcases hc with ⟨rfl, q1⟩ | ⟨rfl, q1, q2⟩
    · refine gx_catch ok hS htab [] (0, 6, 7, 22) [] rfl (fun _ h => absurd h List.not_mem_nil) rfl (by decide) cl_IO cs_IO (fun q => ?_)
      refine ga_astore_n ok 3 rfl hn3 dL_agree_7 ?_
      refine ga_bipush ok dL_agree_8 (by decide) ?_
      exact ga_ireturn ok en rfl rfl (by exact Nat.le_refl _) (by exact Nat.le_refl _) dL_agree_10 ⟨by unfold q_agree; rw [if_neg q1], hm9⟩
    · refine gx_catch ok hS htab [] (0, 6, 7, 22) [] rfl (fun _ h => absurd h List.not_mem_nil) rfl (by decide) cl_IO cs_IO (fun q => ?_)
      refine ga_astore_n ok 3 rfl hn3 dL_agree_7 ?_
      refine ga_bipush ok dL_agree_8 (by decide) ?_
      exact ga_ireturn ok en rfl rfl (by exact Nat.le_refl _) (by exact Nat.le_refl _) dL_agree_10 ⟨by unfold q_agree; rw [if_pos q1, if_neg q2], hm9⟩
theorem lw_L_269 : LinkW RL 269 yL_agree cL_agree 4 (some .int) [(0, 6, 7, 22)] 3 := ⟨List.forall_mem_cons.mpr ⟨tb_in 1113 (by decide +kernel) (by decide +kernel), List.forall_mem_cons.mpr ⟨tb_in 1114 (by decide +kernel) (by decide +kernel), List.forall_mem_cons.mpr ⟨tb_in 0 (by decide +kernel) (by decide +kernel), fun _ h => absurd h List.not_mem_nil⟩⟩⟩, tb_in 1115 (by decide +kernel) (by decide +kernel), by decide +kernel⟩
def q_ranked (r : Nat → Int) (p : Int) : Int := if ffd (fun n => aheadOf r n) p (r 0).toNat ≠ -1 then ((ffd (fun n => aheadOf r n) p (r 0).toNat)) else -13
set_option maxHeartbeats 4000000 in
set_option maxRecDepth 100000 in
theorem w_ranked {G : GG} {l : Launch} (hfl : l.stackTraces = false) (hG : MW G) (hS : SBW G) {m : Mm} {g : Gm} {T : Int} (hX : LWX T m g) (hT0 : 0 ≤ T ∧ T ≤ 999990000) {p : Int} (hpR : -2147483648 ≤ p ∧ p ≤ 2147483647) : CW G l yL_ranked cL_ranked 3 (some .int) [(0, 5, 6, 71)] (RM 9 1 6) [.ref 0, vI p] m (fun r' m' => r' = some (vI (q_ranked g.r p)) ∧ m' = m) (fun _ _ => False) := by
  refine CW.of RL [(0, .ref 0), (1, vI p)] hfl (by decide +kernel) rfl rfl (Nat.le_of_ble_eq_true rfl) ?_
  intro E ok en hml hEl htab
  have hR : e_R E = RM 9 1 6 := en.2.2.2
  have hn0 : 0 < (e_c E).maxLocals := by rw [hml]; decide
  have hn1 : 1 < (e_c E).maxLocals := by rw [hml]; decide
  have hn2 : 2 < (e_c E).maxLocals := by rw [hml]; decide
  refine ga_aload_n ok 0 rfl rfl dL_ranked_0 ?_
  refine ga_iload_n ok 1 rfl rfl dL_ranked_1 ?_
  refine gc_X3_1 ok hG rfl lk_L_104 rfl (c_X3_ranked ok.fl hG hX.I hX.O (by omega) hpR) (by rw [hR]; exact ⟨by decide, by decide, by decide, by decide⟩) (Nat.le_of_ble_eq_true rfl) dL_ranked_2 (fun r9 m1 hq => ?_) (fun X9 m1 hq => ?_)
  · obtain ⟨q1, rfl, hm9⟩ := hq
    subst m1
    simp only [Option.toList_some, List.singleton_append]
    exact ga_ireturn ok en rfl rfl (by exact Nat.le_refl _) (by exact Nat.le_refl _) dL_ranked_5 ⟨by unfold q_ranked; rw [if_pos q1], rfl⟩
  · obtain ⟨hc, hm9⟩ := hq
    obtain ⟨rfl, q1⟩ := hc
    refine gx_catch ok hS htab [] (0, 5, 6, 71) [] rfl (fun _ h => absurd h List.not_mem_nil) rfl (by decide) cl_NS cs_NS (fun q => ?_)
    refine ga_astore_n ok 2 rfl hn2 dL_ranked_6 ?_
    refine ga_bipush ok dL_ranked_7 (by decide) ?_
    exact ga_ireturn ok en rfl rfl (by exact Nat.le_refl _) (by exact Nat.le_refl _) dL_ranked_9 ⟨by unfold q_ranked; rw [if_neg (fun h => h q1)], hm9⟩
theorem lw_L_271 : LinkW RL 271 yL_ranked cL_ranked 3 (some .int) [(0, 5, 6, 71)] 2 := ⟨List.forall_mem_cons.mpr ⟨tb_in 1120 (by decide +kernel) (by decide +kernel), List.forall_mem_cons.mpr ⟨tb_in 1121 (by decide +kernel) (by decide +kernel), List.forall_mem_cons.mpr ⟨tb_in 0 (by decide +kernel) (by decide +kernel), fun _ h => absurd h List.not_mem_nil⟩⟩⟩, tb_in 1122 (by decide +kernel) (by decide +kernel), by decide +kernel⟩
def q_refusal (g : Gm) (f : Int) : Int := if g.rs = 0 then -101 else if f = 1 then g.dt else g.rs
set_option maxHeartbeats 4000000 in
set_option maxRecDepth 100000 in
theorem w_refusal {G : GG} {l : Launch} (hfl : l.stackTraces = false) (hG : MW G) (hS : SBW G) {m : Mm} {g : Gm} {T : Int} (hX : LWX T m g) (hT0 : 0 ≤ T ∧ T ≤ 999990000) {fr : Int} (hfr : fr = 0 ∨ fr = 1) : CW G l yL_refusal cL_refusal 3 (some .int) [(0, 5, 6, 71)] (RM 9 1 6) [.ref 0, vI fr] m (fun r' m' => r' = some (vI (q_refusal g fr)) ∧ m' = m) (fun _ _ => False) := by
  refine CW.of RL [(0, .ref 0), (1, vI fr)] hfl (by decide +kernel) rfl rfl (Nat.le_of_ble_eq_true rfl) ?_
  intro E ok en hml hEl htab
  have hR : e_R E = RM 9 1 6 := en.2.2.2
  have hn0 : 0 < (e_c E).maxLocals := by rw [hml]; decide
  have hn1 : 1 < (e_c E).maxLocals := by rw [hml]; decide
  have hn2 : 2 < (e_c E).maxLocals := by rw [hml]; decide
  obtain ⟨⟨e10, e11, e12⟩, -, h5, -⟩ := hX.1.2.2.2.1
  refine ga_aload_n ok 0 rfl rfl dL_refusal_0 ?_
  refine ga_iload_n ok 1 rfl rfl dL_refusal_1 ?_
  refine gc_X3_1 ok hG rfl lk_L_144 rfl (c_X3_refusal ok.fl hG (by rw [e11]; omega) hfr) (by rw [hR]; exact ⟨by decide, by decide, by decide, by decide⟩) (Nat.le_of_ble_eq_true rfl) dL_refusal_2 (fun r9 m1 hq => ?_) (fun X9 m1 hq => ?_)
  · obtain ⟨q1, rfl, hm9⟩ := hq
    subst m1
    rw [e11] at q1
    simp only [Option.toList_some, List.singleton_append]
    exact ga_ireturn ok en rfl rfl (by exact Nat.le_refl _) (by exact Nat.le_refl _) dL_refusal_5 ⟨by unfold q_refusal; rw [if_neg q1, e11, e12], rfl⟩
  · obtain ⟨hc, hm9⟩ := hq
    obtain ⟨rfl, q1⟩ := hc
    refine gx_catch ok hS htab [] (0, 5, 6, 71) [] rfl (fun _ h => absurd h List.not_mem_nil) rfl (by decide) cl_NS cs_NS (fun q => ?_)
    refine ga_astore_n ok 2 rfl hn2 dL_refusal_6 ?_
    refine ga_bipush ok dL_refusal_7 (by decide) ?_
    exact ga_ireturn ok en rfl rfl (by exact Nat.le_refl _) (by exact Nat.le_refl _) dL_refusal_9 ⟨by unfold q_refusal; rw [if_pos (by rw [← e11]; exact q1)], hm9⟩
theorem lw_L_165 : LinkW RL 165 yL_refusal cL_refusal 3 (some .int) [(0, 5, 6, 71)] 2 := ⟨List.forall_mem_cons.mpr ⟨tb_in 444 (by decide +kernel) (by decide +kernel), List.forall_mem_cons.mpr ⟨tb_in 445 (by decide +kernel) (by decide +kernel), List.forall_mem_cons.mpr ⟨tb_in 0 (by decide +kernel) (by decide +kernel), fun _ h => absurd h List.not_mem_nil⟩⟩⟩, tb_in 446 (by decide +kernel) (by decide +kernel), by decide +kernel⟩
def q_character (g : Gm) (i : Int) : Int := if 0 ≤ i ∧ i < g.nn then g.ln i.toNat else -11
set_option maxHeartbeats 4000000 in
set_option maxRecDepth 100000 in
theorem w_character {G : GG} {l : Launch} (hfl : l.stackTraces = false) (hG : MW G) (hS : SBW G) {m : Mm} {g : Gm} {T : Int} (hX : LWX T m g) (hT0 : 0 ≤ T ∧ T ≤ 999990000) {i : Int} (hiR : -2147483648 ≤ i ∧ i ≤ 2147483647) : CW G l yL_character cL_character 3 (some .int) [(0, 5, 6, 22)] (RM 10 1 6) [.ref 0, vI i] m (fun r' m' => r' = some (vI (q_character g i)) ∧ m' = m) (fun _ _ => False) := by
  refine CW.of RL [(0, .ref 0), (1, vI i)] hfl (by decide +kernel) rfl rfl (Nat.le_of_ble_eq_true rfl) ?_
  intro E ok en hml hEl htab
  have hR : e_R E = RM 10 1 6 := en.2.2.2
  have hn0 : 0 < (e_c E).maxLocals := by rw [hml]; decide
  have hn1 : 1 < (e_c E).maxLocals := by rw [hml]; decide
  have hn2 : 2 < (e_c E).maxLocals := by rw [hml]; decide
  refine ga_aload_n ok 0 rfl rfl dL_character_0 ?_
  refine ga_iload_n ok 1 rfl rfl dL_character_1 ?_
  refine gc_X3_1 ok hG rfl lk_L_113 rfl (c_X3_character ok.fl hG hS hX.1 hX.2.1 hX.2.2 hiR) (by rw [hR]; exact ⟨by decide, by decide, by decide, by decide⟩) (Nat.le_of_ble_eq_true rfl) dL_character_2 (fun r9 m1 hq => ?_) (fun X9 m1 hq => ?_)
  · obtain ⟨q1, rfl, hm9⟩ := hq
    subst m1
    simp only [Option.toList_some, List.singleton_append]
    exact ga_ireturn ok en rfl rfl (by exact Nat.le_refl _) (by exact Nat.le_refl _) dL_character_5 ⟨by unfold q_character; rw [if_pos q1], rfl⟩
  · obtain ⟨rfl, q1, hm9⟩ := hq
    refine gx_catch ok hS htab [] (0, 5, 6, 22) [] rfl (fun _ h => absurd h List.not_mem_nil) rfl (by decide) cl_IO cs_IO (fun q => ?_)
    refine ga_astore_n ok 2 rfl hn2 dL_character_6 ?_
    refine ga_bipush ok dL_character_7 (by decide) ?_
    exact ga_ireturn ok en rfl rfl (by exact Nat.le_refl _) (by exact Nat.le_refl _) dL_character_9 ⟨by unfold q_character; rw [if_neg q1], hm9⟩
theorem lw_L_232 : LinkW RL 232 yL_character cL_character 3 (some .int) [(0, 5, 6, 22)] 2 := ⟨List.forall_mem_cons.mpr ⟨tb_in 914 (by decide +kernel) (by decide +kernel), List.forall_mem_cons.mpr ⟨tb_in 915 (by decide +kernel) (by decide +kernel), List.forall_mem_cons.mpr ⟨tb_in 0 (by decide +kernel) (by decide +kernel), fun _ h => absurd h List.not_mem_nil⟩⟩⟩, tb_in 916 (by decide +kernel) (by decide +kernel), by decide +kernel⟩
set_option maxHeartbeats 4000000 in
set_option maxRecDepth 100000 in
theorem w_line {G : GG} {l : Launch} (hfl : l.stackTraces = false) (hG : MW G) (hS : SBW G) {m : Mm} {g : Gm} {T : Int} (hX : LWX T m g) (hT0 : 0 ≤ T ∧ T ≤ 999990000) {v : Int} (hvR : -2147483648 ≤ v ∧ v ≤ 2147483647) : CW G l yL_line cL_line 3 (some .int) [(0, 5, 6, 22)] (RM 10 16 4900) [.ref 0, vI v] m (fun r' m' => (0 ≤ v ∧ v < g.r 1 → r' = some (vI (vLn (vX g.r v.toNat) (vF g.r v.toNat) 10).2) ∧ LWX T m' (lnG g (vLn (vX g.r v.toNat) (vF g.r v.toNat) 10))) ∧ (¬ (0 ≤ v ∧ v < g.r 1) → r' = some (vI (-11)) ∧ m' = m)) (fun _ _ => False) := by
  refine CW.of RL [(0, .ref 0), (1, vI v)] hfl (by decide +kernel) rfl rfl (Nat.le_of_ble_eq_true rfl) ?_
  intro E ok en hml hEl htab
  have hR : e_R E = RM 10 16 4900 := en.2.2.2
  have hn0 : 0 < (e_c E).maxLocals := by rw [hml]; decide
  have hn1 : 1 < (e_c E).maxLocals := by rw [hml]; decide
  have hn2 : 2 < (e_c E).maxLocals := by rw [hml]; decide
  refine ga_aload_n ok 0 rfl rfl dL_line_0 ?_
  refine ga_iload_n ok 1 rfl rfl dL_line_1 ?_
  refine gc_X3_1 ok hG rfl lk_L_107 rfl (c_X3_line ok.fl hG hS hX.1 hX.2.1 hvR) (by rw [hR]; exact ⟨by decide, by decide, by decide, by decide⟩) (Nat.le_of_ble_eq_true rfl) dL_line_2 (fun r9 m1 hq => ?_) (fun X9 m1 hq => ?_)
  · obtain ⟨q1, rfl, hX1, hB1, hxb1⟩ := hq
    simp only [Option.toList_some, List.singleton_append]
    exact ga_ireturn ok en rfl rfl (by exact Nat.le_refl _) (by exact Nat.le_refl _) dL_line_5 ⟨fun _ => ⟨rfl, LWX.lin hX1 hB1 (vLn_ok _ _ 10 (by omega))⟩, fun h => absurd q1 h⟩
  · obtain ⟨rfl, q1, hm9⟩ := hq
    refine gx_catch ok hS htab [] (0, 5, 6, 22) [] rfl (fun _ h => absurd h List.not_mem_nil) rfl (by decide) cl_IO cs_IO (fun q => ?_)
    refine ga_astore_n ok 2 rfl hn2 dL_line_6 ?_
    refine ga_bipush ok dL_line_7 (by decide) ?_
    exact ga_ireturn ok en rfl rfl (by exact Nat.le_refl _) (by exact Nat.le_refl _) dL_line_9 ⟨fun h => absurd h q1, fun _ => ⟨rfl, hm9⟩⟩
theorem lw_L_283 : LinkW RL 283 yL_line cL_line 3 (some .int) [(0, 5, 6, 22)] 2 := ⟨List.forall_mem_cons.mpr ⟨tb_in 1145 (by decide +kernel) (by decide +kernel), List.forall_mem_cons.mpr ⟨tb_in 1146 (by decide +kernel) (by decide +kernel), List.forall_mem_cons.mpr ⟨tb_in 0 (by decide +kernel) (by decide +kernel), fun _ h => absurd h List.not_mem_nil⟩⟩⟩, tb_in 1147 (by decide +kernel) (by decide +kernel), by decide +kernel⟩
set_option maxHeartbeats 4000000 in
set_option maxRecDepth 100000 in
theorem w_guardLine {G : GG} {l : Launch} (hfl : l.stackTraces = false) (hG : MW G) (hS : SBW G) {m : Mm} {g : Gm} {T : Int} (hX : LWX T m g) (hT0 : 0 ≤ T ∧ T ≤ 999990000) {n : Int} (hnR : -2147483648 ≤ n ∧ n ≤ 2147483647) : CW G l yL_guardLine cL_guardLine 3 (some .int) [(0, 5, 6, 22)] (RM 10 24 9206) [.ref 0, vI n] m (fun r' m' => (0 ≤ n ∧ n < g.r 0 → r' = some (vI (gLn (gcn (rg g.r n.toNat)) 11).2) ∧ LWX T m' (lnG g (gLn (gcn (rg g.r n.toNat)) 11))) ∧ (¬ (0 ≤ n ∧ n < g.r 0) → r' = some (vI (-11)) ∧ m' = m)) (fun _ _ => False) := by
  refine CW.of RL [(0, .ref 0), (1, vI n)] hfl (by decide +kernel) rfl rfl (Nat.le_of_ble_eq_true rfl) ?_
  intro E ok en hml hEl htab
  have hR : e_R E = RM 10 24 9206 := en.2.2.2
  have hn0 : 0 < (e_c E).maxLocals := by rw [hml]; decide
  have hn1 : 1 < (e_c E).maxLocals := by rw [hml]; decide
  have hn2 : 2 < (e_c E).maxLocals := by rw [hml]; decide
  refine ga_aload_n ok 0 rfl rfl dL_guardLine_0 ?_
  refine ga_iload_n ok 1 rfl rfl dL_guardLine_1 ?_
  refine gc_X3_1 ok hG rfl lk_L_110 rfl (c_X3_guardLine ok.fl hG hS hX.1 hX.2.1 hnR) (by rw [hR]; exact ⟨by decide, by decide, by decide, by decide⟩) (Nat.le_of_ble_eq_true rfl) dL_guardLine_2 (fun r9 m1 hq => ?_) (fun X9 m1 hq => ?_)
  · obtain ⟨q1, rfl, hX1, hB1, hxb1⟩ := hq
    simp only [Option.toList_some, List.singleton_append]
    exact ga_ireturn ok en rfl rfl (by exact Nat.le_refl _) (by exact Nat.le_refl _) dL_guardLine_5 ⟨fun _ => ⟨rfl, LWX.lin hX1 hB1 (gLn_ok _ 11)⟩, fun h => absurd q1 h⟩
  · obtain ⟨rfl, q1, hm9⟩ := hq
    refine gx_catch ok hS htab [] (0, 5, 6, 22) [] rfl (fun _ h => absurd h List.not_mem_nil) rfl (by decide) cl_IO cs_IO (fun q => ?_)
    refine ga_astore_n ok 2 rfl hn2 dL_guardLine_6 ?_
    refine ga_bipush ok dL_guardLine_7 (by decide) ?_
    exact ga_ireturn ok en rfl rfl (by exact Nat.le_refl _) (by exact Nat.le_refl _) dL_guardLine_9 ⟨fun h => absurd h q1, fun _ => ⟨rfl, hm9⟩⟩
theorem lw_L_230 : LinkW RL 230 yL_guardLine cL_guardLine 3 (some .int) [(0, 5, 6, 22)] 2 := ⟨List.forall_mem_cons.mpr ⟨tb_in 830 (by decide +kernel) (by decide +kernel), List.forall_mem_cons.mpr ⟨tb_in 831 (by decide +kernel) (by decide +kernel), List.forall_mem_cons.mpr ⟨tb_in 0 (by decide +kernel) (by decide +kernel), fun _ h => absurd h List.not_mem_nil⟩⟩⟩, tb_in 832 (by decide +kernel) (by decide +kernel), by decide +kernel⟩
