/-! THE LAW'S WRAPPERS -/
theorem spw_in {w : Cond} (i : Nat) (h : tables_1[i]? = some w) (hg : spOK w = true) : w ∈ SPW := List.mem_filter.mpr ⟨List.mem_of_getElem? h, hg⟩
theorem gtIs.low {m m' : Mm} {b : Nat} {r : Nat → Int} (h : gtIs m b r) (hf : ∀ n, n < 960 → m'.1 n = m.1 n ∧ m'.2 n = m.2 n) (hb : 64 ≤ b ∧ b < 75) (h0 : r 0 ≤ 4) : gtIs m' b r := by
  obtain ⟨e1, e4, hv, hg⟩ := h
  have k : ∀ n, n = b ∨ n = b + 128 ∨ n = b + 192 → m'.1 n = m.1 n := fun n hn => (hf n (by omega)).1
  refine ⟨by rw [k b (by omega)]; exact e1, by rw [k b (by omega)]; exact e4, fun v hv9 => by rw [k (b + 128) (by omega), k (b + 192) (by omega)]; exact hv v hv9, fun j hj => ?_⟩
  exact (hg j hj).kept (hf _ (by omega)).1 (hf _ (by omega)).1 (hf _ (by omega)).2 (hf _ (by omega)).2
theorem XIs.low {T : Int} {m m' : Mm} {g : Gm} (h : XIs T m g) (hf : ∀ n, n < 1024 → m'.1 n = m.1 n ∧ m'.2 n = m.2 n) : XIs T m' g := by
  obtain ⟨⟨a1, a2⟩, ⟨b1, b2, b3⟩, ⟨c1, c2, c3, c4⟩, ⟨d1, d2⟩, ⟨t1, t2, t3⟩, ⟨l1, l2, l3⟩⟩ := h
  have k : ∀ n, n = 0 ∨ n = 640 ∨ n = 704 ∨ n = 960 ∨ n = 961 → m'.1 n = m.1 n := fun n hn => (hf n (by omega)).1
  have hlo : ∀ n, n < 960 → m'.1 n = m.1 n ∧ m'.2 n = m.2 n := fun n hn => hf n (by omega)
  rw [← k 0 (by omega)] at b1 c1 c3 d1
  rw [← k 640 (by omega)] at t1
  rw [← k 704 (by omega)] at t3
  rw [← k 960 (by omega)] at l1
  rw [← k 961 (by omega)] at l3
  refine ⟨⟨a1.low hlo (by omega) a2.1.2, a2⟩, ⟨b1, b2, fun h => ⟨(b3 h).1.low hlo (by omega) (b3 h).2.1.2, (b3 h).2⟩⟩, ⟨c1, c2, c3, fun i hi => ?_⟩, ⟨d1, d2⟩, ⟨t1, t2, t3⟩, ⟨l1, l2, l3⟩⟩
  obtain ⟨q1, q2⟩ := c4 i hi
  rw [← k 0 (by omega)] at q1
  exact ⟨q1.low hlo (by omega) q2.1.2, q2⟩
theorem XIs.out {T : Int} {m : Mm} {g : Gm} {a i : Nat} {v : Int} (h : XIs T m g) (ha : a = 1600 ∨ a = 1664) : XIs T (upI m a i v) g := h.low (fun n hn => ⟨upI_r (by omega), rfl⟩)
theorem pq_0 {p q : Prop} [Decidable p] [Decidable q] (h1 : p) (h2 : q) : (if decide p = true then (if decide q = true then (0 : Int) else 2) else 1) = 0 := by rw [if_pos (decide_eq_true h1), if_pos (decide_eq_true h2)]
theorem pq_1 {p q : Prop} [Decidable p] [Decidable q] (h1 : ¬ p) : (if decide p = true then (if decide q = true then (0 : Int) else 2) else 1) = 1 := by rw [if_neg (by simpa using h1)]
theorem pq_2 {p q : Prop} [Decidable p] [Decidable q] (h1 : p) (h2 : ¬ q) : (if decide p = true then (if decide q = true then (0 : Int) else 2) else 1) = 2 := by rw [if_pos (decide_eq_true h1), if_neg (by simpa using h2)]
theorem cl_IA : Cond.classLink RL 13 "java/lang/IllegalArgumentException" ∈ BIG := tb_in 290 (by decide +kernel) (by decide +kernel)
theorem cs_IA : Cond.castable "java/lang/IllegalArgumentException" "java/lang/IllegalArgumentException" ∈ SPW := spw_in 304 (by decide +kernel) rfl
theorem cl_UO : Cond.classLink RL 15 "java/lang/UnsupportedOperationException" ∈ BIG := tb_in 291 (by decide +kernel) (by decide +kernel)
theorem cs_UO : Cond.castable "java/lang/UnsupportedOperationException" "java/lang/UnsupportedOperationException" ∈ SPW := spw_in 384 (by decide +kernel) rfl
theorem cl_IO : Cond.classLink RL 21 "java/lang/IndexOutOfBoundsException" ∈ BIG := tb_in 413 (by decide +kernel) (by decide +kernel)
theorem cs_IO : Cond.castable "java/lang/IndexOutOfBoundsException" "java/lang/IndexOutOfBoundsException" ∈ SPW := spw_in 451 (by decide +kernel) rfl
theorem cl_AR : Cond.classLink RL 57 "java/lang/ArithmeticException" ∈ BIG := tb_in 597 (by decide +kernel) (by decide +kernel)
theorem cs_AR : Cond.castable "java/lang/ArithmeticException" "java/lang/ArithmeticException" ∈ SPW := spw_in 609 (by decide +kernel) rfl
theorem cl_NS : Cond.classLink RL 62 "java/util/NoSuchElementException" ∈ BIG := tb_in 621 (by decide +kernel) (by decide +kernel)
theorem cs_NS : Cond.castable "java/util/NoSuchElementException" "java/util/NoSuchElementException" ∈ SPW := spw_in 632 (by decide +kernel) rfl
theorem cl_IS : Cond.classLink RL 112 "java/lang/IllegalStateException" ∈ BIG := tb_in 1096 (by decide +kernel) (by decide +kernel)
theorem cs_IS : Cond.castable "java/lang/IllegalStateException" "java/lang/IllegalStateException" ∈ SPW := spw_in 1103 (by decide +kernel) rfl
set_option maxHeartbeats 4000000 in
set_option maxRecDepth 100000 in
theorem w_guard {G : GG} {l : Launch} (hfl : l.stackTraces = false) (hG : MW G) (hS : SBW G) {m : Mm} {g : Gm} {T : Int} (hX : XIs T m g) (hT0 : 0 ≤ T ∧ T ≤ 1000000000) {x : Int} (hxR : -2147483648 ≤ x ∧ x ≤ 2147483647) : CW G l yL_guard cL_guard 4 (some .int) [(0, 9, 12, 13), (0, 9, 15, 15)] (RM 10 4 24) [.ref 0, vI x, .ref 1600] m (fun r' m' => r' = some (vI (sp_guard g x).1) ∧ (0 ≤ (sp_guard g x).1 ∧ (sp_guard g x).1 ≤ 3) ∧ ((sp_guard g x).1 = 0 → m'.1 1600 0 = w32 (sp_guard g x).2.1) ∧ XIs (T + 1000) m' (sp_guard g x).2.2 ∧ WFr m m') (fun _ _ => False) := by
  refine CW.of RL [(0, .ref 0), (1, vI x), (2, .ref 1600)] hfl (by decide +kernel) rfl rfl (Nat.le_of_ble_eq_true rfl) ?_
  intro E ok en hml hEl htab
  have hR : e_R E = RM 10 4 24 := en.2.2.2
  have hn0 : 0 < (e_c E).maxLocals := by rw [hml]; decide
  have hn1 : 1 < (e_c E).maxLocals := by rw [hml]; decide
  have hn2 : 2 < (e_c E).maxLocals := by rw [hml]; decide
  have hn3 : 3 < (e_c E).maxLocals := by rw [hml]; decide
  refine ga_aload_n ok 2 rfl rfl dL_guard_0 ?_
  refine ga_iconst ok dL_guard_1 ?_
  refine ga_aload_n ok 0 rfl rfl dL_guard_2 ?_
  refine ga_iload_n ok 1 rfl rfl dL_guard_3 ?_
  refine gc_X3_1 ok hG rfl lk_L_7 rfl (c_X3_guard ok.fl hG hX hT0 hxR) (by rw [hR]; exact ⟨by decide, by decide, by decide, by decide⟩) (Nat.le_of_ble_eq_true rfl) dL_guard_4 (fun r9 m1 hq => ?_) (fun X9 m1 hq => ?_)
  · obtain ⟨h0, rfl, hX1, hf1⟩ := hq
    simp only [Option.toList_some, List.singleton_append]
    have hK : (sp_guard g x).1 = 0 := h0
    refine ga_i2lW ok dL_guard_7 ?_
    refine ga_lastore_la ok (ar_lo hG rfl) (by omega) dL_guard_8 ?_
    refine ga_goto ok 18 (by decide) dL_guard_9 ?_
    refine ga_iconst ok dL_guard_18 ?_
    exact ga_ireturn ok en rfl rfl (by exact Nat.le_refl _) (by exact Nat.le_refl _) dL_guard_19 ⟨by rw [hK], by rw [hK]; decide, fun _ => upI_at, hX1.out (Or.inl rfl), hf1.w.u (Or.inl rfl)⟩
  · obtain ⟨hc, hX1, hf1⟩ := hq
    rcases hc with ⟨h1, rfl⟩ | ⟨h1, rfl⟩
    · have hK : (sp_guard g x).1 = 1 := h1
      refine gx_catch ok hS htab [] (0, 9, 12, 13) [(0, 9, 15, 15)] rfl (fun _ h => absurd h List.not_mem_nil) rfl (by decide) cl_IA cs_IA (fun q => ?_)
      refine ga_astore_n ok 3 rfl hn3 dL_guard_12 ?_
      refine ga_iconst ok dL_guard_13 ?_
      exact ga_ireturn ok en rfl rfl (by exact Nat.le_refl _) (by exact Nat.le_refl _) dL_guard_14 ⟨by rw [hK], by rw [hK]; decide, fun h => absurd (hK.symm.trans h) (by decide), hX1, hf1.w⟩
    · have hK : (sp_guard g x).1 = 2 := h1
      refine gx_catch ok hS htab [(0, 9, 12, 13)] (0, 9, 15, 15) [] rfl (List.forall_mem_cons.mpr ⟨⟨by decide, _, cl_IA, by decide +kernel, by decide +kernel, by decide +kernel⟩, fun _ h => absurd h List.not_mem_nil⟩) rfl (by decide) cl_UO cs_UO (fun q => ?_)
      refine ga_astore_n ok 3 rfl hn3 dL_guard_15 ?_
      refine ga_iconst ok dL_guard_16 ?_
      exact ga_ireturn ok en rfl rfl (by exact Nat.le_refl _) (by exact Nat.le_refl _) dL_guard_17 ⟨by rw [hK], by rw [hK]; decide, fun h => absurd (hK.symm.trans h) (by decide), hX1, hf1.w⟩
theorem lw_L_139 : LinkW RL 139 yL_guard cL_guard 4 (some .int) [(0, 9, 12, 13), (0, 9, 15, 15)] 3 := ⟨List.forall_mem_cons.mpr ⟨tb_in 287 (by decide +kernel) (by decide +kernel), List.forall_mem_cons.mpr ⟨tb_in 288 (by decide +kernel) (by decide +kernel), List.forall_mem_cons.mpr ⟨tb_in 0 (by decide +kernel) (by decide +kernel), fun _ h => absurd h List.not_mem_nil⟩⟩⟩, tb_in 289 (by decide +kernel) (by decide +kernel), by decide +kernel⟩
set_option maxHeartbeats 4000000 in
set_option maxRecDepth 100000 in
theorem w_rate {G : GG} {l : Launch} (hfl : l.stackTraces = false) (hG : MW G) (hS : SBW G) {m : Mm} {g : Gm} {T : Int} (hX : XIs T m g) (hT0 : 0 ≤ T ∧ T ≤ 1000000000) {n : Int} (hnR : -2147483648 ≤ n ∧ n ≤ 2147483647) {x : Int} (hxR : -2147483648 ≤ x ∧ x ≤ 2147483647) : CW G l yL_rate cL_rate 5 (some .int) [(0, 10, 13, 21), (0, 10, 17, 13), (0, 10, 21, 15)] (RM 10 4 24) [.ref 0, vI n, vI x, .ref 1600] m (fun r' m' => r' = some (vI (sp_rate g n x).1) ∧ (0 ≤ (sp_rate g n x).1 ∧ (sp_rate g n x).1 ≤ 3) ∧ ((sp_rate g n x).1 = 0 → m'.1 1600 0 = w32 (sp_rate g n x).2.1) ∧ XIs (T + 1000) m' (sp_rate g n x).2.2 ∧ WFr m m') (fun _ _ => False) := by
  refine CW.of RL [(0, .ref 0), (1, vI n), (2, vI x), (3, .ref 1600)] hfl (by decide +kernel) rfl rfl (Nat.le_of_ble_eq_true rfl) ?_
  intro E ok en hml hEl htab
  have hR : e_R E = RM 10 4 24 := en.2.2.2
  have hn0 : 0 < (e_c E).maxLocals := by rw [hml]; decide
  have hn1 : 1 < (e_c E).maxLocals := by rw [hml]; decide
  have hn2 : 2 < (e_c E).maxLocals := by rw [hml]; decide
  have hn3 : 3 < (e_c E).maxLocals := by rw [hml]; decide
  have hn4 : 4 < (e_c E).maxLocals := by rw [hml]; decide
  refine ga_aload_n ok 3 rfl rfl dL_rate_0 ?_
  refine ga_iconst ok dL_rate_1 ?_
  refine ga_aload_n ok 0 rfl rfl dL_rate_2 ?_
  refine ga_iload_n ok 1 rfl rfl dL_rate_3 ?_
  refine ga_iload_n ok 2 rfl rfl dL_rate_4 ?_
  refine gc_X3_2 ok hG rfl lk_L_17 rfl (c_X3_rate ok.fl hG hX hT0 hnR hxR) (by rw [hR]; exact ⟨by decide, by decide, by decide, by decide⟩) (Nat.le_of_ble_eq_true rfl) dL_rate_5 (fun r9 m1 hq => ?_) (fun X9 m1 hq => ?_)
  · obtain ⟨h0, rfl, hX1, hf1⟩ := hq
    simp only [Option.toList_some, List.singleton_append]
    have hK : (sp_rate g n x).1 = 0 := h0
    refine ga_i2lW ok dL_rate_8 ?_
    refine ga_lastore_la ok (ar_lo hG rfl) (by omega) dL_rate_9 ?_
    refine ga_goto ok 25 (by decide) dL_rate_10 ?_
    refine ga_iconst ok dL_rate_25 ?_
    exact ga_ireturn ok en rfl rfl (by exact Nat.le_refl _) (by exact Nat.le_refl _) dL_rate_26 ⟨by rw [hK], by rw [hK]; decide, fun _ => upI_at, hX1.out (Or.inl rfl), hf1.w.u (Or.inl rfl)⟩
  · obtain ⟨hc, hX1, hf1⟩ := hq
    rcases hc with ⟨h1, rfl⟩ | ⟨h1, rfl⟩ | ⟨h1, rfl⟩
    · have hK : (sp_rate g n x).1 = 1 := h1
      refine gx_catch ok hS htab [] (0, 10, 13, 21) [(0, 10, 17, 13), (0, 10, 21, 15)] rfl (fun _ h => absurd h List.not_mem_nil) rfl (by decide) cl_IO cs_IO (fun q => ?_)
      refine ga_astore ok hn4 dL_rate_13 ?_
      refine ga_iconst ok dL_rate_15 ?_
      exact ga_ireturn ok en rfl rfl (by exact Nat.le_refl _) (by exact Nat.le_refl _) dL_rate_16 ⟨by rw [hK], by rw [hK]; decide, fun h => absurd (hK.symm.trans h) (by decide), hX1, hf1.w⟩
    · have hK : (sp_rate g n x).1 = 2 := h1
      refine gx_catch ok hS htab [(0, 10, 13, 21)] (0, 10, 17, 13) [(0, 10, 21, 15)] rfl (List.forall_mem_cons.mpr ⟨⟨by decide, _, cl_IO, by decide +kernel, by decide +kernel, by decide +kernel⟩, fun _ h => absurd h List.not_mem_nil⟩) rfl (by decide) cl_IA cs_IA (fun q => ?_)
      refine ga_astore ok hn4 dL_rate_17 ?_
      refine ga_iconst ok dL_rate_19 ?_
      exact ga_ireturn ok en rfl rfl (by exact Nat.le_refl _) (by exact Nat.le_refl _) dL_rate_20 ⟨by rw [hK], by rw [hK]; decide, fun h => absurd (hK.symm.trans h) (by decide), hX1, hf1.w⟩
    · have hK : (sp_rate g n x).1 = 3 := h1
      refine gx_catch ok hS htab [(0, 10, 13, 21), (0, 10, 17, 13)] (0, 10, 21, 15) [] rfl (List.forall_mem_cons.mpr ⟨⟨by decide, _, cl_IO, by decide +kernel, by decide +kernel, by decide +kernel⟩, List.forall_mem_cons.mpr ⟨⟨by decide, _, cl_IA, by decide +kernel, by decide +kernel, by decide +kernel⟩, fun _ h => absurd h List.not_mem_nil⟩⟩) rfl (by decide) cl_UO cs_UO (fun q => ?_)
      refine ga_astore ok hn4 dL_rate_21 ?_
      refine ga_iconst ok dL_rate_23 ?_
      exact ga_ireturn ok en rfl rfl (by exact Nat.le_refl _) (by exact Nat.le_refl _) dL_rate_24 ⟨by rw [hK], by rw [hK]; decide, fun h => absurd (hK.symm.trans h) (by decide), hX1, hf1.w⟩
theorem lw_L_148 : LinkW RL 148 yL_rate cL_rate 5 (some .int) [(0, 10, 13, 21), (0, 10, 17, 13), (0, 10, 21, 15)] 4 := ⟨List.forall_mem_cons.mpr ⟨tb_in 410 (by decide +kernel) (by decide +kernel), List.forall_mem_cons.mpr ⟨tb_in 411 (by decide +kernel) (by decide +kernel), List.forall_mem_cons.mpr ⟨tb_in 0 (by decide +kernel) (by decide +kernel), fun _ h => absurd h List.not_mem_nil⟩⟩⟩, tb_in 412 (by decide +kernel) (by decide +kernel), by decide +kernel⟩
set_option maxHeartbeats 4000000 in
set_option maxRecDepth 100000 in
theorem w_caution {G : GG} {l : Launch} (hfl : l.stackTraces = false) (hG : MW G) (hS : SBW G) {m : Mm} {g : Gm} {T : Int} (hX : XIs T m g) (hT0 : 0 ≤ T ∧ T ≤ 1000000000) {n : Int} (hnR : -2147483648 ≤ n ∧ n ≤ 2147483647) {x : Int} (hxR : -2147483648 ≤ x ∧ x ≤ 2147483647) : CW G l yL_caution cL_caution 5 (some .int) [(0, 10, 13, 21), (0, 10, 17, 13), (0, 10, 21, 15)] (RM 10 4 24) [.ref 0, vI n, vI x, .ref 1600] m (fun r' m' => r' = some (vI (sp_caution g n x).1) ∧ (0 ≤ (sp_caution g n x).1 ∧ (sp_caution g n x).1 ≤ 3) ∧ ((sp_caution g n x).1 = 0 → m'.1 1600 0 = w32 (sp_caution g n x).2.1) ∧ XIs (T + 1000) m' (sp_caution g n x).2.2 ∧ WFr m m') (fun _ _ => False) := by
  refine CW.of RL [(0, .ref 0), (1, vI n), (2, vI x), (3, .ref 1600)] hfl (by decide +kernel) rfl rfl (Nat.le_of_ble_eq_true rfl) ?_
  intro E ok en hml hEl htab
  have hR : e_R E = RM 10 4 24 := en.2.2.2
  have hn0 : 0 < (e_c E).maxLocals := by rw [hml]; decide
  have hn1 : 1 < (e_c E).maxLocals := by rw [hml]; decide
  have hn2 : 2 < (e_c E).maxLocals := by rw [hml]; decide
  have hn3 : 3 < (e_c E).maxLocals := by rw [hml]; decide
  have hn4 : 4 < (e_c E).maxLocals := by rw [hml]; decide
  refine ga_aload_n ok 3 rfl rfl dL_caution_0 ?_
  refine ga_iconst ok dL_caution_1 ?_
  refine ga_aload_n ok 0 rfl rfl dL_caution_2 ?_
  refine ga_iload_n ok 1 rfl rfl dL_caution_3 ?_
  refine ga_iload_n ok 2 rfl rfl dL_caution_4 ?_
  refine gc_X3_2 ok hG rfl lk_L_23 rfl (c_X3_caution ok.fl hG hX hT0 hnR hxR) (by rw [hR]; exact ⟨by decide, by decide, by decide, by decide⟩) (Nat.le_of_ble_eq_true rfl) dL_caution_5 (fun r9 m1 hq => ?_) (fun X9 m1 hq => ?_)
  · obtain ⟨h0, rfl, hX1, hf1⟩ := hq
    simp only [Option.toList_some, List.singleton_append]
    have hK : (sp_caution g n x).1 = 0 := h0
    refine ga_i2lW ok dL_caution_8 ?_
    refine ga_lastore_la ok (ar_lo hG rfl) (by omega) dL_caution_9 ?_
    refine ga_goto ok 25 (by decide) dL_caution_10 ?_
    refine ga_iconst ok dL_caution_25 ?_
    exact ga_ireturn ok en rfl rfl (by exact Nat.le_refl _) (by exact Nat.le_refl _) dL_caution_26 ⟨by rw [hK], by rw [hK]; decide, fun _ => upI_at, hX1.out (Or.inl rfl), hf1.w.u (Or.inl rfl)⟩
  · obtain ⟨hc, hX1, hf1⟩ := hq
    rcases hc with ⟨h1, rfl⟩ | ⟨h1, rfl⟩ | ⟨h1, rfl⟩
    · have hK : (sp_caution g n x).1 = 1 := h1
      refine gx_catch ok hS htab [] (0, 10, 13, 21) [(0, 10, 17, 13), (0, 10, 21, 15)] rfl (fun _ h => absurd h List.not_mem_nil) rfl (by decide) cl_IO cs_IO (fun q => ?_)
      refine ga_astore ok hn4 dL_caution_13 ?_
      refine ga_iconst ok dL_caution_15 ?_
      exact ga_ireturn ok en rfl rfl (by exact Nat.le_refl _) (by exact Nat.le_refl _) dL_caution_16 ⟨by rw [hK], by rw [hK]; decide, fun h => absurd (hK.symm.trans h) (by decide), hX1, hf1.w⟩
    · have hK : (sp_caution g n x).1 = 2 := h1
      refine gx_catch ok hS htab [(0, 10, 13, 21)] (0, 10, 17, 13) [(0, 10, 21, 15)] rfl (List.forall_mem_cons.mpr ⟨⟨by decide, _, cl_IO, by decide +kernel, by decide +kernel, by decide +kernel⟩, fun _ h => absurd h List.not_mem_nil⟩) rfl (by decide) cl_IA cs_IA (fun q => ?_)
      refine ga_astore ok hn4 dL_caution_17 ?_
      refine ga_iconst ok dL_caution_19 ?_
      exact ga_ireturn ok en rfl rfl (by exact Nat.le_refl _) (by exact Nat.le_refl _) dL_caution_20 ⟨by rw [hK], by rw [hK]; decide, fun h => absurd (hK.symm.trans h) (by decide), hX1, hf1.w⟩
    · have hK : (sp_caution g n x).1 = 3 := h1
      refine gx_catch ok hS htab [(0, 10, 13, 21), (0, 10, 17, 13)] (0, 10, 21, 15) [] rfl (List.forall_mem_cons.mpr ⟨⟨by decide, _, cl_IO, by decide +kernel, by decide +kernel, by decide +kernel⟩, List.forall_mem_cons.mpr ⟨⟨by decide, _, cl_IA, by decide +kernel, by decide +kernel, by decide +kernel⟩, fun _ h => absurd h List.not_mem_nil⟩⟩) rfl (by decide) cl_UO cs_UO (fun q => ?_)
      refine ga_astore ok hn4 dL_caution_21 ?_
      refine ga_iconst ok dL_caution_23 ?_
      exact ga_ireturn ok en rfl rfl (by exact Nat.le_refl _) (by exact Nat.le_refl _) dL_caution_24 ⟨by rw [hK], by rw [hK]; decide, fun h => absurd (hK.symm.trans h) (by decide), hX1, hf1.w⟩
theorem lw_L_152 : LinkW RL 152 yL_caution cL_caution 5 (some .int) [(0, 10, 13, 21), (0, 10, 17, 13), (0, 10, 21, 15)] 4 := ⟨List.forall_mem_cons.mpr ⟨tb_in 463 (by decide +kernel) (by decide +kernel), List.forall_mem_cons.mpr ⟨tb_in 464 (by decide +kernel) (by decide +kernel), List.forall_mem_cons.mpr ⟨tb_in 0 (by decide +kernel) (by decide +kernel), fun _ h => absurd h List.not_mem_nil⟩⟩⟩, tb_in 465 (by decide +kernel) (by decide +kernel), by decide +kernel⟩
set_option maxHeartbeats 4000000 in
set_option maxRecDepth 100000 in
theorem w_visitor {G : GG} {l : Launch} (hfl : l.stackTraces = false) (hG : MW G) (hS : SBW G) {m : Mm} {g : Gm} {T : Int} (hX : XIs T m g) (hT0 : 0 ≤ T ∧ T ≤ 1000000000) {x : Int} (hxR : -2147483648 ≤ x ∧ x ≤ 2147483647) {f : Int} (hf01 : f = 0 ∨ f = 1) : CW G l yL_visitor cL_visitor 5 (some .int) [(0, 10, 13, 13), (0, 10, 17, 15)] (RM 10 4 24) [.ref 0, vI x, vI f, .ref 1600] m (fun r' m' => r' = some (vI (sp_visitor g x f).1) ∧ (0 ≤ (sp_visitor g x f).1 ∧ (sp_visitor g x f).1 ≤ 3) ∧ ((sp_visitor g x f).1 = 0 → m'.1 1600 0 = w32 (sp_visitor g x f).2.1) ∧ XIs (T + 1000) m' (sp_visitor g x f).2.2 ∧ WFr m m') (fun _ _ => False) := by
  refine CW.of RL [(0, .ref 0), (1, vI x), (2, vI f), (3, .ref 1600)] hfl (by decide +kernel) rfl rfl (Nat.le_of_ble_eq_true rfl) ?_
  intro E ok en hml hEl htab
  have hR : e_R E = RM 10 4 24 := en.2.2.2
  have hn0 : 0 < (e_c E).maxLocals := by rw [hml]; decide
  have hn1 : 1 < (e_c E).maxLocals := by rw [hml]; decide
  have hn2 : 2 < (e_c E).maxLocals := by rw [hml]; decide
  have hn3 : 3 < (e_c E).maxLocals := by rw [hml]; decide
  have hn4 : 4 < (e_c E).maxLocals := by rw [hml]; decide
  refine ga_aload_n ok 3 rfl rfl dL_visitor_0 ?_
  refine ga_iconst ok dL_visitor_1 ?_
  refine ga_aload_n ok 0 rfl rfl dL_visitor_2 ?_
  refine ga_iload_n ok 1 rfl rfl dL_visitor_3 ?_
  refine ga_iload_n ok 2 rfl rfl dL_visitor_4 ?_
  refine gc_X3_2 ok hG rfl lk_L_26 rfl (c_X3_visitor ok.fl hG hX hT0 hxR hf01) (by rw [hR]; exact ⟨by decide, by decide, by decide, by decide⟩) (Nat.le_of_ble_eq_true rfl) dL_visitor_5 (fun r9 m1 hq => ?_) (fun X9 m1 hq => ?_)
  · obtain ⟨h0, rfl, hX1, hf1⟩ := hq
    simp only [Option.toList_some, List.singleton_append]
    have hK : (sp_visitor g x f).1 = 0 := h0
    refine ga_i2lW ok dL_visitor_8 ?_
    refine ga_lastore_la ok (ar_lo hG rfl) (by omega) dL_visitor_9 ?_
    refine ga_goto ok 21 (by decide) dL_visitor_10 ?_
    refine ga_iconst ok dL_visitor_21 ?_
    exact ga_ireturn ok en rfl rfl (by exact Nat.le_refl _) (by exact Nat.le_refl _) dL_visitor_22 ⟨by rw [hK], by rw [hK]; decide, fun _ => upI_at, hX1.out (Or.inl rfl), hf1.w.u (Or.inl rfl)⟩
  · obtain ⟨hc, hX1, hf1⟩ := hq
    rcases hc with ⟨h1, rfl⟩ | ⟨h1, rfl⟩
    · have hK : (sp_visitor g x f).1 = 1 := h1
      refine gx_catch ok hS htab [] (0, 10, 13, 13) [(0, 10, 17, 15)] rfl (fun _ h => absurd h List.not_mem_nil) rfl (by decide) cl_IA cs_IA (fun q => ?_)
      refine ga_astore ok hn4 dL_visitor_13 ?_
      refine ga_iconst ok dL_visitor_15 ?_
      exact ga_ireturn ok en rfl rfl (by exact Nat.le_refl _) (by exact Nat.le_refl _) dL_visitor_16 ⟨by rw [hK], by rw [hK]; decide, fun h => absurd (hK.symm.trans h) (by decide), hX1, hf1.w⟩
    · have hK : (sp_visitor g x f).1 = 2 := h1
      refine gx_catch ok hS htab [(0, 10, 13, 13)] (0, 10, 17, 15) [] rfl (List.forall_mem_cons.mpr ⟨⟨by decide, _, cl_IA, by decide +kernel, by decide +kernel, by decide +kernel⟩, fun _ h => absurd h List.not_mem_nil⟩) rfl (by decide) cl_UO cs_UO (fun q => ?_)
      refine ga_astore ok hn4 dL_visitor_17 ?_
      refine ga_iconst ok dL_visitor_19 ?_
      exact ga_ireturn ok en rfl rfl (by exact Nat.le_refl _) (by exact Nat.le_refl _) dL_visitor_20 ⟨by rw [hK], by rw [hK]; decide, fun h => absurd (hK.symm.trans h) (by decide), hX1, hf1.w⟩
theorem lw_L_155 : LinkW RL 155 yL_visitor cL_visitor 5 (some .int) [(0, 10, 13, 13), (0, 10, 17, 15)] 4 := ⟨List.forall_mem_cons.mpr ⟨tb_in 472 (by decide +kernel) (by decide +kernel), List.forall_mem_cons.mpr ⟨tb_in 473 (by decide +kernel) (by decide +kernel), List.forall_mem_cons.mpr ⟨tb_in 0 (by decide +kernel) (by decide +kernel), fun _ h => absurd h List.not_mem_nil⟩⟩⟩, tb_in 474 (by decide +kernel) (by decide +kernel), by decide +kernel⟩
set_option maxHeartbeats 4000000 in
set_option maxRecDepth 100000 in
theorem w_forget {G : GG} {l : Launch} (hfl : l.stackTraces = false) (hG : MW G) (hS : SBW G) {m : Mm} {g : Gm} {T : Int} (hX : XIs T m g) (hT0 : 0 ≤ T ∧ T ≤ 1000000000) {v : Int} (hvR : -2147483648 ≤ v ∧ v ≤ 2147483647) : CW G l yL_forget cL_forget 4 (some .int) [(0, 9, 12, 21)] (RM 10 4 24) [.ref 0, vI v, .ref 1600] m (fun r' m' => r' = some (vI (sp_forget g v).1) ∧ (0 ≤ (sp_forget g v).1 ∧ (sp_forget g v).1 ≤ 3) ∧ ((sp_forget g v).1 = 0 → m'.1 1600 0 = w32 (sp_forget g v).2.1) ∧ XIs (T + 1000) m' (sp_forget g v).2.2 ∧ WFr m m') (fun _ _ => False) := by
  refine CW.of RL [(0, .ref 0), (1, vI v), (2, .ref 1600)] hfl (by decide +kernel) rfl rfl (Nat.le_of_ble_eq_true rfl) ?_
  intro E ok en hml hEl htab
  have hR : e_R E = RM 10 4 24 := en.2.2.2
  have hn0 : 0 < (e_c E).maxLocals := by rw [hml]; decide
  have hn1 : 1 < (e_c E).maxLocals := by rw [hml]; decide
  have hn2 : 2 < (e_c E).maxLocals := by rw [hml]; decide
  have hn3 : 3 < (e_c E).maxLocals := by rw [hml]; decide
  refine ga_aload_n ok 2 rfl rfl dL_forget_0 ?_
  refine ga_iconst ok dL_forget_1 ?_
  refine ga_aload_n ok 0 rfl rfl dL_forget_2 ?_
  refine ga_iload_n ok 1 rfl rfl dL_forget_3 ?_
  refine gc_X3_1 ok hG rfl lk_L_30 rfl (c_X3_forget ok.fl hG hX hT0 hvR) (by rw [hR]; exact ⟨by decide, by decide, by decide, by decide⟩) (Nat.le_of_ble_eq_true rfl) dL_forget_4 (fun r9 m1 hq => ?_) (fun X9 m1 hq => ?_)
  · obtain ⟨h0, rfl, hX1, hf1⟩ := hq
    simp only [Option.toList_some, List.singleton_append]
    have hK : (sp_forget g v).1 = 0 := h0
    refine ga_i2lW ok dL_forget_7 ?_
    refine ga_lastore_la ok (ar_lo hG rfl) (by omega) dL_forget_8 ?_
    refine ga_goto ok 15 (by decide) dL_forget_9 ?_
    refine ga_iconst ok dL_forget_15 ?_
    exact ga_ireturn ok en rfl rfl (by exact Nat.le_refl _) (by exact Nat.le_refl _) dL_forget_16 ⟨by rw [hK], by rw [hK]; decide, fun _ => upI_at, hX1.out (Or.inl rfl), hf1.w.u (Or.inl rfl)⟩
  · obtain ⟨hc, hX1, hf1⟩ := hq
    obtain ⟨h1, rfl⟩ := hc
    have hK : (sp_forget g v).1 = 1 := h1
    refine gx_catch ok hS htab [] (0, 9, 12, 21) [] rfl (fun _ h => absurd h List.not_mem_nil) rfl (by decide) cl_IO cs_IO (fun q => ?_)
    refine ga_astore_n ok 3 rfl hn3 dL_forget_12 ?_
    refine ga_iconst ok dL_forget_13 ?_
    exact ga_ireturn ok en rfl rfl (by exact Nat.le_refl _) (by exact Nat.le_refl _) dL_forget_14 ⟨by rw [hK], by rw [hK]; decide, fun h => absurd (hK.symm.trans h) (by decide), hX1, hf1.w⟩
theorem lw_L_159 : LinkW RL 159 yL_forget cL_forget 4 (some .int) [(0, 9, 12, 21)] 3 := ⟨List.forall_mem_cons.mpr ⟨tb_in 496 (by decide +kernel) (by decide +kernel), List.forall_mem_cons.mpr ⟨tb_in 497 (by decide +kernel) (by decide +kernel), List.forall_mem_cons.mpr ⟨tb_in 0 (by decide +kernel) (by decide +kernel), fun _ h => absurd h List.not_mem_nil⟩⟩⟩, tb_in 498 (by decide +kernel) (by decide +kernel), by decide +kernel⟩
set_option maxHeartbeats 4000000 in
set_option maxRecDepth 100000 in
theorem w_teach {G : GG} {l : Launch} (hfl : l.stackTraces = false) (hG : MW G) (hS : SBW G) {m : Mm} {g : Gm} {T : Int} (hX : XIs T m g) (hT0 : 0 ≤ T ∧ T ≤ 1000000000) {n : Int} (hnR : -2147483648 ≤ n ∧ n ≤ 2147483647) {v : Int} (hvR : -2147483648 ≤ v ∧ v ≤ 2147483647) : CW G l yL_teach cL_teach 5 (some .int) [(0, 10, 13, 21), (0, 10, 17, 15)] (RM 10 4 24) [.ref 0, vI n, vI v, .ref 1600] m (fun r' m' => r' = some (vI (sp_teach g n v).1) ∧ (0 ≤ (sp_teach g n v).1 ∧ (sp_teach g n v).1 ≤ 3) ∧ ((sp_teach g n v).1 = 0 → m'.1 1600 0 = w32 (sp_teach g n v).2.1) ∧ XIs (T + 1000) m' (sp_teach g n v).2.2 ∧ WFr m m') (fun _ _ => False) := by
  refine CW.of RL [(0, .ref 0), (1, vI n), (2, vI v), (3, .ref 1600)] hfl (by decide +kernel) rfl rfl (Nat.le_of_ble_eq_true rfl) ?_
  intro E ok en hml hEl htab
  have hR : e_R E = RM 10 4 24 := en.2.2.2
  have hn0 : 0 < (e_c E).maxLocals := by rw [hml]; decide
  have hn1 : 1 < (e_c E).maxLocals := by rw [hml]; decide
  have hn2 : 2 < (e_c E).maxLocals := by rw [hml]; decide
  have hn3 : 3 < (e_c E).maxLocals := by rw [hml]; decide
  have hn4 : 4 < (e_c E).maxLocals := by rw [hml]; decide
  refine ga_aload_n ok 3 rfl rfl dL_teach_0 ?_
  refine ga_iconst ok dL_teach_1 ?_
  refine ga_aload_n ok 0 rfl rfl dL_teach_2 ?_
  refine ga_iload_n ok 1 rfl rfl dL_teach_3 ?_
  refine ga_iload_n ok 2 rfl rfl dL_teach_4 ?_
  refine gc_X3_2 ok hG rfl lk_L_70 rfl (c_X3_teach ok.fl hG hX hT0 hnR hvR) (by rw [hR]; exact ⟨by decide, by decide, by decide, by decide⟩) (Nat.le_of_ble_eq_true rfl) dL_teach_5 (fun r9 m1 hq => ?_) (fun X9 m1 hq => ?_)
  · obtain ⟨h0, rfl, hX1, hf1⟩ := hq
    simp only [Option.toList_some, List.singleton_append]
    have hK : (sp_teach g n v).1 = 0 := h0
    refine ga_i2lW ok dL_teach_8 ?_
    refine ga_lastore_la ok (ar_lo hG rfl) (by omega) dL_teach_9 ?_
    refine ga_goto ok 21 (by decide) dL_teach_10 ?_
    refine ga_iconst ok dL_teach_21 ?_
    exact ga_ireturn ok en rfl rfl (by exact Nat.le_refl _) (by exact Nat.le_refl _) dL_teach_22 ⟨by rw [hK], by rw [hK]; decide, fun _ => upI_at, hX1.out (Or.inl rfl), hf1.w.u (Or.inl rfl)⟩
  · obtain ⟨hc, hX1, hf1⟩ := hq
    rcases hc with ⟨h1, rfl⟩ | ⟨h1, rfl⟩
    · have hK : (sp_teach g n v).1 = 1 := h1
      refine gx_catch ok hS htab [] (0, 10, 13, 21) [(0, 10, 17, 15)] rfl (fun _ h => absurd h List.not_mem_nil) rfl (by decide) cl_IO cs_IO (fun q => ?_)
      refine ga_astore ok hn4 dL_teach_13 ?_
      refine ga_iconst ok dL_teach_15 ?_
      exact ga_ireturn ok en rfl rfl (by exact Nat.le_refl _) (by exact Nat.le_refl _) dL_teach_16 ⟨by rw [hK], by rw [hK]; decide, fun h => absurd (hK.symm.trans h) (by decide), hX1, hf1.w⟩
    · have hK : (sp_teach g n v).1 = 2 := h1
      refine gx_catch ok hS htab [(0, 10, 13, 21)] (0, 10, 17, 15) [] rfl (List.forall_mem_cons.mpr ⟨⟨by decide, _, cl_IO, by decide +kernel, by decide +kernel, by decide +kernel⟩, fun _ h => absurd h List.not_mem_nil⟩) rfl (by decide) cl_UO cs_UO (fun q => ?_)
      refine ga_astore ok hn4 dL_teach_17 ?_
      refine ga_iconst ok dL_teach_19 ?_
      exact ga_ireturn ok en rfl rfl (by exact Nat.le_refl _) (by exact Nat.le_refl _) dL_teach_20 ⟨by rw [hK], by rw [hK]; decide, fun h => absurd (hK.symm.trans h) (by decide), hX1, hf1.w⟩
theorem lw_L_194 : LinkW RL 194 yL_teach cL_teach 5 (some .int) [(0, 10, 13, 21), (0, 10, 17, 15)] 4 := ⟨List.forall_mem_cons.mpr ⟨tb_in 665 (by decide +kernel) (by decide +kernel), List.forall_mem_cons.mpr ⟨tb_in 666 (by decide +kernel) (by decide +kernel), List.forall_mem_cons.mpr ⟨tb_in 0 (by decide +kernel) (by decide +kernel), fun _ h => absurd h List.not_mem_nil⟩⟩⟩, tb_in 667 (by decide +kernel) (by decide +kernel), by decide +kernel⟩
set_option maxHeartbeats 4000000 in
set_option maxRecDepth 100000 in
theorem w_day {G : GG} {l : Launch} (hfl : l.stackTraces = false) (hG : MW G) (hS : SBW G) {m : Mm} {g : Gm} {T : Int} (hX : XIs T m g) (hT0 : 0 ≤ T ∧ T ≤ 1000000000) {n : Int} (hnR : -2147483648 ≤ n ∧ n ≤ 2147483647) : CW G l yL_day cL_day 4 (some .int) [(0, 9, 12, 21), (0, 9, 15, 15)] (RM 10 4 24) [.ref 0, vI n, .ref 1600] m (fun r' m' => r' = some (vI (sp_day g n).1) ∧ (0 ≤ (sp_day g n).1 ∧ (sp_day g n).1 ≤ 3) ∧ ((sp_day g n).1 = 0 → m'.1 1600 0 = w32 (sp_day g n).2.1) ∧ XIs (T + 1000) m' (sp_day g n).2.2 ∧ WFr m m') (fun _ _ => False) := by
  refine CW.of RL [(0, .ref 0), (1, vI n), (2, .ref 1600)] hfl (by decide +kernel) rfl rfl (Nat.le_of_ble_eq_true rfl) ?_
  intro E ok en hml hEl htab
  have hR : e_R E = RM 10 4 24 := en.2.2.2
  have hn0 : 0 < (e_c E).maxLocals := by rw [hml]; decide
  have hn1 : 1 < (e_c E).maxLocals := by rw [hml]; decide
  have hn2 : 2 < (e_c E).maxLocals := by rw [hml]; decide
  have hn3 : 3 < (e_c E).maxLocals := by rw [hml]; decide
  refine ga_aload_n ok 2 rfl rfl dL_day_0 ?_
  refine ga_iconst ok dL_day_1 ?_
  refine ga_aload_n ok 0 rfl rfl dL_day_2 ?_
  refine ga_iload_n ok 1 rfl rfl dL_day_3 ?_
  refine gc_X3_1 ok hG rfl lk_L_73 rfl (c_X3_day ok.fl hG hX hT0 hnR) (by rw [hR]; exact ⟨by decide, by decide, by decide, by decide⟩) (Nat.le_of_ble_eq_true rfl) dL_day_4 (fun r9 m1 hq => ?_) (fun X9 m1 hq => ?_)
  · obtain ⟨h0, rfl, hX1, hf1⟩ := hq
    simp only [Option.toList_some, List.singleton_append]
    have hK : (sp_day g n).1 = 0 := h0
    refine ga_i2lW ok dL_day_7 ?_
    refine ga_lastore_la ok (ar_lo hG rfl) (by omega) dL_day_8 ?_
    refine ga_goto ok 18 (by decide) dL_day_9 ?_
    refine ga_iconst ok dL_day_18 ?_
    exact ga_ireturn ok en rfl rfl (by exact Nat.le_refl _) (by exact Nat.le_refl _) dL_day_19 ⟨by rw [hK], by rw [hK]; decide, fun _ => upI_at, hX1.out (Or.inl rfl), hf1.w.u (Or.inl rfl)⟩
  · obtain ⟨hc, hX1, hf1⟩ := hq
    rcases hc with ⟨h1, rfl⟩ | ⟨h1, rfl⟩
    · have hK : (sp_day g n).1 = 1 := h1
      refine gx_catch ok hS htab [] (0, 9, 12, 21) [(0, 9, 15, 15)] rfl (fun _ h => absurd h List.not_mem_nil) rfl (by decide) cl_IO cs_IO (fun q => ?_)
      refine ga_astore_n ok 3 rfl hn3 dL_day_12 ?_
      refine ga_iconst ok dL_day_13 ?_
      exact ga_ireturn ok en rfl rfl (by exact Nat.le_refl _) (by exact Nat.le_refl _) dL_day_14 ⟨by rw [hK], by rw [hK]; decide, fun h => absurd (hK.symm.trans h) (by decide), hX1, hf1.w⟩
    · have hK : (sp_day g n).1 = 2 := h1
      refine gx_catch ok hS htab [(0, 9, 12, 21)] (0, 9, 15, 15) [] rfl (List.forall_mem_cons.mpr ⟨⟨by decide, _, cl_IO, by decide +kernel, by decide +kernel, by decide +kernel⟩, fun _ h => absurd h List.not_mem_nil⟩) rfl (by decide) cl_UO cs_UO (fun q => ?_)
      refine ga_astore_n ok 3 rfl hn3 dL_day_15 ?_
      refine ga_iconst ok dL_day_16 ?_
      exact ga_ireturn ok en rfl rfl (by exact Nat.le_refl _) (by exact Nat.le_refl _) dL_day_17 ⟨by rw [hK], by rw [hK]; decide, fun h => absurd (hK.symm.trans h) (by decide), hX1, hf1.w⟩
theorem lw_L_197 : LinkW RL 197 yL_day cL_day 4 (some .int) [(0, 9, 12, 21), (0, 9, 15, 15)] 3 := ⟨List.forall_mem_cons.mpr ⟨tb_in 696 (by decide +kernel) (by decide +kernel), List.forall_mem_cons.mpr ⟨tb_in 697 (by decide +kernel) (by decide +kernel), List.forall_mem_cons.mpr ⟨tb_in 0 (by decide +kernel) (by decide +kernel), fun _ h => absurd h List.not_mem_nil⟩⟩⟩, tb_in 698 (by decide +kernel) (by decide +kernel), by decide +kernel⟩
set_option maxHeartbeats 4000000 in
set_option maxRecDepth 100000 in
theorem w_days {G : GG} {l : Launch} (hfl : l.stackTraces = false) (hG : MW G) (hS : SBW G) {m : Mm} {g : Gm} {T : Int} (hX : XIs T m g) (hT0 : 0 ≤ T ∧ T ≤ 1000000000) {n : Int} (hnR : -2147483648 ≤ n ∧ n ≤ 2147483647) {most : Int} (hmostR : -2147483648 ≤ most ∧ most ≤ 2147483647) : CW G l yL_days cL_days 5 (some .int) [(0, 10, 13, 21), (0, 10, 17, 13), (0, 10, 21, 15)] (RM 10 4 24) [.ref 0, vI n, vI most, .ref 1600] m (fun r' m' => r' = some (vI (sp_days g n most).1) ∧ (0 ≤ (sp_days g n most).1 ∧ (sp_days g n most).1 ≤ 3) ∧ ((sp_days g n most).1 = 0 → m'.1 1600 0 = w32 (sp_days g n most).2.1) ∧ XIs (T + 1000) m' (sp_days g n most).2.2 ∧ WFr m m') (fun _ _ => False) := by
  refine CW.of RL [(0, .ref 0), (1, vI n), (2, vI most), (3, .ref 1600)] hfl (by decide +kernel) rfl rfl (Nat.le_of_ble_eq_true rfl) ?_
  intro E ok en hml hEl htab
  have hR : e_R E = RM 10 4 24 := en.2.2.2
  have hn0 : 0 < (e_c E).maxLocals := by rw [hml]; decide
  have hn1 : 1 < (e_c E).maxLocals := by rw [hml]; decide
  have hn2 : 2 < (e_c E).maxLocals := by rw [hml]; decide
  have hn3 : 3 < (e_c E).maxLocals := by rw [hml]; decide
  have hn4 : 4 < (e_c E).maxLocals := by rw [hml]; decide
  refine ga_aload_n ok 3 rfl rfl dL_days_0 ?_
  refine ga_iconst ok dL_days_1 ?_
  refine ga_aload_n ok 0 rfl rfl dL_days_2 ?_
  refine ga_iload_n ok 1 rfl rfl dL_days_3 ?_
  refine ga_iload_n ok 2 rfl rfl dL_days_4 ?_
  refine gc_X3_2 ok hG rfl lk_L_76 rfl (c_X3_days ok.fl hG hX hT0 hnR hmostR) (by rw [hR]; exact ⟨by decide, by decide, by decide, by decide⟩) (Nat.le_of_ble_eq_true rfl) dL_days_5 (fun r9 m1 hq => ?_) (fun X9 m1 hq => ?_)
  · obtain ⟨h0, rfl, hX1, hf1⟩ := hq
    simp only [Option.toList_some, List.singleton_append]
    have hK : (sp_days g n most).1 = 0 := h0
    refine ga_i2lW ok dL_days_8 ?_
    refine ga_lastore_la ok (ar_lo hG rfl) (by omega) dL_days_9 ?_
    refine ga_goto ok 25 (by decide) dL_days_10 ?_
    refine ga_iconst ok dL_days_25 ?_
    exact ga_ireturn ok en rfl rfl (by exact Nat.le_refl _) (by exact Nat.le_refl _) dL_days_26 ⟨by rw [hK], by rw [hK]; decide, fun _ => upI_at, hX1.out (Or.inl rfl), hf1.w.u (Or.inl rfl)⟩
  · obtain ⟨hc, hX1, hf1⟩ := hq
    rcases hc with ⟨h1, rfl⟩ | ⟨h1, rfl⟩ | ⟨h1, rfl⟩
    · have hK : (sp_days g n most).1 = 1 := h1
      refine gx_catch ok hS htab [] (0, 10, 13, 21) [(0, 10, 17, 13), (0, 10, 21, 15)] rfl (fun _ h => absurd h List.not_mem_nil) rfl (by decide) cl_IO cs_IO (fun q => ?_)
      refine ga_astore ok hn4 dL_days_13 ?_
      refine ga_iconst ok dL_days_15 ?_
      exact ga_ireturn ok en rfl rfl (by exact Nat.le_refl _) (by exact Nat.le_refl _) dL_days_16 ⟨by rw [hK], by rw [hK]; decide, fun h => absurd (hK.symm.trans h) (by decide), hX1, hf1.w⟩
    · have hK : (sp_days g n most).1 = 2 := h1
      refine gx_catch ok hS htab [(0, 10, 13, 21)] (0, 10, 17, 13) [(0, 10, 21, 15)] rfl (List.forall_mem_cons.mpr ⟨⟨by decide, _, cl_IO, by decide +kernel, by decide +kernel, by decide +kernel⟩, fun _ h => absurd h List.not_mem_nil⟩) rfl (by decide) cl_IA cs_IA (fun q => ?_)
      refine ga_astore ok hn4 dL_days_17 ?_
      refine ga_iconst ok dL_days_19 ?_
      exact ga_ireturn ok en rfl rfl (by exact Nat.le_refl _) (by exact Nat.le_refl _) dL_days_20 ⟨by rw [hK], by rw [hK]; decide, fun h => absurd (hK.symm.trans h) (by decide), hX1, hf1.w⟩
    · have hK : (sp_days g n most).1 = 3 := h1
      refine gx_catch ok hS htab [(0, 10, 13, 21), (0, 10, 17, 13)] (0, 10, 21, 15) [] rfl (List.forall_mem_cons.mpr ⟨⟨by decide, _, cl_IO, by decide +kernel, by decide +kernel, by decide +kernel⟩, List.forall_mem_cons.mpr ⟨⟨by decide, _, cl_IA, by decide +kernel, by decide +kernel, by decide +kernel⟩, fun _ h => absurd h List.not_mem_nil⟩⟩) rfl (by decide) cl_UO cs_UO (fun q => ?_)
      refine ga_astore ok hn4 dL_days_21 ?_
      refine ga_iconst ok dL_days_23 ?_
      exact ga_ireturn ok en rfl rfl (by exact Nat.le_refl _) (by exact Nat.le_refl _) dL_days_24 ⟨by rw [hK], by rw [hK]; decide, fun h => absurd (hK.symm.trans h) (by decide), hX1, hf1.w⟩
theorem lw_L_200 : LinkW RL 200 yL_days cL_days 5 (some .int) [(0, 10, 13, 21), (0, 10, 17, 13), (0, 10, 21, 15)] 4 := ⟨List.forall_mem_cons.mpr ⟨tb_in 717 (by decide +kernel) (by decide +kernel), List.forall_mem_cons.mpr ⟨tb_in 718 (by decide +kernel) (by decide +kernel), List.forall_mem_cons.mpr ⟨tb_in 0 (by decide +kernel) (by decide +kernel), fun _ h => absurd h List.not_mem_nil⟩⟩⟩, tb_in 719 (by decide +kernel) (by decide +kernel), by decide +kernel⟩
set_option maxHeartbeats 4000000 in
set_option maxRecDepth 100000 in
theorem w_wouldCalm {G : GG} {l : Launch} (hfl : l.stackTraces = false) (hG : MW G) (hS : SBW G) {m : Mm} {g : Gm} {T : Int} (hX : XIs T m g) (hT0 : 0 ≤ T ∧ T ≤ 1000000000) {n : Int} (hnR : -2147483648 ≤ n ∧ n ≤ 2147483647) {most : Int} (hmostR : -2147483648 ≤ most ∧ most ≤ 2147483647) : CW G l yL_wouldCalm cL_wouldCalm 5 (some .int) [(0, 10, 13, 21), (0, 10, 17, 13), (0, 10, 21, 62)] (RM 10 4 24) [.ref 0, vI n, vI most, .ref 1600] m (fun r' m' => r' = some (vI (sp_wouldCalm g n most).1) ∧ (0 ≤ (sp_wouldCalm g n most).1 ∧ (sp_wouldCalm g n most).1 ≤ 3) ∧ ((sp_wouldCalm g n most).1 = 0 → m'.1 1600 0 = w32 (sp_wouldCalm g n most).2.1) ∧ XIs (T + 1000) m' (sp_wouldCalm g n most).2.2 ∧ WFr m m') (fun _ _ => False) := by
  refine CW.of RL [(0, .ref 0), (1, vI n), (2, vI most), (3, .ref 1600)] hfl (by decide +kernel) rfl rfl (Nat.le_of_ble_eq_true rfl) ?_
  intro E ok en hml hEl htab
  have hR : e_R E = RM 10 4 24 := en.2.2.2
  have hn0 : 0 < (e_c E).maxLocals := by rw [hml]; decide
  have hn1 : 1 < (e_c E).maxLocals := by rw [hml]; decide
  have hn2 : 2 < (e_c E).maxLocals := by rw [hml]; decide
  have hn3 : 3 < (e_c E).maxLocals := by rw [hml]; decide
  have hn4 : 4 < (e_c E).maxLocals := by rw [hml]; decide
  refine ga_aload_n ok 3 rfl rfl dL_wouldCalm_0 ?_
  refine ga_iconst ok dL_wouldCalm_1 ?_
  refine ga_aload_n ok 0 rfl rfl dL_wouldCalm_2 ?_
  refine ga_iload_n ok 1 rfl rfl dL_wouldCalm_3 ?_
  refine ga_iload_n ok 2 rfl rfl dL_wouldCalm_4 ?_
  refine gc_X3_2 ok hG rfl lk_L_79 rfl (c_X3_wouldCalm ok.fl hG hX hT0 hnR hmostR) (by rw [hR]; exact ⟨by decide, by decide, by decide, by decide⟩) (Nat.le_of_ble_eq_true rfl) dL_wouldCalm_5 (fun r9 m1 hq => ?_) (fun X9 m1 hq => ?_)
  · obtain ⟨h0, rfl, hX1, hf1⟩ := hq
    simp only [Option.toList_some, List.singleton_append]
    have hK : (sp_wouldCalm g n most).1 = 0 := h0
    refine ga_i2lW ok dL_wouldCalm_8 ?_
    refine ga_lastore_la ok (ar_lo hG rfl) (by omega) dL_wouldCalm_9 ?_
    refine ga_goto ok 25 (by decide) dL_wouldCalm_10 ?_
    refine ga_iconst ok dL_wouldCalm_25 ?_
    exact ga_ireturn ok en rfl rfl (by exact Nat.le_refl _) (by exact Nat.le_refl _) dL_wouldCalm_26 ⟨by rw [hK], by rw [hK]; decide, fun _ => upI_at, hX1.out (Or.inl rfl), hf1.w.u (Or.inl rfl)⟩
  · obtain ⟨hc, hX1, hf1⟩ := hq
    rcases hc with ⟨h1, rfl⟩ | ⟨h1, rfl⟩ | ⟨h1, rfl⟩
    · have hK : (sp_wouldCalm g n most).1 = 1 := h1
      refine gx_catch ok hS htab [] (0, 10, 13, 21) [(0, 10, 17, 13), (0, 10, 21, 62)] rfl (fun _ h => absurd h List.not_mem_nil) rfl (by decide) cl_IO cs_IO (fun q => ?_)
      refine ga_astore ok hn4 dL_wouldCalm_13 ?_
      refine ga_iconst ok dL_wouldCalm_15 ?_
      exact ga_ireturn ok en rfl rfl (by exact Nat.le_refl _) (by exact Nat.le_refl _) dL_wouldCalm_16 ⟨by rw [hK], by rw [hK]; decide, fun h => absurd (hK.symm.trans h) (by decide), hX1, hf1.w⟩
    · have hK : (sp_wouldCalm g n most).1 = 2 := h1
      refine gx_catch ok hS htab [(0, 10, 13, 21)] (0, 10, 17, 13) [(0, 10, 21, 62)] rfl (List.forall_mem_cons.mpr ⟨⟨by decide, _, cl_IO, by decide +kernel, by decide +kernel, by decide +kernel⟩, fun _ h => absurd h List.not_mem_nil⟩) rfl (by decide) cl_IA cs_IA (fun q => ?_)
      refine ga_astore ok hn4 dL_wouldCalm_17 ?_
      refine ga_iconst ok dL_wouldCalm_19 ?_
      exact ga_ireturn ok en rfl rfl (by exact Nat.le_refl _) (by exact Nat.le_refl _) dL_wouldCalm_20 ⟨by rw [hK], by rw [hK]; decide, fun h => absurd (hK.symm.trans h) (by decide), hX1, hf1.w⟩
    · have hK : (sp_wouldCalm g n most).1 = 3 := h1
      refine gx_catch ok hS htab [(0, 10, 13, 21), (0, 10, 17, 13)] (0, 10, 21, 62) [] rfl (List.forall_mem_cons.mpr ⟨⟨by decide, _, cl_IO, by decide +kernel, by decide +kernel, by decide +kernel⟩, List.forall_mem_cons.mpr ⟨⟨by decide, _, cl_IA, by decide +kernel, by decide +kernel, by decide +kernel⟩, fun _ h => absurd h List.not_mem_nil⟩⟩) rfl (by decide) cl_NS cs_NS (fun q => ?_)
      refine ga_astore ok hn4 dL_wouldCalm_21 ?_
      refine ga_iconst ok dL_wouldCalm_23 ?_
      exact ga_ireturn ok en rfl rfl (by exact Nat.le_refl _) (by exact Nat.le_refl _) dL_wouldCalm_24 ⟨by rw [hK], by rw [hK]; decide, fun h => absurd (hK.symm.trans h) (by decide), hX1, hf1.w⟩
theorem lw_L_203 : LinkW RL 203 yL_wouldCalm cL_wouldCalm 5 (some .int) [(0, 10, 13, 21), (0, 10, 17, 13), (0, 10, 21, 62)] 4 := ⟨List.forall_mem_cons.mpr ⟨tb_in 728 (by decide +kernel) (by decide +kernel), List.forall_mem_cons.mpr ⟨tb_in 729 (by decide +kernel) (by decide +kernel), List.forall_mem_cons.mpr ⟨tb_in 0 (by decide +kernel) (by decide +kernel), fun _ h => absurd h List.not_mem_nil⟩⟩⟩, tb_in 730 (by decide +kernel) (by decide +kernel), by decide +kernel⟩
set_option maxHeartbeats 4000000 in
set_option maxRecDepth 100000 in
theorem w_append {G : GG} {l : Launch} (hfl : l.stackTraces = false) (hG : MW G) (hS : SBW G) {m : Mm} {g : Gm} {T : Int} (hX : XIs T m g) (hT0 : 0 ≤ T ∧ T ≤ 1000000000) {c : Int} (hc9 : 0 ≤ c ∧ c ≤ 65535) : CW G l yL_append cL_append 4 (some .int) [(0, 9, 12, 112)] (RM 10 4 24) [.ref 0, vI c, .ref 1600] m (fun r' m' => r' = some (vI (sp_append g c).1) ∧ (0 ≤ (sp_append g c).1 ∧ (sp_append g c).1 ≤ 3) ∧ ((sp_append g c).1 = 0 → m'.1 1600 0 = w32 (sp_append g c).2.1) ∧ XIs (T + 1000) m' (sp_append g c).2.2 ∧ WFr m m') (fun _ _ => False) := by
  refine CW.of RL [(0, .ref 0), (1, vI c), (2, .ref 1600)] hfl (by decide +kernel) rfl rfl (Nat.le_of_ble_eq_true rfl) ?_
  intro E ok en hml hEl htab
  have hR : e_R E = RM 10 4 24 := en.2.2.2
  have hn0 : 0 < (e_c E).maxLocals := by rw [hml]; decide
  have hn1 : 1 < (e_c E).maxLocals := by rw [hml]; decide
  have hn2 : 2 < (e_c E).maxLocals := by rw [hml]; decide
  have hn3 : 3 < (e_c E).maxLocals := by rw [hml]; decide
  refine ga_aload_n ok 2 rfl rfl dL_append_0 ?_
  refine ga_iconst ok dL_append_1 ?_
  refine ga_aload_n ok 0 rfl rfl dL_append_2 ?_
  refine ga_iload_n ok 1 rfl rfl dL_append_3 ?_
  refine gc_X3_1 ok hG rfl lk_L_108 rfl (c_X3_append ok.fl hG hX hT0 hc9) (by rw [hR]; exact ⟨by decide, by decide, by decide, by decide⟩) (Nat.le_of_ble_eq_true rfl) dL_append_4 (fun r9 m1 hq => ?_) (fun X9 m1 hq => ?_)
  · obtain ⟨h0, rfl, hX1, hf1⟩ := hq
    simp only [Option.toList_some, List.singleton_append]
    have hK : (sp_append g c).1 = 0 := h0
    refine ga_i2lW ok dL_append_7 ?_
    refine ga_lastore_la ok (ar_lo hG rfl) (by omega) dL_append_8 ?_
    refine ga_goto ok 15 (by decide) dL_append_9 ?_
    refine ga_iconst ok dL_append_15 ?_
    exact ga_ireturn ok en rfl rfl (by exact Nat.le_refl _) (by exact Nat.le_refl _) dL_append_16 ⟨by rw [hK], by rw [hK]; decide, fun _ => upI_at, hX1.out (Or.inl rfl), hf1.w.u (Or.inl rfl)⟩
  · obtain ⟨hc, hX1, hf1⟩ := hq
    obtain ⟨h1, rfl⟩ := hc
    have hK : (sp_append g c).1 = 1 := h1
    refine gx_catch ok hS htab [] (0, 9, 12, 112) [] rfl (fun _ h => absurd h List.not_mem_nil) rfl (by decide) cl_IS cs_IS (fun q => ?_)
    refine ga_astore_n ok 3 rfl hn3 dL_append_12 ?_
    refine ga_iconst ok dL_append_13 ?_
    exact ga_ireturn ok en rfl rfl (by exact Nat.le_refl _) (by exact Nat.le_refl _) dL_append_14 ⟨by rw [hK], by rw [hK]; decide, fun h => absurd (hK.symm.trans h) (by decide), hX1, hf1.w⟩
theorem lw_L_234 : LinkW RL 234 yL_append cL_append 4 (some .int) [(0, 9, 12, 112)] 3 := ⟨List.forall_mem_cons.mpr ⟨tb_in 1093 (by decide +kernel) (by decide +kernel), List.forall_mem_cons.mpr ⟨tb_in 1094 (by decide +kernel) (by decide +kernel), List.forall_mem_cons.mpr ⟨tb_in 0 (by decide +kernel) (by decide +kernel), fun _ h => absurd h List.not_mem_nil⟩⟩⟩, tb_in 1095 (by decide +kernel) (by decide +kernel), by decide +kernel⟩
set_option maxHeartbeats 4000000 in
set_option maxRecDepth 100000 in
theorem w_run {G : GG} {l : Launch} (hfl : l.stackTraces = false) (hG : MW G) (hS : SBW G) {m : Mm} {g : Gm} {T : Int} (hX : XIs T m g) (hT0 : 0 ≤ T ∧ T ≤ 999990000) : CW G l yL_run cL_run 3 (some .int) [(0, 8, 11, 13), (0, 8, 14, 15)] (RM 10 4 24) [.ref 0, .ref 1600] m (fun r' m' => r' = some (vI (sp_run g).1) ∧ (0 ≤ (sp_run g).1 ∧ (sp_run g).1 ≤ 3) ∧ ((sp_run g).1 = 0 → m'.1 1600 0 = w32 (sp_run g).2.1) ∧ XIs (T + 1000) m' (sp_run g).2.2 ∧ WFr m m') (fun _ _ => False) := by
  refine CW.of RL [(0, .ref 0), (1, .ref 1600)] hfl (by decide +kernel) rfl rfl (Nat.le_of_ble_eq_true rfl) ?_
  intro E ok en hml hEl htab
  have hR : e_R E = RM 10 4 24 := en.2.2.2
  have hn0 : 0 < (e_c E).maxLocals := by rw [hml]; decide
  have hn1 : 1 < (e_c E).maxLocals := by rw [hml]; decide
  have hn2 : 2 < (e_c E).maxLocals := by rw [hml]; decide
  refine ga_aload_n ok 1 rfl rfl dL_run_0 ?_
  refine ga_iconst ok dL_run_1 ?_
  refine ga_aload_n ok 0 rfl rfl dL_run_2 ?_
  refine gc_X3_0 ok hG rfl lk_L_114 rfl (c_X3_run ok.fl hG hX hT0) (by rw [hR]; exact ⟨by decide, by decide, by decide, by decide⟩) (Nat.le_of_ble_eq_true rfl) dL_run_3 (fun r9 m1 hq => ?_) (fun X9 m1 hq => ?_)
  · obtain ⟨h0, rfl, hX1, hf1⟩ := hq
    simp only [Option.toList_some, List.singleton_append]
    have hK : (sp_run g).1 = 0 := h0
    refine ga_i2lW ok dL_run_6 ?_
    refine ga_lastore_la ok (ar_lo hG rfl) (by omega) dL_run_7 ?_
    refine ga_goto ok 17 (by decide) dL_run_8 ?_
    refine ga_iconst ok dL_run_17 ?_
    exact ga_ireturn ok en rfl rfl (by exact Nat.le_refl _) (by exact Nat.le_refl _) dL_run_18 ⟨by rw [hK], by rw [hK]; decide, fun _ => upI_at, hX1.out (Or.inl rfl), hf1.w.u (Or.inl rfl)⟩
  · obtain ⟨hc, hX1, hf1⟩ := hq
    rcases hc with ⟨h1, rfl⟩ | ⟨h1, rfl⟩
    · have hK : (sp_run g).1 = 1 := h1
      refine gx_catch ok hS htab [] (0, 8, 11, 13) [(0, 8, 14, 15)] rfl (fun _ h => absurd h List.not_mem_nil) rfl (by decide) cl_IA cs_IA (fun q => ?_)
      refine ga_astore_n ok 2 rfl hn2 dL_run_11 ?_
      refine ga_iconst ok dL_run_12 ?_
      exact ga_ireturn ok en rfl rfl (by exact Nat.le_refl _) (by exact Nat.le_refl _) dL_run_13 ⟨by rw [hK], by rw [hK]; decide, fun h => absurd (hK.symm.trans h) (by decide), hX1, hf1.w⟩
    · have hK : (sp_run g).1 = 2 := h1
      refine gx_catch ok hS htab [(0, 8, 11, 13)] (0, 8, 14, 15) [] rfl (List.forall_mem_cons.mpr ⟨⟨by decide, _, cl_IA, by decide +kernel, by decide +kernel, by decide +kernel⟩, fun _ h => absurd h List.not_mem_nil⟩) rfl (by decide) cl_UO cs_UO (fun q => ?_)
      refine ga_astore_n ok 2 rfl hn2 dL_run_14 ?_
      refine ga_iconst ok dL_run_15 ?_
      exact ga_ireturn ok en rfl rfl (by exact Nat.le_refl _) (by exact Nat.le_refl _) dL_run_16 ⟨by rw [hK], by rw [hK]; decide, fun h => absurd (hK.symm.trans h) (by decide), hX1, hf1.w⟩
theorem lw_L_238 : LinkW RL 238 yL_run cL_run 3 (some .int) [(0, 8, 11, 13), (0, 8, 14, 15)] 2 := ⟨List.forall_mem_cons.mpr ⟨tb_in 1117 (by decide +kernel) (by decide +kernel), List.forall_mem_cons.mpr ⟨tb_in 1118 (by decide +kernel) (by decide +kernel), List.forall_mem_cons.mpr ⟨tb_in 0 (by decide +kernel) (by decide +kernel), fun _ h => absurd h List.not_mem_nil⟩⟩⟩, tb_in 1119 (by decide +kernel) (by decide +kernel), by decide +kernel⟩
set_option maxHeartbeats 4000000 in
set_option maxRecDepth 100000 in
theorem w_undo {G : GG} {l : Launch} (hfl : l.stackTraces = false) (hG : MW G) (hS : SBW G) {m : Mm} {g : Gm} {T : Int} (hX : XIs T m g) (hT0 : 0 ≤ T ∧ T ≤ 1000000000) : CW G l yL_undo cL_undo 3 (some .int) [(0, 8, 11, 112)] (RM 10 4 24) [.ref 0, .ref 1600] m (fun r' m' => r' = some (vI (sp_undo g).1) ∧ (0 ≤ (sp_undo g).1 ∧ (sp_undo g).1 ≤ 3) ∧ ((sp_undo g).1 = 0 → m'.1 1600 0 = w32 (sp_undo g).2.1) ∧ XIs (T + 1000) m' (sp_undo g).2.2 ∧ WFr m m') (fun _ _ => False) := by
  refine CW.of RL [(0, .ref 0), (1, .ref 1600)] hfl (by decide +kernel) rfl rfl (Nat.le_of_ble_eq_true rfl) ?_
  intro E ok en hml hEl htab
  have hR : e_R E = RM 10 4 24 := en.2.2.2
  have hn0 : 0 < (e_c E).maxLocals := by rw [hml]; decide
  have hn1 : 1 < (e_c E).maxLocals := by rw [hml]; decide
  have hn2 : 2 < (e_c E).maxLocals := by rw [hml]; decide
  refine ga_aload_n ok 1 rfl rfl dL_undo_0 ?_
  refine ga_iconst ok dL_undo_1 ?_
  refine ga_aload_n ok 0 rfl rfl dL_undo_2 ?_
  refine gc_X3_0 ok hG rfl lk_L_129 rfl (c_X3_undo ok.fl hG hX hT0) (by rw [hR]; exact ⟨by decide, by decide, by decide, by decide⟩) (Nat.le_of_ble_eq_true rfl) dL_undo_3 (fun r9 m1 hq => ?_) (fun X9 m1 hq => ?_)
  · obtain ⟨h0, rfl, hX1, hf1⟩ := hq
    simp only [Option.toList_some, List.singleton_append]
    have hK : (sp_undo g).1 = 0 := h0
    refine ga_i2lW ok dL_undo_6 ?_
    refine ga_lastore_la ok (ar_lo hG rfl) (by omega) dL_undo_7 ?_
    refine ga_goto ok 14 (by decide) dL_undo_8 ?_
    refine ga_iconst ok dL_undo_14 ?_
    exact ga_ireturn ok en rfl rfl (by exact Nat.le_refl _) (by exact Nat.le_refl _) dL_undo_15 ⟨by rw [hK], by rw [hK]; decide, fun _ => upI_at, hX1.out (Or.inl rfl), hf1.w.u (Or.inl rfl)⟩
  · obtain ⟨hc, hX1, hf1⟩ := hq
    obtain ⟨h1, rfl⟩ := hc
    have hK : (sp_undo g).1 = 1 := h1
    refine gx_catch ok hS htab [] (0, 8, 11, 112) [] rfl (fun _ h => absurd h List.not_mem_nil) rfl (by decide) cl_IS cs_IS (fun q => ?_)
    refine ga_astore_n ok 2 rfl hn2 dL_undo_11 ?_
    refine ga_iconst ok dL_undo_12 ?_
    exact ga_ireturn ok en rfl rfl (by exact Nat.le_refl _) (by exact Nat.le_refl _) dL_undo_13 ⟨by rw [hK], by rw [hK]; decide, fun h => absurd (hK.symm.trans h) (by decide), hX1, hf1.w⟩
theorem lw_L_262 : LinkW RL 262 yL_undo cL_undo 3 (some .int) [(0, 8, 11, 112)] 2 := ⟨List.forall_mem_cons.mpr ⟨tb_in 1214 (by decide +kernel) (by decide +kernel), List.forall_mem_cons.mpr ⟨tb_in 1215 (by decide +kernel) (by decide +kernel), List.forall_mem_cons.mpr ⟨tb_in 0 (by decide +kernel) (by decide +kernel), fun _ h => absurd h List.not_mem_nil⟩⟩⟩, tb_in 1216 (by decide +kernel) (by decide +kernel), by decide +kernel⟩
set_option maxHeartbeats 4000000 in
set_option maxRecDepth 100000 in
theorem w_restore {G : GG} {l : Launch} (hfl : l.stackTraces = false) (hG : MW G) (hS : SBW G) {m : Mm} {g : Gm} {T : Int} (hX : XIs T m g) (hT0 : 0 ≤ T ∧ T ≤ 1000000000) : CW G l yL_restore cL_restore 3 (some .int) [(0, 8, 11, 112)] (RM 10 4 24) [.ref 0, .ref 1600] m (fun r' m' => r' = some (vI (sp_restore g).1) ∧ (0 ≤ (sp_restore g).1 ∧ (sp_restore g).1 ≤ 3) ∧ ((sp_restore g).1 = 0 → m'.1 1600 0 = w32 (sp_restore g).2.1) ∧ XIs (T + 1000) m' (sp_restore g).2.2 ∧ WFr m m') (fun _ _ => False) := by
  refine CW.of RL [(0, .ref 0), (1, .ref 1600)] hfl (by decide +kernel) rfl rfl (Nat.le_of_ble_eq_true rfl) ?_
  intro E ok en hml hEl htab
  have hR : e_R E = RM 10 4 24 := en.2.2.2
  have hn0 : 0 < (e_c E).maxLocals := by rw [hml]; decide
  have hn1 : 1 < (e_c E).maxLocals := by rw [hml]; decide
  have hn2 : 2 < (e_c E).maxLocals := by rw [hml]; decide
  refine ga_aload_n ok 1 rfl rfl dL_restore_0 ?_
  refine ga_iconst ok dL_restore_1 ?_
  refine ga_aload_n ok 0 rfl rfl dL_restore_2 ?_
  refine gc_X3_0 ok hG rfl lk_L_132 rfl (c_X3_restore ok.fl hG hX hT0) (by rw [hR]; exact ⟨by decide, by decide, by decide, by decide⟩) (Nat.le_of_ble_eq_true rfl) dL_restore_3 (fun r9 m1 hq => ?_) (fun X9 m1 hq => ?_)
  · obtain ⟨h0, rfl, hX1, hf1⟩ := hq
    simp only [Option.toList_some, List.singleton_append]
    have hK : (sp_restore g).1 = 0 := h0
    refine ga_i2lW ok dL_restore_6 ?_
    refine ga_lastore_la ok (ar_lo hG rfl) (by omega) dL_restore_7 ?_
    refine ga_goto ok 14 (by decide) dL_restore_8 ?_
    refine ga_iconst ok dL_restore_14 ?_
    exact ga_ireturn ok en rfl rfl (by exact Nat.le_refl _) (by exact Nat.le_refl _) dL_restore_15 ⟨by rw [hK], by rw [hK]; decide, fun _ => upI_at, hX1.out (Or.inl rfl), hf1.w.u (Or.inl rfl)⟩
  · obtain ⟨hc, hX1, hf1⟩ := hq
    obtain ⟨h1, rfl⟩ := hc
    have hK : (sp_restore g).1 = 1 := h1
    refine gx_catch ok hS htab [] (0, 8, 11, 112) [] rfl (fun _ h => absurd h List.not_mem_nil) rfl (by decide) cl_IS cs_IS (fun q => ?_)
    refine ga_astore_n ok 2 rfl hn2 dL_restore_11 ?_
    refine ga_iconst ok dL_restore_12 ?_
    exact ga_ireturn ok en rfl rfl (by exact Nat.le_refl _) (by exact Nat.le_refl _) dL_restore_13 ⟨by rw [hK], by rw [hK]; decide, fun h => absurd (hK.symm.trans h) (by decide), hX1, hf1.w⟩
theorem lw_L_269 : LinkW RL 269 yL_restore cL_restore 3 (some .int) [(0, 8, 11, 112)] 2 := ⟨List.forall_mem_cons.mpr ⟨tb_in 1222 (by decide +kernel) (by decide +kernel), List.forall_mem_cons.mpr ⟨tb_in 1223 (by decide +kernel) (by decide +kernel), List.forall_mem_cons.mpr ⟨tb_in 0 (by decide +kernel) (by decide +kernel), fun _ h => absurd h List.not_mem_nil⟩⟩⟩, tb_in 1224 (by decide +kernel) (by decide +kernel), by decide +kernel⟩
