/-! THE TEXT IS TAKEN -/
section XQ
variable {G : GG} {E : EE} {own : String} {b : ByteArray} {k n pc : Nat} {L : List (Nat × Value)} {st : List Value} {m : Mm} {Xs : XS}
theorem gx_len (ok : OK0 G E own b) (hS : SBW G) (hB : SBk m) (d : decode b pc = .ok (.arraylength, 1)) (kk : WA (GX G Xs) E k n (pc + 1) L (vI (m.1 960 3) :: st) m) : WA (GX G Xs) E k n pc L (raw (m.1 960 2) :: st) m := by
  intro H locs ls hW hS2 hl
  have hat := (sb_ex hS hW.gx.1).2.1
  show gW E k n H locs (F0 (e_m E) pc ls (cv (g_ad G) (raw (m.1 960 2)) :: st.map (cv (g_ad G))))
  rw [hS.raw]
  refine va_alen (D := g_D G) ok.x ok.b ok.f.1 (one_P hat) 0 8 rfl (ty := .byte) rfl (v := Int32.ofInt (m.1 960 3)) ?_ d (kk H locs ls hW hS2 hl)
  rw [oi_z hB.2.1.1]
  rfl
theorem ga_null (ok : OK0 G E own b) (d : decode b pc = .ok (.aconst_null, 1)) (kk : WA G E k n (pc + 1) L (.null :: st) m) : WA G E k n pc L st m := by
  intro H locs ls hW hS hl
  exact lv_null ok.x ok.b d (kk H locs ls hW hS hl)
/-- the first two change places -/
theorem WA.swap {x y : Nat × va_E} (w : WA (GX G (y :: x :: Xs)) E k n pc L st m) : WA (GX G (x :: y :: Xs)) E k n pc L st m := by
  refine WA.sub (fun z hz => ?_) (fun h => ?_) w
  · rcases List.mem_cons.mp hz with h | h
    · exact List.mem_cons_of_mem _ (by rw [h]; exact List.mem_cons_self)
    · rcases List.mem_cons.mp h with h | h
      · rw [h]; exact List.mem_cons_self
      · exact List.mem_cons_of_mem _ (List.mem_cons_of_mem _ h)
  · simp only [List.map_cons, List.nodup_cons, List.mem_cons] at h ⊢
    obtain ⟨h1, h2, h3⟩ := h
    refine ⟨fun e => ?_, fun e => h1 (Or.inr e), h3⟩
    rcases e with e | e
    · exact h1 (Or.inl e.symm)
    · exact h2 e
end XQ
set_option maxHeartbeats 4000000 in
set_option maxRecDepth 100000 in
theorem c_J7_checkLength {G : GG} {l : Launch} (hfl : l.stackTraces = false) {P9 : Prop} (hG : P9) {m : Mm} {x y : Int} (hxy : x ≤ y) (hx : -2147483648 ≤ x) (hy : y ≤ 2147483647) : CT G l yJ7_checkLength_df160 cJ7_checkLength_df160 2 none (RM 0 0 0) [vI x, vI y] m (fun r' m' => r' = none ∧ m' = m) (fun _ _ => False) := by
  refine CT.of RJ7 [(0, vI x), (1, vI y)] hfl (by decide +kernel) rfl rfl (Nat.le_of_ble_eq_true rfl) ?_
  intro E ok en hml hEl htab
  have hR : e_R E = RM 0 0 0 := en.2.2.2
  have hn0 : 0 < (e_c E).maxLocals := by rw [hml]; decide
  have hn1 : 1 < (e_c E).maxLocals := by rw [hml]; decide
  refine ga_iload_n ok 1 rfl rfl dJ7_checkLength_df160_0 ?_
  refine ga_iload_n ok 0 rfl rfl dJ7_checkLength_df160_1 ?_
  refine ga_icmp_ge ok 37 (by decide) (by omega) (by omega) dJ7_checkLength_df160_2 (fun c_2 => ?_) (fun c_2 => ?_)
  · exact ga_return ok en rfl (by decide) (by decide) dJ7_checkLength_df160_37 ⟨rfl, rfl⟩
  · exfalso; omega
set_option maxHeartbeats 4000000 in
set_option maxRecDepth 100000 in
theorem c_J5_getValue {G : GG} {l : Launch} (hfl : l.stackTraces = false) {P9 : Prop} (hG : P9) (hS : SBW G) {m : Mm} : CT G l yJ5_getValue_6d5f1 cJ5_getValue_6d5f1 1 (some (.array .byte)) (RM 0 0 0) [.ref 960] m (fun r' m' => r' = some (raw (m.1 960 2)) ∧ m' = m) (fun _ _ => False) := by
  refine CT.of RJ5 [(0, .ref 960)] hfl (by decide +kernel) rfl rfl (Nat.le_of_ble_eq_true rfl) ?_
  intro E ok en hml hEl htab
  have hR : e_R E = RM 0 0 0 := en.2.2.2
  have hn0 : 0 < (e_c E).maxLocals := by rw [hml]; decide
  refine ga_aload_n ok 0 rfl rfl dJ5_getValue_6d5f1_0 ?_
  refine gs_value ok hS (tb_in 173 (by decide +kernel) (by decide +kernel)) dJ5_getValue_6d5f1_1 ?_
  exact ga_areturn ok en rfl (Or.inr ⟨_, rfl⟩) (by decide) (by decide) dJ5_getValue_6d5f1_4 ⟨rfl, rfl⟩
theorem lj_J7_343 : LinkJ RJ7 343 yJ7_checkLength_df160 cJ7_checkLength_df160 2 none 2 := ⟨⟨tb_in 775 (by decide +kernel) (by decide +kernel), tb_in 776 (by decide +kernel) (by decide +kernel), tb_in 20 (by decide +kernel) (by decide +kernel)⟩, tb_in 777 (by decide +kernel) (by decide +kernel), by decide +kernel⟩
set_option maxHeartbeats 4000000 in
set_option maxRecDepth 100000 in
theorem c_J7_copyOfRangeByte {G : GG} {l : Launch} (hfl : l.stackTraces = false) (hS : SBW G) {m : Mm} {Xs : XS} {q : (Nat → Int) × Int} (hq : BLs m q) (hdm : ∀ q, ¬ g_dm G q) {N : Nat} (hN : q.2 = N) (hN9 : N ≤ 200) : CL G l yJ7_copyOfRangeByte_39247 cJ7_copyOfRangeByte_39247 5 (some (.array .byte)) (RM 1 1 200) [raw (m.1 960 2), vI 0, vI (N : Int)] m (Xs) (fun r' m' Xs' => m' = m ∧ ∃ (v : Nat) (t : Nat → Int), r' = some (.ref (RAW + v)) ∧ Xs' = (v, bA G N t) :: Xs ∧ ∀ j, j < N → t j = q.1 j) := by
  refine CL.of RJ7 [(0, raw (m.1 960 2)), (1, vI 0), (2, vI (N : Int))] hfl (by decide +kernel) rfl rfl (Nat.le_of_ble_eq_true rfl) ?_
  intro E ok0 en hml hEl hnam
  have hR : e_R E = RM 1 1 200 := en.2.2.2
  have ok : ∀ {Xs : XS}, OK0 (GX G Xs) E RJ7 cJ7_copyOfRangeByte_39247 := fun {_} => ok0.gx
  have hn0 : 0 < (e_c E).maxLocals := by rw [hml]; decide
  have hn1 : 1 < (e_c E).maxLocals := by rw [hml]; decide
  have hn2 : 2 < (e_c E).maxLocals := by rw [hml]; decide
  have hn3 : 3 < (e_c E).maxLocals := by rw [hml]; decide
  have hn4 : 4 < (e_c E).maxLocals := by rw [hml]; decide
  obtain ⟨hB, h40, hc0, hch⟩ := id hq
  obtain ⟨hb1, hb2, hb3, hb4, hb5⟩ := id hB
  have e0 : q.2 = (N : Int) := hN
  refine ga_iload_n ok 1 rfl rfl dJ7_copyOfRangeByte_39247_0 ?_
  refine ga_iload_n ok 2 rfl rfl dJ7_copyOfRangeByte_39247_1 ?_
  refine ga_callJ ok [vI 0, vI (N : Int)] lj_J7_343 (c_J7_checkLength ok0.fl trivial (by omega) (by omega) (by omega)) rfl (by rw [hR]; exact ⟨by decide, by decide, by decide, by decide⟩) (Nat.le_of_ble_eq_true rfl) dJ7_copyOfRangeByte_39247_2 (fun r9 m1 hq9 => ?_) (fun _ _ h => h.elim)
  obtain ⟨rfl, hm9⟩ := hq9
  subst m1
  simp only [Option.toList_none, List.nil_append]
  refine ga_iload_n ok 2 rfl rfl dJ7_copyOfRangeByte_39247_5 ?_
  refine ga_iload_n ok 1 rfl rfl dJ7_copyOfRangeByte_39247_6 ?_
  refine ga_isub ok dJ7_copyOfRangeByte_39247_7 ?_
  refine ga_istore_n ok 3 rfl hn3 dJ7_copyOfRangeByte_39247_8 ?_
  rw [show (N : Int) - 0 = (N : Int) by omega]
  refine ga_iload_n ok 3 rfl rfl dJ7_copyOfRangeByte_39247_9 ?_
  refine gl_newb ok0 hS (N := N) (tb_in 187 (by decide +kernel) (by decide +kernel)) (by omega) (by omega) (by rw [hR]; exact Nat.le_refl _) (by rw [hR]; show 0 + N ≤ 200; omega) dJ7_copyOfRangeByte_39247_10 (fun v => ?_)
  refine ga_astore ok hn4 dJ7_copyOfRangeByte_39247_12 ?_
  refine ga_aload_n ok 0 rfl rfl dJ7_copyOfRangeByte_39247_14 ?_
  refine ga_iload_n ok 1 rfl rfl dJ7_copyOfRangeByte_39247_15 ?_
  refine ga_aload ok rfl dJ7_copyOfRangeByte_39247_16 ?_
  refine ga_iconst ok dJ7_copyOfRangeByte_39247_18 ?_
  refine ga_aload_n ok 0 rfl rfl dJ7_copyOfRangeByte_39247_19 ?_
  refine gx_len ok0 hS hB dJ7_copyOfRangeByte_39247_20 ?_
  refine ga_iload_n ok 1 rfl rfl dJ7_copyOfRangeByte_39247_21 ?_
  refine ga_isub ok dJ7_copyOfRangeByte_39247_22 ?_
  refine ga_iload_n ok 3 rfl rfl dJ7_copyOfRangeByte_39247_23 ?_
  refine ga_mmin ok ⟨tb_in 640 (by decide +kernel) (by decide +kernel), tb_in 641 (by decide +kernel) (by decide +kernel), tb_in 19 (by decide +kernel) (by decide +kernel), tb_in 642 (by decide +kernel) (by decide +kernel)⟩ (by omega) (by omega) (by rw [hR]; exact (by decide)) (by rw [hR]; exact Nat.le_of_ble_eq_true rfl) (by rw [hR]; exact Nat.le_refl _) (by rw [hR]; show 0 + N ≤ 200; omega) dJ7_copyOfRangeByte_39247_24 ?_
  rw [show (if (N : Int) < m.1 960 3 - 0 then (N : Int) else m.1 960 3 - 0) = (N : Int) from by split <;> omega]
  refine gl_copyX ok0 hS hB ⟨tb_in 643 (by decide +kernel) (by decide +kernel), tb_in 357 (by decide +kernel) (by decide +kernel), tb_in 356 (by decide +kernel) (by decide +kernel), tb_in 14 (by decide +kernel) (by decide +kernel)⟩ (by omega) (by rw [hR]; exact (by decide)) (by rw [hR]; exact Nat.le_of_ble_eq_true rfl) dJ7_copyOfRangeByte_39247_27 ?_
  refine ga_aload ok rfl dJ7_copyOfRangeByte_39247_30 ?_
  exact gl_areturn ok0 en rfl (Or.inr ⟨_, rfl⟩) (by exact Nat.le_refl _) (by show 0 + N ≤ 200; omega) dJ7_copyOfRangeByte_39247_32 ⟨rfl, v, _, rfl, rfl, fun j hj => by rw [if_pos hj]; exact hch j (by omega)⟩
theorem lj_J7_339 : LinkJ RJ7 339 yJ7_copyOfRangeByte_39247 cJ7_copyOfRangeByte_39247 5 (some (.array .byte)) 3 := ⟨⟨tb_in 772 (by decide +kernel) (by decide +kernel), tb_in 773 (by decide +kernel) (by decide +kernel), tb_in 20 (by decide +kernel) (by decide +kernel)⟩, tb_in 774 (by decide +kernel) (by decide +kernel), by decide +kernel⟩
set_option maxHeartbeats 4000000 in
set_option maxRecDepth 100000 in
theorem c_J7_copyOfRange {G : GG} {l : Launch} (hfl : l.stackTraces = false) (hS : SBW G) {m : Mm} {Xs : XS} {q : (Nat → Int) × Int} (hq : BLs m q) (hdm : ∀ q, ¬ g_dm G q) {N : Nat} (hN : q.2 = N) (hN9 : N ≤ 200) : CL G l yJ7_copyOfRange_39247 cJ7_copyOfRange_39247 3 (some (.array .byte)) (RM 2 1 200) [raw (m.1 960 2), vI 0, vI (N : Int)] m (Xs) (fun r' m' Xs' => m' = m ∧ ∃ (v : Nat) (t : Nat → Int), r' = some (.ref (RAW + v)) ∧ Xs' = (v, bA G N t) :: Xs ∧ ∀ j, j < N → t j = q.1 j) := by
  refine CL.of RJ7 [(0, raw (m.1 960 2)), (1, vI 0), (2, vI (N : Int))] hfl (by decide +kernel) rfl rfl (Nat.le_of_ble_eq_true rfl) ?_
  intro E ok0 en hml hEl hnam
  have hR : e_R E = RM 2 1 200 := en.2.2.2
  have ok : ∀ {Xs : XS}, OK0 (GX G Xs) E RJ7 cJ7_copyOfRange_39247 := fun {_} => ok0.gx
  have hn0 : 0 < (e_c E).maxLocals := by rw [hml]; decide
  have hn1 : 1 < (e_c E).maxLocals := by rw [hml]; decide
  have hn2 : 2 < (e_c E).maxLocals := by rw [hml]; decide
  obtain ⟨hB, h40, hc0, hch⟩ := id hq
  obtain ⟨hb1, hb2, hb3, hb4, hb5⟩ := id hB
  have e0 : q.2 = (N : Int) := hN
  refine ga_iload_n ok 1 rfl rfl dJ7_copyOfRange_39247_0 ?_
  refine ga_if_ne ok 10 (by decide) (by omega) dJ7_copyOfRange_39247_1 (fun c_1 => ?_) (fun c_1 => ?_)
  · exact absurd rfl c_1
  · refine ga_iload_n ok 2 rfl rfl dJ7_copyOfRange_39247_4 ?_
    refine ga_aload_n ok 0 rfl rfl dJ7_copyOfRange_39247_5 ?_
    refine gx_len ok0 hS hB dJ7_copyOfRange_39247_6 ?_
    refine ga_icmp_eq ok 17 (by decide) (by omega) (by omega) dJ7_copyOfRange_39247_7 (fun c_7 => ?_) (fun c_7 => ?_)
    · refine ga_aload_n ok 0 rfl rfl dJ7_copyOfRange_39247_17 ?_
      refine gl_clone ok0 hS hdm hB h40 (N := N) (by omega) ⟨tb_in 633 (by decide +kernel) (by decide +kernel), tb_in 634 (by decide +kernel) (by decide +kernel), tb_in 635 (by decide +kernel) (by decide +kernel), tb_in 636 (by decide +kernel) (by decide +kernel), tb_in 637 (by decide +kernel) (by decide +kernel), spw_in 638 (by decide +kernel) rfl⟩ (by rw [hR]; exact (by decide)) (by rw [hR]; exact Nat.le_of_ble_eq_true rfl) (by rw [hR]; exact Nat.le_refl _) (by rw [hR]; show 0 + N ≤ 200; omega) dJ7_copyOfRange_39247_18 (fun v => ?_)
      refine gl_castB ok0 hS List.mem_cons_self (tb_in 639 (by decide +kernel) (by decide +kernel)) dJ7_copyOfRange_39247_21 ?_
      exact gl_areturn ok0 en rfl (Or.inr ⟨_, rfl⟩) (by exact Nat.le_refl _) (by show 0 + N ≤ 200; omega) dJ7_copyOfRange_39247_24 ⟨rfl, v, _, rfl, rfl, fun j hj => hch j (by omega)⟩
    · refine ga_aload_n ok 0 rfl rfl dJ7_copyOfRange_39247_10 ?_
      refine ga_iload_n ok 1 rfl rfl dJ7_copyOfRange_39247_11 ?_
      refine ga_iload_n ok 2 rfl rfl dJ7_copyOfRange_39247_12 ?_
      refine gl_callLJ ok0 [raw (m.1 960 2), vI 0, vI (N : Int)] lj_J7_339 (c_J7_copyOfRangeByte ok0.fl hS hq hdm hN hN9) rfl (by rw [hR]; exact ⟨by decide, by decide, by decide, by decide⟩) (Nat.le_of_ble_eq_true rfl) dJ7_copyOfRange_39247_13 (fun r9 m1 Xs1 hq9 => ?_)
      obtain ⟨rfl, v, t, rfl, rfl, ht9⟩ := hq9
      simp only [Option.toList_some, List.singleton_append]
      exact gl_areturn ok0 en rfl (Or.inr ⟨_, rfl⟩) (by exact Nat.le_refl _) (by exact Nat.le_refl _) dJ7_copyOfRange_39247_16 ⟨rfl, v, t, rfl, rfl, ht9⟩
theorem lj_J0_54 : LinkJ RJ0 54 yJ7_copyOfRange_39247 cJ7_copyOfRange_39247 3 (some (.array .byte)) 3 := ⟨⟨tb_in 769 (by decide +kernel) (by decide +kernel), tb_in 770 (by decide +kernel) (by decide +kernel), tb_in 20 (by decide +kernel) (by decide +kernel)⟩, tb_in 771 (by decide +kernel) (by decide +kernel), by decide +kernel⟩
set_option maxHeartbeats 4000000 in
set_option maxRecDepth 100000 in
theorem c_J0_init2 {G : GG} {l : Launch} (hfl : l.stackTraces = false) (hS : SBW G) {m : Mm} {Xs : XS} {q : (Nat → Int) × Int} (hq : BLs m q) (hdm : ∀ q, ¬ g_dm G q) {N : Nat} (hN : q.2 = N) (hN9 : N ≤ 200) {s : Nat} : CL G l yJ0_init_db425 cJ0_init_db425 5 none (RM 3 1 200) [.ref (RAW + s), .ref 960, .null] m ((s, .inr (4, [.null, .int 0, .int 0, .int 0])) :: Xs) (fun r' m' Xs' => r' = none ∧ m' = m ∧ ∃ (v : Nat) (t : Nat → Int), Xs' = STX G s v t N ++ Xs ∧ ∀ j, j < N → t j = q.1 j) := by
  refine CL.of RJ0 [(0, .ref (RAW + s)), (1, .ref 960), (2, .null)] hfl (by decide +kernel) rfl rfl (Nat.le_of_ble_eq_true rfl) ?_
  intro E ok0 en hml hEl hnam
  have hR : e_R E = RM 3 1 200 := en.2.2.2
  have ok : ∀ {Xs : XS}, OK0 (GX G Xs) E RJ0 cJ0_init_db425 := fun {_} => ok0.gx
  have hn0 : 0 < (e_c E).maxLocals := by rw [hml]; decide
  have hn1 : 1 < (e_c E).maxLocals := by rw [hml]; decide
  have hn2 : 2 < (e_c E).maxLocals := by rw [hml]; decide
  have hn3 : 3 < (e_c E).maxLocals := by rw [hml]; decide
  have hn4 : 4 < (e_c E).maxLocals := by rw [hml]; decide
  obtain ⟨hB, h40, hc0, hch⟩ := id hq
  obtain ⟨hb1, hb2, hb3, hb4, hb5⟩ := id hB
  have e0 : q.2 = (N : Int) := hN
  refine ga_aload_n ok 0 rfl rfl dJ0_init_db425_0 ?_
  refine gl_obj ok (tb_in 754 (by decide +kernel) (by decide +kernel)) (tb_in 38 (by decide +kernel) (by decide +kernel)) (tb_in 39 (by decide +kernel) (by decide +kernel)) (by rw [hR]; exact (by decide)) (by rw [hR]; exact Nat.le_of_ble_eq_true rfl) dJ0_init_db425_1 ?_
  refine ga_aload_n ok 1 rfl rfl dJ0_init_db425_4 ?_
  refine gl_callVUC ok0 hS (x := yJ5_getValue_6d5f1) (y := yJ5_getValue_6d5f1) (xb := cJ5_getValue_6d5f1) (xm := 1) (xret := (some (.array .byte))) (bytes := cJ5_getValue_6d5f1) ⟨tb_in 755 (by decide +kernel) (by decide +kernel), tb_in 757 (by decide +kernel) (by decide +kernel), tb_in 756 (by decide +kernel) (by decide +kernel), tb_in 759 (by decide +kernel) (by decide +kernel), tb_in 756 (by decide +kernel) (by decide +kernel), tb_in 5 (by decide +kernel) (by decide +kernel), tb_in 759 (by decide +kernel) (by decide +kernel)⟩ (by decide +kernel) (tb_in 758 (by decide +kernel) (by decide +kernel)) h40 (fun G9 hS9 => c_J5_getValue ok0.fl trivial hS9) (by rw [hR]; exact ⟨by decide, by decide, by decide, by decide⟩) (Nat.le_of_ble_eq_true rfl) dJ0_init_db425_5 (fun r9 m1 hq9 => ?_)
  obtain ⟨rfl, hm9⟩ := hq9
  subst m1
  simp only [Option.toList_some, List.singleton_append]
  refine ga_astore_n ok 3 rfl hn3 dJ0_init_db425_8 ?_
  refine ga_aload_n ok 1 rfl rfl dJ0_init_db425_9 ?_
  refine gl_callVUC ok0 hS (x := yJ5_length_8abf5) (y := yJ4_length_8abf5) (xb := cJ5_length_8abf5) (xm := 1) (xret := (some .int)) (bytes := cJ4_length_8abf5) ⟨tb_in 760 (by decide +kernel) (by decide +kernel), tb_in 762 (by decide +kernel) (by decide +kernel), tb_in 761 (by decide +kernel) (by decide +kernel), tb_in 767 (by decide +kernel) (by decide +kernel), tb_in 764 (by decide +kernel) (by decide +kernel), tb_in 6 (by decide +kernel) (by decide +kernel), tb_in 765 (by decide +kernel) (by decide +kernel)⟩ (by decide +kernel) (tb_in 763 (by decide +kernel) (by decide +kernel)) h40 (fun G9 hS9 => c_J4_length ok0.fl trivial hS9 hq) (by rw [hR]; exact ⟨by decide, by decide, by decide, by decide⟩) (Nat.le_of_ble_eq_true rfl) dJ0_init_db425_10 (fun r9 m1 hq9 => ?_)
  obtain ⟨rfl, hm9⟩ := hq9
  subst m1
  simp only [Option.toList_some, List.singleton_append]
  rw [e0]
  refine ga_istore ok hn4 dJ0_init_db425_13 ?_
  refine ga_aload_n ok 1 rfl rfl dJ0_init_db425_15 ?_
  refine gl_callVUC ok0 hS (x := yJ5_isLatin1_aae02) (y := yJ5_isLatin1_aae02) (xb := cJ5_isLatin1_aae02) (xm := 1) (xret := (some .boolean)) (bytes := cJ5_isLatin1_aae02) ⟨tb_in 768 (by decide +kernel) (by decide +kernel), tb_in 646 (by decide +kernel) (by decide +kernel), tb_in 645 (by decide +kernel) (by decide +kernel), tb_in 648 (by decide +kernel) (by decide +kernel), tb_in 645 (by decide +kernel) (by decide +kernel), tb_in 5 (by decide +kernel) (by decide +kernel), tb_in 648 (by decide +kernel) (by decide +kernel)⟩ (by decide +kernel) (tb_in 647 (by decide +kernel) (by decide +kernel)) h40 (fun G9 hS9 => c_J5_isLatin1 ok0.fl trivial hS9) (by rw [hR]; exact ⟨by decide, by decide, by decide, by decide⟩) (Nat.le_of_ble_eq_true rfl) dJ0_init_db425_16 (fun r9 m1 hq9 => ?_)
  obtain ⟨rfl, hm9⟩ := hq9
  subst m1
  simp only [Option.toList_some, List.singleton_append]
  refine ga_if_eq ok 41 (by decide) (by omega) dJ0_init_db425_19 (fun c_19 => ?_) (fun c_19 => ?_)
  · exact absurd c_19 (by decide)
  · refine ga_aload_n ok 0 rfl rfl dJ0_init_db425_22 ?_
    refine ga_iconst ok dJ0_init_db425_23 ?_
    refine gl_putf ok0 hS (kf := 1) (ty := tyJ0) rfl big_J0 tyJ0_ok nmJ0 (by decide) (by decide) (tb_in 800 (by decide +kernel) (by decide +kernel)) (fun _ => ⟨rfl, hnam⟩) (narB (by omega)) rfl dJ0_init_db425_24 ?_
    refine ga_aload_n ok 0 rfl rfl dJ0_init_db425_27 ?_
    refine ga_aload_n ok 3 rfl rfl dJ0_init_db425_28 ?_
    refine ga_iconst ok dJ0_init_db425_29 ?_
    refine ga_iload ok rfl dJ0_init_db425_30 ?_
    refine gl_callLJ ok0 [raw (m.1 960 2), vI 0, vI (N : Int)] lj_J0_54 (c_J7_copyOfRange ok0.fl hS hq hdm hN hN9) rfl (by rw [hR]; exact ⟨by decide, by decide, by decide, by decide⟩) (Nat.le_of_ble_eq_true rfl) dJ0_init_db425_32 (fun r9 m1 Xs1 hq9 => ?_)
    obtain ⟨rfl, v, t, rfl, rfl, ht9⟩ := hq9
    simp only [Option.toList_some, List.singleton_append]
    refine WA.swap ?_
    refine gl_putf ok0 hS (kf := 0) (ty := tyJ0) rfl big_J0 tyJ0_ok nmJ0 (by decide) (Nat.succ_pos _) (tb_in 799 (by decide +kernel) (by decide +kernel)) (fun _ => ⟨rfl, hnam⟩) rfl rfl dJ0_init_db425_35 ?_
    refine ga_goto ok 97 (by decide) dJ0_init_db425_38 ?_
    exact gl_return ok0 en rfl (by exact Nat.le_refl _) (by exact Nat.le_refl _) dJ0_init_db425_97 ⟨rfl, rfl, v, t, (by show _ = (_ : XS); simp only [List.set]; rw [show cv (g_ad G) (.ref (RAW + v)) = .ref v from congrArg Value.ref (hS.1 v)]; rfl), ht9⟩
theorem lli_J0_489 : LinkI RJ0 489 yJ0_init_db425 cJ0_init_db425 5 2 := ⟨List.forall_mem_cons.mpr ⟨tb_in 751 (by decide +kernel) (by decide +kernel), List.forall_mem_cons.mpr ⟨tb_in 752 (by decide +kernel) (by decide +kernel), List.forall_mem_cons.mpr ⟨tb_in 7 (by decide +kernel) (by decide +kernel), fun _ h => absurd h List.not_mem_nil⟩⟩⟩, tb_in 753 (by decide +kernel) (by decide +kernel), rfl, by decide +kernel⟩
set_option maxHeartbeats 4000000 in
set_option maxRecDepth 100000 in
theorem c_J0_init1 {G : GG} {l : Launch} (hfl : l.stackTraces = false) (hS : SBW G) {m : Mm} {Xs : XS} {q : (Nat → Int) × Int} (hq : BLs m q) (hdm : ∀ q, ¬ g_dm G q) {N : Nat} (hN : q.2 = N) (hN9 : N ≤ 200) {s : Nat} : CL G l yJ0_init_81219 cJ0_init_81219 2 none (RM 4 1 200) [.ref (RAW + s), .ref 960] m ((s, .inr (4, [.null, .int 0, .int 0, .int 0])) :: Xs) (fun r' m' Xs' => r' = none ∧ m' = m ∧ ∃ (v : Nat) (t : Nat → Int), Xs' = STX G s v t N ++ Xs ∧ ∀ j, j < N → t j = q.1 j) := by
  refine CL.of RJ0 [(0, .ref (RAW + s)), (1, .ref 960)] hfl (by decide +kernel) rfl rfl (Nat.le_of_ble_eq_true rfl) ?_
  intro E ok0 en hml hEl hnam
  have hR : e_R E = RM 4 1 200 := en.2.2.2
  have ok : ∀ {Xs : XS}, OK0 (GX G Xs) E RJ0 cJ0_init_81219 := fun {_} => ok0.gx
  have hn0 : 0 < (e_c E).maxLocals := by rw [hml]; decide
  have hn1 : 1 < (e_c E).maxLocals := by rw [hml]; decide
  obtain ⟨hB, h40, hc0, hch⟩ := id hq
  obtain ⟨hb1, hb2, hb3, hb4, hb5⟩ := id hB
  have e0 : q.2 = (N : Int) := hN
  refine ga_aload_n ok 0 rfl rfl dJ0_init_81219_0 ?_
  refine ga_aload_n ok 1 rfl rfl dJ0_init_81219_1 ?_
  refine ga_null ok dJ0_init_81219_2 ?_
  refine gl_callLI ok0 [.ref 960, .null] lli_J0_489 (c_J0_init2 ok0.fl hS hq hdm hN hN9) rfl (by rw [hR]; exact ⟨by decide, by decide, by decide, by decide⟩) (Nat.le_of_ble_eq_true rfl) dJ0_init_81219_3 (fun r9 m1 Xs1 hq9 => ?_)
  obtain ⟨rfl, rfl, v, t, rfl, ht9⟩ := hq9
  simp only [Option.toList_none, List.nil_append]
  exact gl_return ok0 en rfl (by exact Nat.le_refl _) (by exact Nat.le_refl _) dJ0_init_81219_6 ⟨rfl, rfl, v, t, rfl, ht9⟩
theorem lli_J4_137 : LinkI RJ4 137 yJ0_init_81219 cJ0_init_81219 2 1 := ⟨List.forall_mem_cons.mpr ⟨tb_in 748 (by decide +kernel) (by decide +kernel), List.forall_mem_cons.mpr ⟨tb_in 749 (by decide +kernel) (by decide +kernel), List.forall_mem_cons.mpr ⟨tb_in 7 (by decide +kernel) (by decide +kernel), fun _ h => absurd h List.not_mem_nil⟩⟩⟩, tb_in 750 (by decide +kernel) (by decide +kernel), rfl, by decide +kernel⟩
set_option maxHeartbeats 4000000 in
set_option maxRecDepth 100000 in
theorem c_J4_toString {G : GG} {l : Launch} (hfl : l.stackTraces = false) (hS : SBW G) {m : Mm} {Xs : XS} {q : (Nat → Int) × Int} (hq : BLs m q) (hdm : ∀ q, ¬ g_dm G q) {N : Nat} (hN : q.2 = N) (hN9 : N ≤ 200) : CL G l yJ4_toString_0e30d cJ4_toString_0e30d 1 (some (.object "java/lang/String")) (RM 5 2 204) [.ref 960] m (Xs) (fun r' m' Xs' => m' = m ∧ ∃ (s v : Nat) (t : Nat → Int), r' = some (.ref (RAW + s)) ∧ Xs' = STX G s v t N ++ Xs ∧ ∀ j, j < N → t j = q.1 j) := by
  refine CL.of RJ4 [(0, .ref 960)] hfl (by decide +kernel) rfl rfl (Nat.le_of_ble_eq_true rfl) ?_
  intro E ok0 en hml hEl hnam
  have hR : e_R E = RM 5 2 204 := en.2.2.2
  have ok : ∀ {Xs : XS}, OK0 (GX G Xs) E RJ4 cJ4_toString_0e30d := fun {_} => ok0.gx
  have hn0 : 0 < (e_c E).maxLocals := by rw [hml]; decide
  obtain ⟨hB, h40, hc0, hch⟩ := id hq
  obtain ⟨hb1, hb2, hb3, hb4, hb5⟩ := id hB
  have e0 : q.2 = (N : Int) := hN
  refine gl_new ok0 hS (ci := 4) (C := RJ0) (fs := [.null, .int 0, .int 0, .int 0]) (T := TJ0) rfl (tb_in 747 (by decide +kernel) (by decide +kernel)) (tb_in 388 (by decide +kernel) (by decide +kernel)) (tb_in 7 (by decide +kernel) (by decide +kernel)) big_J0 tyJ0 tyJ0_ok (fun j hj => by
    match j, hj with
    | 0, _ => rfl
    | 1, _ => rfl
    | 2, _ => rfl
    | 3, _ => rfl
    | j + 4, hj => exact absurd hj (by omega)) (by rw [hR]; exact (by decide)) (by rw [hR]; exact Nat.le_of_ble_eq_true rfl) dJ4_toString_0e30d_0 (fun s => ?_)
  refine ga_dup ok dJ4_toString_0e30d_3 rfl ?_
  refine ga_aload_n ok 0 rfl rfl dJ4_toString_0e30d_4 ?_
  refine gl_callLI ok0 [.ref 960] lli_J4_137 (c_J0_init1 ok0.fl hS hq hdm hN hN9) rfl (by rw [hR]; exact ⟨by decide, by decide, by decide, by decide⟩) (Nat.le_of_ble_eq_true rfl) dJ4_toString_0e30d_5 (fun r9 m1 Xs1 hq9 => ?_)
  obtain ⟨rfl, rfl, v, t, rfl, ht9⟩ := hq9
  simp only [Option.toList_none, List.nil_append]
  exact gl_areturn ok0 en rfl (Or.inl ⟨_, rfl⟩) (by exact Nat.le_refl _) (by exact Nat.le_refl _) dJ4_toString_0e30d_8 ⟨rfl, s, v, t, rfl, rfl, ht9⟩
