/-! WHAT THE FACE REQUIRES -/
set_option maxHeartbeats 4000000 in
set_option maxRecDepth 100000 in
theorem c_X3_isRate {G : GG} {l : Launch} (hfl : l.stackTraces = false) (hG : MW G) {m : Mm} {x : Int} (hxR : -2147483648 ≤ x ∧ x ≤ 2147483647) : CT G l yX3_isRate cX3_isRate 1 (some .boolean) (RM 0 0 0) [vI x] m (fun r' m' => r' = some (vI (b2i (decide (1 ≤ x ∧ x ≤ 64)))) ∧ m' = m) (fun _ _ => False) := by
  refine CT.of RX3 [(0, vI x)] hfl (by decide +kernel) rfl rfl (Nat.le_of_ble_eq_true rfl) ?_
  intro E ok en hml hEl htab
  have hR : e_R E = RM 0 0 0 := en.2.2.2
  have hn0 : 0 < (e_c E).maxLocals := by rw [hml]; decide
  refine ga_iload_n ok 0 rfl rfl dX3_isRate_0 ?_
  refine ga_iconst ok dX3_isRate_1 ?_
  refine ga_icmp_lt ok 15 (by decide) (by omega) (by omega) dX3_isRate_2 (fun c_2 => ?_) (fun c_2 => ?_)
  · refine ga_iconst ok dX3_isRate_15 ?_
    exact ga_ireturn ok en rfl (by decide) (by decide) (by decide) dX3_isRate_16 ⟨by (first | rw [decide_eq_true (by omega)] | rw [decide_eq_false (by omega)]); rfl, rfl⟩
  · refine ga_iload_n ok 0 rfl rfl dX3_isRate_5 ?_
    refine ga_bipush ok dX3_isRate_6 (by decide) ?_
    refine ga_icmp_gt ok 15 (by decide) (by omega) (by omega) dX3_isRate_8 (fun c_8 => ?_) (fun c_8 => ?_)
    · refine ga_iconst ok dX3_isRate_15 ?_
      exact ga_ireturn ok en rfl (by decide) (by decide) (by decide) dX3_isRate_16 ⟨by (first | rw [decide_eq_true (by omega)] | rw [decide_eq_false (by omega)]); rfl, rfl⟩
    · refine ga_iconst ok dX3_isRate_11 ?_
      refine ga_goto ok 16 (by decide) dX3_isRate_12 ?_
      exact ga_ireturn ok en rfl (by decide) (by decide) (by decide) dX3_isRate_16 ⟨by (first | rw [decide_eq_true (by omega)] | rw [decide_eq_false (by omega)]); rfl, rfl⟩
set_option maxHeartbeats 4000000 in
set_option maxRecDepth 100000 in
theorem c_X3_requireGuard {G : GG} {l : Launch} (hfl : l.stackTraces = false) (hG : MW G) {m : Mm} {r : Nat → Int} {T : Int} (hI : gtIs m 64 r) (hT : gtOk T r) {g : Int} (hgR : -2147483648 ≤ g ∧ g ≤ 2147483647) : CT G l yX3_requireGuard cX3_requireGuard 2 none (RM 2 1 6) [.ref 0, vI g] m (fun r' m' => r' = none ∧ (0 ≤ g ∧ g < r 0) ∧ m' = m) (fun X m' => X = "java/lang/IndexOutOfBoundsException" ∧ ¬(0 ≤ g ∧ g < r 0) ∧ m' = m) := by
  refine CT.of RX3 [(0, .ref 0), (1, vI g)] hfl (by decide +kernel) rfl rfl (Nat.le_of_ble_eq_true rfl) ?_
  intro E ok en hml hEl htab
  have hR : e_R E = RM 2 1 6 := en.2.2.2
  have hn0 : 0 < (e_c E).maxLocals := by rw [hml]; decide
  have hn1 : 1 < (e_c E).maxLocals := by rw [hml]; decide
  obtain ⟨e1, e4, hv, hgs⟩ := id hI
  obtain ⟨b0, b1, hvb, hgb⟩ := id hT
  refine ga_aload_n ok 0 rfl rfl dX3_requireGuard_0 ?_
  refine gf_X3_12 ok hG rfl dX3_requireGuard_1 ?_
  refine ga_iload_n ok 1 rfl rfl dX3_requireGuard_4 ?_
  refine gd_X0_1 ok hG (by omega) lk_X3_353 rfl (c_X0_hasGuard ok.fl hG (by omega) hgR (by rw [e1]; omega)) (by rw [hR]; exact ⟨by decide, by decide, by decide, by decide⟩) (Nat.le_of_ble_eq_true rfl) dX3_requireGuard_5 ?_
  rw [e1]
  refine ga_if_ne ok 22 (by decide) (b2i_rng _) dX3_requireGuard_8 (fun c_8 => ?_) (fun c_8 => ?_)
  · have f_8 := of_decide_eq_true (b2i_n0.mp c_8)
    exact ga_return ok en rfl (by decide) (by decide) dX3_requireGuard_22 ⟨rfl, by first | omega | assumption, rfl⟩
  · have f_8 := of_decide_eq_false (b2i_0.mp c_8)
    exact ga_throwW ok en htab lt_IndexOutOfBoundsException (text := "there is no such guard") (by decide +kernel) ⟨by decide, by decide, by decide, by decide⟩ (Nat.le_of_ble_eq_true rfl) dX3_requireGuard_11 dX3_requireGuard_14 dX3_requireGuard_15 dX3_requireGuard_18 dX3_requireGuard_21 ⟨rfl, by first | omega | (intro h; omega) | assumption, rfl⟩
set_option maxHeartbeats 4000000 in
set_option maxRecDepth 100000 in
theorem c_X3_requireVisitor {G : GG} {l : Launch} (hfl : l.stackTraces = false) (hG : MW G) {m : Mm} {r : Nat → Int} {T : Int} (hI : gtIs m 64 r) (hT : gtOk T r) {v : Int} (hvR : -2147483648 ≤ v ∧ v ≤ 2147483647) : CT G l yX3_requireVisitor cX3_requireVisitor 2 none (RM 2 1 6) [.ref 0, vI v] m (fun r' m' => r' = none ∧ (0 ≤ v ∧ v < r 1) ∧ m' = m) (fun X m' => X = "java/lang/IndexOutOfBoundsException" ∧ ¬(0 ≤ v ∧ v < r 1) ∧ m' = m) := by
  refine CT.of RX3 [(0, .ref 0), (1, vI v)] hfl (by decide +kernel) rfl rfl (Nat.le_of_ble_eq_true rfl) ?_
  intro E ok en hml hEl htab
  have hR : e_R E = RM 2 1 6 := en.2.2.2
  have hn0 : 0 < (e_c E).maxLocals := by rw [hml]; decide
  have hn1 : 1 < (e_c E).maxLocals := by rw [hml]; decide
  obtain ⟨e1, e4, hv, hgs⟩ := id hI
  obtain ⟨b0, b1, hvb, hgb⟩ := id hT
  refine ga_aload_n ok 0 rfl rfl dX3_requireVisitor_0 ?_
  refine gf_X3_12 ok hG rfl dX3_requireVisitor_1 ?_
  refine ga_iload_n ok 1 rfl rfl dX3_requireVisitor_4 ?_
  refine gd_X0_1 ok hG (by omega) lk_X3_358 rfl (c_X0_hasVisitor ok.fl hG (by omega) hvR (by rw [e4]; omega)) (by rw [hR]; exact ⟨by decide, by decide, by decide, by decide⟩) (Nat.le_of_ble_eq_true rfl) dX3_requireVisitor_5 ?_
  rw [e4]
  refine ga_if_ne ok 22 (by decide) (b2i_rng _) dX3_requireVisitor_8 (fun c_8 => ?_) (fun c_8 => ?_)
  · have f_8 := of_decide_eq_true (b2i_n0.mp c_8)
    exact ga_return ok en rfl (by decide) (by decide) dX3_requireVisitor_22 ⟨rfl, by first | omega | assumption, rfl⟩
  · have f_8 := of_decide_eq_false (b2i_0.mp c_8)
    exact ga_throwW ok en htab lt_IndexOutOfBoundsException (text := "there is no such visitor") (by decide +kernel) ⟨by decide, by decide, by decide, by decide⟩ (Nat.le_of_ble_eq_true rfl) dX3_requireVisitor_11 dX3_requireVisitor_14 dX3_requireVisitor_15 dX3_requireVisitor_18 dX3_requireVisitor_21 ⟨rfl, by first | omega | (intro h; omega) | assumption, rfl⟩
set_option maxHeartbeats 4000000 in
set_option maxRecDepth 100000 in
theorem c_X3_requireRate {G : GG} {l : Launch} (hfl : l.stackTraces = false) (hG : MW G) {m : Mm} {x : Int} (hxR : -2147483648 ≤ x ∧ x ≤ 2147483647) : CT G l yX3_requireRate cX3_requireRate 1 none (RM 2 1 6) [vI x] m (fun r' m' => r' = none ∧ (1 ≤ x ∧ x ≤ 64) ∧ m' = m) (fun X m' => X = "java/lang/IllegalArgumentException" ∧ ¬(1 ≤ x ∧ x ≤ 64) ∧ m' = m) := by
  refine CT.of RX3 [(0, vI x)] hfl (by decide +kernel) rfl rfl (Nat.le_of_ble_eq_true rfl) ?_
  intro E ok en hml hEl htab
  have hR : e_R E = RM 2 1 6 := en.2.2.2
  have hn0 : 0 < (e_c E).maxLocals := by rw [hml]; decide
  refine ga_iload_n ok 0 rfl rfl dX3_requireRate_0 ?_
  refine gd_S_1 ok lk_X3_363 (c_X3_isRate ok.fl hG hxR) (by rw [hR]; exact ⟨by decide, by decide, by decide, by decide⟩) (Nat.le_of_ble_eq_true rfl) dX3_requireRate_1 ?_
  refine ga_if_ne ok 18 (by decide) (b2i_rng _) dX3_requireRate_4 (fun c_4 => ?_) (fun c_4 => ?_)
  · have f_4 := of_decide_eq_true (b2i_n0.mp c_4)
    exact ga_return ok en rfl (by decide) (by decide) dX3_requireRate_18 ⟨rfl, by first | omega | assumption, rfl⟩
  · have f_4 := of_decide_eq_false (b2i_0.mp c_4)
    exact ga_throwW ok en htab lt_IllegalArgumentException (text := "the rate is out of range") (by decide +kernel) ⟨by decide, by decide, by decide, by decide⟩ (Nat.le_of_ble_eq_true rfl) dX3_requireRate_7 dX3_requireRate_10 dX3_requireRate_11 dX3_requireRate_14 dX3_requireRate_17 ⟨rfl, by first | omega | (intro h; omega) | assumption, rfl⟩
set_option maxHeartbeats 4000000 in
set_option maxRecDepth 100000 in
theorem c_X3_requireSet {G : GG} {l : Launch} (hfl : l.stackTraces = false) (hG : MW G) {m : Mm} {x : Int} (hxR : -2147483648 ≤ x ∧ x ≤ 2147483647) : CT G l yX3_requireSet cX3_requireSet 1 none (RM 0 1 6) [vI x] m (fun r' m' => r' = none ∧ (1 ≤ x ∧ x ≤ 1023) ∧ m' = m) (fun X m' => X = "java/lang/IllegalArgumentException" ∧ ¬(1 ≤ x ∧ x ≤ 1023) ∧ m' = m) := by
  refine CT.of RX3 [(0, vI x)] hfl (by decide +kernel) rfl rfl (Nat.le_of_ble_eq_true rfl) ?_
  intro E ok en hml hEl htab
  have hR : e_R E = RM 0 1 6 := en.2.2.2
  have hn0 : 0 < (e_c E).maxLocals := by rw [hml]; decide
  refine ga_iload_n ok 0 rfl rfl dX3_requireSet_0 ?_
  refine ga_iconst ok dX3_requireSet_1 ?_
  refine ga_icmp_lt ok 12 (by decide) (by omega) (by omega) dX3_requireSet_2 (fun c_2 => ?_) (fun c_2 => ?_)
  · exact ga_throwW ok en htab lt_IllegalArgumentException (text := "there is no such set of badges") (by decide +kernel) ⟨by decide, by decide, by decide, by decide⟩ (Nat.le_of_ble_eq_true rfl) dX3_requireSet_12 dX3_requireSet_15 dX3_requireSet_16 dX3_requireSet_19 dX3_requireSet_22 ⟨rfl, by first | omega | (intro h; omega) | assumption, rfl⟩
  · refine ga_iload_n ok 0 rfl rfl dX3_requireSet_5 ?_
    refine ga_sipush ok dX3_requireSet_6 (by decide) ?_
    refine ga_icmp_le ok 23 (by decide) (by omega) (by omega) dX3_requireSet_9 (fun c_9 => ?_) (fun c_9 => ?_)
    · exact ga_return ok en rfl (by decide) (by decide) dX3_requireSet_23 ⟨rfl, by first | omega | assumption, rfl⟩
    · exact ga_throwW ok en htab lt_IllegalArgumentException (text := "there is no such set of badges") (by decide +kernel) ⟨by decide, by decide, by decide, by decide⟩ (Nat.le_of_ble_eq_true rfl) dX3_requireSet_12 dX3_requireSet_15 dX3_requireSet_16 dX3_requireSet_19 dX3_requireSet_22 ⟨rfl, by first | omega | (intro h; omega) | assumption, rfl⟩
set_option maxHeartbeats 4000000 in
set_option maxRecDepth 100000 in
theorem c_X3_requireBadge {G : GG} {l : Launch} (hfl : l.stackTraces = false) (hG : MW G) {m : Mm} {x : Int} (hxR : -2147483648 ≤ x ∧ x ≤ 2147483647) {y : Int} (hyR : -2147483648 ≤ y ∧ y ≤ 2147483647) : CT G l yX3_requireBadge cX3_requireBadge 2 none (RM 0 1 6) [vI x, vI y] m (fun r' m' => r' = none ∧ (y ≤ x ∧ x < 10) ∧ m' = m) (fun X m' => X = "java/lang/IllegalArgumentException" ∧ ¬(y ≤ x ∧ x < 10) ∧ m' = m) := by
  refine CT.of RX3 [(0, vI x), (1, vI y)] hfl (by decide +kernel) rfl rfl (Nat.le_of_ble_eq_true rfl) ?_
  intro E ok en hml hEl htab
  have hR : e_R E = RM 0 1 6 := en.2.2.2
  have hn0 : 0 < (e_c E).maxLocals := by rw [hml]; decide
  have hn1 : 1 < (e_c E).maxLocals := by rw [hml]; decide
  refine ga_iload_n ok 0 rfl rfl dX3_requireBadge_0 ?_
  refine ga_iload_n ok 1 rfl rfl dX3_requireBadge_1 ?_
  refine ga_icmp_lt ok 11 (by decide) (by omega) (by omega) dX3_requireBadge_2 (fun c_2 => ?_) (fun c_2 => ?_)
  · exact ga_throwW ok en htab lt_IllegalArgumentException (text := "there is no such badge") (by decide +kernel) ⟨by decide, by decide, by decide, by decide⟩ (Nat.le_of_ble_eq_true rfl) dX3_requireBadge_11 dX3_requireBadge_14 dX3_requireBadge_15 dX3_requireBadge_18 dX3_requireBadge_21 ⟨rfl, by first | omega | (intro h; omega) | assumption, rfl⟩
  · refine ga_iload_n ok 0 rfl rfl dX3_requireBadge_5 ?_
    refine ga_bipush ok dX3_requireBadge_6 (by decide) ?_
    refine ga_icmp_lt ok 22 (by decide) (by omega) (by omega) dX3_requireBadge_8 (fun c_8 => ?_) (fun c_8 => ?_)
    · exact ga_return ok en rfl (by decide) (by decide) dX3_requireBadge_22 ⟨rfl, by first | omega | assumption, rfl⟩
    · exact ga_throwW ok en htab lt_IllegalArgumentException (text := "there is no such badge") (by decide +kernel) ⟨by decide, by decide, by decide, by decide⟩ (Nat.le_of_ble_eq_true rfl) dX3_requireBadge_11 dX3_requireBadge_14 dX3_requireBadge_15 dX3_requireBadge_18 dX3_requireBadge_21 ⟨rfl, by first | omega | (intro h; omega) | assumption, rfl⟩
set_option maxHeartbeats 4000000 in
set_option maxRecDepth 100000 in
theorem c_X3_requireDays {G : GG} {l : Launch} (hfl : l.stackTraces = false) (hG : MW G) {m : Mm} {x : Int} (hxR : -2147483648 ≤ x ∧ x ≤ 2147483647) : CT G l yX3_requireDays cX3_requireDays 1 none (RM 0 1 6) [vI x] m (fun r' m' => r' = none ∧ (1 ≤ x ∧ x ≤ 30) ∧ m' = m) (fun X m' => X = "java/lang/IllegalArgumentException" ∧ ¬(1 ≤ x ∧ x ≤ 30) ∧ m' = m) := by
  refine CT.of RX3 [(0, vI x)] hfl (by decide +kernel) rfl rfl (Nat.le_of_ble_eq_true rfl) ?_
  intro E ok en hml hEl htab
  have hR : e_R E = RM 0 1 6 := en.2.2.2
  have hn0 : 0 < (e_c E).maxLocals := by rw [hml]; decide
  refine ga_iload_n ok 0 rfl rfl dX3_requireDays_0 ?_
  refine ga_iconst ok dX3_requireDays_1 ?_
  refine ga_icmp_lt ok 11 (by decide) (by omega) (by omega) dX3_requireDays_2 (fun c_2 => ?_) (fun c_2 => ?_)
  · exact ga_throwW ok en htab lt_IllegalArgumentException (text := "the number of days is out of range") (by decide +kernel) ⟨by decide, by decide, by decide, by decide⟩ (Nat.le_of_ble_eq_true rfl) dX3_requireDays_11 dX3_requireDays_14 dX3_requireDays_15 dX3_requireDays_18 dX3_requireDays_21 ⟨rfl, by first | omega | (intro h; omega) | assumption, rfl⟩
  · refine ga_iload_n ok 0 rfl rfl dX3_requireDays_5 ?_
    refine ga_bipush ok dX3_requireDays_6 (by decide) ?_
    refine ga_icmp_le ok 22 (by decide) (by omega) (by omega) dX3_requireDays_8 (fun c_8 => ?_) (fun c_8 => ?_)
    · exact ga_return ok en rfl (by decide) (by decide) dX3_requireDays_22 ⟨rfl, by first | omega | assumption, rfl⟩
    · exact ga_throwW ok en htab lt_IllegalArgumentException (text := "the number of days is out of range") (by decide +kernel) ⟨by decide, by decide, by decide, by decide⟩ (Nat.le_of_ble_eq_true rfl) dX3_requireDays_11 dX3_requireDays_14 dX3_requireDays_15 dX3_requireDays_18 dX3_requireDays_21 ⟨rfl, by first | omega | (intro h; omega) | assumption, rfl⟩
