/-! THE MODEL: ANSWERS -/
set_option maxHeartbeats 4000000 in
set_option maxRecDepth 100000 in
theorem c_X4_isAsked {G : GG} {l : Launch} (hfl : l.stackTraces = false) (hG : MW G) {m : Mm} {r : Nat → Int} {T : Int} (hs : SR m r) (hT : gtOk T r) {g : Int} (hgR : -2147483648 ≤ g ∧ g ≤ 2147483647) {b : Bool} : CT G l yX4_isAsked cX4_isAsked 3 (some .boolean) (RM 2 0 0) [.ref 1024, vI g, vI (b2i b)] m (fun r' m' => r' = some (vI (b2i (decide (ask r g b = 0)))) ∧ m' = thM m (ask r g b)) (fun _ _ => False) := by
  refine CT.of RX4 [(0, .ref 1024), (1, vI g), (2, vI (b2i b))] hfl (by decide +kernel) rfl rfl (Nat.le_of_ble_eq_true rfl) ?_
  intro E ok en hml hEl htab
  have hR : e_R E = RM 2 0 0 := en.2.2.2
  have hn0 : 0 < (e_c E).maxLocals := by rw [hml]; decide
  have hn1 : 1 < (e_c E).maxLocals := by rw [hml]; decide
  have hn2 : 2 < (e_c E).maxLocals := by rw [hml]; decide
  obtain ⟨b0, b1, hvb, hgb⟩ := id hT
  have s0 := hs 0 (by omega)
  have s1 := hs 1 (by omega)
  refine ga_aload_n ok 0 rfl rfl dX4_isAsked_0 ?_
  refine ga_aload_n ok 0 rfl rfl dX4_isAsked_1 ?_
  refine ga_iload_n ok 1 rfl rfl dX4_isAsked_2 ?_
  refine gd_X4_1 ok hG rfl lk_X4_86 rfl (c_X4_isGuard ok.fl hG hs hT hgR) (by rw [hR]; exact ⟨by decide, by decide, by decide, by decide⟩) (Nat.le_of_ble_eq_true rfl) dX4_isAsked_3 ?_
  refine ga_if_ne ok 13 (by decide) (b2i_rng _) dX4_isAsked_6 (fun c_6 => ?_) (fun c_6 => ?_)
  · have f_6 := b2i_n0.mp c_6
    refine ga_iload_n ok 2 rfl rfl dX4_isAsked_13 ?_
    refine ga_if_ne ok 21 (by decide) (b2i_rng _) dX4_isAsked_14 (fun c_14 => ?_) (fun c_14 => ?_)
    · have f_14 := b2i_n0.mp c_14
      refine ga_iconst ok dX4_isAsked_21 ?_
      refine gp_X4_39 ok hG rfl dX4_isAsked_22 ?_
      refine ga_aload_n ok 0 rfl rfl dX4_isAsked_25 ?_
      refine gf_X4_39 ok hG rfl dX4_isAsked_26 ?_
      rw [upI_at]
      refine ga_if_ne ok 36 (by decide) (by omega) dX4_isAsked_29 (fun c_29 => ?_) (fun c_29 => ?_)
      · refine ga_iconst ok dX4_isAsked_36 ?_
        exact ga_ireturn ok en rfl (by decide) (by decide) (by decide) dX4_isAsked_37 (by first | (exfalso; omega) | (have hk : ask r g b = 0 := (by unfold ask; rw [if_pos f_6, if_pos f_14]); rw [hk]; exact ⟨rfl, rfl⟩))
      · refine ga_iconst ok dX4_isAsked_32 ?_
        refine ga_goto ok 37 (by decide) dX4_isAsked_33 ?_
        exact ga_ireturn ok en rfl (by decide) (by decide) (by decide) dX4_isAsked_37 (by first | (exfalso; omega) | (have hk : ask r g b = 0 := (by unfold ask; rw [if_pos f_6, if_pos f_14]); rw [hk]; exact ⟨rfl, rfl⟩))
    · have f_14 := b2i_0.mp c_14
      refine ga_iconst ok dX4_isAsked_17 ?_
      refine ga_goto ok 22 (by decide) dX4_isAsked_18 ?_
      refine gp_X4_39 ok hG rfl dX4_isAsked_22 ?_
      refine ga_aload_n ok 0 rfl rfl dX4_isAsked_25 ?_
      refine gf_X4_39 ok hG rfl dX4_isAsked_26 ?_
      rw [upI_at]
      refine ga_if_ne ok 36 (by decide) (by omega) dX4_isAsked_29 (fun c_29 => ?_) (fun c_29 => ?_)
      · refine ga_iconst ok dX4_isAsked_36 ?_
        exact ga_ireturn ok en rfl (by decide) (by decide) (by decide) dX4_isAsked_37 (by first | (exfalso; omega) | (have hk : ask r g b = 2 := (by unfold ask; rw [if_pos f_6, if_neg (by rw [f_14]; exact Bool.false_ne_true)]); rw [hk]; exact ⟨rfl, rfl⟩))
      · refine ga_iconst ok dX4_isAsked_32 ?_
        refine ga_goto ok 37 (by decide) dX4_isAsked_33 ?_
        exact ga_ireturn ok en rfl (by decide) (by decide) (by decide) dX4_isAsked_37 (by first | (exfalso; omega) | (have hk : ask r g b = 2 := (by unfold ask; rw [if_pos f_6, if_neg (by rw [f_14]; exact Bool.false_ne_true)]); rw [hk]; exact ⟨rfl, rfl⟩))
  · have f_6 := b2i_0.mp c_6
    refine ga_iconst ok dX4_isAsked_9 ?_
    refine ga_goto ok 22 (by decide) dX4_isAsked_10 ?_
    refine gp_X4_39 ok hG rfl dX4_isAsked_22 ?_
    refine ga_aload_n ok 0 rfl rfl dX4_isAsked_25 ?_
    refine gf_X4_39 ok hG rfl dX4_isAsked_26 ?_
    rw [upI_at]
    refine ga_if_ne ok 36 (by decide) (by omega) dX4_isAsked_29 (fun c_29 => ?_) (fun c_29 => ?_)
    · refine ga_iconst ok dX4_isAsked_36 ?_
      exact ga_ireturn ok en rfl (by decide) (by decide) (by decide) dX4_isAsked_37 (by first | (exfalso; omega) | (have hk : ask r g b = 1 := (by unfold ask; rw [if_neg (by rw [f_6]; exact Bool.false_ne_true)]); rw [hk]; exact ⟨rfl, rfl⟩))
    · refine ga_iconst ok dX4_isAsked_32 ?_
      refine ga_goto ok 37 (by decide) dX4_isAsked_33 ?_
      exact ga_ireturn ok en rfl (by decide) (by decide) (by decide) dX4_isAsked_37 (by first | (exfalso; omega) | (have hk : ask r g b = 1 := (by unfold ask; rw [if_neg (by rw [f_6]; exact Bool.false_ne_true)]); rw [hk]; exact ⟨rfl, rfl⟩))
set_option maxHeartbeats 4000000 in
set_option maxRecDepth 100000 in
theorem c_X4_margin {G : GG} {l : Launch} (hfl : l.stackTraces = false) (hG : MW G) {m : Mm} {r : Nat → Int} {T : Int} (hs : SR m r) (hT : gtOk T r) {g x again : Int} (hgR : -2147483648 ≤ g ∧ g ≤ 2147483647) (hxR : -2147483648 ≤ x ∧ x ≤ 2147483647) : CT G l yX4_margin cX4_margin 4 (some .float) (RM 8 0 0) [.ref 1024, vI g, vI x, vI again] m (fun r' m' => ∃ v9, r' = some (.float v9) ∧ ((ask r g (isS x)) = 0 → v9 = fq (mg (gcn (rg r g.toNat)) x)) ∧ m' = thM m ((ask r g (isS x)))) (fun _ _ => False) := by
  refine CT.of RX4 [(0, .ref 1024), (1, vI g), (2, vI x), (3, vI again)] hfl (by decide +kernel) rfl rfl (Nat.le_of_ble_eq_true rfl) ?_
  intro E ok en hml hEl htab
  have hR : e_R E = RM 8 0 0 := en.2.2.2
  have hn0 : 0 < (e_c E).maxLocals := by rw [hml]; decide
  have hn1 : 1 < (e_c E).maxLocals := by rw [hml]; decide
  have hn2 : 2 < (e_c E).maxLocals := by rw [hml]; decide
  have hn3 : 3 < (e_c E).maxLocals := by rw [hml]; decide
  obtain ⟨b0, b1, hvb, hgb⟩ := id hT
  have s0 := hs 0 (by omega)
  have s1 := hs 1 (by omega)
  refine ga_aload_n ok 0 rfl rfl dX4_margin_0 ?_
  refine ga_iload_n ok 1 rfl rfl dX4_margin_1 ?_
  refine ga_iload_n ok 2 rfl rfl dX4_margin_2 ?_
  refine gd_S_1 ok lk_X4_94 (c_X4_isSet ok.fl hG hxR) (by rw [hR]; exact ⟨by decide, by decide, by decide, by decide⟩) (Nat.le_of_ble_eq_true rfl) dX4_margin_3 ?_
  refine gd_X4_2 ok hG rfl lk_X4_146 rfl (c_X4_isAsked ok.fl hG hs hT hgR (b := isS x)) (by rw [hR]; exact ⟨by decide, by decide, by decide, by decide⟩) (Nat.le_of_ble_eq_true rfl) dX4_margin_6 ?_
  refine ga_if_eq ok 21 (by decide) (b2i_rng _) dX4_margin_9 (fun c_9 => ?_) (fun c_9 => ?_)
  · refine ga_fconst0 ok dX4_margin_21 ?_
    exact ga_freturn ok en rfl (by decide) (by decide) dX4_margin_22 ⟨_, rfl, fun h => absurd h (of_decide_eq_false (b2i_0.mp c_9)), rfl⟩
  · have ha9 := ask_0.mp (of_decide_eq_true (b2i_n0.mp c_9))
    have qg : 0 ≤ g ∧ g < r 0 := of_decide_eq_true ha9.1
    refine ga_aload_n ok 0 rfl rfl dX4_margin_12 ?_
    refine ga_iload_n ok 1 rfl rfl dX4_margin_13 ?_
    refine ga_iload_n ok 2 rfl rfl dX4_margin_14 ?_
    refine gd_X4_2 ok hG rfl lk_X4_122 rfl (c_X4_marginOf ok.fl hG hs.t hT qg (x := x) (by have := of_decide_eq_true ha9.2; omega)) (by rw [hR]; exact ⟨by decide, by decide, by decide, by decide⟩) (Nat.le_of_ble_eq_true rfl) dX4_margin_15 ?_
    refine ga_goto ok 22 (by decide) dX4_margin_18 ?_
    exact ga_freturn ok en rfl (by decide) (by decide) dX4_margin_22 ⟨_, rfl, fun _ => rfl, rfl⟩
set_option maxHeartbeats 4000000 in
set_option maxRecDepth 100000 in
theorem c_X4_counted {G : GG} {l : Launch} (hfl : l.stackTraces = false) (hG : MW G) {m : Mm} {r : Nat → Int} {T : Int} (hs : SR m r) (hT : gtOk T r) {g b : Int} (hgR : -2147483648 ≤ g ∧ g ≤ 2147483647) (hbR : -2147483648 ≤ b ∧ b ≤ 2147483647) : CT G l yX4_counted cX4_counted 3 (some .int) (RM 8 0 0) [.ref 1024, vI g, vI b] m (fun r' m' => ∃ v9, r' = some (vI v9) ∧ ((ask r g (decide (-1 ≤ b ∧ b ≤ 9))) = 0 → v9 = gcn (rg r g.toNat) (b + 1).toNat) ∧ m' = thM m ((ask r g (decide (-1 ≤ b ∧ b ≤ 9))))) (fun _ _ => False) := by
  refine CT.of RX4 [(0, .ref 1024), (1, vI g), (2, vI b)] hfl (by decide +kernel) rfl rfl (Nat.le_of_ble_eq_true rfl) ?_
  intro E ok en hml hEl htab
  have hR : e_R E = RM 8 0 0 := en.2.2.2
  have hn0 : 0 < (e_c E).maxLocals := by rw [hml]; decide
  have hn1 : 1 < (e_c E).maxLocals := by rw [hml]; decide
  have hn2 : 2 < (e_c E).maxLocals := by rw [hml]; decide
  obtain ⟨b0, b1, hvb, hgb⟩ := id hT
  have s0 := hs 0 (by omega)
  have s1 := hs 1 (by omega)
  refine ga_aload_n ok 0 rfl rfl dX4_counted_0 ?_
  refine ga_iload_n ok 1 rfl rfl dX4_counted_1 ?_
  refine ga_iload_n ok 2 rfl rfl dX4_counted_2 ?_
  refine ga_iconst ok dX4_counted_3 ?_
  refine ga_bipush ok dX4_counted_4 (by decide) ?_
  refine gd_S_3 ok lk_X4_61 (c_X4_in ok.fl hG (a := -1) (b := 9) hbR (by omega) (by omega)) (by rw [hR]; exact ⟨by decide, by decide, by decide, by decide⟩) (Nat.le_of_ble_eq_true rfl) dX4_counted_6 ?_
  refine gd_X4_2 ok hG rfl lk_X4_146 rfl (c_X4_isAsked ok.fl hG hs hT hgR (b := decide (-1 ≤ b ∧ b ≤ 9))) (by rw [hR]; exact ⟨by decide, by decide, by decide, by decide⟩) (Nat.le_of_ble_eq_true rfl) dX4_counted_9 ?_
  refine ga_if_eq ok 24 (by decide) (b2i_rng _) dX4_counted_12 (fun c_12 => ?_) (fun c_12 => ?_)
  · refine ga_iconst ok dX4_counted_24 ?_
    exact ga_ireturn ok en rfl rfl (by decide) (by decide) dX4_counted_25 ⟨_, rfl, fun h => absurd h (of_decide_eq_false (b2i_0.mp c_12)), rfl⟩
  · have ha9 := ask_0.mp (of_decide_eq_true (b2i_n0.mp c_12))
    have qg : 0 ≤ g ∧ g < r 0 := of_decide_eq_true ha9.1
    refine ga_aload_n ok 0 rfl rfl dX4_counted_15 ?_
    refine ga_iload_n ok 1 rfl rfl dX4_counted_16 ?_
    refine ga_iload_n ok 2 rfl rfl dX4_counted_17 ?_
    refine gd_X4_2 ok hG rfl lk_X4_110 rfl (c_X4_countedOf ok.fl hG hs.t hT qg (b := b) (by have := of_decide_eq_true ha9.2; omega)) (by rw [hR]; exact ⟨by decide, by decide, by decide, by decide⟩) (Nat.le_of_ble_eq_true rfl) dX4_counted_18 ?_
    refine ga_goto ok 25 (by decide) dX4_counted_21 ?_
    exact ga_ireturn ok en rfl rfl (by decide) (by decide) dX4_counted_25 ⟨_, rfl, fun _ => rfl, rfl⟩
set_option maxHeartbeats 4000000 in
set_option maxRecDepth 100000 in
theorem c_X4_letsIn {G : GG} {l : Launch} (hfl : l.stackTraces = false) (hG : MW G) {m : Mm} {r : Nat → Int} {T : Int} (hs : SR m r) (hT : gtOk T r) {g : Int} (hgR : -2147483648 ≤ g ∧ g ≤ 2147483647) {x : Int} (hxR : -2147483648 ≤ x ∧ x ≤ 2147483647) : CT G l yX4_letsIn cX4_letsIn 3 (some .boolean) (RM 8 0 0) [.ref 1024, vI g, vI x] m (fun r' m' => ∃ v9, r' = some (vI v9) ∧ ((ask r g (isS x)) = 0 → v9 = b2i (adm (gcn (rg r g.toNat)) x)) ∧ m' = thM m ((ask r g (isS x)))) (fun _ _ => False) := by
  refine CT.of RX4 [(0, .ref 1024), (1, vI g), (2, vI x)] hfl (by decide +kernel) rfl rfl (Nat.le_of_ble_eq_true rfl) ?_
  intro E ok en hml hEl htab
  have hR : e_R E = RM 8 0 0 := en.2.2.2
  have hn0 : 0 < (e_c E).maxLocals := by rw [hml]; decide
  have hn1 : 1 < (e_c E).maxLocals := by rw [hml]; decide
  have hn2 : 2 < (e_c E).maxLocals := by rw [hml]; decide
  obtain ⟨b0, b1, hvb, hgb⟩ := id hT
  have s0 := hs 0 (by omega)
  have s1 := hs 1 (by omega)
  refine ga_aload_n ok 0 rfl rfl dX4_letsIn_0 ?_
  refine ga_iload_n ok 1 rfl rfl dX4_letsIn_1 ?_
  refine ga_iload_n ok 2 rfl rfl dX4_letsIn_2 ?_
  refine gd_S_1 ok lk_X4_94 (c_X4_isSet ok.fl hG hxR) (by rw [hR]; exact ⟨by decide, by decide, by decide, by decide⟩) (Nat.le_of_ble_eq_true rfl) dX4_letsIn_3 ?_
  refine gd_X4_2 ok hG rfl lk_X4_146 rfl (c_X4_isAsked ok.fl hG hs hT hgR (b := isS x)) (by rw [hR]; exact ⟨by decide, by decide, by decide, by decide⟩) (Nat.le_of_ble_eq_true rfl) dX4_letsIn_6 ?_
  refine ga_if_eq ok 25 (by decide) (b2i_rng _) dX4_letsIn_9 (fun c_9 => ?_) (fun c_9 => ?_)
  · refine ga_iconst ok dX4_letsIn_25 ?_
    exact ga_ireturn ok en rfl (by decide) (by decide) (by decide) dX4_letsIn_26 ⟨_, rfl, fun h => absurd h (of_decide_eq_false (b2i_0.mp c_9)), rfl⟩
  · have ha9 := ask_0.mp (of_decide_eq_true (b2i_n0.mp c_9))
    have qg : 0 ≤ g ∧ g < r 0 := of_decide_eq_true ha9.1
    refine ga_aload_n ok 0 rfl rfl dX4_letsIn_12 ?_
    refine ga_iload_n ok 1 rfl rfl dX4_letsIn_13 ?_
    refine ga_iload_n ok 2 rfl rfl dX4_letsIn_14 ?_
    refine gd_X4_2 ok hG rfl lk_X4_125 rfl (c_X4_isIn ok.fl hG hs.t hT qg (x := x) (by have := of_decide_eq_true ha9.2; omega)) (by rw [hR]; exact ⟨by decide, by decide, by decide, by decide⟩) (Nat.le_of_ble_eq_true rfl) dX4_letsIn_15 ?_
    refine ga_if_eq ok 25 (by decide) (b2i_rng _) dX4_letsIn_18 (fun c_18 => ?_) (fun c_18 => ?_)
    · refine ga_iconst ok dX4_letsIn_25 ?_
      exact ga_ireturn ok en rfl (by decide) (by decide) (by decide) dX4_letsIn_26 ⟨0, rfl, fun _ => (b2i_0.mpr (b2i_0.mp c_18)).symm, rfl⟩
    · refine ga_iconst ok dX4_letsIn_21 ?_
      refine ga_goto ok 26 (by decide) dX4_letsIn_22 ?_
      exact ga_ireturn ok en rfl (by decide) (by decide) (by decide) dX4_letsIn_26 ⟨1, rfl, fun _ => (b2i_1.mpr (b2i_n0.mp c_18)).symm, rfl⟩
set_option maxHeartbeats 4000000 in
set_option maxRecDepth 100000 in
theorem c_X4_guardOf {G : GG} {l : Launch} (hfl : l.stackTraces = false) (hG : MW G) {m : Mm} {r : Nat → Int} {T : Int} (hs : SR m r) (hT : gtOk T r) {g : Int} (hgR : -2147483648 ≤ g ∧ g ≤ 2147483647) {what : Int} (hwhatR : -2147483648 ≤ what ∧ what ≤ 2147483647) : CT G l yX4_guardOf cX4_guardOf 3 (some .int) (RM 8 0 0) [.ref 1024, vI g, vI what] m (fun r' m' => ∃ v9, r' = some (vI v9) ∧ ((ask r g (decide (0 ≤ what ∧ what ≤ 6))) = 0 → v9 = (if what = 4 then ofG r g.toNat else rg r g.toNat (if what < 4 then what.toNat else if what = 5 then 4 else 5))) ∧ m' = thM m ((ask r g (decide (0 ≤ what ∧ what ≤ 6))))) (fun _ _ => False) := by
  refine CT.of RX4 [(0, .ref 1024), (1, vI g), (2, vI what)] hfl (by decide +kernel) rfl rfl (Nat.le_of_ble_eq_true rfl) ?_
  intro E ok en hml hEl htab
  have hR : e_R E = RM 8 0 0 := en.2.2.2
  have hn0 : 0 < (e_c E).maxLocals := by rw [hml]; decide
  have hn1 : 1 < (e_c E).maxLocals := by rw [hml]; decide
  have hn2 : 2 < (e_c E).maxLocals := by rw [hml]; decide
  obtain ⟨b0, b1, hvb, hgb⟩ := id hT
  have s0 := hs 0 (by omega)
  have s1 := hs 1 (by omega)
  refine ga_aload_n ok 0 rfl rfl dX4_guardOf_0 ?_
  refine ga_aload_n ok 0 rfl rfl dX4_guardOf_1 ?_
  refine ga_iload_n ok 1 rfl rfl dX4_guardOf_2 ?_
  refine gd_X4_1 ok hG rfl lk_X4_86 rfl (c_X4_isGuard ok.fl hG hs hT hgR) (by rw [hR]; exact ⟨by decide, by decide, by decide, by decide⟩) (Nat.le_of_ble_eq_true rfl) dX4_guardOf_3 ?_
  refine ga_if_ne ok 13 (by decide) (b2i_rng _) dX4_guardOf_6 (fun c_6 => ?_) (fun c_6 => ?_)
  · have f_6 := of_decide_eq_true (b2i_n0.mp c_6)
    refine ga_iload_n ok 2 rfl rfl dX4_guardOf_13 ?_
    refine ga_iconst ok dX4_guardOf_14 ?_
    refine ga_bipush ok dX4_guardOf_15 (by decide) ?_
    refine gd_S_3 ok lk_X4_61 (c_X4_in ok.fl hG (x := what) (a := 0) (b := 6) hwhatR (by omega) (by omega)) (by rw [hR]; exact ⟨by decide, by decide, by decide, by decide⟩) (Nat.le_of_ble_eq_true rfl) dX4_guardOf_17 ?_
    refine ga_if_ne ok 27 (by decide) (b2i_rng _) dX4_guardOf_20 (fun c_20 => ?_) (fun c_20 => ?_)
    · have f_20 := of_decide_eq_true (b2i_n0.mp c_20)
      refine ga_iconst ok dX4_guardOf_27 ?_
      refine gp_X4_39 ok hG rfl dX4_guardOf_28 ?_
      refine ga_aload_n ok 0 rfl rfl dX4_guardOf_31 ?_
      refine gf_X4_39 ok hG rfl dX4_guardOf_32 ?_
      rw [upI_at]
      refine ga_if_le ok 40 (by decide) (by omega) dX4_guardOf_35 (fun c_35 => ?_) (fun c_35 => ?_)
      · refine ga_iload_n ok 2 rfl rfl dX4_guardOf_40 ?_
        refine ga_iconst ok dX4_guardOf_41 ?_
        refine ga_icmp_ge ok 58 (by decide) (by omega) (by omega) dX4_guardOf_42 (fun c_42 => ?_) (fun c_42 => ?_)
        · refine ga_iload_n ok 2 rfl rfl dX4_guardOf_58 ?_
          refine ga_iconst ok dX4_guardOf_59 ?_
          refine ga_icmp_ne ok 71 (by decide) (by omega) (by omega) dX4_guardOf_60 (fun c_60 => ?_) (fun c_60 => ?_)
          · refine ga_aload_n ok 0 rfl rfl dX4_guardOf_71 ?_
            refine gf_X4_9 ok hG rfl dX4_guardOf_72 ?_
            refine ga_iload_n ok 1 rfl rfl dX4_guardOf_75 ?_
            refine ga_iload_n ok 2 rfl rfl dX4_guardOf_76 ?_
            refine ga_iconst ok dX4_guardOf_77 ?_
            refine ga_icmp_ne ok 85 (by decide) (by omega) (by omega) dX4_guardOf_78 (fun c_78 => ?_) (fun c_78 => ?_)
            · refine ga_iconst ok dX4_guardOf_85 ?_
              refine gd_S_2 ok lk_X4_73 (c_X4_at ok.fl hG (g := g) (by omega) (by omega)) (by rw [hR]; exact ⟨by decide, by decide, by decide, by decide⟩) (Nat.le_of_ble_eq_true rfl) dX4_guardOf_86 ?_
              refine ga_iaload_ia ok (ar_ms hG rfl) (by omega) dX4_guardOf_89 ?_
              exact ga_ireturn ok en rfl rfl (by decide) (by decide) dX4_guardOf_90 (by
  have hz : SR (upI m 1024 6 0) r := hs.t
  have hk : (ask r g (decide (0 ≤ what ∧ what ≤ 6))) = 0 := by unfold ask isG; simp only [decide_eq_true_eq]; first | (rw [if_pos (by omega), if_pos (by omega)]; done) | (rw [if_pos (by omega), if_neg (by omega)]; done) | (rw [if_neg (by omega)]; done)
  rw [hk]
  exact ⟨_, rfl, fun _ => by rw [if_neg (by omega), if_neg (by omega), if_neg (by omega), show (26 + 27 * g + 5).toNat = 26 + 27 * g.toNat + 5 by omega]; exact hz.g (by omega) (by omega), rfl⟩)
            · refine ga_iconst ok dX4_guardOf_81 ?_
              refine ga_goto ok 86 (by decide) dX4_guardOf_82 ?_
              refine gd_S_2 ok lk_X4_73 (c_X4_at ok.fl hG (g := g) (by omega) (by omega)) (by rw [hR]; exact ⟨by decide, by decide, by decide, by decide⟩) (Nat.le_of_ble_eq_true rfl) dX4_guardOf_86 ?_
              refine ga_iaload_ia ok (ar_ms hG rfl) (by omega) dX4_guardOf_89 ?_
              exact ga_ireturn ok en rfl rfl (by decide) (by decide) dX4_guardOf_90 (by
  have hz : SR (upI m 1024 6 0) r := hs.t
  have hk : (ask r g (decide (0 ≤ what ∧ what ≤ 6))) = 0 := by unfold ask isG; simp only [decide_eq_true_eq]; first | (rw [if_pos (by omega), if_pos (by omega)]; done) | (rw [if_pos (by omega), if_neg (by omega)]; done) | (rw [if_neg (by omega)]; done)
  rw [hk]
  exact ⟨_, rfl, fun _ => by rw [if_neg (by omega), if_neg (by omega), if_pos (by omega), show (26 + 27 * g + 4).toNat = 26 + 27 * g.toNat + 4 by omega]; exact hz.g (by omega) (by omega), rfl⟩)
          · refine ga_aload_n ok 0 rfl rfl dX4_guardOf_63 ?_
            refine ga_iload_n ok 1 rfl rfl dX4_guardOf_64 ?_
            refine gd_X4_1 ok hG rfl lk_X4_143 rfl (c_X4_errors ok.fl hG hs.t hT (g := g) (by omega)) (by rw [hR]; exact ⟨by decide, by decide, by decide, by decide⟩) (Nat.le_of_ble_eq_true rfl) dX4_guardOf_65 ?_
            refine ga_goto ok 90 (by decide) dX4_guardOf_68 ?_
            exact ga_ireturn ok en rfl rfl (by decide) (by decide) dX4_guardOf_90 (by
  have hz : SR (upI m 1024 6 0) r := hs.t
  have hk : (ask r g (decide (0 ≤ what ∧ what ≤ 6))) = 0 := by unfold ask isG; simp only [decide_eq_true_eq]; first | (rw [if_pos (by omega), if_pos (by omega)]; done) | (rw [if_pos (by omega), if_neg (by omega)]; done) | (rw [if_neg (by omega)]; done)
  rw [hk]
  exact ⟨_, rfl, fun _ => by rw [if_pos (by omega)], rfl⟩)
        · refine ga_aload_n ok 0 rfl rfl dX4_guardOf_45 ?_
          refine gf_X4_9 ok hG rfl dX4_guardOf_46 ?_
          refine ga_iload_n ok 1 rfl rfl dX4_guardOf_49 ?_
          refine ga_iload_n ok 2 rfl rfl dX4_guardOf_50 ?_
          refine gd_S_2 ok lk_X4_73 (c_X4_at ok.fl hG (g := g) (k := what) (by omega) (by omega)) (by rw [hR]; exact ⟨by decide, by decide, by decide, by decide⟩) (Nat.le_of_ble_eq_true rfl) dX4_guardOf_51 ?_
          refine ga_iaload_ia ok (ar_ms hG rfl) (by omega) dX4_guardOf_54 ?_
          refine ga_goto ok 90 (by decide) dX4_guardOf_55 ?_
          exact ga_ireturn ok en rfl rfl (by decide) (by decide) dX4_guardOf_90 (by
  have hz : SR (upI m 1024 6 0) r := hs.t
  have hk : (ask r g (decide (0 ≤ what ∧ what ≤ 6))) = 0 := by unfold ask isG; simp only [decide_eq_true_eq]; first | (rw [if_pos (by omega), if_pos (by omega)]; done) | (rw [if_pos (by omega), if_neg (by omega)]; done) | (rw [if_neg (by omega)]; done)
  rw [hk]
  exact ⟨_, rfl, fun _ => by rw [if_neg (by omega), if_pos (by omega), show (26 + 27 * g + what).toNat = 26 + 27 * g.toNat + what.toNat by omega]; exact hz.g (by omega) (by omega), rfl⟩)
      · exact absurd c_35 (by omega)
    · have f_20 := of_decide_eq_false (b2i_0.mp c_20)
      refine ga_iconst ok dX4_guardOf_23 ?_
      refine ga_goto ok 28 (by decide) dX4_guardOf_24 ?_
      refine gp_X4_39 ok hG rfl dX4_guardOf_28 ?_
      refine ga_aload_n ok 0 rfl rfl dX4_guardOf_31 ?_
      refine gf_X4_39 ok hG rfl dX4_guardOf_32 ?_
      rw [upI_at]
      refine ga_if_le ok 40 (by decide) (by omega) dX4_guardOf_35 (fun c_35 => ?_) (fun c_35 => ?_)
      · exact absurd c_35 (by omega)
      · refine ga_iconst ok dX4_guardOf_38 ?_
        exact ga_ireturn ok en rfl rfl (by decide) (by decide) dX4_guardOf_39 (by first | (exfalso; omega) | (have hk : (ask r g (decide (0 ≤ what ∧ what ≤ 6))) = 2 := (by unfold ask isG; simp only [decide_eq_true_eq]; first | (rw [if_pos (by omega), if_pos (by omega)]; done) | (rw [if_pos (by omega), if_neg (by omega)]; done) | (rw [if_neg (by omega)]; done)); rw [hk]; exact ⟨_, rfl, fun h => absurd h (by decide), rfl⟩))
  · have f_6 := of_decide_eq_false (b2i_0.mp c_6)
    refine ga_iconst ok dX4_guardOf_9 ?_
    refine ga_goto ok 28 (by decide) dX4_guardOf_10 ?_
    refine gp_X4_39 ok hG rfl dX4_guardOf_28 ?_
    refine ga_aload_n ok 0 rfl rfl dX4_guardOf_31 ?_
    refine gf_X4_39 ok hG rfl dX4_guardOf_32 ?_
    rw [upI_at]
    refine ga_if_le ok 40 (by decide) (by omega) dX4_guardOf_35 (fun c_35 => ?_) (fun c_35 => ?_)
    · exact absurd c_35 (by omega)
    · refine ga_iconst ok dX4_guardOf_38 ?_
      exact ga_ireturn ok en rfl rfl (by decide) (by decide) dX4_guardOf_39 (by first | (exfalso; omega) | (have hk : (ask r g (decide (0 ≤ what ∧ what ≤ 6))) = 1 := (by unfold ask isG; simp only [decide_eq_true_eq]; first | (rw [if_pos (by omega), if_pos (by omega)]; done) | (rw [if_pos (by omega), if_neg (by omega)]; done) | (rw [if_neg (by omega)]; done)); rw [hk]; exact ⟨_, rfl, fun h => absurd h (by decide), rfl⟩))
set_option maxHeartbeats 4000000 in
set_option maxRecDepth 100000 in
theorem c_X4_visitorOf {G : GG} {l : Launch} (hfl : l.stackTraces = false) (hG : MW G) {m : Mm} {r : Nat → Int} {T : Int} (hs : SR m r) (hT : gtOk T r) {v : Int} (hvR : -2147483648 ≤ v ∧ v ≤ 2147483647) {what : Int} (hwhatR : -2147483648 ≤ what ∧ what ≤ 2147483647) : CT G l yX4_visitorOf cX4_visitorOf 3 (some .int) (RM 9 0 0) [.ref 1024, vI v, vI what] m (fun r' m' => ∃ v9, r' = some (vI v9) ∧ ((if isV r v = true then (if decide (0 ≤ what ∧ what ≤ 4) = true then (0 : Int) else 2) else 1) = 0 → v9 = (if what = 0 then vX r v.toNat else if what = 1 then vF r v.toNat else if what = 2 then szO (vX r v.toNat) 10 else if what = 3 then ofV r v.toNat else plc r v.toNat)) ∧ m' = thM m ((if isV r v = true then (if decide (0 ≤ what ∧ what ≤ 4) = true then (0 : Int) else 2) else 1))) (fun _ _ => False) := by
  refine CT.of RX4 [(0, .ref 1024), (1, vI v), (2, vI what)] hfl (by decide +kernel) rfl rfl (Nat.le_of_ble_eq_true rfl) ?_
  intro E ok en hml hEl htab
  have hR : e_R E = RM 9 0 0 := en.2.2.2
  have hn0 : 0 < (e_c E).maxLocals := by rw [hml]; decide
  have hn1 : 1 < (e_c E).maxLocals := by rw [hml]; decide
  have hn2 : 2 < (e_c E).maxLocals := by rw [hml]; decide
  obtain ⟨b0, b1, hvb, hgb⟩ := id hT
  have s0 := hs 0 (by omega)
  have s1 := hs 1 (by omega)
  refine ga_aload_n ok 0 rfl rfl dX4_visitorOf_0 ?_
  refine ga_aload_n ok 0 rfl rfl dX4_visitorOf_1 ?_
  refine ga_iload_n ok 1 rfl rfl dX4_visitorOf_2 ?_
  refine gd_X4_1 ok hG rfl lk_X4_104 rfl (c_X4_isVisitor ok.fl hG hs hT hvR) (by rw [hR]; exact ⟨by decide, by decide, by decide, by decide⟩) (Nat.le_of_ble_eq_true rfl) dX4_visitorOf_3 ?_
  refine ga_if_ne ok 13 (by decide) (b2i_rng _) dX4_visitorOf_6 (fun c_6 => ?_) (fun c_6 => ?_)
  · have f_6 := of_decide_eq_true (b2i_n0.mp c_6)
    refine ga_iload_n ok 2 rfl rfl dX4_visitorOf_13 ?_
    refine ga_iconst ok dX4_visitorOf_14 ?_
    refine ga_iconst ok dX4_visitorOf_15 ?_
    refine gd_S_3 ok lk_X4_61 (c_X4_in ok.fl hG (x := what) (a := 0) (b := 4) hwhatR (by omega) (by omega)) (by rw [hR]; exact ⟨by decide, by decide, by decide, by decide⟩) (Nat.le_of_ble_eq_true rfl) dX4_visitorOf_16 ?_
    refine ga_if_ne ok 26 (by decide) (b2i_rng _) dX4_visitorOf_19 (fun c_19 => ?_) (fun c_19 => ?_)
    · have f_19 := of_decide_eq_true (b2i_n0.mp c_19)
      refine ga_iconst ok dX4_visitorOf_26 ?_
      refine gp_X4_39 ok hG rfl dX4_visitorOf_27 ?_
      refine ga_aload_n ok 0 rfl rfl dX4_visitorOf_30 ?_
      refine gf_X4_39 ok hG rfl dX4_visitorOf_31 ?_
      rw [upI_at]
      refine ga_if_le ok 39 (by decide) (by omega) dX4_visitorOf_34 (fun c_34 => ?_) (fun c_34 => ?_)
      · refine ga_iload_n ok 2 rfl rfl dX4_visitorOf_39 ?_
        rcases (show what = 0 ∨ what = 1 ∨ what = 2 ∨ what = 3 ∨ (what < 0 ∨ 3 < what) by omega) with rfl | rfl | rfl | rfl | hout
        · refine ga_tableIn (off := 32) ok 72 (by decide) (by decide) (by decide) (by decide) dX4_visitorOf_40 ?_
          refine ga_aload_n ok 0 rfl rfl dX4_visitorOf_72 ?_
          refine ga_iload_n ok 1 rfl rfl dX4_visitorOf_73 ?_
          refine gd_X4_1 ok hG rfl lk_X4_97 rfl (c_X4_badges ok.fl hG hs.t hT (v := v) (by omega)) (by rw [hR]; exact ⟨by decide, by decide, by decide, by decide⟩) (Nat.le_of_ble_eq_true rfl) dX4_visitorOf_74 ?_
          exact ga_ireturn ok en rfl rfl (by decide) (by decide) dX4_visitorOf_77 (by
  have hk : (if isV r v = true then (if decide (0 ≤ (0 : Int) ∧ (0 : Int) ≤ 4) = true then (0 : Int) else 2) else 1) = 0 := by unfold isV; simp only [decide_eq_true_eq]; first | (rw [if_pos (by omega), if_pos (by omega)]; done) | (rw [if_pos (by omega), if_neg (by omega)]; done) | (rw [if_neg (by omega)]; done)
  rw [hk]
  exact ⟨_, rfl, fun _ => rfl, rfl⟩)
        · refine ga_tableIn (off := 38) ok 78 (by decide) (by decide) (by decide) (by decide) dX4_visitorOf_40 ?_
          refine ga_aload_n ok 0 rfl rfl dX4_visitorOf_78 ?_
          refine ga_iload_n ok 1 rfl rfl dX4_visitorOf_79 ?_
          refine gd_X4_1 ok hG rfl lk_X4_128 rfl (c_X4_isFriend ok.fl hG hs.t hT (v := v) (by omega)) (by rw [hR]; exact ⟨by decide, by decide, by decide, by decide⟩) (Nat.le_of_ble_eq_true rfl) dX4_visitorOf_80 ?_
          refine ga_if_eq ok 90 (by decide) (b2i_rng _) dX4_visitorOf_83 (fun c_83 => ?_) (fun c_83 => ?_)
          · have f_83 := b2i_0.mp c_83
            refine ga_iconst ok dX4_visitorOf_90 ?_
            exact ga_ireturn ok en rfl rfl (by decide) (by decide) dX4_visitorOf_91 (by
  have hk : (if isV r v = true then (if decide (0 ≤ (1 : Int) ∧ (1 : Int) ≤ 4) = true then (0 : Int) else 2) else 1) = 0 := by unfold isV; simp only [decide_eq_true_eq]; first | (rw [if_pos (by omega), if_pos (by omega)]; done) | (rw [if_pos (by omega), if_neg (by omega)]; done) | (rw [if_neg (by omega)]; done)
  rw [hk]
  exact ⟨_, rfl, fun _ => by have hq9 := vF_b (hvb v.toNat (by omega)).2; rw [if_neg (by omega), if_pos rfl, ← hq9]; exact (b2i_0.mpr (b2i_0.mp c_83)).symm, rfl⟩)
          · have f_83 := b2i_n0.mp c_83
            refine ga_iconst ok dX4_visitorOf_86 ?_
            refine ga_goto ok 91 (by decide) dX4_visitorOf_87 ?_
            exact ga_ireturn ok en rfl rfl (by decide) (by decide) dX4_visitorOf_91 (by
  have hk : (if isV r v = true then (if decide (0 ≤ (1 : Int) ∧ (1 : Int) ≤ 4) = true then (0 : Int) else 2) else 1) = 0 := by unfold isV; simp only [decide_eq_true_eq]; first | (rw [if_pos (by omega), if_pos (by omega)]; done) | (rw [if_pos (by omega), if_neg (by omega)]; done) | (rw [if_neg (by omega)]; done)
  rw [hk]
  exact ⟨_, rfl, fun _ => by have hq9 := vF_b (hvb v.toNat (by omega)).2; rw [if_neg (by omega), if_pos rfl, ← hq9]; exact (b2i_1.mpr (b2i_n0.mp c_83)).symm, rfl⟩)
        · refine ga_tableIn (off := 52) ok 92 (by decide) (by decide) (by decide) (by decide) dX4_visitorOf_40 ?_
          refine ga_aload_n ok 0 rfl rfl dX4_visitorOf_92 ?_
          refine ga_iload_n ok 1 rfl rfl dX4_visitorOf_93 ?_
          refine gd_X4_1 ok hG rfl lk_X4_97 rfl (c_X4_badges ok.fl hG hs.t hT (v := v) (by omega)) (by rw [hR]; exact ⟨by decide, by decide, by decide, by decide⟩) (Nat.le_of_ble_eq_true rfl) dX4_visitorOf_94 ?_
          refine gd_S_1 ok lk_X4_134 (c_X4_sizeOf ok.fl hG (by have := hvb v.toNat (by omega); omega)) (by rw [hR]; exact ⟨by decide, by decide, by decide, by decide⟩) (Nat.le_of_ble_eq_true rfl) dX4_visitorOf_97 ?_
          exact ga_ireturn ok en rfl rfl (by decide) (by decide) dX4_visitorOf_100 (by
  have hk : (if isV r v = true then (if decide (0 ≤ (2 : Int) ∧ (2 : Int) ≤ 4) = true then (0 : Int) else 2) else 1) = 0 := by unfold isV; simp only [decide_eq_true_eq]; first | (rw [if_pos (by omega), if_pos (by omega)]; done) | (rw [if_pos (by omega), if_neg (by omega)]; done) | (rw [if_neg (by omega)]; done)
  rw [hk]
  exact ⟨_, rfl, fun _ => rfl, rfl⟩)
        · refine ga_tableIn (off := 61) ok 101 (by decide) (by decide) (by decide) (by decide) dX4_visitorOf_40 ?_
          refine ga_aload_n ok 0 rfl rfl dX4_visitorOf_101 ?_
          refine ga_iload_n ok 1 rfl rfl dX4_visitorOf_102 ?_
          refine gd_X4_1 ok hG rfl lk_X4_137 rfl (c_X4_errorsAbout ok.fl hG hs.t hT (v := v) (by omega)) (by rw [hR]; exact ⟨by decide, by decide, by decide, by decide⟩) (Nat.le_of_ble_eq_true rfl) dX4_visitorOf_103 ?_
          exact ga_ireturn ok en rfl rfl (by decide) (by decide) dX4_visitorOf_106 (by
  have hk : (if isV r v = true then (if decide (0 ≤ (3 : Int) ∧ (3 : Int) ≤ 4) = true then (0 : Int) else 2) else 1) = 0 := by unfold isV; simp only [decide_eq_true_eq]; first | (rw [if_pos (by omega), if_pos (by omega)]; done) | (rw [if_pos (by omega), if_neg (by omega)]; done) | (rw [if_neg (by omega)]; done)
  rw [hk]
  exact ⟨_, rfl, fun _ => rfl, rfl⟩)
        · refine ga_tableOut ok 107 (by omega) (by omega) (by decide) dX4_visitorOf_40 ?_
          refine ga_aload_n ok 0 rfl rfl dX4_visitorOf_107 ?_
          refine ga_iload_n ok 1 rfl rfl dX4_visitorOf_108 ?_
          refine gd_X4_1 ok hG rfl lk_X4_140 rfl (c_X4_placeOf ok.fl hG hs.t hT (v := v) (by omega)) (by rw [hR]; exact ⟨by decide, by decide, by decide, by decide⟩) (Nat.le_of_ble_eq_true rfl) dX4_visitorOf_109 ?_
          exact ga_ireturn ok en rfl rfl (by decide) (by decide) dX4_visitorOf_112 (by
  have hk : (if isV r v = true then (if decide (0 ≤ what ∧ what ≤ 4) = true then (0 : Int) else 2) else 1) = 0 := by unfold isV; simp only [decide_eq_true_eq]; first | (rw [if_pos (by omega), if_pos (by omega)]; done) | (rw [if_pos (by omega), if_neg (by omega)]; done) | (rw [if_neg (by omega)]; done)
  rw [hk]
  exact ⟨_, rfl, fun _ => by rw [if_neg (by omega), if_neg (by omega), if_neg (by omega), if_neg (by omega)], rfl⟩)
      · exact absurd c_34 (by omega)
    · have f_19 := of_decide_eq_false (b2i_0.mp c_19)
      refine ga_iconst ok dX4_visitorOf_22 ?_
      refine ga_goto ok 27 (by decide) dX4_visitorOf_23 ?_
      refine gp_X4_39 ok hG rfl dX4_visitorOf_27 ?_
      refine ga_aload_n ok 0 rfl rfl dX4_visitorOf_30 ?_
      refine gf_X4_39 ok hG rfl dX4_visitorOf_31 ?_
      rw [upI_at]
      refine ga_if_le ok 39 (by decide) (by omega) dX4_visitorOf_34 (fun c_34 => ?_) (fun c_34 => ?_)
      · exact absurd c_34 (by omega)
      · refine ga_iconst ok dX4_visitorOf_37 ?_
        exact ga_ireturn ok en rfl rfl (by decide) (by decide) dX4_visitorOf_38 (by first | (exfalso; omega) | (have hk : (if isV r v = true then (if decide (0 ≤ what ∧ what ≤ 4) = true then (0 : Int) else 2) else 1) = 2 := (by unfold isV; simp only [decide_eq_true_eq]; first | (rw [if_pos (by omega), if_pos (by omega)]; done) | (rw [if_pos (by omega), if_neg (by omega)]; done) | (rw [if_neg (by omega)]; done)); rw [hk]; exact ⟨_, rfl, fun h => absurd h (by decide), rfl⟩))
  · have f_6 := of_decide_eq_false (b2i_0.mp c_6)
    refine ga_iconst ok dX4_visitorOf_9 ?_
    refine ga_goto ok 27 (by decide) dX4_visitorOf_10 ?_
    refine gp_X4_39 ok hG rfl dX4_visitorOf_27 ?_
    refine ga_aload_n ok 0 rfl rfl dX4_visitorOf_30 ?_
    refine gf_X4_39 ok hG rfl dX4_visitorOf_31 ?_
    rw [upI_at]
    refine ga_if_le ok 39 (by decide) (by omega) dX4_visitorOf_34 (fun c_34 => ?_) (fun c_34 => ?_)
    · exact absurd c_34 (by omega)
    · refine ga_iconst ok dX4_visitorOf_37 ?_
      exact ga_ireturn ok en rfl rfl (by decide) (by decide) dX4_visitorOf_38 (by first | (exfalso; omega) | (have hk : (if isV r v = true then (if decide (0 ≤ what ∧ what ≤ 4) = true then (0 : Int) else 2) else 1) = 1 := (by unfold isV; simp only [decide_eq_true_eq]; first | (rw [if_pos (by omega), if_pos (by omega)]; done) | (rw [if_pos (by omega), if_neg (by omega)]; done) | (rw [if_neg (by omega)]; done)); rw [hk]; exact ⟨_, rfl, fun h => absurd h (by decide), rfl⟩))
