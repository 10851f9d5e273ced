/-! THE MODEL: THE REST OF THE ANSWERS -/
set_option maxHeartbeats 4000000 in
set_option maxRecDepth 100000 in
theorem c_X4_closest {G : GG} {l : Launch} (hfl : l.stackTraces = false) (hG : MW G) {m : Mm} {r : Nat → Int} {T : Int} (hs : SR m r) (hT : gtOk T r) {g : Int} (hgR : -2147483648 ≤ g ∧ g ≤ 2147483647) : CT G l yX4_closest cX4_closest 4 (some .int) (RM 8 0 0) [.ref 1024, vI g] m (fun r' m' => ∃ v9, r' = some (vI v9) ∧ ((ask r g (decide (0 < r 1))) = 0 → v9 = ((clo r g.toNat (r 1).toNat : Nat) : Int)) ∧ m' = thM m ((ask r g (decide (0 < r 1))))) (fun _ _ => False) := by
  refine CT.of RX4 [(0, .ref 1024), (1, vI g)] hfl (by decide +kernel) rfl rfl (Nat.le_of_ble_eq_true rfl) ?_
  intro E ok en hml hEl htab
  have hR : e_R E = RM 8 0 0 := en.2.2.2
  have hn0 : 0 < (e_c E).maxLocals := by rw [hml]; decide
  have hn1 : 1 < (e_c E).maxLocals := by rw [hml]; decide
  have hn2 : 2 < (e_c E).maxLocals := by rw [hml]; decide
  have hn3 : 3 < (e_c E).maxLocals := by rw [hml]; decide
  obtain ⟨b0, b1, hvb, hgb⟩ := id hT
  have s0 := hs 0 (by omega)
  have s1 := hs 1 (by omega)
  refine ga_aload_n ok 0 rfl rfl dX4_closest_0 ?_
  refine ga_iload_n ok 1 rfl rfl dX4_closest_1 ?_
  refine ga_aload_n ok 0 rfl rfl dX4_closest_2 ?_
  refine gf_X4_9 ok hG rfl dX4_closest_3 ?_
  refine ga_iconst ok dX4_closest_6 ?_
  refine ga_iaload_ia ok (ar_ms hG rfl) (by omega) dX4_closest_7 ?_
  try rw [upI_r (by omega)]
  rw [show (m.1 1088 (1 : Int).toNat) = r 1 from s1]
  refine ga_if_le ok 15 (by decide) (by omega) dX4_closest_8 (fun c_8 => ?_) (fun c_8 => ?_)
  · have hb0 : (0 : Int) = b2i (decide (0 < r 1)) := by rw [decide_eq_false (by omega)]; rfl
    refine ga_iconst ok dX4_closest_15 ?_
    rw [hb0]
    refine gd_X4_2 ok hG rfl lk_X4_146 rfl (c_X4_isAsked ok.fl hG hs hT hgR (b := decide (0 < r 1))) (by rw [hR]; exact ⟨by decide, by decide, by decide, by decide⟩) (Nat.le_of_ble_eq_true rfl) dX4_closest_16 ?_
    refine ga_if_ne ok 24 (by decide) (b2i_rng _) dX4_closest_19 (fun c_19 => ?_) (fun c_19 => ?_)
    · have hz9 := of_decide_eq_true (b2i_n0.mp c_19)
      have ha9 := ask_0.mp hz9
      have qg : 0 ≤ g ∧ g < r 0 := of_decide_eq_true ha9.1
      have qv : 0 < r 1 := of_decide_eq_true ha9.2
      refine ga_iconst ok dX4_closest_24 ?_
      refine ga_istore_n ok 2 rfl hn2 dX4_closest_25 ?_
      refine ga_iconst ok dX4_closest_26 ?_
      refine ga_istore_n ok 3 rfl hn3 dX4_closest_27 ?_
      have loop : ∀ (i : Int), (1 ≤ i ∧ i ≤ r 1) → WA G E 0 0 28 [(3, vI i), (2, vI (clo r g.toNat i.toNat : Nat)), (0, .ref 1024), (1, vI g)] [] (thM m (ask r g (decide (0 < r 1)))) := by
        refine wl1 _ (fun i => (r 1 - i).toNat) _ ?_
        intro i hi ih
        have hcl := clo_lt (r := r) (g := g.toNat) (i.toNat - 1)
        rw [show i.toNat - 1 + 1 = i.toNat by omega] at hcl
        refine ga_iload_n ok 3 rfl rfl dX4_closest_28 ?_
        refine ga_aload_n ok 0 rfl rfl dX4_closest_29 ?_
        refine gf_X4_9 ok hG rfl dX4_closest_30 ?_
        refine ga_iconst ok dX4_closest_33 ?_
        refine ga_iaload_ia ok (ar_ms hG rfl) (by omega) dX4_closest_34 ?_
        rw [show ((thM m (ask r g (decide (0 < r 1)))).1 1088 (1 : Int).toNat) = r 1 from (hs.t (k := (ask r g (decide (0 < r 1))))) 1 (by omega)]
        refine ga_icmp_ge ok 66 (by decide) (by omega) (by omega) dX4_closest_35 (fun c_35 => ?_) (fun c_35 => ?_)
        · refine ga_iload_n ok 2 rfl rfl dX4_closest_66 ?_
          exact ga_ireturn ok en rfl rfl (by decide) (by decide) dX4_closest_67 ⟨_, rfl, fun _ => by rw [show i = r 1 by omega], rfl⟩
        · refine ga_aload_n ok 0 rfl rfl dX4_closest_38 ?_
          refine ga_iload_n ok 1 rfl rfl dX4_closest_39 ?_
          refine ga_iload_n ok 3 rfl rfl dX4_closest_40 ?_
          refine gd_X4_2 ok hG rfl lk_X4_160 rfl (c_X4_knowsOf ok.fl hG hs.t hT qg (v := i) (by omega)) (by rw [hR]; exact ⟨by decide, by decide, by decide, by decide⟩) (Nat.le_of_ble_eq_true rfl) dX4_closest_41 ?_
          refine ga_aload_n ok 0 rfl rfl dX4_closest_44 ?_
          refine ga_iload_n ok 1 rfl rfl dX4_closest_45 ?_
          refine ga_iload_n ok 2 rfl rfl dX4_closest_46 ?_
          refine gd_X4_2 ok hG rfl lk_X4_160 rfl (c_X4_knowsOf ok.fl hG hs.t hT qg (v := ((clo r g.toNat i.toNat : Nat) : Int)) (by omega)) (by rw [hR]; exact ⟨by decide, by decide, by decide, by decide⟩) (Nat.le_of_ble_eq_true rfl) dX4_closest_47 ?_
          rw [show ((clo r g.toNat i.toNat : Nat) : Int).toNat = clo r g.toNat i.toNat from rfl]
          refine ga_fcmp ok dX4_closest_50 (fq_cmpz (kno_bd (hgb g.toNat (by omega))) (kno_bd (hgb g.toNat (by omega)))) ?_
          refine ga_if_ge ok 58 (by decide) (cmpz_rng _ _) dX4_closest_51 (fun c_51 => ?_) (fun c_51 => ?_)
          · have e9 : clo r g.toNat (i + 1).toNat = clo r g.toNat i.toNat := by rw [show (i + 1).toNat = i.toNat + 1 by omega, clo, if_neg (by have := cmpz_ge.mp c_51; omega)]
            refine ga_iload_n ok 2 rfl rfl dX4_closest_58 ?_
            refine ga_istore_n ok 2 rfl hn2 dX4_closest_59 ?_
            refine ga_iinc ok rfl hn3 dX4_closest_60 ?_
            refine ga_goto ok 28 (by decide) dX4_closest_63 ?_
            exact WA.re (by exact ⟨rfl, (by rw [e9]; rfl), rfl, rfl, trivial⟩) (ih (i + 1) ⟨by omega, by omega⟩ (by omega))
          · have e9 : clo r g.toNat (i + 1).toNat = i.toNat := by rw [show (i + 1).toNat = i.toNat + 1 by omega, clo, if_pos (cmpz_lt.mp c_51)]
            refine ga_iload_n ok 3 rfl rfl dX4_closest_54 ?_
            refine ga_goto ok 59 (by decide) dX4_closest_55 ?_
            refine ga_istore_n ok 2 rfl hn2 dX4_closest_59 ?_
            refine ga_iinc ok rfl hn3 dX4_closest_60 ?_
            refine ga_goto ok 28 (by decide) dX4_closest_63 ?_
            exact WA.re (by exact ⟨rfl, (by rw [e9]; exact congrArg (fun z => some (vI z)) (show i = ((i.toNat : Nat) : Int) by omega)), rfl, rfl, trivial⟩) (ih (i + 1) ⟨by omega, by omega⟩ (by omega))
      exact WA.re (by exact ⟨rfl, (by rw [show clo r g.toNat (Int.toNat 1) = 0 from Nat.le_zero.mp (clo_lt 0)]; rfl), rfl, rfl, trivial⟩) (loop 1 ⟨by omega, by omega⟩)
    · refine ga_iconst ok dX4_closest_22 ?_
      exact ga_ireturn ok en rfl rfl (by decide) (by decide) dX4_closest_23 ⟨_, rfl, fun h => absurd h (of_decide_eq_false (b2i_0.mp c_19)), rfl⟩
  · have hb0 : (1 : Int) = b2i (decide (0 < r 1)) := by rw [decide_eq_true (by omega)]; rfl
    refine ga_iconst ok dX4_closest_11 ?_
    refine ga_goto ok 16 (by decide) dX4_closest_12 ?_
    rw [hb0]
    refine gd_X4_2 ok hG rfl lk_X4_146 rfl (c_X4_isAsked ok.fl hG hs hT hgR (b := decide (0 < r 1))) (by rw [hR]; exact ⟨by decide, by decide, by decide, by decide⟩) (Nat.le_of_ble_eq_true rfl) dX4_closest_16 ?_
    refine ga_if_ne ok 24 (by decide) (b2i_rng _) dX4_closest_19 (fun c_19 => ?_) (fun c_19 => ?_)
    · have hz9 := of_decide_eq_true (b2i_n0.mp c_19)
      have ha9 := ask_0.mp hz9
      have qg : 0 ≤ g ∧ g < r 0 := of_decide_eq_true ha9.1
      have qv : 0 < r 1 := of_decide_eq_true ha9.2
      refine ga_iconst ok dX4_closest_24 ?_
      refine ga_istore_n ok 2 rfl hn2 dX4_closest_25 ?_
      refine ga_iconst ok dX4_closest_26 ?_
      refine ga_istore_n ok 3 rfl hn3 dX4_closest_27 ?_
      have loop : ∀ (i : Int), (1 ≤ i ∧ i ≤ r 1) → WA G E 0 0 28 [(3, vI i), (2, vI (clo r g.toNat i.toNat : Nat)), (0, .ref 1024), (1, vI g)] [] (thM m (ask r g (decide (0 < r 1)))) := by
        refine wl1 _ (fun i => (r 1 - i).toNat) _ ?_
        intro i hi ih
        have hcl := clo_lt (r := r) (g := g.toNat) (i.toNat - 1)
        rw [show i.toNat - 1 + 1 = i.toNat by omega] at hcl
        refine ga_iload_n ok 3 rfl rfl dX4_closest_28 ?_
        refine ga_aload_n ok 0 rfl rfl dX4_closest_29 ?_
        refine gf_X4_9 ok hG rfl dX4_closest_30 ?_
        refine ga_iconst ok dX4_closest_33 ?_
        refine ga_iaload_ia ok (ar_ms hG rfl) (by omega) dX4_closest_34 ?_
        rw [show ((thM m (ask r g (decide (0 < r 1)))).1 1088 (1 : Int).toNat) = r 1 from (hs.t (k := (ask r g (decide (0 < r 1))))) 1 (by omega)]
        refine ga_icmp_ge ok 66 (by decide) (by omega) (by omega) dX4_closest_35 (fun c_35 => ?_) (fun c_35 => ?_)
        · refine ga_iload_n ok 2 rfl rfl dX4_closest_66 ?_
          exact ga_ireturn ok en rfl rfl (by decide) (by decide) dX4_closest_67 ⟨_, rfl, fun _ => by rw [show i = r 1 by omega], rfl⟩
        · refine ga_aload_n ok 0 rfl rfl dX4_closest_38 ?_
          refine ga_iload_n ok 1 rfl rfl dX4_closest_39 ?_
          refine ga_iload_n ok 3 rfl rfl dX4_closest_40 ?_
          refine gd_X4_2 ok hG rfl lk_X4_160 rfl (c_X4_knowsOf ok.fl hG hs.t hT qg (v := i) (by omega)) (by rw [hR]; exact ⟨by decide, by decide, by decide, by decide⟩) (Nat.le_of_ble_eq_true rfl) dX4_closest_41 ?_
          refine ga_aload_n ok 0 rfl rfl dX4_closest_44 ?_
          refine ga_iload_n ok 1 rfl rfl dX4_closest_45 ?_
          refine ga_iload_n ok 2 rfl rfl dX4_closest_46 ?_
          refine gd_X4_2 ok hG rfl lk_X4_160 rfl (c_X4_knowsOf ok.fl hG hs.t hT qg (v := ((clo r g.toNat i.toNat : Nat) : Int)) (by omega)) (by rw [hR]; exact ⟨by decide, by decide, by decide, by decide⟩) (Nat.le_of_ble_eq_true rfl) dX4_closest_47 ?_
          rw [show ((clo r g.toNat i.toNat : Nat) : Int).toNat = clo r g.toNat i.toNat from rfl]
          refine ga_fcmp ok dX4_closest_50 (fq_cmpz (kno_bd (hgb g.toNat (by omega))) (kno_bd (hgb g.toNat (by omega)))) ?_
          refine ga_if_ge ok 58 (by decide) (cmpz_rng _ _) dX4_closest_51 (fun c_51 => ?_) (fun c_51 => ?_)
          · have e9 : clo r g.toNat (i + 1).toNat = clo r g.toNat i.toNat := by rw [show (i + 1).toNat = i.toNat + 1 by omega, clo, if_neg (by have := cmpz_ge.mp c_51; omega)]
            refine ga_iload_n ok 2 rfl rfl dX4_closest_58 ?_
            refine ga_istore_n ok 2 rfl hn2 dX4_closest_59 ?_
            refine ga_iinc ok rfl hn3 dX4_closest_60 ?_
            refine ga_goto ok 28 (by decide) dX4_closest_63 ?_
            exact WA.re (by exact ⟨rfl, (by rw [e9]; rfl), rfl, rfl, trivial⟩) (ih (i + 1) ⟨by omega, by omega⟩ (by omega))
          · have e9 : clo r g.toNat (i + 1).toNat = i.toNat := by rw [show (i + 1).toNat = i.toNat + 1 by omega, clo, if_pos (cmpz_lt.mp c_51)]
            refine ga_iload_n ok 3 rfl rfl dX4_closest_54 ?_
            refine ga_goto ok 59 (by decide) dX4_closest_55 ?_
            refine ga_istore_n ok 2 rfl hn2 dX4_closest_59 ?_
            refine ga_iinc ok rfl hn3 dX4_closest_60 ?_
            refine ga_goto ok 28 (by decide) dX4_closest_63 ?_
            exact WA.re (by exact ⟨rfl, (by rw [e9]; exact congrArg (fun z => some (vI z)) (show i = ((i.toNat : Nat) : Int) by omega)), rfl, rfl, trivial⟩) (ih (i + 1) ⟨by omega, by omega⟩ (by omega))
      exact WA.re (by exact ⟨rfl, (by rw [show clo r g.toNat (Int.toNat 1) = 0 from Nat.le_zero.mp (clo_lt 0)]; rfl), rfl, rfl, trivial⟩) (loop 1 ⟨by omega, by omega⟩)
    · refine ga_iconst ok dX4_closest_22 ?_
      exact ga_ireturn ok en rfl rfl (by decide) (by decide) dX4_closest_23 ⟨_, rfl, fun h => absurd h (of_decide_eq_false (b2i_0.mp c_19)), rfl⟩
set_option maxHeartbeats 4000000 in
set_option maxRecDepth 100000 in
theorem c_X4_agree {G : GG} {l : Launch} (hfl : l.stackTraces = false) (hG : MW G) {m : Mm} {r : Nat → Int} {T : Int} (hs : SR m r) (hT : gtOk T r) {g : Int} (hgR : -2147483648 ≤ g ∧ g ≤ 2147483647) {h : Int} (hhR : -2147483648 ≤ h ∧ h ≤ 2147483647) : CT G l yX4_agree cX4_agree 5 (some .int) (RM 8 0 0) [.ref 1024, vI g, vI h] m (fun r' m' => ∃ v9, r' = some (vI v9) ∧ ((if isG r g = true ∧ isG r h = true then (0 : Int) else 1) = 0 → v9 = agr r g.toNat h.toNat) ∧ m' = thM m ((if isG r g = true ∧ isG r h = true then (0 : Int) else 1))) (fun _ _ => False) := by
  refine CT.of RX4 [(0, .ref 1024), (1, vI g), (2, vI h)] hfl (by decide +kernel) rfl rfl (Nat.le_of_ble_eq_true rfl) ?_
  intro E ok en hml hEl htab
  have hR : e_R E = RM 8 0 0 := en.2.2.2
  have hn0 : 0 < (e_c E).maxLocals := by rw [hml]; decide
  have hn1 : 1 < (e_c E).maxLocals := by rw [hml]; decide
  have hn2 : 2 < (e_c E).maxLocals := by rw [hml]; decide
  have hn3 : 3 < (e_c E).maxLocals := by rw [hml]; decide
  have hn4 : 4 < (e_c E).maxLocals := by rw [hml]; decide
  obtain ⟨b0, b1, hvb, hgb⟩ := id hT
  have s0 := hs 0 (by omega)
  have s1 := hs 1 (by omega)
  refine ga_aload_n ok 0 rfl rfl dX4_agree_0 ?_
  refine ga_aload_n ok 0 rfl rfl dX4_agree_1 ?_
  refine ga_iload_n ok 1 rfl rfl dX4_agree_2 ?_
  refine gd_X4_1 ok hG rfl lk_X4_86 rfl (c_X4_isGuard ok.fl hG hs hT hgR) (by rw [hR]; exact ⟨by decide, by decide, by decide, by decide⟩) (Nat.le_of_ble_eq_true rfl) dX4_agree_3 ?_
  refine ga_if_eq ok 21 (by decide) (b2i_rng _) dX4_agree_6 (fun c_6 => ?_) (fun c_6 => ?_)
  · have f_6 := of_decide_eq_false (b2i_0.mp c_6)
    refine ga_iconst ok dX4_agree_21 ?_
    refine gp_X4_39 ok hG rfl dX4_agree_22 ?_
    refine ga_iconst ok dX4_agree_25 ?_
    refine ga_istore_n ok 3 rfl hn3 dX4_agree_26 ?_
    refine ga_iconst ok dX4_agree_27 ?_
    refine ga_istore ok hn4 dX4_agree_28 ?_
    refine ga_iload ok rfl dX4_agree_30 ?_
    refine ga_aload_n ok 0 rfl rfl dX4_agree_32 ?_
    refine gf_X4_9 ok hG rfl dX4_agree_33 ?_
    refine ga_iconst ok dX4_agree_36 ?_
    refine ga_iaload_ia ok (ar_ms hG rfl) (by omega) dX4_agree_37 ?_
    try rw [upI_r (by omega)]
    rw [show (m.1 1088 (1 : Int).toNat) = r 1 from s1]
    refine ga_icmp_ge ok 87 (by decide) (by omega) (by omega) dX4_agree_38 (fun c_38 => ?_) (fun c_38 => ?_)
    · refine ga_iload_n ok 3 rfl rfl dX4_agree_87 ?_
      exact ga_ireturn ok en rfl rfl (by decide) (by decide) dX4_agree_88 (by first | (exfalso; omega) | (have hk : (if isG r g = true ∧ isG r h = true then (0 : Int) else 1) = 1 := (by unfold isG; simp only [decide_eq_true_eq]; first | (rw [if_pos (by omega)]; done) | (rw [if_neg (by omega)]; done)); rw [hk]; exact ⟨_, rfl, fun h => absurd h (by decide), rfl⟩))
    · refine ga_aload_n ok 0 rfl rfl dX4_agree_41 ?_
      refine gf_X4_39 ok hG rfl dX4_agree_42 ?_
      rw [upI_at]
      refine ga_if_ne ok 87 (by decide) (by omega) dX4_agree_45 (fun c_45 => ?_) (fun c_45 => ?_)
      · refine ga_iload_n ok 3 rfl rfl dX4_agree_87 ?_
        exact ga_ireturn ok en rfl rfl (by decide) (by decide) dX4_agree_88 (by first | (exfalso; omega) | (have hk : (if isG r g = true ∧ isG r h = true then (0 : Int) else 1) = 1 := (by unfold isG; simp only [decide_eq_true_eq]; first | (rw [if_pos (by omega)]; done) | (rw [if_neg (by omega)]; done)); rw [hk]; exact ⟨_, rfl, fun h => absurd h (by decide), rfl⟩))
      · exact absurd c_45 (by omega)
  · have f_6 := of_decide_eq_true (b2i_n0.mp c_6)
    refine ga_aload_n ok 0 rfl rfl dX4_agree_9 ?_
    refine ga_iload_n ok 2 rfl rfl dX4_agree_10 ?_
    refine gd_X4_1 ok hG rfl lk_X4_86 rfl (c_X4_isGuard ok.fl hG hs hT hhR) (by rw [hR]; exact ⟨by decide, by decide, by decide, by decide⟩) (Nat.le_of_ble_eq_true rfl) dX4_agree_11 ?_
    refine ga_if_eq ok 21 (by decide) (b2i_rng _) dX4_agree_14 (fun c_14 => ?_) (fun c_14 => ?_)
    · have f_14 := of_decide_eq_false (b2i_0.mp c_14)
      refine ga_iconst ok dX4_agree_21 ?_
      refine gp_X4_39 ok hG rfl dX4_agree_22 ?_
      refine ga_iconst ok dX4_agree_25 ?_
      refine ga_istore_n ok 3 rfl hn3 dX4_agree_26 ?_
      refine ga_iconst ok dX4_agree_27 ?_
      refine ga_istore ok hn4 dX4_agree_28 ?_
      refine ga_iload ok rfl dX4_agree_30 ?_
      refine ga_aload_n ok 0 rfl rfl dX4_agree_32 ?_
      refine gf_X4_9 ok hG rfl dX4_agree_33 ?_
      refine ga_iconst ok dX4_agree_36 ?_
      refine ga_iaload_ia ok (ar_ms hG rfl) (by omega) dX4_agree_37 ?_
      try rw [upI_r (by omega)]
      rw [show (m.1 1088 (1 : Int).toNat) = r 1 from s1]
      refine ga_icmp_ge ok 87 (by decide) (by omega) (by omega) dX4_agree_38 (fun c_38 => ?_) (fun c_38 => ?_)
      · refine ga_iload_n ok 3 rfl rfl dX4_agree_87 ?_
        exact ga_ireturn ok en rfl rfl (by decide) (by decide) dX4_agree_88 (by first | (exfalso; omega) | (have hk : (if isG r g = true ∧ isG r h = true then (0 : Int) else 1) = 1 := (by unfold isG; simp only [decide_eq_true_eq]; first | (rw [if_pos (by omega)]; done) | (rw [if_neg (by omega)]; done)); rw [hk]; exact ⟨_, rfl, fun h => absurd h (by decide), rfl⟩))
      · refine ga_aload_n ok 0 rfl rfl dX4_agree_41 ?_
        refine gf_X4_39 ok hG rfl dX4_agree_42 ?_
        rw [upI_at]
        refine ga_if_ne ok 87 (by decide) (by omega) dX4_agree_45 (fun c_45 => ?_) (fun c_45 => ?_)
        · refine ga_iload_n ok 3 rfl rfl dX4_agree_87 ?_
          exact ga_ireturn ok en rfl rfl (by decide) (by decide) dX4_agree_88 (by first | (exfalso; omega) | (have hk : (if isG r g = true ∧ isG r h = true then (0 : Int) else 1) = 1 := (by unfold isG; simp only [decide_eq_true_eq]; first | (rw [if_pos (by omega)]; done) | (rw [if_neg (by omega)]; done)); rw [hk]; exact ⟨_, rfl, fun h => absurd h (by decide), rfl⟩))
        · exact absurd c_45 (by omega)
    · have f_14 := of_decide_eq_true (b2i_n0.mp c_14)
      refine ga_iconst ok dX4_agree_17 ?_
      refine ga_goto ok 22 (by decide) dX4_agree_18 ?_
      refine gp_X4_39 ok hG rfl dX4_agree_22 ?_
      refine ga_iconst ok dX4_agree_25 ?_
      refine ga_istore_n ok 3 rfl hn3 dX4_agree_26 ?_
      refine ga_iconst ok dX4_agree_27 ?_
      refine ga_istore ok hn4 dX4_agree_28 ?_
      have hz : SR (upI m 1024 6 0) r := hs.t
      have loop : ∀ (i : Int), 0 ≤ i ∧ i ≤ r 1 → WA G E 0 0 30 [(4, vI i), (3, vI (zs (fun v => b2i (decide (adm (gcn (rg r g.toNat)) (vX r v) = adm (gcn (rg r h.toNat)) (vX r v)))) i.toNat)), (0, .ref 1024), (1, vI g), (2, vI h)] [] (upI m 1024 6 0) := by
        refine wl1 _ (fun i => (r 1 - i).toNat) _ ?_
        intro i hi ih
        have e9 := zs_n (f := fun v => b2i (decide (adm (gcn (rg r g.toNat)) (vX r v) = adm (gcn (rg r h.toNat)) (vX r v)))) hi.1
        refine ga_iload ok rfl dX4_agree_30 ?_
        refine ga_aload_n ok 0 rfl rfl dX4_agree_32 ?_
        refine gf_X4_9 ok hG rfl dX4_agree_33 ?_
        refine ga_iconst ok dX4_agree_36 ?_
        refine ga_iaload_ia ok (ar_ms hG rfl) (by omega) dX4_agree_37 ?_
        try rw [upI_r (by omega)]
        rw [show (m.1 1088 (1 : Int).toNat) = r 1 from s1]
        refine ga_icmp_ge ok 87 (by decide) (by omega) (by omega) dX4_agree_38 (fun c_38 => ?_) (fun c_38 => ?_)
        · refine ga_iload_n ok 3 rfl rfl dX4_agree_87 ?_
          exact ga_ireturn ok en rfl rfl (by decide) (by decide) dX4_agree_88 (by
        have hk : (if isG r g = true ∧ isG r h = true then (0 : Int) else 1) = 0 := by unfold isG; simp only [decide_eq_true_eq]; first | (rw [if_pos (by omega)]; done) | (rw [if_neg (by omega)]; done)
        rw [hk]
        exact ⟨_, rfl, fun _ => by rw [show i = r 1 by omega]; rfl, rfl⟩)
        · refine ga_aload_n ok 0 rfl rfl dX4_agree_41 ?_
          refine gf_X4_39 ok hG rfl dX4_agree_42 ?_
          rw [upI_at]
          refine ga_if_ne ok 87 (by decide) (by omega) dX4_agree_45 (fun c_45 => ?_) (fun c_45 => ?_)
          · exact absurd rfl c_45
          · refine ga_iload_n ok 3 rfl rfl dX4_agree_48 ?_
            refine ga_aload_n ok 0 rfl rfl dX4_agree_49 ?_
            refine ga_iload_n ok 1 rfl rfl dX4_agree_50 ?_
            refine ga_aload_n ok 0 rfl rfl dX4_agree_51 ?_
            refine ga_iload ok rfl dX4_agree_52 ?_
            refine gd_X4_1 ok hG rfl lk_X4_97 rfl (c_X4_badges ok.fl hG hz hT (v := i) (by omega)) (by rw [hR]; exact ⟨by decide, by decide, by decide, by decide⟩) (Nat.le_of_ble_eq_true rfl) dX4_agree_54 ?_
            have hq9 := (hvb i.toNat (by omega)).1
            refine gd_X4_2 ok hG rfl lk_X4_125 rfl (c_X4_isIn ok.fl hG hz hT (g := g) (by omega) (x := vX r i.toNat) (by omega)) (by rw [hR]; exact ⟨by decide, by decide, by decide, by decide⟩) (Nat.le_of_ble_eq_true rfl) dX4_agree_57 ?_
            refine ga_aload_n ok 0 rfl rfl dX4_agree_60 ?_
            refine ga_iload_n ok 2 rfl rfl dX4_agree_61 ?_
            refine ga_aload_n ok 0 rfl rfl dX4_agree_62 ?_
            refine ga_iload ok rfl dX4_agree_63 ?_
            refine gd_X4_1 ok hG rfl lk_X4_97 rfl (c_X4_badges ok.fl hG hz hT (v := i) (by omega)) (by rw [hR]; exact ⟨by decide, by decide, by decide, by decide⟩) (Nat.le_of_ble_eq_true rfl) dX4_agree_65 ?_
            refine gd_X4_2 ok hG rfl lk_X4_125 rfl (c_X4_isIn ok.fl hG hz hT (g := h) (by omega) (x := vX r i.toNat) (by omega)) (by rw [hR]; exact ⟨by decide, by decide, by decide, by decide⟩) (Nat.le_of_ble_eq_true rfl) dX4_agree_68 ?_
            refine ga_icmp_ne ok 78 (by decide) (b2i_rng _) (b2i_rng _) dX4_agree_71 (fun c_71 => ?_) (fun c_71 => ?_)
            · have hf : (fun v => b2i (decide (adm (gcn (rg r g.toNat)) (vX r v) = adm (gcn (rg r h.toNat)) (vX r v)))) i.toNat = 0 := b2i_0.mpr (decide_eq_false (fun h9 => c_71 (congrArg b2i h9)))
              try dsimp only at hf
              rw [hf] at e9
              refine ga_iconst ok dX4_agree_78 ?_
              refine ga_iadd ok dX4_agree_79 ?_
              refine ga_istore_n ok 3 rfl hn3 dX4_agree_80 ?_
              refine ga_iinc ok rfl hn4 dX4_agree_81 ?_
              refine ga_goto ok 30 (by decide) dX4_agree_84 ?_
              exact WA.re (by exact ⟨rfl, (by rw [e9]; rfl), rfl, rfl, rfl, trivial⟩) (ih (i + 1) (by omega) (by omega))
            · have hf : (fun v => b2i (decide (adm (gcn (rg r g.toNat)) (vX r v) = adm (gcn (rg r h.toNat)) (vX r v)))) i.toNat = 1 := b2i_1.mpr (decide_eq_true (b2i_inj c_71))
              try dsimp only at hf
              rw [hf] at e9
              refine ga_iconst ok dX4_agree_74 ?_
              refine ga_goto ok 79 (by decide) dX4_agree_75 ?_
              refine ga_iadd ok dX4_agree_79 ?_
              refine ga_istore_n ok 3 rfl hn3 dX4_agree_80 ?_
              refine ga_iinc ok rfl hn4 dX4_agree_81 ?_
              refine ga_goto ok 30 (by decide) dX4_agree_84 ?_
              exact WA.re (by exact ⟨rfl, (by rw [e9]; rfl), rfl, rfl, rfl, trivial⟩) (ih (i + 1) (by omega) (by omega))
      exact WA.re (by exact ⟨rfl, rfl, rfl, rfl, rfl, trivial⟩) (loop 0 (by omega))
set_option maxHeartbeats 4000000 in
set_option maxRecDepth 100000 in
theorem c_X4_mistaken {G : GG} {l : Launch} (hfl : l.stackTraces = false) (hG : MW G) {m : Mm} {r : Nat → Int} {T : Int} (hs : SR m r) (hT : gtOk T r)  : CT G l yX4_mistaken cX4_mistaken 3 (some .int) (RM 9 0 0) [.ref 1024] m (fun r' m' => r' = some (vI (mst r)) ∧ m' = thM m 0) (fun _ _ => False) := by
  refine CT.of RX4 [(0, .ref 1024)] hfl (by decide +kernel) rfl rfl (Nat.le_of_ble_eq_true rfl) ?_
  intro E ok en hml hEl htab
  have hR : e_R E = RM 9 0 0 := en.2.2.2
  have hn0 : 0 < (e_c E).maxLocals := by rw [hml]; decide
  have hn1 : 1 < (e_c E).maxLocals := by rw [hml]; decide
  have hn2 : 2 < (e_c E).maxLocals := by rw [hml]; decide
  obtain ⟨b0, b1, hvb, hgb⟩ := id hT
  have s0 := hs 0 (by omega)
  have s1 := hs 1 (by omega)
  refine ga_aload_n ok 0 rfl rfl dX4_mistaken_0 ?_
  refine ga_iconst ok dX4_mistaken_1 ?_
  refine gp_X4_39 ok hG rfl dX4_mistaken_2 ?_
  refine ga_iconst ok dX4_mistaken_5 ?_
  refine ga_istore_n ok 1 rfl hn1 dX4_mistaken_6 ?_
  refine ga_iconst ok dX4_mistaken_7 ?_
  refine ga_istore_n ok 2 rfl hn2 dX4_mistaken_8 ?_
  have hz : SR (upI m 1024 6 0) r := hs.t
  have loop : ∀ (i : Int), 0 ≤ i ∧ i ≤ r 1 → WA G E 0 0 9 [(2, vI i), (1, vI (zs (fun v => b2i (decide (b2i (vin r (vX r v)) ≠ vF r v))) i.toNat)), (0, .ref 1024)] [] (upI m 1024 6 0) := by
    refine wl1 _ (fun i => (r 1 - i).toNat) _ ?_
    intro i hi ih
    have e9 := zs_n (f := fun v => b2i (decide (b2i (vin r (vX r v)) ≠ vF r v))) hi.1
    refine ga_iload_n ok 2 rfl rfl dX4_mistaken_9 ?_
    refine ga_aload_n ok 0 rfl rfl dX4_mistaken_10 ?_
    refine gf_X4_9 ok hG rfl dX4_mistaken_11 ?_
    refine ga_iconst ok dX4_mistaken_14 ?_
    refine ga_iaload_ia ok (ar_ms hG rfl) (by omega) dX4_mistaken_15 ?_
    try rw [upI_r (by omega)]
    rw [show (m.1 1088 (1 : Int).toNat) = r 1 from s1]
    refine ga_icmp_ge ok 50 (by decide) (by omega) (by omega) dX4_mistaken_16 (fun c_16 => ?_) (fun c_16 => ?_)
    · refine ga_iload_n ok 1 rfl rfl dX4_mistaken_50 ?_
      exact ga_ireturn ok en rfl rfl (by decide) (by decide) dX4_mistaken_51 ⟨by rw [show i = r 1 by omega]; rfl, rfl⟩
    · refine ga_iload_n ok 1 rfl rfl dX4_mistaken_19 ?_
      refine ga_aload_n ok 0 rfl rfl dX4_mistaken_20 ?_
      refine ga_aload_n ok 0 rfl rfl dX4_mistaken_21 ?_
      refine ga_iload_n ok 2 rfl rfl dX4_mistaken_22 ?_
      refine gd_X4_1 ok hG rfl lk_X4_97 rfl (c_X4_badges ok.fl hG hz hT (v := i) (by omega)) (by rw [hR]; exact ⟨by decide, by decide, by decide, by decide⟩) (Nat.le_of_ble_eq_true rfl) dX4_mistaken_23 ?_
      have hq9 := hvb i.toNat (by omega)
      refine gd_X4_1 ok hG rfl lk_X4_190 rfl (c_X4_isVoted ok.fl hG hz hT (x := vX r i.toNat) (by omega)) (by rw [hR]; exact ⟨by decide, by decide, by decide, by decide⟩) (Nat.le_of_ble_eq_true rfl) dX4_mistaken_26 ?_
      refine ga_aload_n ok 0 rfl rfl dX4_mistaken_29 ?_
      refine ga_iload_n ok 2 rfl rfl dX4_mistaken_30 ?_
      refine gd_X4_1 ok hG rfl lk_X4_128 rfl (c_X4_isFriend ok.fl hG hz hT (v := i) (by omega)) (by rw [hR]; exact ⟨by decide, by decide, by decide, by decide⟩) (Nat.le_of_ble_eq_true rfl) dX4_mistaken_31 ?_
      rw [vF_b hq9.2]
      refine ga_icmp_ne ok 41 (by decide) (b2i_rng _) (by omega) dX4_mistaken_34 (fun c_34 => ?_) (fun c_34 => ?_)
      · have hf : (fun v => b2i (decide (b2i (vin r (vX r v)) ≠ vF r v))) i.toNat = 1 := b2i_1.mpr (decide_eq_true c_34)
        try dsimp only at hf
        rw [hf] at e9
        refine ga_iconst ok dX4_mistaken_41 ?_
        refine ga_iadd ok dX4_mistaken_42 ?_
        refine ga_istore_n ok 1 rfl hn1 dX4_mistaken_43 ?_
        refine ga_iinc ok rfl hn2 dX4_mistaken_44 ?_
        refine ga_goto ok 9 (by decide) dX4_mistaken_47 ?_
        exact WA.re (by exact ⟨rfl, (by rw [e9]; rfl), rfl, trivial⟩) (ih (i + 1) (by omega) (by omega))
      · have hf : (fun v => b2i (decide (b2i (vin r (vX r v)) ≠ vF r v))) i.toNat = 0 := b2i_0.mpr (decide_eq_false (fun h9 => h9 c_34))
        try dsimp only at hf
        rw [hf] at e9
        refine ga_iconst ok dX4_mistaken_37 ?_
        refine ga_goto ok 42 (by decide) dX4_mistaken_38 ?_
        refine ga_iadd ok dX4_mistaken_42 ?_
        refine ga_istore_n ok 1 rfl hn1 dX4_mistaken_43 ?_
        refine ga_iinc ok rfl hn2 dX4_mistaken_44 ?_
        refine ga_goto ok 9 (by decide) dX4_mistaken_47 ?_
        exact WA.re (by exact ⟨rfl, (by rw [e9]; rfl), rfl, trivial⟩) (ih (i + 1) (by omega) (by omega))
  exact WA.re (by exact ⟨rfl, rfl, rfl, trivial⟩) (loop 0 (by omega))
set_option maxHeartbeats 4000000 in
set_option maxRecDepth 100000 in
theorem c_X4_ofAll {G : GG} {l : Launch} (hfl : l.stackTraces = false) (hG : MW G) {m : Mm} {r : Nat → Int} {T : Int} (hs : SR m r) (hT : gtOk T r) {k : Int} (hk : -1 ≤ k ∧ k < 27) : CT G l yX4_ofAll cX4_ofAll 4 (some .int) (RM 7 0 0) [.ref 1024, vI k] m (fun r' m' => r' = some (vI (zs (fun g => if k < 0 then ofG r g else rg r g k.toNat) (r 0).toNat)) ∧ m' = m) (fun _ _ => False) := by
  refine CT.of RX4 [(0, .ref 1024), (1, vI k)] hfl (by decide +kernel) rfl rfl (Nat.le_of_ble_eq_true rfl) ?_
  intro E ok en hml hEl htab
  have hR : e_R E = RM 7 0 0 := en.2.2.2
  have hn0 : 0 < (e_c E).maxLocals := by rw [hml]; decide
  have hn1 : 1 < (e_c E).maxLocals := by rw [hml]; decide
  have hn2 : 2 < (e_c E).maxLocals := by rw [hml]; decide
  have hn3 : 3 < (e_c E).maxLocals := by rw [hml]; decide
  obtain ⟨b0, b1, hvb, hgb⟩ := id hT
  have s0 := hs 0 (by omega)
  have s1 := hs 1 (by omega)
  refine ga_iconst ok dX4_ofAll_0 ?_
  refine ga_istore_n ok 2 rfl hn2 dX4_ofAll_1 ?_
  refine ga_iconst ok dX4_ofAll_2 ?_
  refine ga_istore_n ok 3 rfl hn3 dX4_ofAll_3 ?_
  have loop : ∀ (i : Int), 0 ≤ i ∧ i ≤ r 0 → WA G E 0 0 4 [(3, vI i), (2, vI (zs (fun g => if k < 0 then ofG r g else rg r g k.toNat) i.toNat)), (0, .ref 1024), (1, vI k)] [] m := by
    refine wl1 _ (fun i => (r 0 - i).toNat) _ ?_
    intro i hi ih
    have e9 := zs_n (f := fun g => if k < 0 then ofG r g else rg r g k.toNat) hi.1
    refine ga_iload_n ok 3 rfl rfl dX4_ofAll_4 ?_
    refine ga_aload_n ok 0 rfl rfl dX4_ofAll_5 ?_
    refine gf_X4_9 ok hG rfl dX4_ofAll_6 ?_
    refine ga_iconst ok dX4_ofAll_9 ?_
    refine ga_iaload_ia ok (ar_ms hG rfl) (by omega) dX4_ofAll_10 ?_
    try rw [upI_r (by omega)]
    rw [show (m.1 1088 (0 : Int).toNat) = r 0 from s0]
    refine ga_icmp_ge ok 45 (by decide) (by omega) (by omega) dX4_ofAll_11 (fun c_11 => ?_) (fun c_11 => ?_)
    · refine ga_iload_n ok 2 rfl rfl dX4_ofAll_45 ?_
      exact ga_ireturn ok en rfl rfl (by decide) (by decide) dX4_ofAll_46 ⟨by rw [show i = r 0 by omega], rfl⟩
    · refine ga_iload_n ok 2 rfl rfl dX4_ofAll_14 ?_
      refine ga_iload_n ok 1 rfl rfl dX4_ofAll_15 ?_
      refine ga_if_ge ok 27 (by decide) (by omega) dX4_ofAll_16 (fun c_16 => ?_) (fun c_16 => ?_)
      · have hf : (fun g => if k < 0 then ofG r g else rg r g k.toNat) i.toNat = rg r i.toNat k.toNat := if_neg (by omega)
        try dsimp only at hf
        rw [hf] at e9
        refine ga_aload_n ok 0 rfl rfl dX4_ofAll_27 ?_
        refine gf_X4_9 ok hG rfl dX4_ofAll_28 ?_
        refine ga_iload_n ok 3 rfl rfl dX4_ofAll_31 ?_
        refine ga_iload_n ok 1 rfl rfl dX4_ofAll_32 ?_
        refine gd_S_2 ok lk_X4_73 (c_X4_at ok.fl hG (g := i) (k := k) (by omega) (by omega)) (by rw [hR]; exact ⟨by decide, by decide, by decide, by decide⟩) (Nat.le_of_ble_eq_true rfl) dX4_ofAll_33 ?_
        have e27 : (26 + 27 * i + k).toNat = 26 + 27 * i.toNat + k.toNat := by omega
        refine ga_iaload_ia ok (ar_ms hG rfl) (by omega) dX4_ofAll_36 ?_
        try rw [e27, hs.g (by omega) (by omega)]
        refine ga_iadd ok dX4_ofAll_37 ?_
        refine ga_istore_n ok 2 rfl hn2 dX4_ofAll_38 ?_
        refine ga_iinc ok rfl hn3 dX4_ofAll_39 ?_
        refine ga_goto ok 4 (by decide) dX4_ofAll_42 ?_
        exact WA.re (by exact ⟨rfl, (by rw [e9]; rfl), rfl, rfl, trivial⟩) (ih (i + 1) (by omega) (by omega))
      · have hf : (fun g => if k < 0 then ofG r g else rg r g k.toNat) i.toNat = ofG r i.toNat := if_pos (by omega)
        try dsimp only at hf
        rw [hf] at e9
        refine ga_aload_n ok 0 rfl rfl dX4_ofAll_19 ?_
        refine ga_iload_n ok 3 rfl rfl dX4_ofAll_20 ?_
        refine gd_X4_1 ok hG rfl lk_X4_143 rfl (c_X4_errors ok.fl hG hs hT (g := i) (by omega)) (by rw [hR]; exact ⟨by decide, by decide, by decide, by decide⟩) (Nat.le_of_ble_eq_true rfl) dX4_ofAll_21 ?_
        refine ga_goto ok 37 (by decide) dX4_ofAll_24 ?_
        try rw [e27, hs.g (by omega) (by omega)]
        refine ga_iadd ok dX4_ofAll_37 ?_
        refine ga_istore_n ok 2 rfl hn2 dX4_ofAll_38 ?_
        refine ga_iinc ok rfl hn3 dX4_ofAll_39 ?_
        refine ga_goto ok 4 (by decide) dX4_ofAll_42 ?_
        exact WA.re (by exact ⟨rfl, (by rw [e9]; rfl), rfl, rfl, trivial⟩) (ih (i + 1) (by omega) (by omega))
  exact WA.re (by exact ⟨rfl, rfl, rfl, rfl, trivial⟩) (loop 0 (by omega))
set_option maxHeartbeats 4000000 in
set_option maxRecDepth 100000 in
theorem c_X4_account {G : GG} {l : Launch} (hfl : l.stackTraces = false) (hG : MW G) {m : Mm} {r : Nat → Int} {T : Int} (hs : SR m r) (hT : gtOk T r) {what : Int} (hwhatR : -2147483648 ≤ what ∧ what ≤ 2147483647) : CT G l yX4_account cX4_account 2 (some .int) (RM 8 0 0) [.ref 1024, vI what] m (fun r' m' => ∃ v9, r' = some (vI v9) ∧ ((if decide (0 ≤ what ∧ what ≤ 8) = true then (0 : Int) else 1) = 0 → v9 = (if what = 0 then r 0 else if what = 1 then r 1 else if what = 2 then cof r 1 else if what = 3 then cof r 0 else if what = 4 then zs (fun g => rg r g 2) (r 0).toNat else if what = 5 then zs (fun g => rg r g 3) (r 0).toNat else if what = 6 then zs (fun g => ofG r g) (r 0).toNat else if what = 7 then m.1 1024 14 else m.1 1024 5)) ∧ m' = thM m ((if decide (0 ≤ what ∧ what ≤ 8) = true then (0 : Int) else 1))) (fun _ _ => False) := by
  refine CT.of RX4 [(0, .ref 1024), (1, vI what)] hfl (by decide +kernel) rfl rfl (Nat.le_of_ble_eq_true rfl) ?_
  intro E ok en hml hEl htab
  have hR : e_R E = RM 8 0 0 := en.2.2.2
  have hn0 : 0 < (e_c E).maxLocals := by rw [hml]; decide
  have hn1 : 1 < (e_c E).maxLocals := by rw [hml]; decide
  obtain ⟨b0, b1, hvb, hgb⟩ := id hT
  have s0 := hs 0 (by omega)
  have s1 := hs 1 (by omega)
  refine ga_aload_n ok 0 rfl rfl dX4_account_0 ?_
  refine ga_iload_n ok 1 rfl rfl dX4_account_1 ?_
  refine ga_iconst ok dX4_account_2 ?_
  refine ga_bipush ok dX4_account_3 (by decide) ?_
  refine gd_S_3 ok lk_X4_61 (c_X4_in ok.fl hG (x := what) (a := 0) (b := 8) hwhatR (by omega) (by omega)) (by rw [hR]; exact ⟨by decide, by decide, by decide, by decide⟩) (Nat.le_of_ble_eq_true rfl) dX4_account_5 ?_
  refine ga_if_eq ok 15 (by decide) (b2i_rng _) dX4_account_8 (fun c_8 => ?_) (fun c_8 => ?_)
  · have f_8 := of_decide_eq_false (b2i_0.mp c_8)
    refine ga_iconst ok dX4_account_15 ?_
    refine gp_X4_39 ok hG rfl dX4_account_16 ?_
    refine ga_aload_n ok 0 rfl rfl dX4_account_19 ?_
    refine gf_X4_39 ok hG rfl dX4_account_20 ?_
    rw [upI_at]
    refine ga_if_le ok 28 (by decide) (by omega) dX4_account_23 (fun c_23 => ?_) (fun c_23 => ?_)
    · exact absurd c_23 (by omega)
    · refine ga_iconst ok dX4_account_26 ?_
      exact ga_ireturn ok en rfl rfl (by decide) (by decide) dX4_account_27 (by first | (exfalso; omega) | (have hk : (if decide (0 ≤ what ∧ what ≤ 8) = true then (0 : Int) else 1) = 1 := (by simp only [decide_eq_true_eq]; first | (rw [if_pos (by omega)]; done) | (rw [if_neg (by omega)]; done)); rw [hk]; exact ⟨_, rfl, fun h => absurd h (by decide), rfl⟩))
  · have f_8 := of_decide_eq_true (b2i_n0.mp c_8)
    refine ga_iconst ok dX4_account_11 ?_
    refine ga_goto ok 16 (by decide) dX4_account_12 ?_
    refine gp_X4_39 ok hG rfl dX4_account_16 ?_
    refine ga_aload_n ok 0 rfl rfl dX4_account_19 ?_
    refine gf_X4_39 ok hG rfl dX4_account_20 ?_
    rw [upI_at]
    refine ga_if_le ok 28 (by decide) (by omega) dX4_account_23 (fun c_23 => ?_) (fun c_23 => ?_)
    · have hz : SR (upI m 1024 6 0) r := hs.t
      refine ga_iload_n ok 1 rfl rfl dX4_account_28 ?_
      rcases (show what = 0 ∨ what = 1 ∨ what = 2 ∨ what = 3 ∨ what = 4 ∨ what = 5 ∨ what = 6 ∨ what = 7 ∨ (what < 0 ∨ 7 < what) by omega) with rfl | rfl | rfl | rfl | rfl | rfl | rfl | rfl | hout
      · refine ga_tableIn (off := 47) ok 76 (by decide) (by decide) (by decide) (by decide) dX4_account_29 ?_
        refine ga_aload_n ok 0 rfl rfl dX4_account_76 ?_
        refine gf_X4_9 ok hG rfl dX4_account_77 ?_
        refine ga_iconst ok dX4_account_80 ?_
        refine ga_iaload_ia ok (ar_ms hG rfl) (by omega) dX4_account_81 ?_
        try rw [upI_r (by omega)]
        rw [show (m.1 1088 (0 : Int).toNat) = r 0 from s0]
        exact ga_ireturn ok en rfl rfl (by decide) (by decide) dX4_account_82 (by
  have hk : (if decide (0 ≤ (0 : Int) ∧ (0 : Int) ≤ 8) = true then (0 : Int) else 1) = 0 := by simp only [decide_eq_true_eq]; first | (rw [if_pos (by omega)]; done) | (rw [if_neg (by omega)]; done)
  rw [hk]
  exact ⟨_, rfl, fun _ => rfl, rfl⟩)
      · refine ga_tableIn (off := 54) ok 83 (by decide) (by decide) (by decide) (by decide) dX4_account_29 ?_
        refine ga_aload_n ok 0 rfl rfl dX4_account_83 ?_
        refine gf_X4_9 ok hG rfl dX4_account_84 ?_
        refine ga_iconst ok dX4_account_87 ?_
        refine ga_iaload_ia ok (ar_ms hG rfl) (by omega) dX4_account_88 ?_
        try rw [upI_r (by omega)]
        rw [show (m.1 1088 (1 : Int).toNat) = r 1 from s1]
        exact ga_ireturn ok en rfl rfl (by decide) (by decide) dX4_account_89 (by
  have hk : (if decide (0 ≤ (1 : Int) ∧ (1 : Int) ≤ 8) = true then (0 : Int) else 1) = 0 := by simp only [decide_eq_true_eq]; first | (rw [if_pos (by omega)]; done) | (rw [if_neg (by omega)]; done)
  rw [hk]
  exact ⟨_, rfl, fun _ => rfl, rfl⟩)
      · refine ga_tableIn (off := 61) ok 90 (by decide) (by decide) (by decide) (by decide) dX4_account_29 ?_
        refine ga_aload_n ok 0 rfl rfl dX4_account_90 ?_
        refine gd_X4_0 ok hG rfl lk_X4_239 rfl (c_X4_friends ok.fl hG hz hT) (by rw [hR]; exact ⟨by decide, by decide, by decide, by decide⟩) (Nat.le_of_ble_eq_true rfl) dX4_account_91 ?_
        exact ga_ireturn ok en rfl rfl (by decide) (by decide) dX4_account_94 (by
  have hk : (if decide (0 ≤ (2 : Int) ∧ (2 : Int) ≤ 8) = true then (0 : Int) else 1) = 0 := by simp only [decide_eq_true_eq]; first | (rw [if_pos (by omega)]; done) | (rw [if_neg (by omega)]; done)
  rw [hk]
  exact ⟨_, rfl, fun _ => rfl, rfl⟩)
      · refine ga_tableIn (off := 66) ok 95 (by decide) (by decide) (by decide) (by decide) dX4_account_29 ?_
        refine ga_aload_n ok 0 rfl rfl dX4_account_95 ?_
        refine gf_X4_9 ok hG rfl dX4_account_96 ?_
        refine ga_iconst ok dX4_account_99 ?_
        refine ga_iaload_ia ok (ar_ms hG rfl) (by omega) dX4_account_100 ?_
        try rw [upI_r (by omega)]
        rw [show (m.1 1088 (1 : Int).toNat) = r 1 from s1]
        refine ga_aload_n ok 0 rfl rfl dX4_account_101 ?_
        refine gd_X4_0 ok hG rfl lk_X4_239 rfl (c_X4_friends ok.fl hG hz hT) (by rw [hR]; exact ⟨by decide, by decide, by decide, by decide⟩) (Nat.le_of_ble_eq_true rfl) dX4_account_102 ?_
        refine ga_isub ok dX4_account_105 ?_
        exact ga_ireturn ok en rfl rfl (by decide) (by decide) dX4_account_106 (by
  have hk : (if decide (0 ≤ (3 : Int) ∧ (3 : Int) ≤ 8) = true then (0 : Int) else 1) = 0 := by simp only [decide_eq_true_eq]; first | (rw [if_pos (by omega)]; done) | (rw [if_neg (by omega)]; done)
  rw [hk]
  exact ⟨_, rfl, fun _ => by have hc9 := cof_all (r := r) (r 1).toNat (fun v hv9 => (hvb v (by omega)).2); show r 1 - cof r 1 = cof r 0; unfold cof; omega, rfl⟩)
      · refine ga_tableIn (off := 78) ok 107 (by decide) (by decide) (by decide) (by decide) dX4_account_29 ?_
        refine ga_aload_n ok 0 rfl rfl dX4_account_107 ?_
        refine ga_iconst ok dX4_account_108 ?_
        refine gd_X4_1 ok hG rfl lk_X4_242 rfl (c_X4_ofAll ok.fl hG hz hT (k := 2) (by omega)) (by rw [hR]; exact ⟨by decide, by decide, by decide, by decide⟩) (Nat.le_of_ble_eq_true rfl) dX4_account_109 ?_
        exact ga_ireturn ok en rfl rfl (by decide) (by decide) dX4_account_112 (by
  have hk : (if decide (0 ≤ (4 : Int) ∧ (4 : Int) ≤ 8) = true then (0 : Int) else 1) = 0 := by simp only [decide_eq_true_eq]; first | (rw [if_pos (by omega)]; done) | (rw [if_neg (by omega)]; done)
  rw [hk]
  exact ⟨_, rfl, fun _ => rfl, rfl⟩)
      · refine ga_tableIn (off := 84) ok 113 (by decide) (by decide) (by decide) (by decide) dX4_account_29 ?_
        refine ga_aload_n ok 0 rfl rfl dX4_account_113 ?_
        refine ga_iconst ok dX4_account_114 ?_
        refine gd_X4_1 ok hG rfl lk_X4_242 rfl (c_X4_ofAll ok.fl hG hz hT (k := 3) (by omega)) (by rw [hR]; exact ⟨by decide, by decide, by decide, by decide⟩) (Nat.le_of_ble_eq_true rfl) dX4_account_115 ?_
        exact ga_ireturn ok en rfl rfl (by decide) (by decide) dX4_account_118 (by
  have hk : (if decide (0 ≤ (5 : Int) ∧ (5 : Int) ≤ 8) = true then (0 : Int) else 1) = 0 := by simp only [decide_eq_true_eq]; first | (rw [if_pos (by omega)]; done) | (rw [if_neg (by omega)]; done)
  rw [hk]
  exact ⟨_, rfl, fun _ => rfl, rfl⟩)
      · refine ga_tableIn (off := 90) ok 119 (by decide) (by decide) (by decide) (by decide) dX4_account_29 ?_
        refine ga_aload_n ok 0 rfl rfl dX4_account_119 ?_
        refine ga_iconst ok dX4_account_120 ?_
        refine gd_X4_1 ok hG rfl lk_X4_242 rfl (c_X4_ofAll ok.fl hG hz hT (k := -1) (by omega)) (by rw [hR]; exact ⟨by decide, by decide, by decide, by decide⟩) (Nat.le_of_ble_eq_true rfl) dX4_account_121 ?_
        exact ga_ireturn ok en rfl rfl (by decide) (by decide) dX4_account_124 (by
  have hk : (if decide (0 ≤ (6 : Int) ∧ (6 : Int) ≤ 8) = true then (0 : Int) else 1) = 0 := by simp only [decide_eq_true_eq]; first | (rw [if_pos (by omega)]; done) | (rw [if_neg (by omega)]; done)
  rw [hk]
  exact ⟨_, rfl, fun _ => rfl, rfl⟩)
      · refine ga_tableIn (off := 96) ok 125 (by decide) (by decide) (by decide) (by decide) dX4_account_29 ?_
        refine ga_aload_n ok 0 rfl rfl dX4_account_125 ?_
        refine gf_X4_207 ok hG rfl dX4_account_126 ?_
        exact ga_ireturn ok en rfl rfl (by decide) (by decide) dX4_account_129 (by
  have hk : (if decide (0 ≤ (7 : Int) ∧ (7 : Int) ≤ 8) = true then (0 : Int) else 1) = 0 := by simp only [decide_eq_true_eq]; first | (rw [if_pos (by omega)]; done) | (rw [if_neg (by omega)]; done)
  rw [hk]
  exact ⟨_, rfl, fun _ => by rw [upI_no (by omega)]; rfl, rfl⟩)
      · refine ga_tableOut ok 130 (by omega) (by omega) (by decide) dX4_account_29 ?_
        refine ga_aload_n ok 0 rfl rfl dX4_account_130 ?_
        refine gf_X4_48 ok hG rfl dX4_account_131 ?_
        exact ga_ireturn ok en rfl rfl (by decide) (by decide) dX4_account_134 (by
  have hk : (if decide (0 ≤ what ∧ what ≤ 8) = true then (0 : Int) else 1) = 0 := by simp only [decide_eq_true_eq]; first | (rw [if_pos (by omega)]; done) | (rw [if_neg (by omega)]; done)
  rw [hk]
  exact ⟨_, rfl, fun _ => by rw [upI_no (by omega), if_neg (by omega), if_neg (by omega), if_neg (by omega), if_neg (by omega), if_neg (by omega), if_neg (by omega), if_neg (by omega), if_neg (by omega)], rfl⟩)
    · exact absurd c_23 (by omega)
set_option maxHeartbeats 4000000 in
set_option maxRecDepth 100000 in
theorem c_X4_errorPosition {G : GG} {l : Launch} (hfl : l.stackTraces = false) (hG : MW G) {m : Mm}  : CT G l yX4_errorPosition cX4_errorPosition 1 (some .int) (RM 0 0 0) [.ref 1024] m (fun r' m' => r' = some (vI (m.1 1024 17)) ∧ m' = thM m 0) (fun _ _ => False) := by
  refine CT.of RX4 [(0, .ref 1024)] hfl (by decide +kernel) rfl rfl (Nat.le_of_ble_eq_true rfl) ?_
  intro E ok en hml hEl htab
  have hR : e_R E = RM 0 0 0 := en.2.2.2
  have hn0 : 0 < (e_c E).maxLocals := by rw [hml]; decide
  refine ga_aload_n ok 0 rfl rfl dX4_errorPosition_0 ?_
  refine ga_iconst ok dX4_errorPosition_1 ?_
  refine gp_X4_39 ok hG rfl dX4_errorPosition_2 ?_
  refine ga_aload_n ok 0 rfl rfl dX4_errorPosition_5 ?_
  refine gf_X4_32 ok hG rfl dX4_errorPosition_6 ?_
  exact ga_ireturn ok en rfl rfl (by decide) (by decide) dX4_errorPosition_9 ⟨by rw [upI_no (by omega)], rfl⟩
set_option maxHeartbeats 4000000 in
set_option maxRecDepth 100000 in
theorem c_X4_isWell {G : GG} {l : Launch} (hfl : l.stackTraces = false) (hG : MW G) {m : Mm}  : CT G l yX4_isWell cX4_isWell 1 (some .boolean) (RM 0 0 0) [.ref 1024] m (fun r' m' => r' = some (vI 1) ∧ m' = thM m 0) (fun _ _ => False) := by
  refine CT.of RX4 [(0, .ref 1024)] hfl (by decide +kernel) rfl rfl (Nat.le_of_ble_eq_true rfl) ?_
  intro E ok en hml hEl htab
  have hR : e_R E = RM 0 0 0 := en.2.2.2
  have hn0 : 0 < (e_c E).maxLocals := by rw [hml]; decide
  refine ga_aload_n ok 0 rfl rfl dX4_isWell_0 ?_
  refine ga_iconst ok dX4_isWell_1 ?_
  refine gp_X4_39 ok hG rfl dX4_isWell_2 ?_
  refine ga_iconst ok dX4_isWell_5 ?_
  exact ga_ireturn ok en rfl (by decide) (by decide) (by decide) dX4_isWell_6 ⟨rfl, rfl⟩
set_option maxHeartbeats 4000000 in
set_option maxRecDepth 100000 in
theorem c_X4_refusal {G : GG} {l : Launch} (hfl : l.stackTraces = false) (hG : MW G) {m : Mm} (hrs : -2147483648 ≤ m.1 1024 7 ∧ m.1 1024 7 ≤ 2147483647) {f : Int} (hf : f = 0 ∨ f = 1) : CT G l yX4_refusal cX4_refusal 2 (some .int) (RM 8 0 0) [.ref 1024, vI f] m (fun r' m' => ∃ v9, r' = some (vI v9) ∧ ((if m.1 1024 7 = 0 then (1 : Int) else 0) = 0 → v9 = (if f = 1 then m.1 1024 8 else m.1 1024 7)) ∧ m' = thM m ((if m.1 1024 7 = 0 then (1 : Int) else 0))) (fun _ _ => False) := by
  refine CT.of RX4 [(0, .ref 1024), (1, vI f)] hfl (by decide +kernel) rfl rfl (Nat.le_of_ble_eq_true rfl) ?_
  intro E ok en hml hEl htab
  have hR : e_R E = RM 8 0 0 := en.2.2.2
  have hn0 : 0 < (e_c E).maxLocals := by rw [hml]; decide
  have hn1 : 1 < (e_c E).maxLocals := by rw [hml]; decide
  refine ga_aload_n ok 0 rfl rfl dX4_refusal_0 ?_
  refine ga_aload_n ok 0 rfl rfl dX4_refusal_1 ?_
  refine gf_X4_55 ok hG rfl dX4_refusal_2 ?_
  refine ga_if_ne ok 12 (by decide) hrs dX4_refusal_5 (fun c_5 => ?_) (fun c_5 => ?_)
  · refine ga_iconst ok dX4_refusal_12 ?_
    refine gp_X4_39 ok hG rfl dX4_refusal_13 ?_
    refine ga_aload_n ok 0 rfl rfl dX4_refusal_16 ?_
    refine gf_X4_39 ok hG rfl dX4_refusal_17 ?_
    rw [upI_at]
    refine ga_if_le ok 27 (by decide) (by omega) dX4_refusal_20 (fun c_20 => ?_) (fun c_20 => ?_)
    · refine ga_iload_n ok 1 rfl rfl dX4_refusal_27 ?_
      refine ga_if_eq ok 38 (by decide) (by omega) dX4_refusal_28 (fun c_28 => ?_) (fun c_28 => ?_)
      · refine ga_aload_n ok 0 rfl rfl dX4_refusal_38 ?_
        refine gf_X4_55 ok hG rfl dX4_refusal_39 ?_
        exact ga_ireturn ok en rfl rfl (by decide) (by decide) dX4_refusal_42 (by first | (exfalso; omega) | (have hk : (if m.1 1024 7 = 0 then (1 : Int) else 0) = 0 := (by first | (rw [if_pos (by first | exact c_5 | omega)]; done) | (rw [if_neg (by first | exact c_5 | omega)]; done)); rw [hk]; exact ⟨_, rfl, fun _ => by rw [upI_no (by omega)]; first | rw [if_pos (by omega)] | rw [if_neg (by omega)], rfl⟩))
      · refine ga_aload_n ok 0 rfl rfl dX4_refusal_31 ?_
        refine gf_X4_58 ok hG rfl dX4_refusal_32 ?_
        refine ga_goto ok 42 (by decide) dX4_refusal_35 ?_
        exact ga_ireturn ok en rfl rfl (by decide) (by decide) dX4_refusal_42 (by first | (exfalso; omega) | (have hk : (if m.1 1024 7 = 0 then (1 : Int) else 0) = 0 := (by first | (rw [if_pos (by first | exact c_5 | omega)]; done) | (rw [if_neg (by first | exact c_5 | omega)]; done)); rw [hk]; exact ⟨_, rfl, fun _ => by rw [upI_no (by omega)]; first | rw [if_pos (by omega)] | rw [if_neg (by omega)], rfl⟩))
    · exact absurd c_20 (by omega)
  · refine ga_iconst ok dX4_refusal_8 ?_
    refine ga_goto ok 13 (by decide) dX4_refusal_9 ?_
    refine gp_X4_39 ok hG rfl dX4_refusal_13 ?_
    refine ga_aload_n ok 0 rfl rfl dX4_refusal_16 ?_
    refine gf_X4_39 ok hG rfl dX4_refusal_17 ?_
    rw [upI_at]
    refine ga_if_le ok 27 (by decide) (by omega) dX4_refusal_20 (fun c_20 => ?_) (fun c_20 => ?_)
    · exact absurd c_20 (by omega)
    · refine ga_iconst ok dX4_refusal_23 ?_
      refine ga_goto ok 42 (by decide) dX4_refusal_24 ?_
      exact ga_ireturn ok en rfl rfl (by decide) (by decide) dX4_refusal_42 (by first | (exfalso; omega) | (have hk : (if m.1 1024 7 = 0 then (1 : Int) else 0) = 1 := (by first | (rw [if_pos (by first | exact c_5 | omega)]; done) | (rw [if_neg (by first | exact c_5 | omega)]; done)); rw [hk]; exact ⟨_, rfl, fun h => absurd h (by decide), rfl⟩))
