/-! THE MODEL: PLACES, SUMS -/
set_option maxHeartbeats 4000000 in
set_option maxRecDepth 100000 in
theorem c_X4_isAhead {G : GG} {l : Launch} (hfl : l.stackTraces = false) (hG : MW G) {m : Mm} {r : Nat → Int} {T : Int} (hs : SR m r) (hT : gtOk T r) (hTT : T ≤ 1000000000) {a b : Int} (qa9 : 0 ≤ a ∧ a < r 0) (qb9 : 0 ≤ b ∧ b < r 0) : CT G l yX4_isAhead cX4_isAhead 4 (some .boolean) (RM 7 0 0) [.ref 1024, vI a, vI b] m (fun r' m' => r' = some (vI (b2i (ahB r a.toNat b.toNat))) ∧ m' = m) (fun _ _ => False) := by
  refine CT.of RX4 [(0, .ref 1024), (1, vI a), (2, vI b)] hfl (by decide +kernel) rfl rfl (Nat.le_of_ble_eq_true rfl) ?_
  intro E ok en hml hEl htab
  have hR : e_R E = RM 7 0 0 := en.2.2.2
  have hn0 : 0 < (e_c E).maxLocals := by rw [hml]; decide
  have hn1 : 1 < (e_c E).maxLocals := by rw [hml]; decide
  have hn2 : 2 < (e_c E).maxLocals := by rw [hml]; decide
  have hn3 : 3 < (e_c E).maxLocals := by rw [hml]; decide
  obtain ⟨b0, b1, hvb, hgb⟩ := id hT
  have s0 := hs 0 (by omega)
  have s1 := hs 1 (by omega)
  refine ga_aload_n ok 0 rfl rfl dX4_isAhead_0 ?_
  refine ga_iload_n ok 2 rfl rfl dX4_isAhead_1 ?_
  refine gd_X4_1 ok hG rfl lk_X4_143 rfl (c_X4_errors ok.fl hG hs hT (g := b) qb9) (by rw [hR]; exact ⟨by decide, by decide, by decide, by decide⟩) (Nat.le_of_ble_eq_true rfl) dX4_isAhead_2 ?_
  refine ga_aload_n ok 0 rfl rfl dX4_isAhead_5 ?_
  refine ga_iload_n ok 1 rfl rfl dX4_isAhead_6 ?_
  refine gd_X4_1 ok hG rfl lk_X4_143 rfl (c_X4_errors ok.fl hG hs hT (g := a) qa9) (by rw [hR]; exact ⟨by decide, by decide, by decide, by decide⟩) (Nat.le_of_ble_eq_true rfl) dX4_isAhead_7 ?_
  have hm : ∀ q : Nat, 0 ≤ ofG r q ∧ ofG r q ≤ 12 := fun q => by
    have := zs_bd1 (f := fun v => erB r q v) (r 1).toNat
    unfold ofG
    omega
  have m1 := hm a.toNat
  have m2 := hm b.toNat
  have p1 := (hgb a.toNat (by omega)).2.2.1 3 (by omega) (by omega)
  have p2 := (hgb b.toNat (by omega)).2.2.1 3 (by omega) (by omega)
  refine ga_isub ok dX4_isAhead_10 ?_
  refine ga_istore_n ok 3 rfl hn3 dX4_isAhead_11 ?_
  refine ga_iload_n ok 3 rfl rfl dX4_isAhead_12 ?_
  refine ga_if_eq ok 20 (by decide) (by omega) dX4_isAhead_13 (fun c_13 => ?_) (fun c_13 => ?_)
  · refine ga_aload_n ok 0 rfl rfl dX4_isAhead_20 ?_
    refine gf_X4_9 ok hG rfl dX4_isAhead_21 ?_
    refine ga_iload_n ok 2 rfl rfl dX4_isAhead_24 ?_
    refine ga_iconst ok dX4_isAhead_25 ?_
    refine gd_S_2 ok lk_X4_73 (c_X4_at ok.fl hG (g := b) (k := 3) (by omega) (by omega)) (by rw [hR]; exact ⟨by decide, by decide, by decide, by decide⟩) (Nat.le_of_ble_eq_true rfl) dX4_isAhead_26 ?_
    refine ga_iaload_ia ok (ar_ms hG rfl) (by omega) dX4_isAhead_29 ?_
    rw [show (26 + 27 * b + 3).toNat = 26 + 27 * b.toNat + 3 by omega, hs.g (by omega) (by omega)]
    refine ga_aload_n ok 0 rfl rfl dX4_isAhead_30 ?_
    refine gf_X4_9 ok hG rfl dX4_isAhead_31 ?_
    refine ga_iload_n ok 1 rfl rfl dX4_isAhead_34 ?_
    refine ga_iconst ok dX4_isAhead_35 ?_
    refine gd_S_2 ok lk_X4_73 (c_X4_at ok.fl hG (g := a) (k := 3) (by omega) (by omega)) (by rw [hR]; exact ⟨by decide, by decide, by decide, by decide⟩) (Nat.le_of_ble_eq_true rfl) dX4_isAhead_36 ?_
    refine ga_iaload_ia ok (ar_ms hG rfl) (by omega) dX4_isAhead_39 ?_
    rw [show (26 + 27 * a + 3).toNat = 26 + 27 * a.toNat + 3 by omega, hs.g (by omega) (by omega)]
    refine ga_isub ok dX4_isAhead_40 ?_
    refine ga_istore_n ok 3 rfl hn3 dX4_isAhead_41 ?_
    refine ga_iload_n ok 3 rfl rfl dX4_isAhead_42 ?_
    refine ga_if_gt ok 55 (by decide) (by omega) dX4_isAhead_43 (fun c_43 => ?_) (fun c_43 => ?_)
    · refine ga_iconst ok dX4_isAhead_55 ?_
      refine ga_goto ok 60 (by decide) dX4_isAhead_56 ?_
      exact ga_ireturn ok en rfl (by decide) (by decide) (by decide) dX4_isAhead_60 ⟨by first | (exfalso; omega) | (unfold ahB; (first | rw [decide_eq_true (by omega)] | rw [decide_eq_false (by omega)]); rfl), rfl⟩
    · refine ga_iload_n ok 3 rfl rfl dX4_isAhead_46 ?_
      refine ga_if_ne ok 59 (by decide) (by omega) dX4_isAhead_47 (fun c_47 => ?_) (fun c_47 => ?_)
      · refine ga_iconst ok dX4_isAhead_59 ?_
        exact ga_ireturn ok en rfl (by decide) (by decide) (by decide) dX4_isAhead_60 ⟨by first | (exfalso; omega) | (unfold ahB; (first | rw [decide_eq_true (by omega)] | rw [decide_eq_false (by omega)]); rfl), rfl⟩
      · refine ga_iload_n ok 1 rfl rfl dX4_isAhead_50 ?_
        refine ga_iload_n ok 2 rfl rfl dX4_isAhead_51 ?_
        refine ga_icmp_ge ok 59 (by decide) (by omega) (by omega) dX4_isAhead_52 (fun c_52 => ?_) (fun c_52 => ?_)
        · refine ga_iconst ok dX4_isAhead_59 ?_
          exact ga_ireturn ok en rfl (by decide) (by decide) (by decide) dX4_isAhead_60 ⟨by first | (exfalso; omega) | (unfold ahB; (first | rw [decide_eq_true (by omega)] | rw [decide_eq_false (by omega)]); rfl), rfl⟩
        · refine ga_iconst ok dX4_isAhead_55 ?_
          refine ga_goto ok 60 (by decide) dX4_isAhead_56 ?_
          exact ga_ireturn ok en rfl (by decide) (by decide) (by decide) dX4_isAhead_60 ⟨by first | (exfalso; omega) | (unfold ahB; (first | rw [decide_eq_true (by omega)] | rw [decide_eq_false (by omega)]); rfl), rfl⟩
  · refine ga_iload_n ok 3 rfl rfl dX4_isAhead_16 ?_
    refine ga_goto ok 41 (by decide) dX4_isAhead_17 ?_
    refine ga_istore_n ok 3 rfl hn3 dX4_isAhead_41 ?_
    refine ga_iload_n ok 3 rfl rfl dX4_isAhead_42 ?_
    refine ga_if_gt ok 55 (by decide) (by omega) dX4_isAhead_43 (fun c_43 => ?_) (fun c_43 => ?_)
    · refine ga_iconst ok dX4_isAhead_55 ?_
      refine ga_goto ok 60 (by decide) dX4_isAhead_56 ?_
      exact ga_ireturn ok en rfl (by decide) (by decide) (by decide) dX4_isAhead_60 ⟨by first | (exfalso; omega) | (unfold ahB; (first | rw [decide_eq_true (by omega)] | rw [decide_eq_false (by omega)]); rfl), rfl⟩
    · refine ga_iload_n ok 3 rfl rfl dX4_isAhead_46 ?_
      refine ga_if_ne ok 59 (by decide) (by omega) dX4_isAhead_47 (fun c_47 => ?_) (fun c_47 => ?_)
      · refine ga_iconst ok dX4_isAhead_59 ?_
        exact ga_ireturn ok en rfl (by decide) (by decide) (by decide) dX4_isAhead_60 ⟨by first | (exfalso; omega) | (unfold ahB; (first | rw [decide_eq_true (by omega)] | rw [decide_eq_false (by omega)]); rfl), rfl⟩
      · refine ga_iload_n ok 1 rfl rfl dX4_isAhead_50 ?_
        refine ga_iload_n ok 2 rfl rfl dX4_isAhead_51 ?_
        refine ga_icmp_ge ok 59 (by decide) (by omega) (by omega) dX4_isAhead_52 (fun c_52 => ?_) (fun c_52 => ?_)
        · refine ga_iconst ok dX4_isAhead_59 ?_
          exact ga_ireturn ok en rfl (by decide) (by decide) (by decide) dX4_isAhead_60 ⟨by first | (exfalso; omega) | (unfold ahB; (first | rw [decide_eq_true (by omega)] | rw [decide_eq_false (by omega)]); rfl), rfl⟩
        · refine ga_iconst ok dX4_isAhead_55 ?_
          refine ga_goto ok 60 (by decide) dX4_isAhead_56 ?_
          exact ga_ireturn ok en rfl (by decide) (by decide) (by decide) dX4_isAhead_60 ⟨by first | (exfalso; omega) | (unfold ahB; (first | rw [decide_eq_true (by omega)] | rw [decide_eq_false (by omega)]); rfl), rfl⟩
set_option maxHeartbeats 4000000 in
set_option maxRecDepth 100000 in
theorem c_X4_ranked {G : GG} {l : Launch} (hfl : l.stackTraces = false) (hG : MW G) {m : Mm} {r : Nat → Int} {T : Int} (hs : SR m r) (hT : gtOk T r) (hTT : T ≤ 1000000000) {p : Int} (hpR : -2147483648 ≤ p ∧ p ≤ 2147483647) : CT G l yX4_ranked cX4_ranked 6 (some .int) (RM 9 0 0) [.ref 1024, vI p] m (fun r' m' => ∃ v9, r' = some (vI v9) ∧ ((if isG r p = true then (0 : Int) else 1) = 0 → v9 = lfd (fun g => aheadOf r g) p (r 0).toNat) ∧ m' = thM m ((if isG r p = true then (0 : Int) else 1))) (fun _ _ => False) := by
  refine CT.of RX4 [(0, .ref 1024), (1, vI p)] hfl (by decide +kernel) rfl rfl (Nat.le_of_ble_eq_true rfl) ?_
  intro E ok en hml hEl htab
  have hR : e_R E = RM 9 0 0 := en.2.2.2
  have hn0 : 0 < (e_c E).maxLocals := by rw [hml]; decide
  have hn1 : 1 < (e_c E).maxLocals := by rw [hml]; decide
  have hn2 : 2 < (e_c E).maxLocals := by rw [hml]; decide
  have hn3 : 3 < (e_c E).maxLocals := by rw [hml]; decide
  have hn4 : 4 < (e_c E).maxLocals := by rw [hml]; decide
  have hn5 : 5 < (e_c E).maxLocals := by rw [hml]; decide
  obtain ⟨b0, b1, hvb, hgb⟩ := id hT
  have s0 := hs 0 (by omega)
  have s1 := hs 1 (by omega)
  refine ga_aload_n ok 0 rfl rfl dX4_ranked_0 ?_
  refine ga_aload_n ok 0 rfl rfl dX4_ranked_1 ?_
  refine ga_iload_n ok 1 rfl rfl dX4_ranked_2 ?_
  refine gd_X4_1 ok hG rfl lk_X4_86 rfl (c_X4_isGuard ok.fl hG hs hT hpR) (by rw [hR]; exact ⟨by decide, by decide, by decide, by decide⟩) (Nat.le_of_ble_eq_true rfl) dX4_ranked_3 ?_
  refine ga_if_eq ok 13 (by decide) (b2i_rng _) dX4_ranked_6 (fun c_6 => ?_) (fun c_6 => ?_)
  · have f_6 := of_decide_eq_false (b2i_0.mp c_6)
    refine ga_iconst ok dX4_ranked_13 ?_
    refine gp_X4_39 ok hG rfl dX4_ranked_14 ?_
    refine ga_iconst ok dX4_ranked_17 ?_
    refine ga_istore_n ok 2 rfl hn2 dX4_ranked_18 ?_
    refine ga_iconst ok dX4_ranked_19 ?_
    refine ga_istore_n ok 3 rfl hn3 dX4_ranked_20 ?_
    refine ga_iload_n ok 3 rfl rfl dX4_ranked_21 ?_
    refine ga_aload_n ok 0 rfl rfl dX4_ranked_22 ?_
    refine gf_X4_9 ok hG rfl dX4_ranked_23 ?_
    refine ga_iconst ok dX4_ranked_26 ?_
    refine ga_iaload_ia ok (ar_ms hG rfl) (by omega) dX4_ranked_27 ?_
    try rw [upI_r (by omega)]
    rw [show (m.1 1088 (0 : Int).toNat) = r 0 from s0]
    refine ga_icmp_ge ok 99 (by decide) (by omega) (by omega) dX4_ranked_28 (fun c_28 => ?_) (fun c_28 => ?_)
    · refine ga_iload_n ok 2 rfl rfl dX4_ranked_99 ?_
      exact ga_ireturn ok en rfl rfl (by decide) (by decide) dX4_ranked_100 (by first | (exfalso; omega) | (have hk : (if isG r p = true then (0 : Int) else 1) = 1 := (by unfold isG; simp only [decide_eq_true_eq]; first | (rw [if_pos (by omega)]; done) | (rw [if_neg (by omega)]; done)); rw [hk]; exact ⟨_, rfl, fun h => absurd h (by decide), rfl⟩))
    · refine ga_aload_n ok 0 rfl rfl dX4_ranked_31 ?_
      refine gf_X4_39 ok hG rfl dX4_ranked_32 ?_
      rw [upI_at]
      refine ga_if_ne ok 99 (by decide) (by omega) dX4_ranked_35 (fun c_35 => ?_) (fun c_35 => ?_)
      · refine ga_iload_n ok 2 rfl rfl dX4_ranked_99 ?_
        exact ga_ireturn ok en rfl rfl (by decide) (by decide) dX4_ranked_100 (by first | (exfalso; omega) | (have hk : (if isG r p = true then (0 : Int) else 1) = 1 := (by unfold isG; simp only [decide_eq_true_eq]; first | (rw [if_pos (by omega)]; done) | (rw [if_neg (by omega)]; done)); rw [hk]; exact ⟨_, rfl, fun h => absurd h (by decide), rfl⟩))
      · exact absurd c_35 (by omega)
  · have f_6 := of_decide_eq_true (b2i_n0.mp c_6)
    refine ga_iconst ok dX4_ranked_9 ?_
    refine ga_goto ok 14 (by decide) dX4_ranked_10 ?_
    refine gp_X4_39 ok hG rfl dX4_ranked_14 ?_
    refine ga_iconst ok dX4_ranked_17 ?_
    refine ga_istore_n ok 2 rfl hn2 dX4_ranked_18 ?_
    refine ga_iconst ok dX4_ranked_19 ?_
    refine ga_istore_n ok 3 rfl hn3 dX4_ranked_20 ?_
    have hz : SR (upI m 1024 6 0) r := hs.t
    have loop : ∀ i : Int, 0 ≤ i ∧ i ≤ r 0 → WA G E 0 0 21 [(3, vI i), (2, vI (lfd (fun g => aheadOf r g) p i.toNat)), (0, .ref 1024), (1, vI p)] [] (upI m 1024 6 0) := by
      refine wl1 _ (fun i => (r 0 - i).toNat) _ ?_
      intro i hi ih
      refine ga_iload_n ok 3 rfl rfl dX4_ranked_21 ?_
      refine ga_aload_n ok 0 rfl rfl dX4_ranked_22 ?_
      refine gf_X4_9 ok hG rfl dX4_ranked_23 ?_
      refine ga_iconst ok dX4_ranked_26 ?_
      refine ga_iaload_ia ok (ar_ms hG rfl) (by omega) dX4_ranked_27 ?_
      try rw [upI_r (by omega)]
      rw [show (m.1 1088 (0 : Int).toNat) = r 0 from s0]
      refine ga_icmp_ge ok 99 (by decide) (by omega) (by omega) dX4_ranked_28 (fun c_28 => ?_) (fun c_28 => ?_)
      · refine ga_iload_n ok 2 rfl rfl dX4_ranked_99 ?_
        exact ga_ireturn ok en rfl rfl (by decide) (by decide) dX4_ranked_100 (by
      have hk : (if isG r p = true then (0 : Int) else 1) = 0 := by unfold isG; simp only [decide_eq_true_eq]; first | (rw [if_pos (by omega)]; done) | (rw [if_neg (by omega)]; done)
      rw [hk]
      exact ⟨_, rfl, fun _ => by rw [show i = r 0 by omega], rfl⟩)
      · refine ga_aload_n ok 0 rfl rfl dX4_ranked_31 ?_
        refine gf_X4_39 ok hG rfl dX4_ranked_32 ?_
        rw [upI_at]
        refine ga_if_ne ok 99 (by decide) (by omega) dX4_ranked_35 (fun c_35 => ?_) (fun c_35 => ?_)
        · exact absurd rfl c_35
        · refine ga_iconst ok dX4_ranked_38 ?_
          refine ga_istore ok hn4 dX4_ranked_39 ?_
          refine ga_iconst ok dX4_ranked_41 ?_
          refine ga_istore ok hn5 dX4_ranked_42 ?_
          have inner : ∀ j : Int, 0 ≤ j ∧ j ≤ r 0 → WA G E 0 0 44 [(5, vI j), (4, vI (zs (fun o => b2i (ahB r o i.toNat)) j.toNat)), (3, vI i), (2, vI (lfd (fun g => aheadOf r g) p i.toNat)), (0, .ref 1024), (1, vI p)] [] (upI m 1024 6 0) := by
            refine wl1 _ (fun j => (r 0 - j).toNat) _ ?_
            intro j hj jh
            have e9 := zs_n (f := fun o => b2i (ahB r o i.toNat)) hj.1
            refine ga_iload ok rfl dX4_ranked_44 ?_
            refine ga_aload_n ok 0 rfl rfl dX4_ranked_46 ?_
            refine gf_X4_9 ok hG rfl dX4_ranked_47 ?_
            refine ga_iconst ok dX4_ranked_50 ?_
            refine ga_iaload_ia ok (ar_ms hG rfl) (by omega) dX4_ranked_51 ?_
            try rw [upI_r (by omega)]
            rw [show (m.1 1088 (0 : Int).toNat) = r 0 from s0]
            refine ga_icmp_ge ok 81 (by decide) (by omega) (by omega) dX4_ranked_52 (fun c_52 => ?_) (fun c_52 => ?_)
            · have hj0 : j = r 0 := by omega
              refine ga_iload ok rfl dX4_ranked_81 ?_
              refine ga_iload_n ok 1 rfl rfl dX4_ranked_83 ?_
              refine ga_icmp_ne ok 91 (by decide) (by have := zs_bd1 (f := fun o => ahB r o i.toNat) j.toNat; omega) (by omega) dX4_ranked_84 (fun c_84 => ?_) (fun c_84 => ?_)
              · refine ga_iload_n ok 2 rfl rfl dX4_ranked_91 ?_
                refine ga_istore_n ok 2 rfl hn2 dX4_ranked_92 ?_
                refine ga_iinc ok rfl hn3 dX4_ranked_93 ?_
                refine ga_goto ok 21 (by decide) dX4_ranked_96 ?_
                have e8 : lfd (fun g => aheadOf r g) p (i + 1).toNat = lfd (fun g => aheadOf r g) p i.toNat := by rw [show (i + 1).toNat = i.toNat + 1 by omega]; simp only [lfd]; rw [if_neg (by unfold aheadOf; rw [hj0] at c_84; exact c_84)]
                exact WA.re (by exact ⟨rfl, (by rw [e8]; rfl), rfl, rfl, trivial⟩) (ih (i + 1) (by omega) (by omega))
              · refine ga_iload_n ok 3 rfl rfl dX4_ranked_87 ?_
                refine ga_goto ok 92 (by decide) dX4_ranked_88 ?_
                refine ga_istore_n ok 2 rfl hn2 dX4_ranked_92 ?_
                refine ga_iinc ok rfl hn3 dX4_ranked_93 ?_
                refine ga_goto ok 21 (by decide) dX4_ranked_96 ?_
                have e8 : lfd (fun g => aheadOf r g) p (i + 1).toNat = i := by rw [show (i + 1).toNat = i.toNat + 1 by omega]; simp only [lfd]; rw [if_pos (by unfold aheadOf; rw [hj0] at c_84; exact c_84)]; omega
                exact WA.re (by exact ⟨rfl, (by rw [e8]; rfl), rfl, rfl, trivial⟩) (ih (i + 1) (by omega) (by omega))
            · refine ga_iload ok rfl dX4_ranked_55 ?_
              refine ga_aload_n ok 0 rfl rfl dX4_ranked_57 ?_
              refine ga_iload ok rfl dX4_ranked_58 ?_
              refine ga_iload_n ok 3 rfl rfl dX4_ranked_60 ?_
              refine gd_X4_2 ok hG rfl lk_X4_193 rfl (c_X4_isAhead ok.fl hG hz hT hTT (a := j) (b := i) (by omega) (by omega)) (by rw [hR]; exact ⟨by decide, by decide, by decide, by decide⟩) (Nat.le_of_ble_eq_true rfl) dX4_ranked_61 ?_
              refine ga_if_eq ok 71 (by decide) (b2i_rng _) dX4_ranked_64 (fun c_64 => ?_) (fun c_64 => ?_)
              · have f_64 := b2i_0.mp c_64
                have hf : (fun o => b2i (ahB r o i.toNat)) j.toNat = 0 := b2i_0.mpr f_64
                try dsimp only at hf
                rw [hf] at e9
                refine ga_iconst ok dX4_ranked_71 ?_
                refine ga_iadd ok dX4_ranked_72 ?_
                refine ga_istore ok hn4 dX4_ranked_73 ?_
                refine ga_iinc ok rfl hn5 dX4_ranked_75 ?_
                refine ga_goto ok 44 (by decide) dX4_ranked_78 ?_
                exact WA.re (by exact ⟨rfl, (by rw [e9]; rfl), rfl, rfl, rfl, rfl, trivial⟩) (jh (j + 1) (by omega) (by omega))
              · have f_64 := b2i_n0.mp c_64
                have hf : (fun o => b2i (ahB r o i.toNat)) j.toNat = 1 := b2i_1.mpr f_64
                try dsimp only at hf
                rw [hf] at e9
                refine ga_iconst ok dX4_ranked_67 ?_
                refine ga_goto ok 72 (by decide) dX4_ranked_68 ?_
                refine ga_iadd ok dX4_ranked_72 ?_
                refine ga_istore ok hn4 dX4_ranked_73 ?_
                refine ga_iinc ok rfl hn5 dX4_ranked_75 ?_
                refine ga_goto ok 44 (by decide) dX4_ranked_78 ?_
                exact WA.re (by exact ⟨rfl, (by rw [e9]; rfl), rfl, rfl, rfl, rfl, trivial⟩) (jh (j + 1) (by omega) (by omega))
          exact WA.re (by exact ⟨rfl, rfl, rfl, rfl, rfl, rfl, trivial⟩) (inner 0 (by omega))
    exact WA.re (by exact ⟨rfl, rfl, rfl, rfl, trivial⟩) (loop 0 (by omega))
set_option maxHeartbeats 4000000 in
set_option maxRecDepth 100000 in
theorem c_X4_strongest {G : GG} {l : Launch} (hfl : l.stackTraces = false) (hG : MW G) {m : Mm} {r : Nat → Int} {T : Int} (hs : SR m r) (hT : gtOk T r) {g : Int} (hgR : -2147483648 ≤ g ∧ g ≤ 2147483647) {p : Int} (hpR : -2147483648 ≤ p ∧ p ≤ 2147483647) : CT G l yX4_strongest cX4_strongest 8 (some .int) (RM 8 0 0) [.ref 1024, vI g, vI p] m (fun r' m' => ∃ v9, r' = some (vI v9) ∧ ((ask r g (decide (0 ≤ p ∧ p ≤ 9))) = 0 → v9 = lfd (fun b => ahd (gcn (rg r g.toNat)) b 10) p 10) ∧ m' = thM m ((ask r g (decide (0 ≤ p ∧ p ≤ 9))))) (fun _ _ => False) := by
  refine CT.of RX4 [(0, .ref 1024), (1, vI g), (2, vI p)] hfl (by decide +kernel) rfl rfl (Nat.le_of_ble_eq_true rfl) ?_
  intro E ok en hml hEl htab
  have hR : e_R E = RM 8 0 0 := en.2.2.2
  have hn0 : 0 < (e_c E).maxLocals := by rw [hml]; decide
  have hn1 : 1 < (e_c E).maxLocals := by rw [hml]; decide
  have hn2 : 2 < (e_c E).maxLocals := by rw [hml]; decide
  have hn3 : 3 < (e_c E).maxLocals := by rw [hml]; decide
  have hn4 : 4 < (e_c E).maxLocals := by rw [hml]; decide
  have hn5 : 5 < (e_c E).maxLocals := by rw [hml]; decide
  have hn6 : 6 < (e_c E).maxLocals := by rw [hml]; decide
  have hn7 : 7 < (e_c E).maxLocals := by rw [hml]; decide
  obtain ⟨b0, b1, hvb, hgb⟩ := id hT
  have s0 := hs 0 (by omega)
  have s1 := hs 1 (by omega)
  refine ga_aload_n ok 0 rfl rfl dX4_strongest_0 ?_
  refine ga_iload_n ok 1 rfl rfl dX4_strongest_1 ?_
  refine ga_iload_n ok 2 rfl rfl dX4_strongest_2 ?_
  refine ga_iconst ok dX4_strongest_3 ?_
  refine ga_bipush ok dX4_strongest_4 (by decide) ?_
  refine gd_S_3 ok lk_X4_61 (c_X4_in ok.fl hG (a := 0) (b := 9) hpR (by omega) (by omega)) (by rw [hR]; exact ⟨by decide, by decide, by decide, by decide⟩) (Nat.le_of_ble_eq_true rfl) dX4_strongest_6 ?_
  refine gd_X4_2 ok hG rfl lk_X4_146 rfl (c_X4_isAsked ok.fl hG hs hT hgR (b := (decide (0 ≤ p ∧ p ≤ 9)))) (by rw [hR]; exact ⟨by decide, by decide, by decide, by decide⟩) (Nat.le_of_ble_eq_true rfl) dX4_strongest_9 ?_
  refine ga_if_ne ok 17 (by decide) (b2i_rng _) dX4_strongest_12 (fun c_12 => ?_) (fun c_12 => ?_)
  · have hz9 := of_decide_eq_true (b2i_n0.mp c_12)
    have ha9 := ask_0.mp hz9
    have qg : 0 ≤ g ∧ g < r 0 := of_decide_eq_true ha9.1
    have qp : 0 ≤ p ∧ p ≤ 9 := of_decide_eq_true ha9.2
    refine ga_iconst ok dX4_strongest_17 ?_
    refine ga_istore_n ok 3 rfl hn3 dX4_strongest_18 ?_
    refine ga_iconst ok dX4_strongest_19 ?_
    refine ga_istore ok hn4 dX4_strongest_20 ?_
    have hc : cBd (gcn (rg r g.toNat)) := (hgb g.toNat (by omega)).2.2.2.1
    have loop : ∀ i : Int, 0 ≤ i ∧ i ≤ 10 → WA G E 0 0 22 [(4, vI i), (3, vI (lfd (fun b => ahd (gcn (rg r g.toNat)) b 10) p i.toNat)), (0, .ref 1024), (1, vI g), (2, vI p)] [] (thM m (ask r g (decide (0 ≤ p ∧ p ≤ 9)))) := by
      refine wl1 _ (fun i => (10 - i).toNat) _ ?_
      intro i hi ih
      refine ga_iload ok rfl dX4_strongest_22 ?_
      refine ga_bipush ok dX4_strongest_24 (by decide) ?_
      refine ga_icmp_ge ok 111 (by decide) (by omega) (by omega) dX4_strongest_26 (fun c_26 => ?_) (fun c_26 => ?_)
      · refine ga_iload_n ok 3 rfl rfl dX4_strongest_111 ?_
        exact ga_ireturn ok en rfl rfl (by decide) (by decide) dX4_strongest_112 ⟨_, rfl, fun _ => by rw [show i = 10 by omega]; rfl, rfl⟩
      · refine ga_iconst ok dX4_strongest_29 ?_
        refine ga_istore ok hn5 dX4_strongest_30 ?_
        refine ga_iconst ok dX4_strongest_32 ?_
        refine ga_istore ok hn6 dX4_strongest_33 ?_
        have inner : ∀ j : Int, 0 ≤ j ∧ j ≤ 10 → WA G E 0 0 35 [(6, vI j), (5, vI (ahd (gcn (rg r g.toNat)) i.toNat j.toNat)), (4, vI i), (3, vI (lfd (fun b => ahd (gcn (rg r g.toNat)) b 10) p i.toNat)), (0, .ref 1024), (1, vI g), (2, vI p)] [] (thM m (ask r g (decide (0 ≤ p ∧ p ≤ 9)))) := by
          refine wl1 _ (fun j => (10 - j).toNat) _ ?_
          intro j hj jh
          refine ga_iload ok rfl dX4_strongest_35 ?_
          refine ga_bipush ok dX4_strongest_37 (by decide) ?_
          refine ga_icmp_ge ok 92 (by decide) (by omega) (by omega) dX4_strongest_39 (fun c_39 => ?_) (fun c_39 => ?_)
          · have hj0 : j = 10 := by omega
            refine ga_iload ok rfl dX4_strongest_92 ?_
            refine ga_iload_n ok 2 rfl rfl dX4_strongest_94 ?_
            refine ga_icmp_ne ok 103 (by decide) (by have := ahd_bd (gcn (rg r g.toNat)) i.toNat j.toNat; omega) (by omega) dX4_strongest_95 (fun c_95 => ?_) (fun c_95 => ?_)
            · refine ga_iload_n ok 3 rfl rfl dX4_strongest_103 ?_
              refine ga_istore_n ok 3 rfl hn3 dX4_strongest_104 ?_
              refine ga_iinc ok rfl hn4 dX4_strongest_105 ?_
              refine ga_goto ok 22 (by decide) dX4_strongest_108 ?_
              have e8 : lfd (fun b => ahd (gcn (rg r g.toNat)) b 10) p (i + 1).toNat = lfd (fun b => ahd (gcn (rg r g.toNat)) b 10) p i.toNat := by rw [show (i + 1).toNat = i.toNat + 1 by omega]; simp only [lfd]; rw [if_neg (by rw [hj0] at c_95; exact c_95)]
              exact WA.re (by exact ⟨rfl, (by rw [e8]; rfl), rfl, rfl, rfl, trivial⟩) (ih (i + 1) (by omega) (by omega))
            · refine ga_iload ok rfl dX4_strongest_98 ?_
              refine ga_goto ok 104 (by decide) dX4_strongest_100 ?_
              refine ga_istore_n ok 3 rfl hn3 dX4_strongest_104 ?_
              refine ga_iinc ok rfl hn4 dX4_strongest_105 ?_
              refine ga_goto ok 22 (by decide) dX4_strongest_108 ?_
              have e8 : lfd (fun b => ahd (gcn (rg r g.toNat)) b 10) p (i + 1).toNat = i := by rw [show (i + 1).toNat = i.toNat + 1 by omega]; simp only [lfd]; rw [if_pos (by rw [hj0] at c_95; exact c_95)]; omega
              exact WA.re (by exact ⟨rfl, (by rw [e8]; rfl), rfl, rfl, rfl, trivial⟩) (ih (i + 1) (by omega) (by omega))
          · refine ga_aload_n ok 0 rfl rfl dX4_strongest_42 ?_
            refine ga_iload_n ok 1 rfl rfl dX4_strongest_43 ?_
            refine ga_iload ok rfl dX4_strongest_44 ?_
            refine gd_X4_2 ok hG rfl lk_X4_110 rfl (c_X4_countedOf ok.fl hG hs.t hT qg (b := j) (by omega)) (by rw [hR]; exact ⟨by decide, by decide, by decide, by decide⟩) (Nat.le_of_ble_eq_true rfl) dX4_strongest_46 ?_
            refine ga_aload_n ok 0 rfl rfl dX4_strongest_49 ?_
            refine ga_iload_n ok 1 rfl rfl dX4_strongest_50 ?_
            refine ga_iload ok rfl dX4_strongest_51 ?_
            refine gd_X4_2 ok hG rfl lk_X4_110 rfl (c_X4_countedOf ok.fl hG hs.t hT qg (b := i) (by omega)) (by rw [hR]; exact ⟨by decide, by decide, by decide, by decide⟩) (Nat.le_of_ble_eq_true rfl) dX4_strongest_53 ?_
            have ci := hc (i + 1).toNat (by omega)
            have cj := hc (j + 1).toNat (by omega)
            have e9 : ahd (gcn (rg r g.toNat)) i.toNat (j + 1).toNat = ahd (gcn (rg r g.toNat)) i.toNat j.toNat + b2i (decide (gcn (rg r g.toNat) (i.toNat + 1) < gcn (rg r g.toNat) (j.toNat + 1)) || (decide (gcn (rg r g.toNat) (j.toNat + 1) = gcn (rg r g.toNat) (i.toNat + 1)) && decide (j.toNat < i.toNat))) := by rw [show (j + 1).toNat = j.toNat + 1 by omega]; rfl
            rw [show (i + 1).toNat = i.toNat + 1 by omega] at ci ⊢
            rw [show (j + 1).toNat = j.toNat + 1 by omega] at cj ⊢
            refine ga_isub ok dX4_strongest_56 ?_
            refine ga_istore ok hn7 dX4_strongest_57 ?_
            refine ga_iload ok rfl dX4_strongest_59 ?_
            refine ga_iload ok rfl dX4_strongest_61 ?_
            refine ga_if_gt ok 78 (by decide) (by omega) dX4_strongest_63 (fun c_63 => ?_) (fun c_63 => ?_)
            · refine ga_iconst ok dX4_strongest_78 ?_
              refine ga_goto ok 83 (by decide) dX4_strongest_79 ?_
              refine ga_iadd ok dX4_strongest_83 ?_
              refine ga_istore ok hn5 dX4_strongest_84 ?_
              refine ga_iinc ok rfl hn6 dX4_strongest_86 ?_
              refine ga_goto ok 35 (by decide) dX4_strongest_89 ?_
              rw [decide_eq_true (by omega : gcn (rg r g.toNat) (i.toNat + 1) < gcn (rg r g.toNat) (j.toNat + 1)), Bool.true_or] at e9
              exact WA.re (by exact ⟨rfl, (by rw [e9]; rfl), rfl, rfl, rfl, rfl, rfl, trivial⟩) (jh (j + 1) (by omega) (by omega))
            · refine ga_iload ok rfl dX4_strongest_66 ?_
              refine ga_if_ne ok 82 (by decide) (by omega) dX4_strongest_68 (fun c_68 => ?_) (fun c_68 => ?_)
              · refine ga_iconst ok dX4_strongest_82 ?_
                refine ga_iadd ok dX4_strongest_83 ?_
                refine ga_istore ok hn5 dX4_strongest_84 ?_
                refine ga_iinc ok rfl hn6 dX4_strongest_86 ?_
                refine ga_goto ok 35 (by decide) dX4_strongest_89 ?_
                rw [decide_eq_false (by omega : ¬ gcn (rg r g.toNat) (i.toNat + 1) < gcn (rg r g.toNat) (j.toNat + 1)), decide_eq_false (by omega : ¬ gcn (rg r g.toNat) (j.toNat + 1) = gcn (rg r g.toNat) (i.toNat + 1)), Bool.false_and, Bool.false_or] at e9
                exact WA.re (by exact ⟨rfl, (by rw [e9]; rfl), rfl, rfl, rfl, rfl, rfl, trivial⟩) (jh (j + 1) (by omega) (by omega))
              · refine ga_iload ok rfl dX4_strongest_71 ?_
                refine ga_iload ok rfl dX4_strongest_73 ?_
                refine ga_icmp_ge ok 82 (by decide) (by omega) (by omega) dX4_strongest_75 (fun c_75 => ?_) (fun c_75 => ?_)
                · refine ga_iconst ok dX4_strongest_82 ?_
                  refine ga_iadd ok dX4_strongest_83 ?_
                  refine ga_istore ok hn5 dX4_strongest_84 ?_
                  refine ga_iinc ok rfl hn6 dX4_strongest_86 ?_
                  refine ga_goto ok 35 (by decide) dX4_strongest_89 ?_
                  rw [decide_eq_false (by omega : ¬ gcn (rg r g.toNat) (i.toNat + 1) < gcn (rg r g.toNat) (j.toNat + 1)), decide_eq_true (by omega : gcn (rg r g.toNat) (j.toNat + 1) = gcn (rg r g.toNat) (i.toNat + 1)), Bool.true_and, Bool.false_or, decide_eq_false (by omega)] at e9
                  exact WA.re (by exact ⟨rfl, (by rw [e9]; rfl), rfl, rfl, rfl, rfl, rfl, trivial⟩) (jh (j + 1) (by omega) (by omega))
                · refine ga_iconst ok dX4_strongest_78 ?_
                  refine ga_goto ok 83 (by decide) dX4_strongest_79 ?_
                  refine ga_iadd ok dX4_strongest_83 ?_
                  refine ga_istore ok hn5 dX4_strongest_84 ?_
                  refine ga_iinc ok rfl hn6 dX4_strongest_86 ?_
                  refine ga_goto ok 35 (by decide) dX4_strongest_89 ?_
                  rw [decide_eq_false (by omega : ¬ gcn (rg r g.toNat) (i.toNat + 1) < gcn (rg r g.toNat) (j.toNat + 1)), decide_eq_true (by omega : gcn (rg r g.toNat) (j.toNat + 1) = gcn (rg r g.toNat) (i.toNat + 1)), Bool.true_and, Bool.false_or, decide_eq_true (by omega)] at e9
                  exact WA.re (by exact ⟨rfl, (by rw [e9]; rfl), rfl, rfl, rfl, rfl, rfl, trivial⟩) (jh (j + 1) (by omega) (by omega))
        exact WA.re (by exact ⟨rfl, rfl, rfl, rfl, rfl, rfl, rfl, trivial⟩) (inner 0 (by omega))
    exact WA.re (by exact ⟨rfl, rfl, rfl, rfl, rfl, trivial⟩) (loop 0 (by omega))
  · refine ga_iconst ok dX4_strongest_15 ?_
    exact ga_ireturn ok en rfl rfl (by decide) (by decide) dX4_strongest_16 ⟨_, rfl, fun h => absurd h (of_decide_eq_false (b2i_0.mp c_12)), rfl⟩
