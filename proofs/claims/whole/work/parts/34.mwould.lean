/-! THE MODEL: WHEN ONE WOULD BE CALM -/
theorem dS_4 {S X F : Nat → Int} {n : Nat} : dS S X F n 4 = lpC S X F n := rfl
set_option maxHeartbeats 4000000 in
set_option maxRecDepth 100000 in
theorem c_X4_wouldCalm {G : GG} {l : Launch} (hfl : l.stackTraces = false) (hG : MW G) {m : Mm} {g : Gm} {T : Int} (hY : YIs m g) (hT : gtOk T g.r) {n : Int} (hnR : -2147483648 ≤ n ∧ n ≤ 2147483647) {most : Int} (hmostR : -2147483648 ≤ most ∧ most ≤ 2147483647) : CT G l yX4_wouldCalm cX4_wouldCalm 6 (some .int) (RM 12 0 0) [.ref 1024, vI n, vI most] m (fun r' m' => ∃ v9, r' = some (vI v9) ∧ ((sp_wouldCalm g n most).1 = 0 → v9 = (sp_wouldCalm g n most).2.1) ∧ YIs m' (sp_wouldCalm g n most).2.2 ∧ m'.1 1024 6 = (sp_wouldCalm g n most).1 ∧ YFr m m') (fun _ _ => False) := by
  refine CT.of RX4 [(0, .ref 1024), (1, vI n), (2, vI most)] hfl (by decide +kernel) rfl rfl (Nat.le_of_ble_eq_true rfl) ?_
  intro E ok en hml hEl htab
  have hR : e_R E = RM 12 0 0 := en.2.2.2
  have hn0 : 0 < (e_c E).maxLocals := by rw [hml]; decide
  have hn1 : 1 < (e_c E).maxLocals := by rw [hml]; decide
  have hn2 : 2 < (e_c E).maxLocals := by rw [hml]; decide
  have hn3 : 3 < (e_c E).maxLocals := by rw [hml]; decide
  have hn4 : 4 < (e_c E).maxLocals := by rw [hml]; decide
  have hn5 : 5 < (e_c E).maxLocals := by rw [hml]; decide
  have hs := hY.1
  obtain ⟨b0, b1, hvb, hgb⟩ := id hT
  have s0 := hs 0 (by omega)
  have s1 := hs 1 (by omega)
  refine ga_aload_n ok 0 rfl rfl dX4_wouldCalm_0 ?_
  refine ga_iload_n ok 1 rfl rfl dX4_wouldCalm_1 ?_
  refine ga_iload_n ok 2 rfl rfl dX4_wouldCalm_2 ?_
  refine ga_iconst ok dX4_wouldCalm_3 ?_
  refine ga_bipush ok dX4_wouldCalm_4 (by decide) ?_
  refine gd_S_3 ok lk_X4_61 (c_X4_in ok.fl hG (x := most) (a := 1) (b := 30) hmostR (by omega) (by omega)) (by rw [hR]; exact ⟨by decide, by decide, by decide, by decide⟩) (Nat.le_of_ble_eq_true rfl) dX4_wouldCalm_6 ?_
  refine gd_X4_2 ok hG rfl lk_X4_146 rfl (c_X4_isAsked ok.fl hG hs hT hnR (b := decide (1 ≤ most ∧ most ≤ 30))) (by rw [hR]; exact ⟨by decide, by decide, by decide, by decide⟩) (Nat.le_of_ble_eq_true rfl) dX4_wouldCalm_9 ?_
  refine ga_if_ne ok 17 (by decide) (b2i_rng _) dX4_wouldCalm_12 (fun c_12 => ?_) (fun c_12 => ?_)
  · have hz9 := of_decide_eq_true (b2i_n0.mp c_12)
    have ha9 := ask_0.mp hz9
    have qg : 0 ≤ n ∧ n < g.r 0 := of_decide_eq_true ha9.1
    have qm : 1 ≤ most ∧ most ≤ 30 := of_decide_eq_true ha9.2
    rw [hz9]
    refine ga_aload_n ok 0 rfl rfl dX4_wouldCalm_17 ?_
    refine gf_X4_9 ok hG rfl dX4_wouldCalm_18 ?_
    refine ga_iconst ok dX4_wouldCalm_21 ?_
    refine ga_aload_n ok 0 rfl rfl dX4_wouldCalm_22 ?_
    refine gf_X4_22 ok hG rfl dX4_wouldCalm_23 ?_
    refine ga_iconst ok dX4_wouldCalm_26 ?_
    refine ga_sipush ok dX4_wouldCalm_27 (by decide) ?_
    refine ga_copy_ia ok lc_X4_42 (ar_ms hG rfl) (ar_ma hG rfl) (by omega) (by omega) (by omega) (by omega) (by omega) (by rw [hR]; exact (by decide)) (by rw [hR]; exact Nat.le_of_ble_eq_true rfl) dX4_wouldCalm_30 ?_
    have hs0 : SR (cpI (thM m 0) 1088 1344 (0 : Int).toNat (0 : Int).toNat (134 : Int).toNat) g.r := (hs.t).c (by omega)
    have has : ∀ k, k < 134 → ((cpI (thM m 0) 1088 1344 (0 : Int).toNat (0 : Int).toNat (134 : Int).toNat)).1 1344 k = g.r k := fun k hk => by
      show (cpI (thM m 0) 1088 1344 0 0 134).1 1344 k = g.r k
      simp only [cpI]
      rw [if_pos ⟨trivial, by omega, by omega⟩, show 0 + (k - 0) = k by omega]
      exact (hs.t) k hk
    have hY0 : YI0 (cpI (thM m 0) 1088 1344 (0 : Int).toNat (0 : Int).toNat (134 : Int).toNat) g := (hY.2.u (i := 6) (v := 0) (by omega)).o (fun q hq => cpI_r (by omega))
    have hF0 : YFr m (cpI (thM m 0) 1088 1344 (0 : Int).toNat (0 : Int).toNat (134 : Int).toNat) := (YFr.rf.uI (by omega)).cI (by omega)
    generalize hm0 : (cpI (thM m 0) 1088 1344 (0 : Int).toNat (0 : Int).toNat (134 : Int).toNat) = m0 at hs0 has hY0 hF0 ⊢
    refine ga_iconst ok dX4_wouldCalm_33 ?_
    refine ga_istore_n ok 3 rfl hn3 dX4_wouldCalm_34 ?_
    refine ga_aload_n ok 0 rfl rfl dX4_wouldCalm_35 ?_
    refine gf_X4_9 ok hG rfl dX4_wouldCalm_36 ?_
    refine ga_iconst ok dX4_wouldCalm_39 ?_
    refine ga_iaload_ia ok (ar_ms hG rfl) (by omega) dX4_wouldCalm_40 ?_
    rw [show (m0.1 1088 (1 : Int).toNat) = g.r 1 from hs0 1 (by omega)]
    refine ga_if_ne ok 48 (by decide) (by omega) dX4_wouldCalm_41 (fun c_41 => ?_) (fun c_41 => ?_)
    · refine ga_iconst ok dX4_wouldCalm_48 ?_
      refine ga_istore ok hn4 dX4_wouldCalm_49 ?_
      refine ga_iconst ok dX4_wouldCalm_51 ?_
      refine ga_istore ok hn5 dX4_wouldCalm_52 ?_
      have loop : ∀ (dy p cm : Int) (SM : (Nat → Int) × Mm), (1 ≤ dy ∧ dy ≤ most + 1 ∧ -1 ≤ p ∧ p ≤ 12 ∧ OF m0 SM.2 ∧ (0 ≤ p → SR SM.2 (stG g.r n.toNat SM.1) ∧ gOk (T + 13 * (dy - 1)) SM.1) ∧ (0 < p → g.r 1 ≠ 0 ∧ rnD g.r n.toNat most = dRun (vX g.r) (vF g.r) (g.r 1).toNat (most - (dy - 1)).toNat SM.1 (dy - 1)) ∧ (p = 0 → cm = dy - 1 ∧ rnD g.r n.toNat most = some (dy - 1, SM.1) ∧ SM.1 4 = 0 ∧ 1 < dy) ∧ (p < 0 → cm = 0 ∧ (g.r 1 = 0 ∨ rnD g.r n.toNat most = none)) ∧ (p ≠ 0 → cm = 0) ∧ (0 < p → 1 < dy → 0 < SM.1 4) ∧ (cm ≠ 0 → g.r 1 ≠ 0)) → WA G E 0 0 54 [(5, vI dy), (4, vI p), (3, vI cm), (0, .ref 1024), (1, vI n), (2, vI most)] [] SM.2 := by
        refine wl4 _ (fun dy _ _ _ => (most + 1 - dy).toNat) _ ?_
        intro dy p cm SM hi ih
        obtain ⟨S1, M⟩ := SM
        dsimp only at hi ⊢
        obtain ⟨d0, d1, p0, p1, ho, hrow, hrun, hzer, hneg, hcm, hlast, hcr⟩ := hi
        refine ga_iload ok rfl dX4_wouldCalm_54 ?_
        refine ga_iload_n ok 2 rfl rfl dX4_wouldCalm_56 ?_
        refine ga_icmp_gt ok 90 (by decide) (by omega) (by omega) dX4_wouldCalm_57 (fun c_57 => ?_) (fun c_57 => ?_)
        · refine ga_aload_n ok 0 rfl rfl dX4_wouldCalm_90 ?_
          refine gf_X4_22 ok hG rfl dX4_wouldCalm_91 ?_
          refine ga_iconst ok dX4_wouldCalm_94 ?_
          refine ga_aload_n ok 0 rfl rfl dX4_wouldCalm_95 ?_
          refine gf_X4_9 ok hG rfl dX4_wouldCalm_96 ?_
          refine ga_iconst ok dX4_wouldCalm_99 ?_
          refine ga_sipush ok dX4_wouldCalm_100 (by decide) ?_
          refine ga_copy_ia ok lc_X4_42 (ar_ma hG rfl) (ar_ms hG rfl) (by omega) (by omega) (by omega) (by omega) (by omega) (by rw [hR]; exact (by decide)) (by rw [hR]; exact Nat.le_of_ble_eq_true rfl) dX4_wouldCalm_103 ?_
          refine ga_aload_n ok 0 rfl rfl dX4_wouldCalm_106 ?_
          refine ga_iload_n ok 3 rfl rfl dX4_wouldCalm_107 ?_
          refine ga_if_ne ok 115 (by decide) (by omega) dX4_wouldCalm_108 (fun c_108 => ?_) (fun c_108 => ?_)
          · refine ga_iconst ok dX4_wouldCalm_115 ?_
            refine gp_X4_39 ok hG rfl dX4_wouldCalm_116 ?_
            refine ga_iload_n ok 3 rfl rfl dX4_wouldCalm_119 ?_
            exact ga_ireturn ok en rfl rfl (by decide) (by decide) dX4_wouldCalm_120 (by
        have hfin : YIs (cpI M 1344 1088 0 0 134) g := ⟨SR.cp (fun k hk => by rw [ho.2 1344 (by omega), show 0 + k = k by omega]; exact has k hk), (hY0.o (fun q hq => ho.2 q (by omega))).o (fun q hq => cpI_r (by omega))⟩
        have hfin2 : YIs (upI (cpI M 1344 1088 0 0 134) 1024 6 0) g := ⟨hfin.1.u (by omega), hfin.2.u (by omega)⟩
        have hpz : p = 0 := by
          rcases (show 0 < p ∨ p = 0 ∨ p < 0 by omega) with h | h | h
          · omega
          · exact h
          · have := (hneg h).1; omega
        obtain ⟨h1, h2, h3, -⟩ := hzer hpz
        have hz1 : g.r 1 ≠ 0 := hcr (by omega)
        have hd : (sp_wouldCalm g n most) = (0, cm, g) := by
          unfold sp_wouldCalm
          rw [if_neg (by omega), if_neg (by omega), if_neg hz1, h2, show dy - 1 = cm by omega]
          exact if_pos h3
        rw [hd]
        exact ⟨_, rfl, fun _ => rfl, hfin2, upI_at, ((hF0.tr ho.1).cI (by omega)).uI (by omega)⟩)
          · refine ga_iconst ok dX4_wouldCalm_111 ?_
            refine ga_goto ok 116 (by decide) dX4_wouldCalm_112 ?_
            refine gp_X4_39 ok hG rfl dX4_wouldCalm_116 ?_
            refine ga_iload_n ok 3 rfl rfl dX4_wouldCalm_119 ?_
            exact ga_ireturn ok en rfl rfl (by decide) (by decide) dX4_wouldCalm_120 (by
        have hfin : YIs (cpI M 1344 1088 0 0 134) g := ⟨SR.cp (fun k hk => by rw [ho.2 1344 (by omega), show 0 + k = k by omega]; exact has k hk), (hY0.o (fun q hq => ho.2 q (by omega))).o (fun q hq => cpI_r (by omega))⟩
        have hfin2 : YIs (upI (cpI M 1344 1088 0 0 134) 1024 6 3) g := ⟨hfin.1.u (by omega), hfin.2.u (by omega)⟩
        have hd : (sp_wouldCalm g n most) = (3, 0, g) := by
          unfold sp_wouldCalm
          rw [if_neg (by omega), if_neg (by omega)]
          by_cases hz1 : g.r 1 = 0
          · rw [if_pos hz1]
          · rw [if_neg hz1]
            by_cases hpp : 0 < p
            · obtain ⟨-, h8⟩ := hrun hpp
              rw [show (most - (dy - 1)).toNat = 0 by omega] at h8
              have h7 := hlast hpp (by omega)
              rw [show rnD g.r n.toNat most = some (dy - 1, S1) from h8]
              exact if_neg (by omega)
            · by_cases hpz : p = 0
              · have h6 := hzer hpz; omega
              · rcases (hneg (by omega)).2 with h8 | h8
                · exact absurd h8 hz1
                · rw [h8]
        rw [hd]
        exact ⟨_, rfl, fun h => absurd (show (3 : Int) = 0 from h) (by decide), hfin2, upI_at, ((hF0.tr ho.1).cI (by omega)).uI (by omega)⟩)
        · refine ga_iload ok rfl dX4_wouldCalm_60 ?_
          refine ga_if_le ok 90 (by decide) (by omega) dX4_wouldCalm_62 (fun c_62 => ?_) (fun c_62 => ?_)
          · refine ga_aload_n ok 0 rfl rfl dX4_wouldCalm_90 ?_
            refine gf_X4_22 ok hG rfl dX4_wouldCalm_91 ?_
            refine ga_iconst ok dX4_wouldCalm_94 ?_
            refine ga_aload_n ok 0 rfl rfl dX4_wouldCalm_95 ?_
            refine gf_X4_9 ok hG rfl dX4_wouldCalm_96 ?_
            refine ga_iconst ok dX4_wouldCalm_99 ?_
            refine ga_sipush ok dX4_wouldCalm_100 (by decide) ?_
            refine ga_copy_ia ok lc_X4_42 (ar_ma hG rfl) (ar_ms hG rfl) (by omega) (by omega) (by omega) (by omega) (by omega) (by rw [hR]; exact (by decide)) (by rw [hR]; exact Nat.le_of_ble_eq_true rfl) dX4_wouldCalm_103 ?_
            refine ga_aload_n ok 0 rfl rfl dX4_wouldCalm_106 ?_
            refine ga_iload_n ok 3 rfl rfl dX4_wouldCalm_107 ?_
            refine ga_if_ne ok 115 (by decide) (by omega) dX4_wouldCalm_108 (fun c_108 => ?_) (fun c_108 => ?_)
            · refine ga_iconst ok dX4_wouldCalm_115 ?_
              refine gp_X4_39 ok hG rfl dX4_wouldCalm_116 ?_
              refine ga_iload_n ok 3 rfl rfl dX4_wouldCalm_119 ?_
              exact ga_ireturn ok en rfl rfl (by decide) (by decide) dX4_wouldCalm_120 (by
        have hfin : YIs (cpI M 1344 1088 0 0 134) g := ⟨SR.cp (fun k hk => by rw [ho.2 1344 (by omega), show 0 + k = k by omega]; exact has k hk), (hY0.o (fun q hq => ho.2 q (by omega))).o (fun q hq => cpI_r (by omega))⟩
        have hfin2 : YIs (upI (cpI M 1344 1088 0 0 134) 1024 6 0) g := ⟨hfin.1.u (by omega), hfin.2.u (by omega)⟩
        have hpz : p = 0 := by
          rcases (show 0 < p ∨ p = 0 ∨ p < 0 by omega) with h | h | h
          · omega
          · exact h
          · have := (hneg h).1; omega
        obtain ⟨h1, h2, h3, -⟩ := hzer hpz
        have hz1 : g.r 1 ≠ 0 := hcr (by omega)
        have hd : (sp_wouldCalm g n most) = (0, cm, g) := by
          unfold sp_wouldCalm
          rw [if_neg (by omega), if_neg (by omega), if_neg hz1, h2, show dy - 1 = cm by omega]
          exact if_pos h3
        rw [hd]
        exact ⟨_, rfl, fun _ => rfl, hfin2, upI_at, ((hF0.tr ho.1).cI (by omega)).uI (by omega)⟩)
            · refine ga_iconst ok dX4_wouldCalm_111 ?_
              refine ga_goto ok 116 (by decide) dX4_wouldCalm_112 ?_
              refine gp_X4_39 ok hG rfl dX4_wouldCalm_116 ?_
              refine ga_iload_n ok 3 rfl rfl dX4_wouldCalm_119 ?_
              exact ga_ireturn ok en rfl rfl (by decide) (by decide) dX4_wouldCalm_120 (by
        have hfin : YIs (cpI M 1344 1088 0 0 134) g := ⟨SR.cp (fun k hk => by rw [ho.2 1344 (by omega), show 0 + k = k by omega]; exact has k hk), (hY0.o (fun q hq => ho.2 q (by omega))).o (fun q hq => cpI_r (by omega))⟩
        have hfin2 : YIs (upI (cpI M 1344 1088 0 0 134) 1024 6 3) g := ⟨hfin.1.u (by omega), hfin.2.u (by omega)⟩
        have hd : (sp_wouldCalm g n most) = (3, 0, g) := by
          unfold sp_wouldCalm
          rw [if_neg (by omega), if_neg (by omega)]
          by_cases hz1 : g.r 1 = 0
          · rw [if_pos hz1]
          · rw [if_neg hz1]
            by_cases hpp : 0 < p
            · obtain ⟨-, h8⟩ := hrun hpp
              rw [show (most - (dy - 1)).toNat = 0 by omega] at h8
              have h7 := hlast hpp (by omega)
              rw [show rnD g.r n.toNat most = some (dy - 1, S1) from h8]
              exact if_neg (by omega)
            · by_cases hpz : p = 0
              · have h6 := hzer hpz; omega
              · rcases (hneg (by omega)).2 with h8 | h8
                · exact absurd h8 hz1
                · rw [h8]
        rw [hd]
        exact ⟨_, rfl, fun h => absurd (show (3 : Int) = 0 from h) (by decide), hfin2, upI_at, ((hF0.tr ho.1).cI (by omega)).uI (by omega)⟩)
          · obtain ⟨hM, hS1⟩ := hrow (by omega)
            obtain ⟨hr1, hrn⟩ := hrun (by omega)
            rw [show (most - (dy - 1)).toNat = (most - dy).toNat + 1 by omega, dRun] at hrn
            have hd9 : gOk (T + 13 * (dy - 1)) S1 := hS1
            obtain ⟨d, hdd⟩ : ∃ d, d = dy - 1 := ⟨_, rfl⟩
            rw [← hdd] at hS1 hd9
            refine ga_aload_n ok 0 rfl rfl dX4_wouldCalm_65 ?_
            refine ga_iload_n ok 1 rfl rfl dX4_wouldCalm_66 ?_
            refine gc_X4_1 ok hG rfl lk_X4_178 rfl (c_X4_goesBy ok.fl hG hM (gtOk_stG (hT.mono (by omega)) hS1 : gtOk (T + 13 * d) (stG g.r n.toNat S1)) (g := n) (by rw [lo_stG (by omega)]; omega)) (by rw [hR]; exact ⟨by decide, by decide, by decide, by decide⟩) (Nat.le_of_ble_eq_true rfl) dX4_wouldCalm_67 (fun r9 M2 hq => ?_) (fun _ _ h => h.elim)
            obtain ⟨v9, hr9, ho2, ht1, ht2⟩ := hq
            subst hr9
            simp only [Option.toList_some, List.singleton_append]
            rw [show (stG g.r n.toNat S1 1) = g.r 1 from lo_stG (by omega)] at ht1 ht2
            have hcv : ∀ v, v < (g.r 1).toNat → vX (stG g.r n.toNat S1) v = vX g.r v ∧ vF (stG g.r n.toNat S1) v = vF g.r v := fun v hv9 => v_stG (by omega)
            obtain ⟨-, hc2, hc3⟩ := lp_cg (S := S1) (S' := rg (stG g.r n.toNat S1) n.toNat) (rgst) (g.r 1).toNat hcv
            rw [hc3, hc2] at ht1
            rw [hc3] at ht2
            have hds := dS_cg (S := S1) (S' := rg (stG g.r n.toNat S1) n.toNat) (n := (g.r 1).toNat) rgst hcv
            have hlb := lpC_bd (S := S1) (X := vX g.r) (F := vF g.r) (g.r 1).toNat
            have hsr : lpOK S1 (vX g.r) (vF g.r) (g.r 1).toNat = true → SR M2 (stG g.r n.toNat (dS S1 (vX g.r) (vF g.r) (g.r 1).toNat)) := fun h k hk => by rw [(ht1 h).2 k hk]; exact stst hds k
            have hv9 : -1 ≤ v9 ∧ v9 ≤ 12 ∧ (0 ≤ v9 → lpOK S1 (vX g.r) (vF g.r) (g.r 1).toNat = true ∧ v9 = lpC S1 (vX g.r) (vF g.r) (g.r 1).toNat) ∧ (v9 < 0 → lpOK S1 (vX g.r) (vF g.r) (g.r 1).toNat = false) := by
              by_cases ht : lpOK S1 (vX g.r) (vF g.r) (g.r 1).toNat = true
              · have := (ht1 ht).1; exact ⟨by omega, by omega, fun _ => ⟨ht, this⟩, fun h => by omega⟩
              · have := ht2 (Bool.eq_false_iff.mpr ht); exact ⟨by omega, by omega, fun h => by omega, fun _ => Bool.eq_false_iff.mpr ht⟩
            refine ga_istore ok hn4 dX4_wouldCalm_70 ?_
            refine ga_iload ok rfl dX4_wouldCalm_72 ?_
            refine ga_if_ne ok 82 (by decide) (by omega) dX4_wouldCalm_74 (fun c_74 => ?_) (fun c_74 => ?_)
            · refine ga_iconst ok dX4_wouldCalm_82 ?_
              refine ga_istore_n ok 3 rfl hn3 dX4_wouldCalm_83 ?_
              refine ga_iinc ok rfl hn5 dX4_wouldCalm_84 ?_
              refine ga_goto ok 54 (by decide) dX4_wouldCalm_87 ?_
              have ih9 := fun a b c (s : Nat → Int) (q : Mm) => ih a b c (s, q)
              dsimp only at ih9
              by_cases hp0 : 0 ≤ v9
              · obtain ⟨hl, hvc⟩ := hv9.2.2.1 hp0
                rw [if_pos hl] at hrn
                refine WA.re (by exact ⟨rfl, rfl, rfl, rfl, rfl, rfl, trivial⟩) (ih9 (dy + 1) v9 0 (dS S1 (vX g.r) (vF g.r) (g.r 1).toNat) M2 ⟨by omega, by omega, hv9.1, hv9.2.1, ⟨ho.1.tr ho2.1, fun q hq => (ho2.2 q hq).trans (ho.2 q hq)⟩, fun _ => ⟨hsr hl, (gOk_dS hd9 hl).mono (by omega)⟩, fun h => ⟨hr1, ?_⟩, fun h => ⟨by omega, ?_, by rw [dS_4]; omega, by omega⟩, fun h => by omega, by omega, fun h _ => by rw [dS_4]; omega, fun _ => hr1⟩ (by omega))
                · rw [if_neg (by omega)] at hrn
                  rw [hrn, show (most - (dy + 1 - 1)).toNat = (most - dy).toNat by omega, show dy - 1 + 1 = dy + 1 - 1 by omega]
                · rw [if_pos (by omega)] at hrn
                  rw [hrn, show dy - 1 + 1 = dy + 1 - 1 by omega]
              · rw [if_neg (by rw [hv9.2.2.2 (by omega)]; exact Bool.false_ne_true)] at hrn
                exact WA.re (by exact ⟨rfl, rfl, rfl, rfl, rfl, rfl, trivial⟩) (ih9 (dy + 1) v9 0 S1 M2 ⟨by omega, by omega, hv9.1, hv9.2.1, ⟨ho.1.tr ho2.1, fun q hq => (ho2.2 q hq).trans (ho.2 q hq)⟩, fun h => by omega, fun h => by omega, fun h => by omega, fun _ => ⟨by omega, Or.inr hrn⟩, by omega, fun h => by omega, fun _ => hr1⟩ (by omega))
            · refine ga_iload ok rfl dX4_wouldCalm_77 ?_
              refine ga_goto ok 83 (by decide) dX4_wouldCalm_79 ?_
              refine ga_istore_n ok 3 rfl hn3 dX4_wouldCalm_83 ?_
              refine ga_iinc ok rfl hn5 dX4_wouldCalm_84 ?_
              refine ga_goto ok 54 (by decide) dX4_wouldCalm_87 ?_
              have ih9 := fun a b c (s : Nat → Int) (q : Mm) => ih a b c (s, q)
              dsimp only at ih9
              by_cases hp0 : 0 ≤ v9
              · obtain ⟨hl, hvc⟩ := hv9.2.2.1 hp0
                rw [if_pos hl] at hrn
                refine WA.re (by exact ⟨rfl, rfl, rfl, rfl, rfl, rfl, trivial⟩) (ih9 (dy + 1) v9 dy (dS S1 (vX g.r) (vF g.r) (g.r 1).toNat) M2 ⟨by omega, by omega, hv9.1, hv9.2.1, ⟨ho.1.tr ho2.1, fun q hq => (ho2.2 q hq).trans (ho.2 q hq)⟩, fun _ => ⟨hsr hl, (gOk_dS hd9 hl).mono (by omega)⟩, fun h => ⟨hr1, ?_⟩, fun h => ⟨by omega, ?_, by rw [dS_4]; omega, by omega⟩, fun h => by omega, by omega, fun h _ => by rw [dS_4]; omega, fun _ => hr1⟩ (by omega))
                · rw [if_neg (by omega)] at hrn
                  rw [hrn, show (most - (dy + 1 - 1)).toNat = (most - dy).toNat by omega, show dy - 1 + 1 = dy + 1 - 1 by omega]
                · rw [if_pos (by omega)] at hrn
                  rw [hrn, show dy - 1 + 1 = dy + 1 - 1 by omega]
              · rw [if_neg (by rw [hv9.2.2.2 (by omega)]; exact Bool.false_ne_true)] at hrn
                exact WA.re (by exact ⟨rfl, rfl, rfl, rfl, rfl, rfl, trivial⟩) (ih9 (dy + 1) v9 dy S1 M2 ⟨by omega, by omega, hv9.1, hv9.2.1, ⟨ho.1.tr ho2.1, fun q hq => (ho2.2 q hq).trans (ho.2 q hq)⟩, fun h => by omega, fun h => by omega, fun h => by omega, fun _ => ⟨by omega, Or.inr hrn⟩, by omega, fun h => by omega, fun _ => hr1⟩ (by omega))
      exact WA.re (by exact ⟨rfl, rfl, rfl, rfl, rfl, rfl, trivial⟩) (loop 1 1 0 (rg g.r n.toNat, m0) ⟨by omega, by omega, by omega, by omega, OF.rf, fun _ => ⟨hs0.st, (hgb n.toNat (by omega)).mono (by omega)⟩, fun h => ⟨c_41, by rw [show most - (1 - 1) = most by omega]; rfl⟩, fun h => absurd h (by omega), fun h => absurd h (by omega), fun _ => rfl, fun _ h => absurd h (by omega), fun h => absurd rfl h⟩)
    · refine ga_iconst ok dX4_wouldCalm_44 ?_
      refine ga_goto ok 49 (by decide) dX4_wouldCalm_45 ?_
      refine ga_istore ok hn4 dX4_wouldCalm_49 ?_
      refine ga_iconst ok dX4_wouldCalm_51 ?_
      refine ga_istore ok hn5 dX4_wouldCalm_52 ?_
      have loop : ∀ (dy p cm : Int) (SM : (Nat → Int) × Mm), (1 ≤ dy ∧ dy ≤ most + 1 ∧ -1 ≤ p ∧ p ≤ 12 ∧ OF m0 SM.2 ∧ (0 ≤ p → SR SM.2 (stG g.r n.toNat SM.1) ∧ gOk (T + 13 * (dy - 1)) SM.1) ∧ (0 < p → g.r 1 ≠ 0 ∧ rnD g.r n.toNat most = dRun (vX g.r) (vF g.r) (g.r 1).toNat (most - (dy - 1)).toNat SM.1 (dy - 1)) ∧ (p = 0 → cm = dy - 1 ∧ rnD g.r n.toNat most = some (dy - 1, SM.1) ∧ SM.1 4 = 0 ∧ 1 < dy) ∧ (p < 0 → cm = 0 ∧ (g.r 1 = 0 ∨ rnD g.r n.toNat most = none)) ∧ (p ≠ 0 → cm = 0) ∧ (0 < p → 1 < dy → 0 < SM.1 4) ∧ (cm ≠ 0 → g.r 1 ≠ 0)) → WA G E 0 0 54 [(5, vI dy), (4, vI p), (3, vI cm), (0, .ref 1024), (1, vI n), (2, vI most)] [] SM.2 := by
        refine wl4 _ (fun dy _ _ _ => (most + 1 - dy).toNat) _ ?_
        intro dy p cm SM hi ih
        obtain ⟨S1, M⟩ := SM
        dsimp only at hi ⊢
        obtain ⟨d0, d1, p0, p1, ho, hrow, hrun, hzer, hneg, hcm, hlast, hcr⟩ := hi
        refine ga_iload ok rfl dX4_wouldCalm_54 ?_
        refine ga_iload_n ok 2 rfl rfl dX4_wouldCalm_56 ?_
        refine ga_icmp_gt ok 90 (by decide) (by omega) (by omega) dX4_wouldCalm_57 (fun c_57 => ?_) (fun c_57 => ?_)
        · refine ga_aload_n ok 0 rfl rfl dX4_wouldCalm_90 ?_
          refine gf_X4_22 ok hG rfl dX4_wouldCalm_91 ?_
          refine ga_iconst ok dX4_wouldCalm_94 ?_
          refine ga_aload_n ok 0 rfl rfl dX4_wouldCalm_95 ?_
          refine gf_X4_9 ok hG rfl dX4_wouldCalm_96 ?_
          refine ga_iconst ok dX4_wouldCalm_99 ?_
          refine ga_sipush ok dX4_wouldCalm_100 (by decide) ?_
          refine ga_copy_ia ok lc_X4_42 (ar_ma hG rfl) (ar_ms hG rfl) (by omega) (by omega) (by omega) (by omega) (by omega) (by rw [hR]; exact (by decide)) (by rw [hR]; exact Nat.le_of_ble_eq_true rfl) dX4_wouldCalm_103 ?_
          refine ga_aload_n ok 0 rfl rfl dX4_wouldCalm_106 ?_
          refine ga_iload_n ok 3 rfl rfl dX4_wouldCalm_107 ?_
          refine ga_if_ne ok 115 (by decide) (by omega) dX4_wouldCalm_108 (fun c_108 => ?_) (fun c_108 => ?_)
          · refine ga_iconst ok dX4_wouldCalm_115 ?_
            refine gp_X4_39 ok hG rfl dX4_wouldCalm_116 ?_
            refine ga_iload_n ok 3 rfl rfl dX4_wouldCalm_119 ?_
            exact ga_ireturn ok en rfl rfl (by decide) (by decide) dX4_wouldCalm_120 (by
        have hfin : YIs (cpI M 1344 1088 0 0 134) g := ⟨SR.cp (fun k hk => by rw [ho.2 1344 (by omega), show 0 + k = k by omega]; exact has k hk), (hY0.o (fun q hq => ho.2 q (by omega))).o (fun q hq => cpI_r (by omega))⟩
        have hfin2 : YIs (upI (cpI M 1344 1088 0 0 134) 1024 6 0) g := ⟨hfin.1.u (by omega), hfin.2.u (by omega)⟩
        have hpz : p = 0 := by
          rcases (show 0 < p ∨ p = 0 ∨ p < 0 by omega) with h | h | h
          · omega
          · exact h
          · have := (hneg h).1; omega
        obtain ⟨h1, h2, h3, -⟩ := hzer hpz
        have hz1 : g.r 1 ≠ 0 := hcr (by omega)
        have hd : (sp_wouldCalm g n most) = (0, cm, g) := by
          unfold sp_wouldCalm
          rw [if_neg (by omega), if_neg (by omega), if_neg hz1, h2, show dy - 1 = cm by omega]
          exact if_pos h3
        rw [hd]
        exact ⟨_, rfl, fun _ => rfl, hfin2, upI_at, ((hF0.tr ho.1).cI (by omega)).uI (by omega)⟩)
          · refine ga_iconst ok dX4_wouldCalm_111 ?_
            refine ga_goto ok 116 (by decide) dX4_wouldCalm_112 ?_
            refine gp_X4_39 ok hG rfl dX4_wouldCalm_116 ?_
            refine ga_iload_n ok 3 rfl rfl dX4_wouldCalm_119 ?_
            exact ga_ireturn ok en rfl rfl (by decide) (by decide) dX4_wouldCalm_120 (by
        have hfin : YIs (cpI M 1344 1088 0 0 134) g := ⟨SR.cp (fun k hk => by rw [ho.2 1344 (by omega), show 0 + k = k by omega]; exact has k hk), (hY0.o (fun q hq => ho.2 q (by omega))).o (fun q hq => cpI_r (by omega))⟩
        have hfin2 : YIs (upI (cpI M 1344 1088 0 0 134) 1024 6 3) g := ⟨hfin.1.u (by omega), hfin.2.u (by omega)⟩
        have hd : (sp_wouldCalm g n most) = (3, 0, g) := by
          unfold sp_wouldCalm
          rw [if_neg (by omega), if_neg (by omega)]
          by_cases hz1 : g.r 1 = 0
          · rw [if_pos hz1]
          · rw [if_neg hz1]
            by_cases hpp : 0 < p
            · obtain ⟨-, h8⟩ := hrun hpp
              rw [show (most - (dy - 1)).toNat = 0 by omega] at h8
              have h7 := hlast hpp (by omega)
              rw [show rnD g.r n.toNat most = some (dy - 1, S1) from h8]
              exact if_neg (by omega)
            · by_cases hpz : p = 0
              · have h6 := hzer hpz; omega
              · rcases (hneg (by omega)).2 with h8 | h8
                · exact absurd h8 hz1
                · rw [h8]
        rw [hd]
        exact ⟨_, rfl, fun h => absurd (show (3 : Int) = 0 from h) (by decide), hfin2, upI_at, ((hF0.tr ho.1).cI (by omega)).uI (by omega)⟩)
        · refine ga_iload ok rfl dX4_wouldCalm_60 ?_
          refine ga_if_le ok 90 (by decide) (by omega) dX4_wouldCalm_62 (fun c_62 => ?_) (fun c_62 => ?_)
          · refine ga_aload_n ok 0 rfl rfl dX4_wouldCalm_90 ?_
            refine gf_X4_22 ok hG rfl dX4_wouldCalm_91 ?_
            refine ga_iconst ok dX4_wouldCalm_94 ?_
            refine ga_aload_n ok 0 rfl rfl dX4_wouldCalm_95 ?_
            refine gf_X4_9 ok hG rfl dX4_wouldCalm_96 ?_
            refine ga_iconst ok dX4_wouldCalm_99 ?_
            refine ga_sipush ok dX4_wouldCalm_100 (by decide) ?_
            refine ga_copy_ia ok lc_X4_42 (ar_ma hG rfl) (ar_ms hG rfl) (by omega) (by omega) (by omega) (by omega) (by omega) (by rw [hR]; exact (by decide)) (by rw [hR]; exact Nat.le_of_ble_eq_true rfl) dX4_wouldCalm_103 ?_
            refine ga_aload_n ok 0 rfl rfl dX4_wouldCalm_106 ?_
            refine ga_iload_n ok 3 rfl rfl dX4_wouldCalm_107 ?_
            refine ga_if_ne ok 115 (by decide) (by omega) dX4_wouldCalm_108 (fun c_108 => ?_) (fun c_108 => ?_)
            · refine ga_iconst ok dX4_wouldCalm_115 ?_
              refine gp_X4_39 ok hG rfl dX4_wouldCalm_116 ?_
              refine ga_iload_n ok 3 rfl rfl dX4_wouldCalm_119 ?_
              exact ga_ireturn ok en rfl rfl (by decide) (by decide) dX4_wouldCalm_120 (by
        have hfin : YIs (cpI M 1344 1088 0 0 134) g := ⟨SR.cp (fun k hk => by rw [ho.2 1344 (by omega), show 0 + k = k by omega]; exact has k hk), (hY0.o (fun q hq => ho.2 q (by omega))).o (fun q hq => cpI_r (by omega))⟩
        have hfin2 : YIs (upI (cpI M 1344 1088 0 0 134) 1024 6 0) g := ⟨hfin.1.u (by omega), hfin.2.u (by omega)⟩
        have hpz : p = 0 := by
          rcases (show 0 < p ∨ p = 0 ∨ p < 0 by omega) with h | h | h
          · omega
          · exact h
          · have := (hneg h).1; omega
        obtain ⟨h1, h2, h3, -⟩ := hzer hpz
        have hz1 : g.r 1 ≠ 0 := hcr (by omega)
        have hd : (sp_wouldCalm g n most) = (0, cm, g) := by
          unfold sp_wouldCalm
          rw [if_neg (by omega), if_neg (by omega), if_neg hz1, h2, show dy - 1 = cm by omega]
          exact if_pos h3
        rw [hd]
        exact ⟨_, rfl, fun _ => rfl, hfin2, upI_at, ((hF0.tr ho.1).cI (by omega)).uI (by omega)⟩)
            · refine ga_iconst ok dX4_wouldCalm_111 ?_
              refine ga_goto ok 116 (by decide) dX4_wouldCalm_112 ?_
              refine gp_X4_39 ok hG rfl dX4_wouldCalm_116 ?_
              refine ga_iload_n ok 3 rfl rfl dX4_wouldCalm_119 ?_
              exact ga_ireturn ok en rfl rfl (by decide) (by decide) dX4_wouldCalm_120 (by
        have hfin : YIs (cpI M 1344 1088 0 0 134) g := ⟨SR.cp (fun k hk => by rw [ho.2 1344 (by omega), show 0 + k = k by omega]; exact has k hk), (hY0.o (fun q hq => ho.2 q (by omega))).o (fun q hq => cpI_r (by omega))⟩
        have hfin2 : YIs (upI (cpI M 1344 1088 0 0 134) 1024 6 3) g := ⟨hfin.1.u (by omega), hfin.2.u (by omega)⟩
        have hd : (sp_wouldCalm g n most) = (3, 0, g) := by
          unfold sp_wouldCalm
          rw [if_neg (by omega), if_neg (by omega)]
          by_cases hz1 : g.r 1 = 0
          · rw [if_pos hz1]
          · rw [if_neg hz1]
            by_cases hpp : 0 < p
            · obtain ⟨-, h8⟩ := hrun hpp
              rw [show (most - (dy - 1)).toNat = 0 by omega] at h8
              have h7 := hlast hpp (by omega)
              rw [show rnD g.r n.toNat most = some (dy - 1, S1) from h8]
              exact if_neg (by omega)
            · by_cases hpz : p = 0
              · have h6 := hzer hpz; omega
              · rcases (hneg (by omega)).2 with h8 | h8
                · exact absurd h8 hz1
                · rw [h8]
        rw [hd]
        exact ⟨_, rfl, fun h => absurd (show (3 : Int) = 0 from h) (by decide), hfin2, upI_at, ((hF0.tr ho.1).cI (by omega)).uI (by omega)⟩)
          · obtain ⟨hM, hS1⟩ := hrow (by omega)
            obtain ⟨hr1, hrn⟩ := hrun (by omega)
            rw [show (most - (dy - 1)).toNat = (most - dy).toNat + 1 by omega, dRun] at hrn
            have hd9 : gOk (T + 13 * (dy - 1)) S1 := hS1
            obtain ⟨d, hdd⟩ : ∃ d, d = dy - 1 := ⟨_, rfl⟩
            rw [← hdd] at hS1 hd9
            refine ga_aload_n ok 0 rfl rfl dX4_wouldCalm_65 ?_
            refine ga_iload_n ok 1 rfl rfl dX4_wouldCalm_66 ?_
            refine gc_X4_1 ok hG rfl lk_X4_178 rfl (c_X4_goesBy ok.fl hG hM (gtOk_stG (hT.mono (by omega)) hS1 : gtOk (T + 13 * d) (stG g.r n.toNat S1)) (g := n) (by rw [lo_stG (by omega)]; omega)) (by rw [hR]; exact ⟨by decide, by decide, by decide, by decide⟩) (Nat.le_of_ble_eq_true rfl) dX4_wouldCalm_67 (fun r9 M2 hq => ?_) (fun _ _ h => h.elim)
            obtain ⟨v9, hr9, ho2, ht1, ht2⟩ := hq
            subst hr9
            simp only [Option.toList_some, List.singleton_append]
            rw [show (stG g.r n.toNat S1 1) = g.r 1 from lo_stG (by omega)] at ht1 ht2
            have hcv : ∀ v, v < (g.r 1).toNat → vX (stG g.r n.toNat S1) v = vX g.r v ∧ vF (stG g.r n.toNat S1) v = vF g.r v := fun v hv9 => v_stG (by omega)
            obtain ⟨-, hc2, hc3⟩ := lp_cg (S := S1) (S' := rg (stG g.r n.toNat S1) n.toNat) (rgst) (g.r 1).toNat hcv
            rw [hc3, hc2] at ht1
            rw [hc3] at ht2
            have hds := dS_cg (S := S1) (S' := rg (stG g.r n.toNat S1) n.toNat) (n := (g.r 1).toNat) rgst hcv
            have hlb := lpC_bd (S := S1) (X := vX g.r) (F := vF g.r) (g.r 1).toNat
            have hsr : lpOK S1 (vX g.r) (vF g.r) (g.r 1).toNat = true → SR M2 (stG g.r n.toNat (dS S1 (vX g.r) (vF g.r) (g.r 1).toNat)) := fun h k hk => by rw [(ht1 h).2 k hk]; exact stst hds k
            have hv9 : -1 ≤ v9 ∧ v9 ≤ 12 ∧ (0 ≤ v9 → lpOK S1 (vX g.r) (vF g.r) (g.r 1).toNat = true ∧ v9 = lpC S1 (vX g.r) (vF g.r) (g.r 1).toNat) ∧ (v9 < 0 → lpOK S1 (vX g.r) (vF g.r) (g.r 1).toNat = false) := by
              by_cases ht : lpOK S1 (vX g.r) (vF g.r) (g.r 1).toNat = true
              · have := (ht1 ht).1; exact ⟨by omega, by omega, fun _ => ⟨ht, this⟩, fun h => by omega⟩
              · have := ht2 (Bool.eq_false_iff.mpr ht); exact ⟨by omega, by omega, fun h => by omega, fun _ => Bool.eq_false_iff.mpr ht⟩
            refine ga_istore ok hn4 dX4_wouldCalm_70 ?_
            refine ga_iload ok rfl dX4_wouldCalm_72 ?_
            refine ga_if_ne ok 82 (by decide) (by omega) dX4_wouldCalm_74 (fun c_74 => ?_) (fun c_74 => ?_)
            · refine ga_iconst ok dX4_wouldCalm_82 ?_
              refine ga_istore_n ok 3 rfl hn3 dX4_wouldCalm_83 ?_
              refine ga_iinc ok rfl hn5 dX4_wouldCalm_84 ?_
              refine ga_goto ok 54 (by decide) dX4_wouldCalm_87 ?_
              have ih9 := fun a b c (s : Nat → Int) (q : Mm) => ih a b c (s, q)
              dsimp only at ih9
              by_cases hp0 : 0 ≤ v9
              · obtain ⟨hl, hvc⟩ := hv9.2.2.1 hp0
                rw [if_pos hl] at hrn
                refine WA.re (by exact ⟨rfl, rfl, rfl, rfl, rfl, rfl, trivial⟩) (ih9 (dy + 1) v9 0 (dS S1 (vX g.r) (vF g.r) (g.r 1).toNat) M2 ⟨by omega, by omega, hv9.1, hv9.2.1, ⟨ho.1.tr ho2.1, fun q hq => (ho2.2 q hq).trans (ho.2 q hq)⟩, fun _ => ⟨hsr hl, (gOk_dS hd9 hl).mono (by omega)⟩, fun h => ⟨hr1, ?_⟩, fun h => ⟨by omega, ?_, by rw [dS_4]; omega, by omega⟩, fun h => by omega, by omega, fun h _ => by rw [dS_4]; omega, fun _ => hr1⟩ (by omega))
                · rw [if_neg (by omega)] at hrn
                  rw [hrn, show (most - (dy + 1 - 1)).toNat = (most - dy).toNat by omega, show dy - 1 + 1 = dy + 1 - 1 by omega]
                · rw [if_pos (by omega)] at hrn
                  rw [hrn, show dy - 1 + 1 = dy + 1 - 1 by omega]
              · rw [if_neg (by rw [hv9.2.2.2 (by omega)]; exact Bool.false_ne_true)] at hrn
                exact WA.re (by exact ⟨rfl, rfl, rfl, rfl, rfl, rfl, trivial⟩) (ih9 (dy + 1) v9 0 S1 M2 ⟨by omega, by omega, hv9.1, hv9.2.1, ⟨ho.1.tr ho2.1, fun q hq => (ho2.2 q hq).trans (ho.2 q hq)⟩, fun h => by omega, fun h => by omega, fun h => by omega, fun _ => ⟨by omega, Or.inr hrn⟩, by omega, fun h => by omega, fun _ => hr1⟩ (by omega))
            · refine ga_iload ok rfl dX4_wouldCalm_77 ?_
              refine ga_goto ok 83 (by decide) dX4_wouldCalm_79 ?_
              refine ga_istore_n ok 3 rfl hn3 dX4_wouldCalm_83 ?_
              refine ga_iinc ok rfl hn5 dX4_wouldCalm_84 ?_
              refine ga_goto ok 54 (by decide) dX4_wouldCalm_87 ?_
              have ih9 := fun a b c (s : Nat → Int) (q : Mm) => ih a b c (s, q)
              dsimp only at ih9
              by_cases hp0 : 0 ≤ v9
              · obtain ⟨hl, hvc⟩ := hv9.2.2.1 hp0
                rw [if_pos hl] at hrn
                refine WA.re (by exact ⟨rfl, rfl, rfl, rfl, rfl, rfl, trivial⟩) (ih9 (dy + 1) v9 dy (dS S1 (vX g.r) (vF g.r) (g.r 1).toNat) M2 ⟨by omega, by omega, hv9.1, hv9.2.1, ⟨ho.1.tr ho2.1, fun q hq => (ho2.2 q hq).trans (ho.2 q hq)⟩, fun _ => ⟨hsr hl, (gOk_dS hd9 hl).mono (by omega)⟩, fun h => ⟨hr1, ?_⟩, fun h => ⟨by omega, ?_, by rw [dS_4]; omega, by omega⟩, fun h => by omega, by omega, fun h _ => by rw [dS_4]; omega, fun _ => hr1⟩ (by omega))
                · rw [if_neg (by omega)] at hrn
                  rw [hrn, show (most - (dy + 1 - 1)).toNat = (most - dy).toNat by omega, show dy - 1 + 1 = dy + 1 - 1 by omega]
                · rw [if_pos (by omega)] at hrn
                  rw [hrn, show dy - 1 + 1 = dy + 1 - 1 by omega]
              · rw [if_neg (by rw [hv9.2.2.2 (by omega)]; exact Bool.false_ne_true)] at hrn
                exact WA.re (by exact ⟨rfl, rfl, rfl, rfl, rfl, rfl, trivial⟩) (ih9 (dy + 1) v9 dy S1 M2 ⟨by omega, by omega, hv9.1, hv9.2.1, ⟨ho.1.tr ho2.1, fun q hq => (ho2.2 q hq).trans (ho.2 q hq)⟩, fun h => by omega, fun h => by omega, fun h => by omega, fun _ => ⟨by omega, Or.inr hrn⟩, by omega, fun h => by omega, fun _ => hr1⟩ (by omega))
      exact WA.re (by exact ⟨rfl, rfl, rfl, rfl, rfl, rfl, trivial⟩) (loop 1 (-1) 0 (rg g.r n.toNat, m0) ⟨by omega, by omega, by omega, by omega, OF.rf, fun _ => ⟨hs0.st, (hgb n.toNat (by omega)).mono (by omega)⟩, fun h => absurd h (by omega), fun h => absurd h (by omega), fun h => ⟨rfl, Or.inl (by omega)⟩, fun _ => rfl, fun _ h => absurd h (by omega), fun h => absurd rfl h⟩)
  · refine ga_iconst ok dX4_wouldCalm_15 ?_
    exact ga_ireturn ok en rfl rfl (by decide) (by decide) dX4_wouldCalm_16 (by
  have hz9 : (ask g.r n (decide (1 ≤ most ∧ most ≤ 30))) ≠ 0 := of_decide_eq_false (b2i_0.mp c_12)
  have hd : (sp_wouldCalm g n most) = ((ask g.r n (decide (1 ≤ most ∧ most ≤ 30))), 0, g) := by
    unfold sp_wouldCalm ask isG
    unfold ask isG at hz9
    simp only [decide_eq_true_eq] at hz9 ⊢
    by_cases e1 : 0 ≤ n ∧ n < g.r 0
    · rw [if_pos e1] at hz9 ⊢
      by_cases e2 : 1 ≤ most ∧ most ≤ 30
      · rw [if_pos e2] at hz9; exact absurd rfl hz9
      · rw [if_neg (fun e => e e1), if_pos e2, if_neg e2]
    · rw [if_pos e1, if_neg e1]
  rw [hd]
  exact ⟨_, rfl, fun h => absurd h hz9, ⟨hY.1.t, hY.2.u (by omega)⟩, thM_at, YFr.rf.uI (by omega)⟩)
