set_option maxHeartbeats 4000000 in
set_option maxRecDepth 100000 in
theorem c_X3_teach {G : GG} {l : Launch} (hfl : l.stackTraces = false) (hG : MW G) {m : Mm} {g : Gm} {T : Int} (hX : XIs T m g) (hT0 : 0 ≤ T ∧ T ≤ 1000000000) {n : Int} (hnR : -2147483648 ≤ n ∧ n ≤ 2147483647) {v : Int} (hvR : -2147483648 ≤ v ∧ v ≤ 2147483647) : CT G l yX3_teach cX3_teach 4 (some .int) (RM 9 4 24) [.ref 0, vI n, vI v] m (fun r' m' => (sp_teach g n v).1 = 0 ∧ r' = some (vI (sp_teach g n v).2.1) ∧ XIs (T + 1000) m' (sp_teach g n v).2.2 ∧ XFr m m') (fun X m' => (((sp_teach g n v).1 = 1 ∧ X = "java/lang/IndexOutOfBoundsException") ∨ ((sp_teach g n v).1 = 2 ∧ X = "java/lang/UnsupportedOperationException")) ∧ XIs (T + 1000) m' (sp_teach g n v).2.2 ∧ XFr m m') := by
  refine CT.of RX3 [(0, .ref 0), (1, vI n), (2, vI v)] hfl (by decide +kernel) rfl rfl (Nat.le_of_ble_eq_true rfl) ?_
  intro E ok en hml hEl htab
  have hR : e_R E = RM 9 4 24 := en.2.2.2
  have hn0 : 0 < (e_c E).maxLocals := by rw [hml]; decide
  have hn1 : 1 < (e_c E).maxLocals := by rw [hml]; decide
  have hn2 : 2 < (e_c E).maxLocals := by rw [hml]; decide
  have hn3 : 3 < (e_c E).maxLocals := by rw [hml]; decide
  have hI := hX.1.1
  have hT := hX.1.2
  obtain ⟨e1, e4, hv, hgs⟩ := id hI
  obtain ⟨b0, b1, hvb, hgb⟩ := id hT
  refine ga_aload_n ok 0 rfl rfl dX3_teach_0 ?_
  refine ga_iload_n ok 1 rfl rfl dX3_teach_1 ?_
  refine gc_X3_1 ok hG rfl lk_X3_90 rfl (c_X3_requireGuard ok.fl hG hI hT hnR) (by rw [hR]; exact ⟨by decide, by decide, by decide, by decide⟩) (Nat.le_of_ble_eq_true rfl) dX3_teach_2 (fun r9 m9 hq => ?_) (fun X9 m9 hq => by
    obtain ⟨rfl, qg, hm9⟩ := hq
    subst m9
    refine ga_out en htab (by decide) (by decide) ?_
    have hs : (sp_teach g n v) = (1, 0, g) := by unfold sp_teach; rw [if_pos (by omega)]
    rw [hs]
    exact ⟨Or.inl ⟨rfl, rfl⟩, hX.mono (by omega), XFr.rf⟩)
  obtain ⟨rfl, qg, hm9⟩ := hq
  subst m9
  simp only [Option.toList_none, List.nil_append]
  refine ga_aload_n ok 0 rfl rfl dX3_teach_5 ?_
  refine ga_iload_n ok 2 rfl rfl dX3_teach_6 ?_
  refine gc_X3_1 ok hG rfl lk_X3_129 rfl (c_X3_requireVisitor ok.fl hG hI hT hvR) (by rw [hR]; exact ⟨by decide, by decide, by decide, by decide⟩) (Nat.le_of_ble_eq_true rfl) dX3_teach_7 (fun r9 m9 hq => ?_) (fun X9 m9 hq => by
    obtain ⟨rfl, qv, hm9⟩ := hq
    subst m9
    refine ga_out en htab (by decide) (by decide) ?_
    have hs : (sp_teach g n v) = (1, 0, g) := by unfold sp_teach; rw [if_pos (by omega)]
    rw [hs]
    exact ⟨Or.inl ⟨rfl, rfl⟩, hX.mono (by omega), XFr.rf⟩)
  obtain ⟨rfl, qv, hm9⟩ := hq
  subst m9
  simp only [Option.toList_none, List.nil_append]
  refine ga_aload_n ok 0 rfl rfl dX3_teach_10 ?_
  refine ga_iload_n ok 1 rfl rfl dX3_teach_11 ?_
  refine ga_iload_n ok 2 rfl rfl dX3_teach_12 ?_
  refine gc_X3_2 ok hG rfl lk_X3_222 rfl (c_X3_tryLesson ok.fl hG hI hT qg qv) (by rw [hR]; exact ⟨by decide, by decide, by decide, by decide⟩) (Nat.le_of_ble_eq_true rfl) dX3_teach_13 (fun r9 mt hq => ?_) (fun _ _ h => h.elim)
  have hb9 := b2i_01 (psS (rg g.r n.toNat) (vX g.r v.toNat) (vF g.r v.toNat))
  obtain ⟨x9, hx9, hc9⟩ : ∃ x9 : Int, r9 = some (vI x9) ∧ -1 ≤ x9 ∧ x9 ≤ 1 ∧ ((0 ≤ x9 ∧ tOK (rg g.r n.toNat) (vX g.r v.toNat) (vF g.r v.toNat) = true ∧ x9 = b2i (psS (rg g.r n.toNat) (vX g.r v.toNat) (vF g.r v.toNat)) ∧ gFr m mt 364 ∧ gIs mt 364 (tS (rg g.r n.toNat) (vX g.r v.toNat) (vF g.r v.toNat))) ∨ (x9 = -1 ∧ tOK (rg g.r n.toNat) (vX g.r v.toNat) (vF g.r v.toNat) = false ∧ ∃ m1, gFr m m1 364 ∧ mt = rfM m1 5 n)) := by
    rcases hq with ⟨p1, p2, p3, p4⟩ | ⟨p1, p2, p3⟩
    · exact ⟨_, p2, by omega, by omega, Or.inl ⟨by omega, p1, rfl, p3, p4⟩⟩
    · exact ⟨_, p2, by omega, by omega, Or.inr ⟨rfl, p1, p3⟩⟩
  subst hx9
  simp only [Option.toList_some, List.singleton_append]
  refine ga_istore_n ok 3 rfl hn3 dX3_teach_16 ?_
  refine ga_iload_n ok 3 rfl rfl dX3_teach_17 ?_
  refine ga_iconst ok dX3_teach_18 ?_
  refine ga_icmp_ne ok 32 (by decide) (by omega) (by omega) dX3_teach_19 (fun c_19 => ?_) (fun c_19 => ?_)
  · obtain ⟨ht1, ht2, ht3, hf9, ht4⟩ : 0 ≤ x9 ∧ tOK (rg g.r n.toNat) (vX g.r v.toNat) (vF g.r v.toNat) = true ∧ x9 = b2i (psS (rg g.r n.toNat) (vX g.r v.toNat) (vF g.r v.toNat)) ∧ gFr m mt 364 ∧ gIs mt 364 (tS (rg g.r n.toNat) (vX g.r v.toNat) (vF g.r v.toNat)) := by rcases hc9.2.2 with h | h; exact h; exact absurd h.1 (by omega)
    have hX1 := hX.sfr hf9.s
    have hI0 := hX1.1.1
    refine ga_aload_n ok 0 rfl rfl dX3_teach_32 ?_
    refine ga_aload_n ok 0 rfl rfl dX3_teach_33 ?_
    refine gf_X3_12 ok hG rfl dX3_teach_34 ?_
    refine gc_X3_1 ok hG rfl lk_X3_82 rfl (c_X3_keep ok.fl hG hX1 (a := 64) (Or.inl rfl) hI0 hT) (by rw [hR]; exact ⟨by decide, by decide, by decide, by decide⟩) (Nat.le_of_ble_eq_true rfl) dX3_teach_37 (fun r9 m1 hq => ?_) (fun _ _ h => h.elim)
    obtain ⟨rfl, k1, k2, k3, k4⟩ := hq
    simp only [Option.toList_none, List.nil_append]
    have hI1 : gtIs m1 64 g.r := by have := k1.1.1; rw [kpG_r] at this; exact this
    refine ga_aload_n ok 0 rfl rfl dX3_teach_40 ?_
    refine gf_X3_12 ok hG rfl dX3_teach_41 ?_
    refine gf_X3_93 ok hG (by omega) dX3_teach_44 ?_
    refine ga_iload_n ok 1 rfl rfl dX3_teach_47 ?_
    refine ga_aaload_qa ok (ar_ga hG (by omega)) (by omega) dX3_teach_48 ?_
    refine ga_aload_n ok 0 rfl rfl dX3_teach_49 ?_
    refine gf_X3_40 ok hG rfl dX3_teach_50 ?_
    refine gc_X1_1 ok hG (by omega) lk_X3_228 rfl (c_X1_copyFrom ok.fl hG (by omega) (by omega) (by omega) (k3 _ ht4)) (by rw [hR]; exact ⟨by decide, by decide, by decide, by decide⟩) (Nat.le_of_ble_eq_true rfl) dX3_teach_53 (fun r9 m2 hq => ?_) (fun _ _ h => h.elim)
    obtain ⟨rfl, q1, q2⟩ := hq
    simp only [Option.toList_none, List.nil_append]
    refine ga_iload_n ok 3 rfl rfl dX3_teach_56 ?_
    exact ga_ireturn ok en rfl rfl (by decide) (by decide) dX3_teach_57 (by
  have hs : (sp_teach g n v) = (0, b2i (psS (rg g.r n.toNat) (vX g.r v.toNat) (vF g.r v.toNat)), chG g (stG g.r n.toNat (tS (rg g.r n.toNat) (vX g.r v.toNat) (vF g.r v.toNat)))) := by unfold sp_teach; rw [if_neg (by omega), if_pos ht2]
  rw [hs]
  exact ⟨rfl, by rw [ht3], k1.now (gtFr.of (by omega) (j := n.toNat) (by omega) q1) (gtIs.st hI1 (j := n.toNat) q1 (by omega) b0.2 b1.2 (by omega) q2) ((gtOk_stG (hT.mono (by omega)) (gOk_tS (hgb n.toNat (by omega)) ht2)).mono (by omega)) (by omega), (hf9.x (by omega)).tr (k2.tr (q1.x (by omega)))⟩)
  · obtain ⟨ht2, mq, hf9, hm3⟩ : tOK (rg g.r n.toNat) (vX g.r v.toNat) (vF g.r v.toNat) = false ∧ ∃ m1, gFr m m1 364 ∧ mt = rfM m1 5 n := by rcases hc9.2.2 with h | h; exact absurd h.1 (by omega); exact h.2
    exact ga_throw ok en htab lt_UnsupportedOperationException (text := "the guard has been pushed too often") (by decide +kernel) ⟨by decide, by decide, by decide, by decide⟩ (Nat.le_of_ble_eq_true rfl) dX3_teach_22 dX3_teach_25 dX3_teach_26 dX3_teach_28 dX3_teach_31 (by
  have hs : (sp_teach g n v) = (2, 0, rfG g 5 n) := by unfold sp_teach; rw [if_neg (by omega), if_neg (by rw [ht2]; exact Bool.false_ne_true)]
  rw [hs, hm3]
  exact ⟨Or.inr ⟨rfl, rfl⟩, ((hX.sfr hf9.s).rf (by omega) (by omega)).mono (by omega), rfM.x (hf9.x (by omega))⟩)
set_option maxHeartbeats 4000000 in
set_option maxRecDepth 100000 in
theorem c_X3_day {G : GG} {l : Launch} (hfl : l.stackTraces = false) (hG : MW G) {m : Mm} {g : Gm} {T : Int} (hX : XIs T m g) (hT0 : 0 ≤ T ∧ T ≤ 1000000000) {n : Int} (hnR : -2147483648 ≤ n ∧ n ≤ 2147483647) : CT G l yX3_day cX3_day 2 (some .int) (RM 9 4 24) [.ref 0, vI n] m (fun r' m' => (sp_day g n).1 = 0 ∧ r' = some (vI (sp_day g n).2.1) ∧ XIs (T + 1000) m' (sp_day g n).2.2 ∧ XFr m m') (fun X m' => (((sp_day g n).1 = 1 ∧ X = "java/lang/IndexOutOfBoundsException") ∨ ((sp_day g n).1 = 2 ∧ X = "java/lang/UnsupportedOperationException")) ∧ XIs (T + 1000) m' (sp_day g n).2.2 ∧ XFr m m') := by
  refine CT.of RX3 [(0, .ref 0), (1, vI n)] hfl (by decide +kernel) rfl rfl (Nat.le_of_ble_eq_true rfl) ?_
  intro E ok en hml hEl htab
  have hR : e_R E = RM 9 4 24 := en.2.2.2
  have hn0 : 0 < (e_c E).maxLocals := by rw [hml]; decide
  have hn1 : 1 < (e_c E).maxLocals := by rw [hml]; decide
  have hI := hX.1.1
  have hT := hX.1.2
  obtain ⟨e1, e4, hv, hgs⟩ := id hI
  obtain ⟨b0, b1, hvb, hgb⟩ := id hT
  refine ga_aload_n ok 0 rfl rfl dX3_day_0 ?_
  refine ga_iload_n ok 1 rfl rfl dX3_day_1 ?_
  refine gc_X3_1 ok hG rfl lk_X3_90 rfl (c_X3_requireGuard ok.fl hG hI hT hnR) (by rw [hR]; exact ⟨by decide, by decide, by decide, by decide⟩) (Nat.le_of_ble_eq_true rfl) dX3_day_2 (fun r9 m9 hq => ?_) (fun X9 m9 hq => by
    obtain ⟨rfl, qg, hm9⟩ := hq
    subst m9
    refine ga_out en htab (by decide) (by decide) ?_
    have hs : (sp_day g n) = (1, 0, g) := by unfold sp_day; rw [if_pos (by omega)]
    rw [hs]
    exact ⟨Or.inl ⟨rfl, rfl⟩, hX.mono (by omega), XFr.rf⟩)
  obtain ⟨rfl, qg, hm9⟩ := hq
  subst m9
  simp only [Option.toList_none, List.nil_append]
  refine ga_aload_n ok 0 rfl rfl dX3_day_5 ?_
  refine ga_iload_n ok 1 rfl rfl dX3_day_6 ?_
  refine ga_iconst ok dX3_day_7 ?_
  refine gc_X3_2 ok hG rfl lk_X3_232 rfl (c_X3_tryDays ok.fl hG hI hT (most := 1) qg (by omega)) (by rw [hR]; exact ⟨by decide, by decide, by decide, by decide⟩) (Nat.le_of_ble_eq_true rfl) dX3_day_8 (fun r9 mt hq => ?_) (fun _ _ h => h.elim)
  obtain ⟨x9, hx9, hc9⟩ : ∃ x9 : Int, r9 = some (vI x9) ∧ -1 ≤ x9 ∧ x9 ≤ 1000 ∧ ((0 ≤ x9 ∧ g.r 1 ≠ 0 ∧ ∃ S, rnD g.r n.toNat 1 = some (x9, S) ∧ gOk (T + 390) S ∧ gFr m mt 364 ∧ gIs mt 364 S) ∨ (x9 = -1 ∧ ∃ a b : Int, True ∧ ((a = 3 ∧ b = g.r 0 ∧ g.r 1 = 0) ∨ (a = 5 ∧ b = n ∧ g.r 1 ≠ 0 ∧ rnD g.r n.toNat 1 = none)) ∧ ∃ m1, SFr m m1 ∧ mt = rfM m1 a b)) := by
    rcases hq with ⟨p1, p2, p3⟩ | ⟨p1, d, S, p2, p3, p4, p5⟩ | ⟨p1, p2, p3, mq, p4, p5⟩
    · exact ⟨_, p2, by omega, by omega, Or.inr ⟨rfl, 3, g.r 0, trivial, Or.inl ⟨rfl, rfl, p1⟩, m, SFr.rf, p3⟩⟩
    · have hd := p2
      unfold rnD at hd
      have hb := gOk_dRun (by omega) _ _ _ _ (hgb n.toNat (by omega)) _ _ hd
      exact ⟨_, p3, by omega, by omega, Or.inl ⟨by omega, p1, S, p2, hb.1.mono (by omega), p4, p5⟩⟩
    · exact ⟨_, p3, by omega, by omega, Or.inr ⟨rfl, 5, n, trivial, Or.inr ⟨rfl, rfl, p1, p2⟩, mq, p4.s, p5⟩⟩
  subst hx9
  simp only [Option.toList_some, List.singleton_append]
  refine ga_iconst ok dX3_day_11 ?_
  refine ga_icmp_ne ok 25 (by decide) (by omega) (by omega) dX3_day_12 (fun c_12 => ?_) (fun c_12 => ?_)
  · obtain ⟨ht1, hz9, S, hrn, hOS, hf9, ht4⟩ : 0 ≤ x9 ∧ g.r 1 ≠ 0 ∧ ∃ S, rnD g.r n.toNat 1 = some (x9, S) ∧ gOk (T + 390) S ∧ gFr m mt 364 ∧ gIs mt 364 S := by rcases hc9.2.2 with h | h; exact h; exact absurd h.1 (by omega)
    have hX1 := hX.sfr hf9.s
    have hI0 := hX1.1.1
    refine ga_aload_n ok 0 rfl rfl dX3_day_25 ?_
    refine ga_aload_n ok 0 rfl rfl dX3_day_26 ?_
    refine gf_X3_12 ok hG rfl dX3_day_27 ?_
    refine gc_X3_1 ok hG rfl lk_X3_82 rfl (c_X3_keep ok.fl hG hX1 (a := 64) (Or.inl rfl) hI0 hT) (by rw [hR]; exact ⟨by decide, by decide, by decide, by decide⟩) (Nat.le_of_ble_eq_true rfl) dX3_day_30 (fun r9 m1 hq => ?_) (fun _ _ h => h.elim)
    obtain ⟨rfl, k1, k2, k3, k4⟩ := hq
    simp only [Option.toList_none, List.nil_append]
    have hI1 : gtIs m1 64 g.r := by have := k1.1.1; rw [kpG_r] at this; exact this
    refine ga_aload_n ok 0 rfl rfl dX3_day_33 ?_
    refine gf_X3_12 ok hG rfl dX3_day_34 ?_
    refine gf_X3_93 ok hG (by omega) dX3_day_37 ?_
    refine ga_iload_n ok 1 rfl rfl dX3_day_40 ?_
    refine ga_aaload_qa ok (ar_ga hG (by omega)) (by omega) dX3_day_41 ?_
    refine ga_aload_n ok 0 rfl rfl dX3_day_42 ?_
    refine gf_X3_40 ok hG rfl dX3_day_43 ?_
    refine gc_X1_1 ok hG (by omega) lk_X3_228 rfl (c_X1_copyFrom ok.fl hG (by omega) (by omega) (by omega) (k3 _ ht4)) (by rw [hR]; exact ⟨by decide, by decide, by decide, by decide⟩) (Nat.le_of_ble_eq_true rfl) dX3_day_46 (fun r9 m2 hq => ?_) (fun _ _ h => h.elim)
    obtain ⟨rfl, q1, q2⟩ := hq
    simp only [Option.toList_none, List.nil_append]
    have e7 : m2.1 364 7 = S 4 := by rw [(q1 364 (by omega) (by omega) (by omega) (by omega)).1]; exact (k3 _ ht4).2.2.2.2.1
    refine ga_aload_n ok 0 rfl rfl dX3_day_49 ?_
    refine gf_X3_40 ok hG rfl dX3_day_50 ?_
    refine gf_X3_165 ok hG (by omega) dX3_day_53 ?_
    exact ga_ireturn ok en rfl rfl (by decide) (by decide) dX3_day_56 (by
  have hs : (sp_day g n) = (0, S 4, chG g (stG g.r n.toNat S)) := by unfold sp_day; rw [if_neg (by omega), if_neg hz9, hrn]
  rw [hs]
  exact ⟨rfl, by rw [e7], k1.now (gtFr.of (by omega) (j := n.toNat) (by omega) q1) (gtIs.st hI1 (j := n.toNat) q1 (by omega) b0.2 b1.2 (by omega) q2) ((gtOk_stG (hT.mono (by omega)) hOS).mono (by omega)) (by omega), (hf9.x (by omega)).tr (k2.tr (q1.x (by omega)))⟩)
  · obtain ⟨a, b, -, hab, mq, hf9, hm3⟩ : ∃ a b : Int, True ∧ ((a = 3 ∧ b = g.r 0 ∧ g.r 1 = 0) ∨ (a = 5 ∧ b = n ∧ g.r 1 ≠ 0 ∧ rnD g.r n.toNat 1 = none)) ∧ ∃ m1, SFr m m1 ∧ mt = rfM m1 a b := by rcases hc9.2.2 with h | h; exact absurd h.1 (by omega); exact h.2
    exact ga_throw ok en htab lt_UnsupportedOperationException (text := "no visitors, or pushed too often") (by decide +kernel) ⟨by decide, by decide, by decide, by decide⟩ (Nat.le_of_ble_eq_true rfl) dX3_day_15 dX3_day_18 dX3_day_19 dX3_day_21 dX3_day_24 (by
  have hs : (sp_day g n) = (2, 0, rfG g a b) := by
    unfold sp_day
    rcases hab with ⟨e1, e2, e3⟩ | ⟨e1, e2, e3, e4⟩
    · rw [if_neg (by omega), if_pos e3, e1, e2]
    · rw [if_neg (by omega), if_neg e3, e4, e1, e2]
  have hr9 : (0 ≤ a ∧ a ≤ 5) ∧ (0 ≤ b ∧ b ≤ 256) := by rcases hab with h | h <;> omega
  rw [hs, hm3]
  exact ⟨Or.inr ⟨rfl, rfl⟩, ((hX.sfr hf9).rf hr9.1 hr9.2).mono (by omega), rfM.x hf9.x⟩)
set_option maxHeartbeats 4000000 in
set_option maxRecDepth 100000 in
theorem c_X3_days {G : GG} {l : Launch} (hfl : l.stackTraces = false) (hG : MW G) {m : Mm} {g : Gm} {T : Int} (hX : XIs T m g) (hT0 : 0 ≤ T ∧ T ≤ 1000000000) {n : Int} (hnR : -2147483648 ≤ n ∧ n ≤ 2147483647) {most : Int} (hmostR : -2147483648 ≤ most ∧ most ≤ 2147483647) : CT G l yX3_days cX3_days 4 (some .int) (RM 9 4 24) [.ref 0, vI n, vI most] m (fun r' m' => (sp_days g n most).1 = 0 ∧ r' = some (vI (sp_days g n most).2.1) ∧ XIs (T + 1000) m' (sp_days g n most).2.2 ∧ XFr m m') (fun X m' => (((sp_days g n most).1 = 1 ∧ X = "java/lang/IndexOutOfBoundsException") ∨ ((sp_days g n most).1 = 2 ∧ X = "java/lang/IllegalArgumentException") ∨ ((sp_days g n most).1 = 3 ∧ X = "java/lang/UnsupportedOperationException")) ∧ XIs (T + 1000) m' (sp_days g n most).2.2 ∧ XFr m m') := by
  refine CT.of RX3 [(0, .ref 0), (1, vI n), (2, vI most)] hfl (by decide +kernel) rfl rfl (Nat.le_of_ble_eq_true rfl) ?_
  intro E ok en hml hEl htab
  have hR : e_R E = RM 9 4 24 := en.2.2.2
  have hn0 : 0 < (e_c E).maxLocals := by rw [hml]; decide
  have hn1 : 1 < (e_c E).maxLocals := by rw [hml]; decide
  have hn2 : 2 < (e_c E).maxLocals := by rw [hml]; decide
  have hn3 : 3 < (e_c E).maxLocals := by rw [hml]; decide
  have hI := hX.1.1
  have hT := hX.1.2
  obtain ⟨e1, e4, hv, hgs⟩ := id hI
  obtain ⟨b0, b1, hvb, hgb⟩ := id hT
  refine ga_aload_n ok 0 rfl rfl dX3_days_0 ?_
  refine ga_iload_n ok 1 rfl rfl dX3_days_1 ?_
  refine gc_X3_1 ok hG rfl lk_X3_90 rfl (c_X3_requireGuard ok.fl hG hI hT hnR) (by rw [hR]; exact ⟨by decide, by decide, by decide, by decide⟩) (Nat.le_of_ble_eq_true rfl) dX3_days_2 (fun r9 m9 hq => ?_) (fun X9 m9 hq => by
    obtain ⟨rfl, qg, hm9⟩ := hq
    subst m9
    refine ga_out en htab (by decide) (by decide) ?_
    have hs : (sp_days g n most) = (1, 0, g) := by unfold sp_days; rw [if_pos (by omega)]
    rw [hs]
    exact ⟨Or.inl ⟨rfl, rfl⟩, hX.mono (by omega), XFr.rf⟩)
  obtain ⟨rfl, qg, hm9⟩ := hq
  subst m9
  simp only [Option.toList_none, List.nil_append]
  refine ga_iload_n ok 2 rfl rfl dX3_days_5 ?_
  refine gc_S_1 ok lk_X3_237 (c_X3_requireDays ok.fl hG hmostR) (by rw [hR]; exact ⟨by decide, by decide, by decide, by decide⟩) (Nat.le_of_ble_eq_true rfl) dX3_days_6 (fun r9 m9 hq => ?_) (fun X9 m9 hq => by
    obtain ⟨rfl, qm, hm9⟩ := hq
    subst m9
    refine ga_out en htab (by decide) (by decide) ?_
    have hs : (sp_days g n most) = (2, 0, g) := by unfold sp_days; rw [if_neg (by omega), if_pos (by omega)]
    rw [hs]
    exact ⟨Or.inr (Or.inl ⟨rfl, rfl⟩), hX.mono (by omega), XFr.rf⟩)
  obtain ⟨rfl, qm, hm9⟩ := hq
  subst m9
  simp only [Option.toList_none, List.nil_append]
  refine ga_aload_n ok 0 rfl rfl dX3_days_9 ?_
  refine ga_iload_n ok 1 rfl rfl dX3_days_10 ?_
  refine ga_iload_n ok 2 rfl rfl dX3_days_11 ?_
  refine gc_X3_2 ok hG rfl lk_X3_232 rfl (c_X3_tryDays ok.fl hG hI hT (most := most) qg (by omega)) (by rw [hR]; exact ⟨by decide, by decide, by decide, by decide⟩) (Nat.le_of_ble_eq_true rfl) dX3_days_12 (fun r9 mt hq => ?_) (fun _ _ h => h.elim)
  obtain ⟨x9, hx9, hc9⟩ : ∃ x9 : Int, r9 = some (vI x9) ∧ -1 ≤ x9 ∧ x9 ≤ 1000 ∧ ((0 ≤ x9 ∧ g.r 1 ≠ 0 ∧ ∃ S, rnD g.r n.toNat most = some (x9, S) ∧ gOk (T + 390) S ∧ gFr m mt 364 ∧ gIs mt 364 S) ∨ (x9 = -1 ∧ ∃ a b : Int, True ∧ ((a = 3 ∧ b = g.r 0 ∧ g.r 1 = 0) ∨ (a = 5 ∧ b = n ∧ g.r 1 ≠ 0 ∧ rnD g.r n.toNat most = none)) ∧ ∃ m1, SFr m m1 ∧ mt = rfM m1 a b)) := by
    rcases hq with ⟨p1, p2, p3⟩ | ⟨p1, d, S, p2, p3, p4, p5⟩ | ⟨p1, p2, p3, mq, p4, p5⟩
    · exact ⟨_, p2, by omega, by omega, Or.inr ⟨rfl, 3, g.r 0, trivial, Or.inl ⟨rfl, rfl, p1⟩, m, SFr.rf, p3⟩⟩
    · have hd := p2
      unfold rnD at hd
      have hb := gOk_dRun (by omega) _ _ _ _ (hgb n.toNat (by omega)) _ _ hd
      exact ⟨_, p3, by omega, by omega, Or.inl ⟨by omega, p1, S, p2, hb.1.mono (by omega), p4, p5⟩⟩
    · exact ⟨_, p3, by omega, by omega, Or.inr ⟨rfl, 5, n, trivial, Or.inr ⟨rfl, rfl, p1, p2⟩, mq, p4.s, p5⟩⟩
  subst hx9
  simp only [Option.toList_some, List.singleton_append]
  refine ga_istore_n ok 3 rfl hn3 dX3_days_15 ?_
  refine ga_iload_n ok 3 rfl rfl dX3_days_16 ?_
  refine ga_iconst ok dX3_days_17 ?_
  refine ga_icmp_ne ok 31 (by decide) (by omega) (by omega) dX3_days_18 (fun c_18 => ?_) (fun c_18 => ?_)
  · obtain ⟨ht1, hz9, S, hrn, hOS, hf9, ht4⟩ : 0 ≤ x9 ∧ g.r 1 ≠ 0 ∧ ∃ S, rnD g.r n.toNat most = some (x9, S) ∧ gOk (T + 390) S ∧ gFr m mt 364 ∧ gIs mt 364 S := by rcases hc9.2.2 with h | h; exact h; exact absurd h.1 (by omega)
    have hX1 := hX.sfr hf9.s
    have hI0 := hX1.1.1
    refine ga_aload_n ok 0 rfl rfl dX3_days_31 ?_
    refine ga_aload_n ok 0 rfl rfl dX3_days_32 ?_
    refine gf_X3_12 ok hG rfl dX3_days_33 ?_
    refine gc_X3_1 ok hG rfl lk_X3_82 rfl (c_X3_keep ok.fl hG hX1 (a := 64) (Or.inl rfl) hI0 hT) (by rw [hR]; exact ⟨by decide, by decide, by decide, by decide⟩) (Nat.le_of_ble_eq_true rfl) dX3_days_36 (fun r9 m1 hq => ?_) (fun _ _ h => h.elim)
    obtain ⟨rfl, k1, k2, k3, k4⟩ := hq
    simp only [Option.toList_none, List.nil_append]
    have hI1 : gtIs m1 64 g.r := by have := k1.1.1; rw [kpG_r] at this; exact this
    refine ga_aload_n ok 0 rfl rfl dX3_days_39 ?_
    refine gf_X3_12 ok hG rfl dX3_days_40 ?_
    refine gf_X3_93 ok hG (by omega) dX3_days_43 ?_
    refine ga_iload_n ok 1 rfl rfl dX3_days_46 ?_
    refine ga_aaload_qa ok (ar_ga hG (by omega)) (by omega) dX3_days_47 ?_
    refine ga_aload_n ok 0 rfl rfl dX3_days_48 ?_
    refine gf_X3_40 ok hG rfl dX3_days_49 ?_
    refine gc_X1_1 ok hG (by omega) lk_X3_228 rfl (c_X1_copyFrom ok.fl hG (by omega) (by omega) (by omega) (k3 _ ht4)) (by rw [hR]; exact ⟨by decide, by decide, by decide, by decide⟩) (Nat.le_of_ble_eq_true rfl) dX3_days_52 (fun r9 m2 hq => ?_) (fun _ _ h => h.elim)
    obtain ⟨rfl, q1, q2⟩ := hq
    simp only [Option.toList_none, List.nil_append]
    refine ga_iload_n ok 3 rfl rfl dX3_days_55 ?_
    exact ga_ireturn ok en rfl rfl (by decide) (by decide) dX3_days_56 (by
  have hs : (sp_days g n most) = (0, x9, chG g (stG g.r n.toNat S)) := by unfold sp_days; rw [if_neg (by omega), if_neg (by omega), if_neg hz9, hrn]
  rw [hs]
  exact ⟨rfl, rfl, k1.now (gtFr.of (by omega) (j := n.toNat) (by omega) q1) (gtIs.st hI1 (j := n.toNat) q1 (by omega) b0.2 b1.2 (by omega) q2) ((gtOk_stG (hT.mono (by omega)) hOS).mono (by omega)) (by omega), (hf9.x (by omega)).tr (k2.tr (q1.x (by omega)))⟩)
  · obtain ⟨a, b, -, hab, mq, hf9, hm3⟩ : ∃ a b : Int, True ∧ ((a = 3 ∧ b = g.r 0 ∧ g.r 1 = 0) ∨ (a = 5 ∧ b = n ∧ g.r 1 ≠ 0 ∧ rnD g.r n.toNat most = none)) ∧ ∃ m1, SFr m m1 ∧ mt = rfM m1 a b := by rcases hc9.2.2 with h | h; exact absurd h.1 (by omega); exact h.2
    exact ga_throw ok en htab lt_UnsupportedOperationException (text := "no visitors, or pushed too often") (by decide +kernel) ⟨by decide, by decide, by decide, by decide⟩ (Nat.le_of_ble_eq_true rfl) dX3_days_21 dX3_days_24 dX3_days_25 dX3_days_27 dX3_days_30 (by
  have hs : (sp_days g n most) = (3, 0, rfG g a b) := by
    unfold sp_days
    rcases hab with ⟨e1, e2, e3⟩ | ⟨e1, e2, e3, e4⟩
    · rw [if_neg (by omega), if_neg (by omega), if_pos e3, e1, e2]
    · rw [if_neg (by omega), if_neg (by omega), if_neg e3, e4, e1, e2]
  have hr9 : (0 ≤ a ∧ a ≤ 5) ∧ (0 ≤ b ∧ b ≤ 256) := by rcases hab with h | h <;> omega
  rw [hs, hm3]
  exact ⟨Or.inr (Or.inr ⟨rfl, rfl⟩), ((hX.sfr hf9).rf hr9.1 hr9.2).mono (by omega), rfM.x hf9.x⟩)
