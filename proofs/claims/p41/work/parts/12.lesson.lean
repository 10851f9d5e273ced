/-! LESSONS AND THE END OF A DAY -/
theorem gOk_tS {T : Int} {S : Nat → Int} {x fr : Int} (h : gOk T S) (ht : tOK S x fr = true) : gOk (T + 1) (tS S x fr) := by
  obtain ⟨h0, h1, h2, h3, h4⟩ := h
  have e0 : ∀ j, j ≠ 5 → j ≠ 3 → ¬ (6 ≤ j ∧ j < 17) → tS S x fr j = S j := fun j a b c => by
    unfold tS
    rw [if_neg a]
    by_cases hp : psS S x fr = true
    · rw [if_pos hp, if_neg b, if_neg (fun d => c ⟨d.1, d.2.1⟩)]
    · rw [if_neg hp]
  refine ⟨by rw [e0 0 (by omega) (by omega) (by omega)]; exact h0, by rw [e0 1 (by omega) (by omega) (by omega)]; exact h1, fun j a b => ?_, fun i hi => ?_, fun i hi => ?_⟩
  · have := h2 j a b
    have h5 := h2 5 (by omega) (by omega)
    have h3' := h2 3 (by omega) (by omega)
    unfold tS
    split
    · omega
    · split
      · split
        · omega
        · rw [if_neg (by omega)]; omega
      · omega
  · unfold tS
    rw [if_neg (by omega)]
    split
    · rename_i hp
      rw [if_neg (by omega)]
      split
      · rename_i hc
        unfold tOK at ht
        rw [hp, Bool.not_true, Bool.false_or] at ht
        exact rok_t.mp ht i hi (by have := hc.2.2; rw [show 6 + i - 6 = i by omega] at this; exact this)
      · exact h3 i hi
    · exact h3 i hi
  · rw [e0 (17 + i) (by omega) (by omega) (by omega)]; exact h4 i hi
/-- a guard after a lesson with a push, out of the numbers -/
theorem gIs.push {m m' : Mm} {g : Nat} {S : Nat → Int} {x fr : Int} (h : gIs m g S) (hp : psS S x fr = true) (h1 : ∀ j, m'.1 g j = if j = 6 then m.1 g 6 + 1 else if j = 8 then m.1 g 8 + 1 else m.1 g j)
    (h2 : ∀ j, j < 11 → m'.1 (g + 128) j = (if tch x j = true then m.1 (g + 128) j + dlt S fr else m.1 (g + 128) j) ∧ m'.2 (g + 64) j = fq (m'.1 (g + 128) j)) (h3 : m'.2 (g + 192) = m.2 (g + 192)) : gIs m' g (tS S x fr) := by
  obtain ⟨a0, a1, a5, a6, a7, a8, aw, as⟩ := h
  refine ⟨by rw [h1]; simp [tS, hp, a0], by rw [h1]; simp [tS, hp, a1], by rw [h1]; simp [tS, hp, a5], by rw [h1]; simp [tS, hp, a6], by rw [h1]; simp [tS, hp, a7], by rw [h1]; simp [tS, hp, a8], fun i hi => ?_, fun i hi => ?_⟩
  · obtain ⟨b1, b2⟩ := h2 i hi
    have e : m'.1 (g + 128) i = tS S x fr (6 + i) := by
      have e6 : 6 + i - 6 = i := by omega
      by_cases ht : tch x i = true
      · rw [b1, if_pos ht, (aw i hi).1]
        unfold tS
        rw [if_neg (by omega), if_pos hp, if_neg (by omega), if_pos ⟨by omega, by omega, by rw [e6]; exact ht⟩]
      · rw [b1, if_neg ht, (aw i hi).1]
        unfold tS
        rw [if_neg (by omega), if_pos hp, if_neg (by omega), if_neg (fun d => ht (by have := d.2.2; rw [e6] at this; exact this))]
    exact ⟨e, by rw [b2, e]⟩
  · rw [h3, as i hi]
    unfold tS
    rw [if_neg (by omega), if_pos hp, if_neg (by omega), if_neg (by omega)]
/-- .. and without one -/
theorem gIs.calm {m m' : Mm} {g : Nat} {S : Nat → Int} {x fr : Int} (h : gIs m g S) (hp : psS S x fr = false) (h1 : ∀ j, m'.1 g j = if j = 8 then m.1 g 8 + 1 else m.1 g j) (h2 : m'.1 (g + 128) = m.1 (g + 128)) (h3 : m'.2 = m.2) : gIs m' g (tS S x fr) := by
  obtain ⟨a0, a1, a5, a6, a7, a8, aw, as⟩ := h
  have hz : ∀ j, j ≠ 5 → tS S x fr j = S j := fun j hj => by unfold tS; rw [if_neg hj, hp]; rfl
  refine ⟨by rw [h1, hz 0 (by omega)]; simp [a0], by rw [h1, hz 1 (by omega)]; simp [a1], by rw [h1, hz 2 (by omega)]; simp [a5], by rw [h1, hz 3 (by omega)]; simp [a6], by rw [h1, hz 4 (by omega)]; simp [a7], by rw [h1]; simp [tS, a8], fun i hi => ?_, fun i hi => ?_⟩
  · rw [h2, h3, hz (6 + i) (by omega)]; exact aw i hi
  · rw [h3, hz (17 + i) (by omega)]; exact as i hi
set_option maxHeartbeats 4000000 in
set_option maxRecDepth 100000 in
/-- a lesson -/
theorem c_X1_learn {G : GG} {l : Launch} (hfl : l.stackTraces = false) (hG : MW G) {m : Mm} {g : Nat} (hg : 320 ≤ g ∧ g < 365) {x fr : Int} (hx : 0 ≤ x ∧ x ≤ 1023) (hfr : fr = 0 ∨ fr = 1) {S : Nat → Int} {T : Int} (hS : gIs m g S) (hT : gOk T S) : CT G l yX1_learn cX1_learn 3 (some .int) (RM 1 0 0) [.ref g, vI x, vI fr] m (fun r m' => (tOK S x fr = true ∧ r = some (vI (b2i (psS S x fr))) ∧ gFr m m' g ∧ gIs m' g (tS S x fr)) ∨ (tOK S x fr = false ∧ r = some (vI (-1)) ∧ m' = m)) (fun _ _ => False) := by
  refine CT.of RX1 [(0, .ref g), (1, vI x), (2, vI fr)] hfl (by decide +kernel) rfl rfl (Nat.le_of_ble_eq_true rfl) ?_
  intro E ok en hml hEl htab
  have hR : e_R E = RM 1 0 0 := en.2.2.2
  have hn0 : 0 < (e_c E).maxLocals := by rw [hml]; decide
  have hn1 : 1 < (e_c E).maxLocals := by rw [hml]; decide
  have hn2 : 2 < (e_c E).maxLocals := by rw [hml]; decide
  have hc := hS.c hT
  have hw := hS.w
  have hmg := hS.mg x
  obtain ⟨a0, a1, a5, a6, a7, a8, aw, as⟩ := id hS
  have hb := mg_bd hc x
  have hcn : ∀ i, i < 11 → m.1 (g + 128) i = gcn S i := fun i hi => (aw i hi).1
  have ep : pshd (mg (m.1 (g + 128)) x) (m.1 g 1) fr = psS S x fr := by unfold psS; rw [hmg, a1]
  have er : rok (m.1 (g + 128)) x (if fr = 1 then m.1 g 0 else -(m.1 g 0)) = rok (gcn S) x (dlt S fr) := by rw [rok_cong hcn, a0]; rfl
  refine ga_aload_n ok 0 rfl rfl dX1_learn_0 ?_
  refine ga_aload_n ok 0 rfl rfl dX1_learn_1 ?_
  refine ga_iload_n ok 1 rfl rfl dX1_learn_2 ?_
  refine gd_X1_1 ok hG (by omega) lk_X1_48 rfl (c_X1_marginOf ok.fl hG hg hx hw hc) (by rw [hR]; exact ⟨by decide, by decide, by decide, by decide⟩) (Nat.le_of_ble_eq_true rfl) dX1_learn_3 ?_
  refine ga_iload_n ok 2 rfl rfl dX1_learn_6 ?_
  refine gd_X1_2 ok hG (by omega) lk_X1_54 rfl (c_X1_needsPush ok.fl hG hg hb hfr (by rw [a1]; exact hT.2.1)) (by rw [hR]; exact ⟨by decide, by decide, by decide, by decide⟩) (Nat.le_of_ble_eq_true rfl) dX1_learn_7 ?_
  rw [ep]
  refine ga_if_ne ok 25 (by decide) (b2i_rng _) dX1_learn_10 (fun c_10 => ?_) (fun c_10 => ?_)
  · have h10 := b2i_n0.mp c_10
    refine ga_aload_n ok 0 rfl rfl dX1_learn_25 ?_
    refine ga_iload_n ok 1 rfl rfl dX1_learn_26 ?_
    refine ga_iload_n ok 2 rfl rfl dX1_learn_27 ?_
    refine gd_X1_2 ok hG (by omega) lk_X1_58 rfl (c_X1_hasRoom ok.fl hG hg hx hfr hc (by rw [a0]; exact hT.1)) (by rw [hR]; exact ⟨by decide, by decide, by decide, by decide⟩) (Nat.le_of_ble_eq_true rfl) dX1_learn_28 ?_
    rw [er]
    refine ga_if_ne ok 36 (by decide) (b2i_rng _) dX1_learn_31 (fun c_31 => ?_) (fun c_31 => ?_)
    · have h31 := b2i_n0.mp c_31
      refine ga_aload_n ok 0 rfl rfl dX1_learn_36 ?_
      refine ga_dup ok dX1_learn_37 rfl ?_
      refine gf_X1_38 ok hG (by omega) dX1_learn_38 ?_
      refine ga_iconst ok dX1_learn_41 ?_
      refine ga_iadd ok dX1_learn_42 ?_
      refine gp_X1_38 ok hG (by omega) dX1_learn_43 ?_
      refine ga_aload_n ok 0 rfl rfl dX1_learn_46 ?_
      refine ga_iload_n ok 1 rfl rfl dX1_learn_47 ?_
      refine ga_iload_n ok 2 rfl rfl dX1_learn_48 ?_
      refine gc_X1_2 ok hG (by omega) lk_X1_62 rfl (c_X1_push ok.fl hG hg hx hfr (fun i hi => by rw [upI_2, upI_r (by omega)]; exact hw i hi) (by rw [upI_r (by omega)]; exact hc) (by rw [upI_no (by omega), a0]; exact hT.1) (dl := dlt S fr) (by rw [upI_no (by omega), a0]; rfl) (by rw [upI_r (by omega), rok_cong hcn]; exact h31)) (by rw [hR]; exact ⟨by decide, by decide, by decide, by decide⟩) (Nat.le_of_ble_eq_true rfl) dX1_learn_49 (fun r m2 hq => ?_) (fun _ _ h => h.elim)
      obtain ⟨rfl, q1, q2, q3, q4⟩ := hq
      simp only [Option.toList_none, List.nil_append]
      refine ga_iconst ok dX1_learn_52 ?_
      exact ga_ireturn ok en rfl rfl (by decide) (by decide) dX1_learn_53 (Or.inl ⟨by unfold tOK; rw [h31, Bool.or_true], by rw [h10]; rfl, (gFr.rf.uI (Or.inl rfl)).tr q1, hS.push h10 (fun j => by
    rw [q2]
    by_cases e : j = 6
    · subst e; rw [if_pos rfl, if_pos rfl, upI_no (by omega)]
    · rw [if_neg e, if_neg e]
      by_cases e8 : j = 8
      · subst e8; rw [if_pos rfl, upI_at]
      · rw [if_neg e8, upI_no (by omega)]) (fun j hj => by
    have := q3 j hj
    rw [upI_r (by omega)] at this
    exact this) q4⟩)
    · have h31 := b2i_0.mp c_31
      refine ga_iconst ok dX1_learn_34 ?_
      exact ga_ireturn ok en rfl rfl (by decide) (by decide) dX1_learn_35 (Or.inr ⟨by unfold tOK; rw [h10, h31]; rfl, rfl, rfl⟩)
  · have h10 := b2i_0.mp c_10
    refine ga_aload_n ok 0 rfl rfl dX1_learn_13 ?_
    refine ga_dup ok dX1_learn_14 rfl ?_
    refine gf_X1_38 ok hG (by omega) dX1_learn_15 ?_
    refine ga_iconst ok dX1_learn_18 ?_
    refine ga_iadd ok dX1_learn_19 ?_
    refine gp_X1_38 ok hG (by omega) dX1_learn_20 ?_
    refine ga_iconst ok dX1_learn_23 ?_
    exact ga_ireturn ok en rfl rfl (by decide) (by decide) dX1_learn_24 (Or.inl ⟨by unfold tOK; rw [h10]; rfl, by rw [h10]; rfl, gFr.rf.uI (Or.inl rfl), hS.calm h10 (fun j => by
    by_cases e : j = 8
    · subst e; rw [if_pos rfl, upI_at]
    · rw [if_neg e, upI_no (by omega)]) (upI_r (by omega)) rfl⟩)
theorem gIs.endDay {m m' : Mm} {g : Nat} {S : Nat → Int} {p : Int} (h : gIs m g S) (h1 : ∀ j, m'.1 g j = if j = 5 then m.1 g 5 + 1 else if j = 7 then p else m.1 g j) (h2 : m'.1 (g + 128) = m.1 (g + 128)) (h3 : m'.2 (g + 64) = m.2 (g + 64))
    (h4 : ∀ i, i < 10 → m'.2 (g + 192) i = FP.fadd (m.2 (g + 192) i) (m.2 (g + 64) (i + 1))) : gIs m' g (eS S p) := by
  obtain ⟨a0, a1, a5, a6, a7, a8, aw, as⟩ := h
  refine ⟨by rw [h1]; simp [eS, a0], by rw [h1]; simp [eS, a1], by rw [h1]; simp [eS, a5], by rw [h1]; simp [eS, a6], by rw [h1]; simp [eS], by rw [h1]; simp [eS, a8], fun i hi => ?_, fun i hi => ?_⟩
  · have e : eS S p (6 + i) = S (6 + i) := by unfold eS; rw [if_neg (by omega), if_neg (by omega), if_neg (by omega)]
    rw [h2, h3, e]; exact aw i hi
  · have e : eS S p (17 + i) = fword (FP.fadd (fbits (S (17 + i))) (fq (S (17 + i - 10)))) := by unfold eS; rw [if_neg (by omega), if_neg (by omega), if_pos (by omega)]
    rw [e, fbits_word, h4 i hi, as i hi, (aw (i + 1) (by omega)).2, show 17 + i - 10 = 6 + (i + 1) by omega]
theorem gOk_eS {T : Int} {S : Nat → Int} {p : Int} (h : gOk T S) (hp : 0 ≤ p ∧ p ≤ T + 1) : gOk (T + 1) (eS S p) := by
  obtain ⟨h0, h1, h2, h3, h4⟩ := h
  have e0 : ∀ j, j ≠ 2 → j ≠ 4 → ¬ (17 ≤ j ∧ j < 27) → eS S p j = S j := fun j a b c => by
    unfold eS; rw [if_neg a, if_neg b, if_neg c]
  refine ⟨by rw [e0 0 (by omega) (by omega) (by omega)]; exact h0, by rw [e0 1 (by omega) (by omega) (by omega)]; exact h1, fun j a b => ?_, fun i hi => by rw [e0 _ (by omega) (by omega) (by omega)]; exact h3 i hi, fun i hi => ?_⟩
  · have := h2 j a b
    have h2' := h2 2 (by omega) (by omega)
    unfold eS
    split
    · omega
    · split
      · omega
      · rw [if_neg (by omega)]; omega
  · have e : eS S p (17 + i) = fword (FP.fadd (fbits (S (17 + i))) (fq (S (17 + i - 10)))) := by unfold eS; rw [if_neg (by omega), if_neg (by omega), if_pos (by omega)]
    rw [e, fbits_word]
    have hk := h3 (i + 1) (by omega)
    rw [show 17 + i - 10 = 6 + (i + 1) by omega]
    exact ⟨nan_add (h4 i hi).1 (by omega), fword_rng _⟩
set_option maxHeartbeats 4000000 in
set_option maxRecDepth 100000 in
/-- the end of a day -/
theorem c_X1_endDay {G : GG} {l : Launch} (hfl : l.stackTraces = false) (hG : MW G) {m : Mm} {g : Nat} (hg : 320 ≤ g ∧ g < 365) {p : Int} {S : Nat → Int} {T : Int} (hS : gIs m g S) (hT : gOk T S) : CT G l yX1_endDay cX1_endDay 3 none (RM 0 0 0) [.ref g, vI p] m (fun r m' => r = none ∧ gFr m m' g ∧ gIs m' g (eS S p)) (fun _ _ => False) := by
  refine CT.of RX1 [(0, .ref g), (1, vI p)] hfl (by decide +kernel) rfl rfl (Nat.le_of_ble_eq_true rfl) ?_
  intro E ok en hml hEl htab
  have hR : e_R E = RM 0 0 0 := en.2.2.2
  have hn0 : 0 < (e_c E).maxLocals := by rw [hml]; decide
  have hn1 : 1 < (e_c E).maxLocals := by rw [hml]; decide
  have hn2 : 2 < (e_c E).maxLocals := by rw [hml]; decide
  obtain ⟨m1, hm1⟩ : ∃ z, z = upI (upI m g 5 (m.1 g 5 + 1)) g 7 p := ⟨_, rfl⟩
  have f1 : gFr m m1 g := by rw [hm1]; exact (gFr.rf.uI (Or.inl rfl)).uI (Or.inl rfl)
  obtain ⟨a0, a1, a5, a6, a7, a8, aw, as⟩ := id hS
  have loop : ∀ (i : Int) (m2 : Mm), (0 ≤ i ∧ i ≤ 10 ∧ gFr m m2 g ∧ m2.1 = m1.1 ∧ m2.2 (g + 64) = m.2 (g + 64) ∧ ∀ j : Nat, j < 10 → m2.2 (g + 192) j = if (j : Int) < i then FP.fadd (m.2 (g + 192) j) (m.2 (g + 64) (j + 1)) else m.2 (g + 192) j) → WA G E 0 0 17 [(2, vI i), (0, .ref g), (1, vI p)] [] m2 := by
    refine wl2 _ (fun i _ => (10 - i).toNat) _ ?_
    intro i m2 hi ih
    obtain ⟨i0, i1, hfr, hgg, hwe, hall⟩ := hi
    have hsu : (i + 1).toNat = i.toNat + 1 := by omega
    refine ga_iload_n ok 2 rfl rfl dX1_endDay_17 ?_
    refine ga_bipush ok dX1_endDay_18 (by decide) ?_
    refine ga_icmp_ge ok 50 (by decide) (by omega) (by omega) dX1_endDay_20 (fun c_20 => ?_) (fun c_20 => ?_)
    · exact ga_return ok en rfl (by decide) (by decide) dX1_endDay_50 ⟨rfl, hfr, hS.endDay (fun j => by
  rw [hgg, hm1]
  by_cases e : j = 7
  · subst e; rw [if_neg (by omega), if_pos rfl, upI_at]
  · rw [upI_no (by omega)]
    by_cases e5 : j = 5
    · subst e5; rw [if_pos rfl, upI_at]
    · rw [upI_no (by omega), if_neg e5, if_neg e]) (by rw [hgg, hm1, upI_r (by omega), upI_r (by omega)]) hwe (fun j hj => by rw [hall j hj, if_pos (by omega)])⟩
    · refine ga_aload_n ok 0 rfl rfl dX1_endDay_23 ?_
      refine gf_X1_26 ok hG (by omega) dX1_endDay_24 ?_
      refine ga_iload_n ok 2 rfl rfl dX1_endDay_27 ?_
      refine ga_aload_n ok 0 rfl rfl dX1_endDay_28 ?_
      refine gf_X1_26 ok hG (by omega) dX1_endDay_29 ?_
      refine ga_iload_n ok 2 rfl rfl dX1_endDay_32 ?_
      refine ga_faload_fa ok (ar_su hG (by omega)) (by omega) dX1_endDay_33 ?_
      have h9 := hall i.toNat (by omega)
      rw [if_neg (by omega)] at h9
      rw [h9]
      refine ga_aload_n ok 0 rfl rfl dX1_endDay_34 ?_
      refine gf_X1_18 ok hG (by omega) dX1_endDay_35 ?_
      refine ga_iload_n ok 2 rfl rfl dX1_endDay_38 ?_
      refine ga_iconst ok dX1_endDay_39 ?_
      refine ga_iadd ok dX1_endDay_40 ?_
      refine ga_faload_fa ok (ar_we hG (by omega)) (by omega) dX1_endDay_41 ?_
      rw [hwe, hsu]
      have hn : FP.Core.val32 (FP.fadd (m.2 (g + 192) i.toNat) (m.2 (g + 64) (i.toNat + 1))) ≠ .nan := by
        have hk := hT.2.2.2.1 (i.toNat + 1) (by omega)
        rw [as _ (by omega), (aw _ (by omega)).2]
        exact nan_add (hT.2.2.2.2 _ (by omega)).1 (by omega)
      refine ga_fadd ok dX1_endDay_42 (n32_of hn) ?_
      refine ga_fastore_fa ok (ar_su hG (by omega)) (by omega) dX1_endDay_43 ?_
      refine ga_iinc ok rfl hn2 dX1_endDay_44 ?_
      refine ga_goto ok 17 (by decide) dX1_endDay_47 ?_
      exact WA.re (by exact ⟨rfl, rfl, rfl, trivial⟩) (ih (i + 1) _ ⟨by omega, by omega, hfr.uF (Or.inr (Or.inr (Or.inr rfl))), by rw [upF_1]; exact hgg, by rw [upF_r (by omega)]; exact hwe, fun j hj => by
        by_cases e : j = i.toNat
        · subst e; rw [upF_at, if_pos (by omega)]
        · rw [upF_no (by omega), hall j hj]
          have e3 : (j : Int) < i ↔ (j : Int) < i + 1 := by omega
          simp only [e3]⟩ (by omega))
  refine ga_aload_n ok 0 rfl rfl dX1_endDay_0 ?_
  refine ga_dup ok dX1_endDay_1 rfl ?_
  refine gf_X1_29 ok hG (by omega) dX1_endDay_2 ?_
  refine ga_iconst ok dX1_endDay_5 ?_
  refine ga_iadd ok dX1_endDay_6 ?_
  refine gp_X1_29 ok hG (by omega) dX1_endDay_7 ?_
  refine ga_aload_n ok 0 rfl rfl dX1_endDay_10 ?_
  refine ga_iload_n ok 1 rfl rfl dX1_endDay_11 ?_
  refine gp_X1_35 ok hG (by omega) dX1_endDay_12 ?_
  rw [← hm1]
  refine ga_iconst ok dX1_endDay_15 ?_
  refine ga_istore_n ok 2 rfl hn2 dX1_endDay_16 ?_
  exact WA.re (by exact ⟨rfl, rfl, rfl, trivial⟩) (loop 0 _ ⟨by omega, by omega, f1, rfl, by rw [hm1]; rfl, fun j hj => by rw [if_neg (by omega), hm1]; rfl⟩)
