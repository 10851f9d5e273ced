/-! WHAT A GUARD'S METHODS CHANGE -/
theorem upI_r {m : Mm} {a i n : Nat} {v : Int} (h : n ≠ a) : (upI m a i v).1 n = m.1 n := ((upI_ne n h).1).symm
theorem upF_r {m : Mm} {a i n : Nat} {v : UInt32} (h : n ≠ a) : (upF m a i v).2 n = m.2 n := ((upF_ne n h).2).symm
theorem cpI_r {m : Mm} {a0 a sp dp c n : Nat} (h : n ≠ a) : (cpI m a0 a sp dp c).1 n = m.1 n := ((cpI_ne n h).1).symm
theorem cpF_r {m : Mm} {a0 a sp dp c n : Nat} (h : n ≠ a) : (cpF m a0 a sp dp c).2 n = m.2 n := ((cpF_ne n h).2).symm
theorem cpI_2 {m : Mm} {a0 a sp dp c : Nat} : (cpI m a0 a sp dp c).2 = m.2 := rfl
theorem cpF_1 {m : Mm} {a0 a sp dp c : Nat} : (cpF m a0 a sp dp c).1 = m.1 := rfl
theorem gFr.uI {m m' : Mm} {g a i : Nat} {v : Int} (h : gFr m m' g) (ha : a = g ∨ a = g + 64 ∨ a = g + 128 ∨ a = g + 192) : gFr m (upI m' a i v) g := fun n h1 h2 h3 h4 => by
  obtain ⟨e1, e2⟩ := h n h1 h2 h3 h4
  exact ⟨by rw [upI_r (by omega)]; exact e1, e2⟩
theorem gFr.uF {m m' : Mm} {g a i : Nat} {v : UInt32} (h : gFr m m' g) (ha : a = g ∨ a = g + 64 ∨ a = g + 128 ∨ a = g + 192) : gFr m (upF m' a i v) g := fun n h1 h2 h3 h4 => by
  obtain ⟨e1, e2⟩ := h n h1 h2 h3 h4
  exact ⟨e1, by rw [upF_r (by omega)]; exact e2⟩
theorem gFr.cI {m m' : Mm} {g a0 a sp dp c : Nat} (h : gFr m m' g) (ha : a = g ∨ a = g + 64 ∨ a = g + 128 ∨ a = g + 192) : gFr m (cpI m' a0 a sp dp c) g := fun n h1 h2 h3 h4 => by
  obtain ⟨e1, e2⟩ := h n h1 h2 h3 h4
  exact ⟨by rw [cpI_r (by omega)]; exact e1, e2⟩
theorem gFr.cF {m m' : Mm} {g a0 a sp dp c : Nat} (h : gFr m m' g) (ha : a = g ∨ a = g + 64 ∨ a = g + 128 ∨ a = g + 192) : gFr m (cpF m' a0 a sp dp c) g := fun n h1 h2 h3 h4 => by
  obtain ⟨e1, e2⟩ := h n h1 h2 h3 h4
  exact ⟨e1, by rw [cpF_r (by omega)]; exact e2⟩
/-- a new guard -/
def nS (rate : Int) : Nat → Int := fun j => if j = 0 then rate else 0
theorem fbits_0 : fbits 0 = FP.fconst0 := by decide
theorem fbits_word (x : UInt32) : fbits (fword x) = x := by
  unfold fbits fword
  rw [Int32.ofInt_toInt]
  rfl
theorem fword_rng (x : UInt32) : -2147483648 ≤ fword x ∧ fword x ≤ 2147483647 := by
  have h1 := x.toInt32.toInt_lt
  have h2 := x.toInt32.le_toInt
  unfold fword
  omega
/-- a finite number added to what is no NaN is none -/
theorem nan_add {s : UInt32} {k : Int} (hs : FP.Core.val32 s ≠ .nan) (hk : -16777216 < k ∧ k < 16777216) : FP.Core.val32 (FP.fadd s (fq k)) ≠ .nan := by
  have e : FP.Core.val32 (FP.fadd s (fq k)) = FP.Core.round FP.Core.b32 (FP.Core.exactSum (FP.Core.val32 s) (FP.Core.val32 (fq k))) := FP.Core.val32_fadd _ _
  rw [e, fq_val hk]
  obtain ⟨c, q, e1, -⟩ := R6_shape hk
  rw [e1]
  cases h : FP.Core.val32 s with
  | nan => exact absurd h hs
  | inf t => exact FP.Core.Datum.noConfusion
  | fin t d r =>
    show FP.Core.roundRatio _ _ _ _ _ ≠ _
    rcases FP.Core.roundRatio_cases FP.Core.b32 (FP.Core.sumSign t (decide (k < 0)) (FP.Core.sumUnits t d r (decide (k < 0)) c q (min r q))) (FP.Core.sumUnits t d r (decide (k < 0)) c q (min r q)).natAbs 1 (min r q) with ⟨c, q, h⟩ | h <;> rw [h] <;> exact FP.Core.Datum.noConfusion
set_option maxHeartbeats 4000000 in
set_option maxRecDepth 100000 in
/-- a new guard -/
theorem c_X1_begin {G : GG} {l : Launch} (hfl : l.stackTraces = false) (hG : MW G) {m : Mm} {g : Nat} (hg : 320 ≤ g ∧ g < 365) {x : Int} : CT G l yX1_begin cX1_begin 3 none (RM 0 0 0) [.ref g, vI x] m (fun r m' => r = none ∧ gFr m m' g ∧ gIs m' g (nS x)) (fun _ _ => False) := by
  refine CT.of RX1 [(0, .ref g), (1, vI x)] hfl (by decide +kernel) rfl rfl (Nat.le_of_ble_eq_true rfl) ?_
  intro E ok en hml hEl htab
  have hR : e_R E = RM 0 0 0 := en.2.2.2
  have hn0 : 0 < (e_c E).maxLocals := by rw [hml]; decide
  have hn1 : 1 < (e_c E).maxLocals := by rw [hml]; decide
  have hn2 : 2 < (e_c E).maxLocals := by rw [hml]; decide
  obtain ⟨m1, hm1⟩ : ∃ z, z = upI (upI (upI (upI (upI (upI m g 0 x) g 1 0) g 5 0) g 6 0) g 7 0) g 8 0 := ⟨_, rfl⟩
  have f1 : gFr m m1 g := by rw [hm1]; exact (((((gFr.rf.uI (Or.inl rfl)).uI (Or.inl rfl)).uI (Or.inl rfl)).uI (Or.inl rfl)).uI (Or.inl rfl)).uI (Or.inl rfl)
  have v1 : m1.1 g 0 = x ∧ m1.1 g 1 = 0 ∧ m1.1 g 5 = 0 ∧ m1.1 g 6 = 0 ∧ m1.1 g 7 = 0 ∧ m1.1 g 8 = 0 := by rw [hm1]; simp [upI, up2]
  have loop2 : ∀ (i : Int) (m2 : Mm), (0 ≤ i ∧ i ≤ 10 ∧ gFr m m2 g ∧ m2.1 g = m1.1 g ∧ (∀ j : Nat, j < 11 → m2.1 (g + 128) j = 0 ∧ m2.2 (g + 64) j = FP.fconst0) ∧ ∀ j : Nat, (j : Int) < i → m2.2 (g + 192) j = FP.fconst0) → WA G E 0 0 60 [(2, vI i), (0, .ref g)] [] m2 := by
    refine wl2 _ (fun i _ => (10 - i).toNat) _ ?_
    intro i m2 hi ih
    obtain ⟨i0, i1, hfr, hgg, hall, hsu⟩ := hi
    refine ga_iload_n ok 2 rfl rfl dX1_begin_60 ?_
    refine ga_bipush ok dX1_begin_61 (by decide) ?_
    refine ga_icmp_ge ok 79 (by decide) (by omega) (by omega) dX1_begin_63 (fun c_63 => ?_) (fun c_63 => ?_)
    · exact ga_return ok en rfl (by decide) (by decide) dX1_begin_79 ⟨rfl, hfr, by
  obtain ⟨a0, a1, a5, a6, a7, a8⟩ := v1
  refine ⟨by rw [hgg]; exact a0, by rw [hgg]; exact a1, by rw [hgg]; exact a5, by rw [hgg]; exact a6, by rw [hgg]; exact a7, by rw [hgg]; exact a8, fun j hj => ⟨by rw [(hall j hj).1]; simp [nS], ?_⟩, fun j hj => ?_⟩
  · rw [(hall j hj).2, ← fq_0]; simp [nS]
  · rw [hsu j (by omega), ← fbits_0]; simp [nS]⟩
    · refine ga_aload_n ok 0 rfl rfl dX1_begin_66 ?_
      refine gf_X1_26 ok hG (by omega) dX1_begin_67 ?_
      refine ga_iload_n ok 2 rfl rfl dX1_begin_70 ?_
      refine ga_fconst0 ok dX1_begin_71 ?_
      refine ga_fastore_fa ok (ar_su hG (by omega)) (by omega) dX1_begin_72 ?_
      refine ga_iinc ok rfl hn2 dX1_begin_73 ?_
      refine ga_goto ok 60 (by decide) dX1_begin_76 ?_
      exact WA.re (by exact ⟨rfl, rfl, trivial⟩) (ih (i + 1) _ ⟨by omega, by omega, hfr.uF (Or.inr (Or.inr (Or.inr rfl))), hgg, fun j hj => ⟨(hall j hj).1, by rw [upF_r (by omega)]; exact (hall j hj).2⟩, fun j hj => by
        by_cases e : j = i.toNat
        · subst e; exact upF_at
        · rw [upF_no (by omega)]; exact hsu j (by omega)⟩ (by omega))
  have loop : ∀ (i : Int) (m2 : Mm), (0 ≤ i ∧ i ≤ 11 ∧ gFr m m2 g ∧ m2.1 g = m1.1 g ∧ ∀ j : Nat, (j : Int) < i → m2.1 (g + 128) j = 0 ∧ m2.2 (g + 64) j = FP.fconst0) → WA G E 0 0 32 [(2, vI i), (0, .ref g)] [] m2 := by
    refine wl2 _ (fun i _ => (11 - i).toNat) _ ?_
    intro i m2 hi ih
    obtain ⟨i0, i1, hfr, hgg, hall⟩ := hi
    refine ga_iload_n ok 2 rfl rfl dX1_begin_32 ?_
    refine ga_bipush ok dX1_begin_33 (by decide) ?_
    refine ga_icmp_gt ok 58 (by decide) (by omega) (by omega) dX1_begin_35 (fun c_35 => ?_) (fun c_35 => ?_)
    · refine ga_iconst ok dX1_begin_58 ?_
      refine ga_istore_n ok 2 rfl hn2 dX1_begin_59 ?_
      exact WA.re (by exact ⟨rfl, rfl, trivial⟩) (loop2 0 _ ⟨by omega, by omega, hfr, hgg, fun j hj => hall j (by omega), fun j hj => by omega⟩)
    · refine ga_aload_n ok 0 rfl rfl dX1_begin_38 ?_
      refine gf_X1_18 ok hG (by omega) dX1_begin_39 ?_
      refine ga_iload_n ok 2 rfl rfl dX1_begin_42 ?_
      refine ga_fconst0 ok dX1_begin_43 ?_
      refine ga_fastore_fa ok (ar_we hG (by omega)) (by omega) dX1_begin_44 ?_
      refine ga_aload_n ok 0 rfl rfl dX1_begin_45 ?_
      refine gf_X1_22 ok hG (by omega) dX1_begin_46 ?_
      refine ga_iload_n ok 2 rfl rfl dX1_begin_49 ?_
      refine ga_iconst ok dX1_begin_50 ?_
      refine ga_iastore_ia ok (ar_co hG (by omega)) (by omega) dX1_begin_51 ?_
      refine ga_iinc ok rfl hn2 dX1_begin_52 ?_
      refine ga_goto ok 32 (by decide) dX1_begin_55 ?_
      exact WA.re (by exact ⟨rfl, rfl, trivial⟩) (ih (i + 1) _ ⟨by omega, by omega, (hfr.uF (Or.inr (Or.inl rfl))).uI (Or.inr (Or.inr (Or.inl rfl))), by rw [upI_r (by omega)]; exact hgg, fun j hj => by
        by_cases e : j = i.toNat
        · subst e; exact ⟨upI_at, upF_at⟩
        · rw [upI_no (by omega), upI_2, upF_no (by omega)]; exact hall j (by omega)⟩ (by omega))
  refine ga_aload_n ok 0 rfl rfl dX1_begin_0 ?_
  refine ga_iload_n ok 1 rfl rfl dX1_begin_1 ?_
  refine gp_X1_9 ok hG (by omega) dX1_begin_2 ?_
  refine ga_aload_n ok 0 rfl rfl dX1_begin_5 ?_
  refine ga_iconst ok dX1_begin_6 ?_
  refine gp_X1_15 ok hG (by omega) dX1_begin_7 ?_
  refine ga_aload_n ok 0 rfl rfl dX1_begin_10 ?_
  refine ga_iconst ok dX1_begin_11 ?_
  refine gp_X1_29 ok hG (by omega) dX1_begin_12 ?_
  refine ga_aload_n ok 0 rfl rfl dX1_begin_15 ?_
  refine ga_iconst ok dX1_begin_16 ?_
  refine gp_X1_32 ok hG (by omega) dX1_begin_17 ?_
  refine ga_aload_n ok 0 rfl rfl dX1_begin_20 ?_
  refine ga_iconst ok dX1_begin_21 ?_
  refine gp_X1_35 ok hG (by omega) dX1_begin_22 ?_
  refine ga_aload_n ok 0 rfl rfl dX1_begin_25 ?_
  refine ga_iconst ok dX1_begin_26 ?_
  refine gp_X1_38 ok hG (by omega) dX1_begin_27 ?_
  rw [← hm1]
  refine ga_iconst ok dX1_begin_30 ?_
  refine ga_istore_n ok 2 rfl hn2 dX1_begin_31 ?_
  exact WA.re (by exact ⟨rfl, rfl, trivial⟩) (loop 0 _ ⟨by omega, by omega, f1, rfl, fun j hj => by omega⟩)
set_option maxHeartbeats 4000000 in
set_option maxRecDepth 100000 in
/-- another guard, copied -/
theorem c_X1_copyFrom {G : GG} {l : Launch} (hfl : l.stackTraces = false) (hG : MW G) {m : Mm} {g : Nat} (hg : 320 ≤ g ∧ g < 365) {h : Nat} (hh : 320 ≤ h ∧ h < 365) (hne : h ≠ g) {S : Nat → Int} (hS : gIs m h S) : CT G l yX1_copyFrom cX1_copyFrom 2 none (RM 0 0 0) [.ref g, .ref h] m (fun r m' => r = none ∧ gFr m m' g ∧ gIs m' g S) (fun _ _ => False) := by
  refine CT.of RX1 [(0, .ref g), (1, .ref h)] hfl (by decide +kernel) rfl rfl (Nat.le_of_ble_eq_true rfl) ?_
  intro E ok en hml hEl htab
  have hR : e_R E = RM 0 0 0 := en.2.2.2
  have hn0 : 0 < (e_c E).maxLocals := by rw [hml]; decide
  have hn1 : 1 < (e_c E).maxLocals := by rw [hml]; decide
  refine ga_aload_n ok 0 rfl rfl dX1_copyFrom_0 ?_
  refine ga_aload_n ok 1 rfl rfl dX1_copyFrom_1 ?_
  refine gf_X1_9 ok hG (by omega) dX1_copyFrom_2 ?_
  refine gp_X1_9 ok hG (by omega) dX1_copyFrom_5 ?_
  refine ga_aload_n ok 0 rfl rfl dX1_copyFrom_8 ?_
  refine ga_aload_n ok 1 rfl rfl dX1_copyFrom_9 ?_
  refine gf_X1_15 ok hG (by omega) dX1_copyFrom_10 ?_
  simp only [upI_r hne]
  refine gp_X1_15 ok hG (by omega) dX1_copyFrom_13 ?_
  refine ga_aload_n ok 0 rfl rfl dX1_copyFrom_16 ?_
  refine ga_aload_n ok 1 rfl rfl dX1_copyFrom_17 ?_
  refine gf_X1_29 ok hG (by omega) dX1_copyFrom_18 ?_
  simp only [upI_r hne]
  refine gp_X1_29 ok hG (by omega) dX1_copyFrom_21 ?_
  refine ga_aload_n ok 0 rfl rfl dX1_copyFrom_24 ?_
  refine ga_aload_n ok 1 rfl rfl dX1_copyFrom_25 ?_
  refine gf_X1_32 ok hG (by omega) dX1_copyFrom_26 ?_
  simp only [upI_r hne]
  refine gp_X1_32 ok hG (by omega) dX1_copyFrom_29 ?_
  refine ga_aload_n ok 0 rfl rfl dX1_copyFrom_32 ?_
  refine ga_aload_n ok 1 rfl rfl dX1_copyFrom_33 ?_
  refine gf_X1_35 ok hG (by omega) dX1_copyFrom_34 ?_
  simp only [upI_r hne]
  refine gp_X1_35 ok hG (by omega) dX1_copyFrom_37 ?_
  refine ga_aload_n ok 0 rfl rfl dX1_copyFrom_40 ?_
  refine ga_aload_n ok 1 rfl rfl dX1_copyFrom_41 ?_
  refine gf_X1_38 ok hG (by omega) dX1_copyFrom_42 ?_
  simp only [upI_r hne]
  refine gp_X1_38 ok hG (by omega) dX1_copyFrom_45 ?_
  refine ga_aload_n ok 1 rfl rfl dX1_copyFrom_48 ?_
  refine gf_X1_18 ok hG (by omega) dX1_copyFrom_49 ?_
  refine ga_iconst ok dX1_copyFrom_52 ?_
  refine ga_aload_n ok 0 rfl rfl dX1_copyFrom_53 ?_
  refine gf_X1_18 ok hG (by omega) dX1_copyFrom_54 ?_
  refine ga_iconst ok dX1_copyFrom_57 ?_
  refine ga_bipush ok dX1_copyFrom_58 (by decide) ?_
  refine ga_copy_fa ok lc_X1_41 (ar_we hG (by omega)) (ar_we hG (by omega)) (by decide) (by decide) (by decide) (by decide) (by decide) (by rw [hR]; decide) (by rw [hR]; decide) dX1_copyFrom_60 ?_
  refine ga_aload_n ok 1 rfl rfl dX1_copyFrom_63 ?_
  refine gf_X1_22 ok hG (by omega) dX1_copyFrom_64 ?_
  refine ga_iconst ok dX1_copyFrom_67 ?_
  refine ga_aload_n ok 0 rfl rfl dX1_copyFrom_68 ?_
  refine gf_X1_22 ok hG (by omega) dX1_copyFrom_69 ?_
  refine ga_iconst ok dX1_copyFrom_72 ?_
  refine ga_bipush ok dX1_copyFrom_73 (by decide) ?_
  refine ga_copy_ia ok lc_X1_41 (ar_co hG (by omega)) (ar_co hG (by omega)) (by decide) (by decide) (by decide) (by decide) (by decide) (by rw [hR]; decide) (by rw [hR]; decide) dX1_copyFrom_75 ?_
  refine ga_aload_n ok 1 rfl rfl dX1_copyFrom_78 ?_
  refine gf_X1_26 ok hG (by omega) dX1_copyFrom_79 ?_
  refine ga_iconst ok dX1_copyFrom_82 ?_
  refine ga_aload_n ok 0 rfl rfl dX1_copyFrom_83 ?_
  refine gf_X1_26 ok hG (by omega) dX1_copyFrom_84 ?_
  refine ga_iconst ok dX1_copyFrom_87 ?_
  refine ga_bipush ok dX1_copyFrom_88 (by decide) ?_
  refine ga_copy_fa ok lc_X1_41 (ar_su hG (by omega)) (ar_su hG (by omega)) (by decide) (by decide) (by decide) (by decide) (by decide) (by rw [hR]; decide) (by rw [hR]; decide) dX1_copyFrom_90 ?_
  exact ga_return ok en rfl (by decide) (by decide) dX1_copyFrom_93 ⟨rfl, (((((((((gFr.rf.uI (Or.inl rfl)).uI (Or.inl rfl)).uI (Or.inl rfl)).uI (Or.inl rfl)).uI (Or.inl rfl)).uI (Or.inl rfl)).cF (Or.inr (Or.inl rfl))).cI (Or.inr (Or.inr (Or.inl rfl)))).cF (Or.inr (Or.inr (Or.inr rfl)))), by
  obtain ⟨a0, a1, a5, a6, a7, a8, aw, as⟩ := hS
  have n1 : ¬ g = g + 128 := by omega
  have n2 : ¬ g + 64 = g + 192 := by omega
  have n3 : ¬ h + 128 = g := by omega
  have n4 : ¬ h + 64 = g + 64 := by omega
  refine ⟨?_, ?_, ?_, ?_, ?_, ?_, fun i hi => ⟨?_, ?_⟩, fun i hi => ?_⟩
  · rw [cpF_1, cpI_r n1, cpF_1]; simp [upI, up2]; exact a0
  · rw [cpF_1, cpI_r n1, cpF_1]; simp [upI, up2]; exact a1
  · rw [cpF_1, cpI_r n1, cpF_1]; simp [upI, up2]; exact a5
  · rw [cpF_1, cpI_r n1, cpF_1]; simp [upI, up2]; exact a6
  · rw [cpF_1, cpI_r n1, cpF_1]; simp [upI, up2]; exact a7
  · rw [cpF_1, cpI_r n1, cpF_1]; simp [upI, up2]; exact a8
  · rw [cpF_1]
    have e : ∀ M : Mm, (cpI M (h + 128) (g + 128) 0 0 11).1 (g + 128) i = M.1 (h + 128) i := fun M => by simp [cpI, hi]
    refine (e _).trans ?_
    rw [cpF_1, upI_r n3, upI_r n3, upI_r n3, upI_r n3, upI_r n3, upI_r n3]
    exact (aw i hi).1
  · rw [cpF_r n2, cpI_2]
    have e : ∀ M : Mm, (cpF M (h + 64) (g + 64) 0 0 11).2 (g + 64) i = M.2 (h + 64) i := fun M => by simp [cpF, hi]
    refine (e _).trans ?_
    exact (aw i hi).2
  · have e : ∀ M : Mm, (cpF M (h + 192) (g + 192) 0 0 10).2 (g + 192) i = M.2 (h + 192) i := fun M => by simp [cpF, hi]
    refine (e _).trans ?_
    rw [cpI_2, cpF_r (by omega)]
    exact as i hi⟩
set_option maxHeartbeats 4000000 in
set_option maxRecDepth 100000 in
/-- a push -/
theorem c_X1_push {G : GG} {l : Launch} (hfl : l.stackTraces = false) (hG : MW G) {m : Mm} {g : Nat} (hg : 320 ≤ g ∧ g < 365) {x fr : Int} (hx : 0 ≤ x ∧ x ≤ 1023) (hfr : fr = 0 ∨ fr = 1) (hw : ∀ i, i < 11 → m.2 (g + 64) i = fq (m.1 (g + 128) i)) (hc : cBd (m.1 (g + 128))) (hra : 1 ≤ m.1 g 0 ∧ m.1 g 0 ≤ 64) {dl : Int} (hdl : dl = if fr = 1 then m.1 g 0 else -(m.1 g 0)) (hrok : rok (m.1 (g + 128)) x dl = true) : CT G l yX1_push cX1_push 6 none (RM 0 0 0) [.ref g, vI x, vI fr] m (fun r m' => r = none ∧ gFr m m' g ∧ (∀ j, m'.1 g j = if j = 6 then m.1 g 6 + 1 else m.1 g j) ∧ (∀ j, j < 11 → m'.1 (g + 128) j = (if tch x j = true then m.1 (g + 128) j + dl else m.1 (g + 128) j) ∧ m'.2 (g + 64) j = fq (m'.1 (g + 128) j)) ∧ m'.2 (g + 192) = m.2 (g + 192)) (fun _ _ => False) := by
  refine CT.of RX1 [(0, .ref g), (1, vI x), (2, vI fr)] hfl (by decide +kernel) rfl rfl (Nat.le_of_ble_eq_true rfl) ?_
  intro E ok en hml hEl htab
  have hR : e_R E = RM 0 0 0 := en.2.2.2
  have hn0 : 0 < (e_c E).maxLocals := by rw [hml]; decide
  have hn1 : 1 < (e_c E).maxLocals := by rw [hml]; decide
  have hn2 : 2 < (e_c E).maxLocals := by rw [hml]; decide
  have hn3 : 3 < (e_c E).maxLocals := by rw [hml]; decide
  have hn4 : 4 < (e_c E).maxLocals := by rw [hml]; decide
  have hn5 : 5 < (e_c E).maxLocals := by rw [hml]; decide
  have bd : ∀ j : Nat, j < 11 → -16777216 < m.1 (g + 128) j ∧ m.1 (g + 128) j < 16777216 := fun j hj => by have := hc j hj; omega
  have loop : ∀ (i : Int) (m2 : Mm), (0 ≤ i ∧ i ≤ 11 ∧ gFr m m2 g ∧ m2.1 g = m.1 g ∧ (∀ j : Nat, j < 11 → m2.1 (g + 128) j = (if (j : Int) < i ∧ tch x j = true then m.1 (g + 128) j + dl else m.1 (g + 128) j) ∧ m2.2 (g + 64) j = fq (m2.1 (g + 128) j)) ∧ m2.2 (g + 192) = m.2 (g + 192)) → WA G E 0 0 19 [(5, vI i), (4, vI (2 * x + 1)), (3, .float (fq (m.1 g 0))), (0, .ref g), (1, vI x), (2, vI fr)] [] m2 := by
    refine wl2 _ (fun i _ => (11 - i).toNat) _ ?_
    intro i m2 hi ih
    obtain ⟨i0, i1, hfr2, hgg, hall, hsu⟩ := hi
    have hj : i.toNat < 11 → m2.1 (g + 128) i.toNat = m.1 (g + 128) i.toNat ∧ m2.2 (g + 64) i.toNat = fq (m.1 (g + 128) i.toNat) := fun h => by
      obtain ⟨h1, h2⟩ := hall i.toNat h
      rw [if_neg (by omega)] at h1
      exact ⟨h1, by rw [h2, h1]⟩
    have hg0 : m2.1 g 0 = m.1 g 0 := by rw [hgg]
    refine ga_iload ok rfl dX1_push_19 ?_
    refine ga_bipush ok dX1_push_21 (by decide) ?_
    refine ga_icmp_gt ok 101 (by decide) (by omega) (by omega) dX1_push_23 (fun c_23 => ?_) (fun c_23 => ?_)
    · refine ga_aload_n ok 0 rfl rfl dX1_push_101 ?_
      refine ga_dup ok dX1_push_102 rfl ?_
      refine gf_X1_32 ok hG (by omega) dX1_push_103 ?_
      refine ga_iconst ok dX1_push_106 ?_
      refine ga_iadd ok dX1_push_107 ?_
      refine gp_X1_32 ok hG (by omega) dX1_push_108 ?_
      exact ga_return ok en rfl (by decide) (by decide) dX1_push_111 ⟨rfl, hfr2.uI (Or.inl rfl), fun j => by
  by_cases e : j = 6
  · subst e; rw [if_pos rfl, upI_at, hgg]
  · rw [if_neg e, upI_no (by omega), hgg], fun j hj9 => by
  obtain ⟨h1, h2⟩ := hall j hj9
  rw [upI_r (by omega), upI_2, h2, h1]
  have e3 : ((j : Int) < i ∧ tch x j = true) ↔ tch x j = true := ⟨fun h => h.2, fun h => ⟨by omega, h⟩⟩
  simp only [e3]
  exact ⟨trivial, trivial⟩, by rw [upI_2]; exact hsu⟩
    · obtain ⟨hj1, hj2⟩ := hj (by omega)
      refine ga_iload ok rfl dX1_push_26 ?_
      refine ga_iload ok rfl dX1_push_28 ?_
      refine ga_ishr ok dX1_push_30 (by omega) (by omega) ?_
      refine ga_iconst ok dX1_push_31 ?_
      refine ga_iand ok 1 dX1_push_32 (by decide) (by decide) ?_
      refine ga_iconst ok dX1_push_33 ?_
      refine ga_icmp_ne ok 95 (by decide) (bit_rng _ _) (by omega) dX1_push_34 (fun c_34 => ?_) (fun c_34 => ?_)
      · refine ga_iinc ok rfl hn5 dX1_push_95 ?_
        refine ga_goto ok 19 (by decide) dX1_push_98 ?_
        refine WA.re (by exact ⟨rfl, rfl, rfl, rfl, rfl, rfl, trivial⟩) (ih (i + 1) _ ⟨by omega, by omega, ?_, ?_, ?_, ?_⟩ (by omega))
        · first | exact (hfr2.uF (Or.inr (Or.inl rfl))).uI (Or.inr (Or.inr (Or.inl rfl))) | exact hfr2
        · first | (rw [upI_r (by omega), upF_1]; exact hgg) | exact hgg
        · intro j hj9
          by_cases e : j = i.toNat
          · subst e
            first
              | (rw [upI_at, if_pos ⟨by omega, htc⟩]; exact ⟨rfl, by rw [upI_2, upF_at]⟩)
              | (rw [if_neg (fun h => by rw [tch_f.mpr c_34] at h; exact absurd h.2 (by decide))]; exact ⟨hj1, by rw [hj2, hj1]⟩)
          · obtain ⟨h1, h2⟩ := hall j hj9
            have e3 : ((j : Int) < i + 1 ∧ tch x j = true) ↔ ((j : Int) < i ∧ tch x j = true) := by constructor <;> (intro h; exact ⟨by omega, h.2⟩)
            simp only [e3]
            first
              | (rw [upI_no (by omega), upI_2, upF_1, upF_no (by omega)]; exact ⟨h1, h2⟩)
              | exact ⟨h1, h2⟩
        · first | (rw [upI_2, upF_r (by omega)]; exact hsu) | exact hsu
      · have htc : tch x i.toNat = true := tch_t.mpr c_34
        have hrk := rok_t.mp hrok i.toNat (by omega) htc
        have hbi := bd i.toNat (by omega)
        refine ga_aload_n ok 0 rfl rfl dX1_push_37 ?_
        refine gf_X1_18 ok hG (by omega) dX1_push_38 ?_
        refine ga_iload ok rfl dX1_push_41 ?_
        refine ga_iload_n ok 2 rfl rfl dX1_push_43 ?_
        refine ga_if_eq ok 59 (by decide) (by omega) dX1_push_44 (fun c_44 => ?_) (fun c_44 => ?_)
        · have hf0 : fr = 0 := c_44
          have hd : dl = -(m.1 g 0) := by rw [hdl]; exact if_neg (by omega)
          refine ga_aload_n ok 0 rfl rfl dX1_push_59 ?_
          refine gf_X1_18 ok hG (by omega) dX1_push_60 ?_
          refine ga_iload ok rfl dX1_push_63 ?_
          refine ga_faload_fa ok (ar_we hG (by omega)) (by omega) dX1_push_65 ?_
          rw [hj2]
          refine ga_fload_n ok 3 rfl rfl dX1_push_66 ?_
          have hs : FP.fsub (fq (m.1 (g + 128) i.toNat)) (fq (m.1 g 0)) = fq (m.1 (g + 128) i.toNat + dl) := by rw [fq_sub hbi (by omega) (by omega), hd]; congr 1
          refine ga_fsub ok dX1_push_67 (by rw [hs]; exact fq_n32 (by omega)) ?_
          try rw [hs]
          refine ga_fastore_fa ok (ar_we hG (by omega)) (by omega) dX1_push_68 ?_
          refine ga_aload_n ok 0 rfl rfl dX1_push_69 ?_
          refine gf_X1_22 ok hG (by omega) dX1_push_70 ?_
          refine ga_iload ok rfl dX1_push_73 ?_
          refine ga_dup2 ok dX1_push_75 rfl rfl ?_
          refine ga_iaload_ia ok (ar_co hG (by omega)) (by omega) dX1_push_76 ?_
          rw [upF_1, hj1]
          refine ga_iload_n ok 2 rfl rfl dX1_push_77 ?_
          refine ga_if_eq ok 88 (by decide) (by omega) dX1_push_78 (fun c_78 => ?_) (fun c_78 => ?_)
          · refine ga_aload_n ok 0 rfl rfl dX1_push_88 ?_
            refine gf_X1_9 ok hG (by omega) dX1_push_89 ?_
            rw [upF_1, hg0]
            refine ga_ineg ok dX1_push_92 ?_
            refine ga_iadd ok dX1_push_93 ?_
            first | rw [show m.1 (g + 128) i.toNat + m.1 g 0 = m.1 (g + 128) i.toNat + dl by rw [hd]] | rw [show m.1 (g + 128) i.toNat + -(m.1 g 0) = m.1 (g + 128) i.toNat + dl by rw [hd]]
            refine ga_iastore_ia ok (ar_co hG (by omega)) (by omega) dX1_push_94 ?_
            refine ga_iinc ok rfl hn5 dX1_push_95 ?_
            refine ga_goto ok 19 (by decide) dX1_push_98 ?_
            refine WA.re (by exact ⟨rfl, rfl, rfl, rfl, rfl, rfl, trivial⟩) (ih (i + 1) _ ⟨by omega, by omega, ?_, ?_, ?_, ?_⟩ (by omega))
            · first | exact (hfr2.uF (Or.inr (Or.inl rfl))).uI (Or.inr (Or.inr (Or.inl rfl))) | exact hfr2
            · first | (rw [upI_r (by omega), upF_1]; exact hgg) | exact hgg
            · intro j hj9
              by_cases e : j = i.toNat
              · subst e
                first
                  | (rw [upI_at, if_pos ⟨by omega, htc⟩]; exact ⟨rfl, by rw [upI_2, upF_at]⟩)
                  | (rw [if_neg (fun h => by rw [tch_f.mpr c_34] at h; exact absurd h.2 (by decide))]; exact ⟨hj1, by rw [hj2, hj1]⟩)
              · obtain ⟨h1, h2⟩ := hall j hj9
                have e3 : ((j : Int) < i + 1 ∧ tch x j = true) ↔ ((j : Int) < i ∧ tch x j = true) := by constructor <;> (intro h; exact ⟨by omega, h.2⟩)
                simp only [e3]
                first
                  | (rw [upI_no (by omega), upI_2, upF_1, upF_no (by omega)]; exact ⟨h1, h2⟩)
                  | exact ⟨h1, h2⟩
            · first | (rw [upI_2, upF_r (by omega)]; exact hsu) | exact hsu
          · exact absurd c_44 c_78
        · have hd : dl = m.1 g 0 := by rw [hdl]; exact if_pos (by omega)
          refine ga_aload_n ok 0 rfl rfl dX1_push_47 ?_
          refine gf_X1_18 ok hG (by omega) dX1_push_48 ?_
          refine ga_iload ok rfl dX1_push_51 ?_
          refine ga_faload_fa ok (ar_we hG (by omega)) (by omega) dX1_push_53 ?_
          rw [hj2]
          refine ga_fload_n ok 3 rfl rfl dX1_push_54 ?_
          have hs : FP.fadd (fq (m.1 (g + 128) i.toNat)) (fq (m.1 g 0)) = fq (m.1 (g + 128) i.toNat + dl) := by rw [fq_add hbi (by omega) (by omega), hd]
          refine ga_fadd ok dX1_push_55 (by rw [hs]; exact fq_n32 (by omega)) ?_
          rw [hs]
          refine ga_goto ok 68 (by decide) dX1_push_56 ?_
          try rw [hs]
          refine ga_fastore_fa ok (ar_we hG (by omega)) (by omega) dX1_push_68 ?_
          refine ga_aload_n ok 0 rfl rfl dX1_push_69 ?_
          refine gf_X1_22 ok hG (by omega) dX1_push_70 ?_
          refine ga_iload ok rfl dX1_push_73 ?_
          refine ga_dup2 ok dX1_push_75 rfl rfl ?_
          refine ga_iaload_ia ok (ar_co hG (by omega)) (by omega) dX1_push_76 ?_
          rw [upF_1, hj1]
          refine ga_iload_n ok 2 rfl rfl dX1_push_77 ?_
          refine ga_if_eq ok 88 (by decide) (by omega) dX1_push_78 (fun c_78 => ?_) (fun c_78 => ?_)
          · exact absurd c_78 c_44
          · refine ga_aload_n ok 0 rfl rfl dX1_push_81 ?_
            refine gf_X1_9 ok hG (by omega) dX1_push_82 ?_
            rw [upF_1, hg0]
            refine ga_goto ok 93 (by decide) dX1_push_85 ?_
            refine ga_iadd ok dX1_push_93 ?_
            first | rw [show m.1 (g + 128) i.toNat + m.1 g 0 = m.1 (g + 128) i.toNat + dl by rw [hd]] | rw [show m.1 (g + 128) i.toNat + -(m.1 g 0) = m.1 (g + 128) i.toNat + dl by rw [hd]]
            refine ga_iastore_ia ok (ar_co hG (by omega)) (by omega) dX1_push_94 ?_
            refine ga_iinc ok rfl hn5 dX1_push_95 ?_
            refine ga_goto ok 19 (by decide) dX1_push_98 ?_
            refine WA.re (by exact ⟨rfl, rfl, rfl, rfl, rfl, rfl, trivial⟩) (ih (i + 1) _ ⟨by omega, by omega, ?_, ?_, ?_, ?_⟩ (by omega))
            · first | exact (hfr2.uF (Or.inr (Or.inl rfl))).uI (Or.inr (Or.inr (Or.inl rfl))) | exact hfr2
            · first | (rw [upI_r (by omega), upF_1]; exact hgg) | exact hgg
            · intro j hj9
              by_cases e : j = i.toNat
              · subst e
                first
                  | (rw [upI_at, if_pos ⟨by omega, htc⟩]; exact ⟨rfl, by rw [upI_2, upF_at]⟩)
                  | (rw [if_neg (fun h => by rw [tch_f.mpr c_34] at h; exact absurd h.2 (by decide))]; exact ⟨hj1, by rw [hj2, hj1]⟩)
              · obtain ⟨h1, h2⟩ := hall j hj9
                have e3 : ((j : Int) < i + 1 ∧ tch x j = true) ↔ ((j : Int) < i ∧ tch x j = true) := by constructor <;> (intro h; exact ⟨by omega, h.2⟩)
                simp only [e3]
                first
                  | (rw [upI_no (by omega), upI_2, upF_1, upF_no (by omega)]; exact ⟨h1, h2⟩)
                  | exact ⟨h1, h2⟩
            · first | (rw [upI_2, upF_r (by omega)]; exact hsu) | exact hsu
  refine ga_aload_n ok 0 rfl rfl dX1_push_0 ?_
  refine gf_X1_9 ok hG (by omega) dX1_push_1 ?_
  refine ga_i2f ok dX1_push_4 ?_
  refine ga_ldcf (z := 1115684864) ok dX1_push_5 (tb_in 534 (by decide +kernel) (by decide +kernel)) ?_
  have he : FP.fdiv (FP.i2f (Int32.ofInt (m.1 g 0))) 1115684864 = fq (m.1 g 0) := rfl
  refine ga_fdiv ok dX1_push_7 (by rw [he]; exact fq_n32 (by omega)) ?_
  rw [he]
  refine ga_fstore_n ok 3 rfl hn3 dX1_push_8 ?_
  refine ga_iload_n ok 1 rfl rfl dX1_push_9 ?_
  refine ga_iconst ok dX1_push_10 ?_
  refine ga_ishl ok dX1_push_11 (by omega) (by decide) (by show x * 2 < 4294967296; omega) ?_
  refine ga_iconst ok dX1_push_12 ?_
  refine ga_ior ok dX1_push_13 (by show 0 ≤ x * 2; omega) (by decide) ?_
  rw [or_1 hx.1]
  refine ga_istore ok hn4 dX1_push_14 ?_
  refine ga_iconst ok dX1_push_16 ?_
  refine ga_istore ok hn5 dX1_push_17 ?_
  exact WA.re (by exact ⟨rfl, rfl, rfl, rfl, rfl, rfl, trivial⟩) (loop 0 _ ⟨by omega, by omega, gFr.rf, rfl, fun j hj => ⟨by rw [if_neg (by omega)], hw j hj⟩, rfl⟩)
