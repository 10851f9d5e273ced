/-! THE CLASS WRITES LINES -/
theorem gtIs.xb {m m' : Mm} {b : Nat} {r : Nat → Int} (h : gtIs m b r) (hf : XB m m') (hb : 64 ≤ b ∧ b < 75) (h0 : r 0 ≤ 4) : gtIs m' b r := by
  obtain ⟨e1, e4, hv, hg⟩ := h
  have k : ∀ n, n = b ∨ n = b + 128 ∨ n = b + 192 → m'.1 n = m.1 n := fun n hn => hf.1 n (by omega) (by omega)
  refine ⟨by rw [k b (by omega)]; exact e1, by rw [k b (by omega)]; exact e4, fun v hv9 => by rw [k (b + 128) (by omega), k (b + 192) (by omega)]; exact hv v hv9, fun j hj => ?_⟩
  exact (hg j hj).kept (hf.1 _ (by omega) (by omega)) (hf.1 _ (by omega) (by omega)) (by rw [hf.2]) (by rw [hf.2])
theorem XIs.ln {T : Int} {m m' : Mm} {g : Gm} {q : (Nat → Int) × Int} (h : XIs T m g) (hf : XB m m') (hq : BLs m' q) (h0 : 0 ≤ q.2 ∧ q.2 ≤ 100) : XIs T m' (lnG g q) := by
  obtain ⟨⟨a1, a2⟩, ⟨b1, b2, b3⟩, ⟨c1, c2, c3, c4⟩, ⟨d1, d2⟩, ⟨t1, t2, t3⟩, -⟩ := h
  have k : ∀ n, n = 0 ∨ n = 640 ∨ n = 704 → m'.1 n = m.1 n := fun n hn => hf.1 n (by omega) (by omega)
  rw [← k 0 (by omega)] at b1 c1 c3 d1
  rw [← k 640 (by omega)] at t1
  rw [← k 704 (by omega)] at t3
  refine ⟨⟨a1.xb hf (by omega) a2.1.2, a2⟩, ⟨b1, b2, fun h => ⟨(b3 h).1.xb hf (by omega) (b3 h).2.1.2, (b3 h).2⟩⟩, ⟨c1, c2, c3, fun i hi => ?_⟩, ⟨d1, d2⟩, ⟨t1, t2, t3⟩, ⟨hq.2.2.1, h0, hq.2.2.2⟩⟩
  obtain ⟨q1, q2⟩ := c4 i hi
  rw [← k 0 (by omega)] at q1
  exact ⟨q1.xb hf (by omega) q2.1.2, q2⟩
theorem lb_X3_262 : LinkV RX3 262 yJ4_setLength_d00df cJ4_setLength_d00df 2 none 1 := ⟨List.forall_mem_cons.mpr ⟨tb_in 837 (by decide +kernel) (by decide +kernel), List.forall_mem_cons.mpr ⟨tb_in 838 (by decide +kernel) (by decide +kernel), List.forall_mem_cons.mpr ⟨tb_in 839 (by decide +kernel) (by decide +kernel), List.forall_mem_cons.mpr ⟨tb_in 6 (by decide +kernel) (by decide +kernel), fun _ h => absurd h List.not_mem_nil⟩⟩⟩⟩, tb_in 840 (by decide +kernel) (by decide +kernel), by decide +kernel⟩
theorem lb_X3_265 : LinkV RX3 265 yJ4_append_cf468 cJ4_append_cf468 2 (some (.object "java/lang/StringBuilder")) 1 := ⟨List.forall_mem_cons.mpr ⟨tb_in 889 (by decide +kernel) (by decide +kernel), List.forall_mem_cons.mpr ⟨tb_in 890 (by decide +kernel) (by decide +kernel), List.forall_mem_cons.mpr ⟨tb_in 891 (by decide +kernel) (by decide +kernel), List.forall_mem_cons.mpr ⟨tb_in 6 (by decide +kernel) (by decide +kernel), fun _ h => absurd h List.not_mem_nil⟩⟩⟩⟩, tb_in 892 (by decide +kernel) (by decide +kernel), by decide +kernel⟩
theorem lb_X3_269 : LinkV RX3 269 yJ4_length_8abf5 cJ4_length_8abf5 1 (some .int) 0 := ⟨List.forall_mem_cons.mpr ⟨tb_in 912 (by decide +kernel) (by decide +kernel), List.forall_mem_cons.mpr ⟨tb_in 764 (by decide +kernel) (by decide +kernel), List.forall_mem_cons.mpr ⟨tb_in 1300 (by decide +kernel) (by decide +kernel), List.forall_mem_cons.mpr ⟨tb_in 6 (by decide +kernel) (by decide +kernel), fun _ h => absurd h List.not_mem_nil⟩⟩⟩⟩, tb_in 765 (by decide +kernel) (by decide +kernel), by decide +kernel⟩
theorem lb_X3_273 : LinkV RX3 273 yJ4_append_bf812 cJ4_append_bf812 2 (some (.object "java/lang/StringBuilder")) 1 := ⟨List.forall_mem_cons.mpr ⟨tb_in 911 (by decide +kernel) (by decide +kernel), List.forall_mem_cons.mpr ⟨tb_in 719 (by decide +kernel) (by decide +kernel), List.forall_mem_cons.mpr ⟨tb_in 720 (by decide +kernel) (by decide +kernel), List.forall_mem_cons.mpr ⟨tb_in 6 (by decide +kernel) (by decide +kernel), fun _ h => absurd h List.not_mem_nil⟩⟩⟩⟩, tb_in 721 (by decide +kernel) (by decide +kernel), by decide +kernel⟩
theorem lb_X3_281 : LinkV RX3 281 yJ4_charAt_5068e cJ4_charAt_5068e 2 (some .char) 1 := ⟨List.forall_mem_cons.mpr ⟨tb_in 922 (by decide +kernel) (by decide +kernel), List.forall_mem_cons.mpr ⟨tb_in 923 (by decide +kernel) (by decide +kernel), List.forall_mem_cons.mpr ⟨tb_in 924 (by decide +kernel) (by decide +kernel), List.forall_mem_cons.mpr ⟨tb_in 6 (by decide +kernel) (by decide +kernel), fun _ h => absurd h List.not_mem_nil⟩⟩⟩⟩, tb_in 925 (by decide +kernel) (by decide +kernel), by decide +kernel⟩
set_option maxHeartbeats 4000000 in
set_option maxRecDepth 100000 in
theorem c_X3_line {G : GG} {l : Launch} (hfl : l.stackTraces = false) (hG : MW G) (hS : SBW G) {m : Mm} {g : Gm} {T : Int} (hX : XIs T m g) (hB : BLs m (g.ln, g.nn)) {v : Int} (hvR : -2147483648 ≤ v ∧ v ≤ 2147483647) : CT G l yX3_line cX3_line 3 (some .int) (RM 9 16 4900) [.ref 0, vI v] m (fun r' m' => (0 ≤ v ∧ v < g.r 1) ∧ r' = some (vI (vLn (vX g.r v.toNat) (vF g.r v.toNat) 10).2) ∧ XIs T m' (lnG g (vLn (vX g.r v.toNat) (vF g.r v.toNat) 10)) ∧ BLs m' (vLn (vX g.r v.toNat) (vF g.r v.toNat) 10) ∧ XB m m') (fun X m' => X = "java/lang/IndexOutOfBoundsException" ∧ ¬(0 ≤ v ∧ v < g.r 1) ∧ m' = m) := by
  refine CT.of RX3 [(0, .ref 0), (1, vI v)] hfl (by decide +kernel) rfl rfl (Nat.le_of_ble_eq_true rfl) ?_
  intro E ok en hml hEl htab
  have hR : e_R E = RM 9 16 4900 := en.2.2.2
  have hn0 : 0 < (e_c E).maxLocals := by rw [hml]; decide
  have hn1 : 1 < (e_c E).maxLocals := by rw [hml]; decide
  have hn2 : 2 < (e_c E).maxLocals := by rw [hml]; decide
  have hI : gtIs m 64 g.r := hX.1.1
  have hT : gtOk T g.r := hX.1.2
  obtain ⟨e1, e4, hv, hgs⟩ := id hI
  obtain ⟨b0, b1, hvb, hgb⟩ := id hT
  have hnn := hX.2.2.2.2.2.2.1
  refine ga_aload_n ok 0 rfl rfl dX3_line_0 ?_
  refine ga_iload_n ok 1 rfl rfl dX3_line_1 ?_
  refine gc_X3_1 ok hG rfl lk_X3_129 rfl (c_X3_requireVisitor ok.fl hG hI hT hvR) (by rw [hR]; exact ⟨by decide, by decide, by decide, by decide⟩) (Nat.le_of_ble_eq_true rfl) dX3_line_2 (fun r9 m9 hq => ?_) (fun X9 m9 hq => by obtain ⟨rfl, qv, rfl⟩ := hq; exact ga_out en htab (by decide) (by decide) ⟨rfl, qv, rfl⟩)
  obtain ⟨rfl, qv, hm9⟩ := hq
  subst m9
  simp only [Option.toList_none, List.nil_append]
  have hx9 : 0 ≤ (vX g.r v.toNat) ∧ (vX g.r v.toNat) ≤ 1023 := by have := hvb v.toNat (by omega); omega
  have loop : ∀ (i : Int) (M : Mm), (0 ≤ i ∧ i ≤ 10 ∧ BLs M (vLn (vX g.r v.toNat) (vF g.r v.toNat) i.toNat) ∧ XB m M) → WA G E (3 + i.toNat) (806 + 400 * i.toNat) 42 [(2, vI i), (0, .ref 0), (1, vI v)] [] M := by
    refine wl2 _ (fun i _ => (10 - i).toNat) _ ?_
    intro i M hi ih
    obtain ⟨hi0, hi1, hqM, hxM⟩ := hi
    have hIM : gtIs M 64 g.r := hI.xb hxM (by omega) b0.2
    refine ga_iload_n ok 2 rfl rfl dX3_line_42 ?_
    refine ga_bipush ok dX3_line_43 (by decide) ?_
    refine ga_icmp_ge ok 84 (by decide) (by omega) (by omega) dX3_line_45 (fun c_45 => ?_) (fun c_45 => ?_)
    · refine ga_aload_n ok 0 rfl rfl dX3_line_84 ?_
      refine gf_X3_54 ok hG rfl dX3_line_85 ?_
      refine ga_callB ok hS [] lb_X3_269 rfl (c_J4_length ok.fl hG hS hqM) rfl (by rw [hR]; exact ⟨by decide, by decide, by show 3 + i.toNat + 0 ≤ 16; omega, by show 806 + 400 * i.toNat + 0 ≤ 4900; omega⟩) (Nat.le_of_ble_eq_true rfl) dX3_line_88 (fun r9 m1 hq9 => ?_) (fun _ _ h => h.elim)
      obtain ⟨rfl, hm9⟩ := hq9
      subst m1
      simp only [Option.toList_some, List.singleton_append]
      exact ga_ireturn ok en rfl rfl (by show 3 + i.toNat + 0 ≤ 16; omega) (by show 806 + 400 * i.toNat + 0 ≤ 4900; omega) dX3_line_91 (by
    have hi9 : i = 10 := by omega
    subst hi9
    have hb := vLn_2 (vX g.r v.toNat) (vF g.r v.toNat) 10
    exact ⟨qv, rfl, hX.ln hxM hqM (by omega), hqM, hxM⟩)
    · refine ga_aload_n ok 0 rfl rfl dX3_line_48 ?_
      refine gf_X3_12 ok hG rfl dX3_line_49 ?_
      refine gf_X3_135 ok hG (by omega) dX3_line_52 ?_
      refine ga_iload_n ok 1 rfl rfl dX3_line_55 ?_
      refine ga_iaload_ia ok (ar_se hG (by omega)) (by omega) dX3_line_56 ?_
      refine ga_iload_n ok 2 rfl rfl dX3_line_57 ?_
      rw [(hIM.2.2.1 v.toNat (by omega)).1]
      refine ga_ishr ok dX3_line_58 (by omega) (by omega) ?_
      refine ga_iconst ok dX3_line_59 ?_
      refine ga_iand ok 1 dX3_line_60 (by decide) (by decide) ?_
      refine ga_iconst ok dX3_line_61 ?_
      refine ga_icmp_ne ok 78 (by decide) (by omega) (by omega) dX3_line_62 (fun c_62 => ?_) (fun c_62 => ?_)
      · refine ga_iinc ok rfl hn2 dX3_line_78 ?_
        refine ga_goto ok 42 (by decide) dX3_line_81 ?_
        have h9 : ¬ (vX g.r v.toNat) / 2 ^ i.toNat % 2 ^ 1 = 1 := by first | exact c_62 | omega
        have e9 : vLn (vX g.r v.toNat) (vF g.r v.toNat) (i + 1).toNat = vLn (vX g.r v.toNat) (vF g.r v.toNat) i.toNat := by
          rw [show (i + 1).toNat = i.toNat + 1 by omega]; simp only [vLn]; rw [if_neg h9]
        exact WA.wd (by omega) (by omega) (WA.re (by exact ⟨rfl, rfl, rfl, trivial⟩) (ih (i + 1) M ⟨by omega, by omega, by rw [e9]; exact hqM, hxM⟩ (by omega)))
      · refine ga_aload_n ok 0 rfl rfl dX3_line_65 ?_
        refine gf_X3_54 ok hG rfl dX3_line_66 ?_
        refine ga_bipush ok dX3_line_69 (by decide) ?_
        refine ga_iload_n ok 2 rfl rfl dX3_line_71 ?_
        refine ga_iadd ok dX3_line_72 ?_
        refine ga_i2c ok dX3_line_73 ?_
        rw [show (97 + i) % 65536 = 97 + i by omega]
        refine ga_callB ok hS [vI (97 + i)] lb_X3_265 rfl (c_J4_appendC ok.fl hG hS hqM (by omega) (by have := vLn_2 (vX g.r v.toNat) (vF g.r v.toNat) i.toNat; omega)) rfl (by rw [hR]; exact ⟨by decide, by decide, by show 3 + i.toNat + 1 ≤ 16; omega, by show 806 + 400 * i.toNat + 400 ≤ 4900; omega⟩) (Nat.le_of_ble_eq_true rfl) dX3_line_74 (fun r9 m1 hq9 => ?_) (fun _ _ h => h.elim)
        obtain ⟨rfl, hq1, hxb1⟩ := hq9
        simp only [Option.toList_some, List.singleton_append]
        refine ga_pop ok dX3_line_77 rfl ?_
        refine ga_iinc ok rfl hn2 dX3_line_78 ?_
        refine ga_goto ok 42 (by decide) dX3_line_81 ?_
        have h9 : (vX g.r v.toNat) / 2 ^ i.toNat % 2 ^ 1 = 1 := by first | exact c_62 | omega
        have e9 : vLn (vX g.r v.toNat) (vF g.r v.toNat) (i + 1).toNat = putL (vLn (vX g.r v.toNat) (vF g.r v.toNat) i.toNat) (97 + i) := by
          rw [show (i + 1).toNat = i.toNat + 1 by omega]; simp only [vLn]; rw [if_pos h9, show ((i.toNat : Nat) : Int) = i by omega]
        exact WA.wd (by show 3 + i.toNat + 1 ≤ 3 + (i + 1).toNat; omega) (by show 806 + 400 * i.toNat + 400 ≤ 806 + 400 * (i + 1).toNat; omega) (WA.re (by exact ⟨rfl, rfl, rfl, trivial⟩) (ih (i + 1) m1 ⟨by omega, by omega, by rw [e9]; exact hq1, hxM.tr hxb1⟩ (by omega)))
  refine ga_aload_n ok 0 rfl rfl dX3_line_5 ?_
  refine gf_X3_54 ok hG rfl dX3_line_6 ?_
  refine ga_iconst ok dX3_line_9 ?_
  refine ga_callB ok hS [vI 0] lb_X3_262 rfl (c_J4_setLength0 ok.fl hG hS hB) rfl (by rw [hR]; exact ⟨by decide, by decide, by decide, by decide⟩) (Nat.le_of_ble_eq_true rfl) dX3_line_10 (fun r9 m1 hq9 => ?_) (fun _ _ h => h.elim)
  obtain ⟨rfl, hq1, hxb1⟩ := hq9
  simp only [Option.toList_none, List.nil_append]
  have hI1 : gtIs m1 64 g.r := hI.xb hxb1 (by omega) b0.2
  refine ga_aload_n ok 0 rfl rfl dX3_line_13 ?_
  refine gf_X3_54 ok hG rfl dX3_line_14 ?_
  refine ga_aload_n ok 0 rfl rfl dX3_line_17 ?_
  refine gf_X3_12 ok hG rfl dX3_line_18 ?_
  refine gf_X3_139 ok hG (by omega) dX3_line_21 ?_
  refine ga_iload_n ok 1 rfl rfl dX3_line_24 ?_
  refine ga_baload_za ok (ar_fr hG (by omega)) (by omega) dX3_line_25 ?_
  rw [(hI1.2.2.1 v.toNat (by omega)).2]
  refine ga_if_eq ok 34 (by decide) (by have := (hvb v.toNat (by omega)).2; omega) dX3_line_26 (fun c_26 => ?_) (fun c_26 => ?_)
  · refine ga_bipush ok dX3_line_34 (by decide) ?_
    refine ga_callB ok hS [vI 45] lb_X3_265 rfl (c_J4_appendC ok.fl hG hS hq1 (by omega) (by show (0 : Int) + 1 ≤ 98; omega)) rfl (by rw [hR]; exact ⟨by decide, by decide, by decide, by decide⟩) (Nat.le_of_ble_eq_true rfl) dX3_line_36 (fun r9 m2 hq9 => ?_) (fun _ _ h => h.elim)
    obtain ⟨rfl, hq2, hxb2⟩ := hq9
    simp only [Option.toList_some, List.singleton_append]
    refine ga_pop ok dX3_line_39 rfl ?_
    refine ga_iconst ok dX3_line_40 ?_
    refine ga_istore_n ok 2 rfl hn2 dX3_line_41 ?_
    have hf9 : ¬ (vF g.r v.toNat) = 1 := by have := (hvb v.toNat (by omega)).2; omega
    have hq3 : BLs m2 (vLn (vX g.r v.toNat) (vF g.r v.toNat) 0) := by
      show BLs m2 (putL ln0 (if (vF g.r v.toNat) = 1 then 43 else 45))
      rw [if_neg hf9]
      exact hq2
    exact WA.wd (by exact Nat.le_refl 3) (by exact Nat.le_refl 806) (WA.re (by exact ⟨rfl, rfl, rfl, trivial⟩) (loop 0 m2 ⟨by omega, by omega, hq3, hxb1.tr hxb2⟩))
  · refine ga_bipush ok dX3_line_29 (by decide) ?_
    refine ga_goto ok 36 (by decide) dX3_line_31 ?_
    refine ga_callB ok hS [vI 43] lb_X3_265 rfl (c_J4_appendC ok.fl hG hS hq1 (by omega) (by show (0 : Int) + 1 ≤ 98; omega)) rfl (by rw [hR]; exact ⟨by decide, by decide, by decide, by decide⟩) (Nat.le_of_ble_eq_true rfl) dX3_line_36 (fun r9 m2 hq9 => ?_) (fun _ _ h => h.elim)
    obtain ⟨rfl, hq2, hxb2⟩ := hq9
    simp only [Option.toList_some, List.singleton_append]
    refine ga_pop ok dX3_line_39 rfl ?_
    refine ga_iconst ok dX3_line_40 ?_
    refine ga_istore_n ok 2 rfl hn2 dX3_line_41 ?_
    have hf9 : (vF g.r v.toNat) = 1 := by have := (hvb v.toNat (by omega)).2; omega
    have hq3 : BLs m2 (vLn (vX g.r v.toNat) (vF g.r v.toNat) 0) := by
      show BLs m2 (putL ln0 (if (vF g.r v.toNat) = 1 then 43 else 45))
      rw [if_pos hf9]
      exact hq2
    exact WA.wd (by exact Nat.le_refl 3) (by exact Nat.le_refl 806) (WA.re (by exact ⟨rfl, rfl, rfl, trivial⟩) (loop 0 m2 ⟨by omega, by omega, hq3, hxb1.tr hxb2⟩))
set_option maxHeartbeats 4000000 in
set_option maxRecDepth 100000 in
theorem c_X3_guardLine {G : GG} {l : Launch} (hfl : l.stackTraces = false) (hG : MW G) (hS : SBW G) {m : Mm} {g : Gm} {T : Int} (hX : XIs T m g) (hB : BLs m (g.ln, g.nn)) {n : Int} (hnR : -2147483648 ≤ n ∧ n ≤ 2147483647) : CT G l yX3_guardLine cX3_guardLine 3 (some .int) (RM 9 24 9206) [.ref 0, vI n] m (fun r' m' => (0 ≤ n ∧ n < g.r 0) ∧ r' = some (vI (gLn (gcn (rg g.r n.toNat)) 11).2) ∧ XIs T m' (lnG g (gLn (gcn (rg g.r n.toNat)) 11)) ∧ BLs m' (gLn (gcn (rg g.r n.toNat)) 11) ∧ XB m m') (fun X m' => X = "java/lang/IndexOutOfBoundsException" ∧ ¬(0 ≤ n ∧ n < g.r 0) ∧ m' = m) := by
  refine CT.of RX3 [(0, .ref 0), (1, vI n)] hfl (by decide +kernel) rfl rfl (Nat.le_of_ble_eq_true rfl) ?_
  intro E ok en hml hEl htab
  have hR : e_R E = RM 9 24 9206 := en.2.2.2
  have hn0 : 0 < (e_c E).maxLocals := by rw [hml]; decide
  have hn1 : 1 < (e_c E).maxLocals := by rw [hml]; decide
  have hn2 : 2 < (e_c E).maxLocals := by rw [hml]; decide
  have hI : gtIs m 64 g.r := hX.1.1
  have hT : gtOk T g.r := hX.1.2
  obtain ⟨e1, e4, hv, hgs⟩ := id hI
  obtain ⟨b0, b1, hvb, hgb⟩ := id hT
  have hnn := hX.2.2.2.2.2.2.1
  refine ga_aload_n ok 0 rfl rfl dX3_guardLine_0 ?_
  refine ga_iload_n ok 1 rfl rfl dX3_guardLine_1 ?_
  refine gc_X3_1 ok hG rfl lk_X3_90 rfl (c_X3_requireGuard ok.fl hG hI hT hnR) (by rw [hR]; exact ⟨by decide, by decide, by decide, by decide⟩) (Nat.le_of_ble_eq_true rfl) dX3_guardLine_2 (fun r9 m9 hq => ?_) (fun X9 m9 hq => by obtain ⟨rfl, qg, rfl⟩ := hq; exact ga_out en htab (by decide) (by decide) ⟨rfl, qg, rfl⟩)
  obtain ⟨rfl, qg, hm9⟩ := hq
  subst m9
  simp only [Option.toList_none, List.nil_append]
  have loop : ∀ (i : Int) (M : Mm), (0 ≤ i ∧ i ≤ 11 ∧ BLs M (gLn (gcn (rg g.r n.toNat)) i.toNat) ∧ XB m M) → WA G E (2 + 2 * i.toNat) (406 + 800 * i.toNat) 15 [(2, vI i), (0, .ref 0), (1, vI n)] [] M := by
    refine wl2 _ (fun i _ => (11 - i).toNat) _ ?_
    intro i M hi ih
    obtain ⟨hi0, hi1, hqM, hxM⟩ := hi
    have hIM : gtIs M 64 g.r := hI.xb hxM (by omega) b0.2
    refine ga_iload_n ok 2 rfl rfl dX3_guardLine_15 ?_
    refine ga_bipush ok dX3_guardLine_16 (by decide) ?_
    refine ga_icmp_gt ok 63 (by decide) (by omega) (by omega) dX3_guardLine_18 (fun c_18 => ?_) (fun c_18 => ?_)
    · refine ga_aload_n ok 0 rfl rfl dX3_guardLine_63 ?_
      refine gf_X3_54 ok hG rfl dX3_guardLine_64 ?_
      refine ga_callB ok hS [] lb_X3_269 rfl (c_J4_length ok.fl hG hS hqM) rfl (by rw [hR]; exact ⟨by decide, by decide, by show 2 + 2 * i.toNat + 0 ≤ 24; omega, by show 406 + 800 * i.toNat + 0 ≤ 9206; omega⟩) (Nat.le_of_ble_eq_true rfl) dX3_guardLine_67 (fun r9 m1 hq9 => ?_) (fun _ _ h => h.elim)
      obtain ⟨rfl, hm9⟩ := hq9
      subst m1
      simp only [Option.toList_some, List.singleton_append]
      exact ga_ireturn ok en rfl rfl (by show 2 + 2 * i.toNat + 0 ≤ 24; omega) (by show 406 + 800 * i.toNat + 0 ≤ 9206; omega) dX3_guardLine_70 (by
    have hi9 : i = 11 := by omega
    subst hi9
    have hb := gLn_2 (gcn (rg g.r n.toNat)) 11
    exact ⟨qg, rfl, hX.ln hxM hqM (by omega), hqM, hxM⟩)
    · refine ga_iload_n ok 2 rfl rfl dX3_guardLine_21 ?_
      refine ga_if_le ok 35 (by decide) (by omega) dX3_guardLine_22 (fun c_22 => ?_) (fun c_22 => ?_)
      · have hIN := hIM
        refine ga_aload_n ok 0 rfl rfl dX3_guardLine_35 ?_
        refine gf_X3_54 ok hG rfl dX3_guardLine_36 ?_
        refine ga_aload_n ok 0 rfl rfl dX3_guardLine_39 ?_
        refine gf_X3_12 ok hG rfl dX3_guardLine_40 ?_
        refine gf_X3_93 ok hG (by omega) dX3_guardLine_43 ?_
        refine ga_iload_n ok 1 rfl rfl dX3_guardLine_46 ?_
        refine ga_aaload_qa ok (ar_ga hG (by omega)) (by omega) dX3_guardLine_47 ?_
        refine gf_X3_194 ok hG (by omega) dX3_guardLine_48 ?_
        refine ga_iload_n ok 2 rfl rfl dX3_guardLine_51 ?_
        refine ga_iaload_ia ok (ar_co hG (by omega)) (by omega) dX3_guardLine_52 ?_
        have hcb9 : -60000 ≤ (gcn (rg g.r n.toNat)) i.toNat ∧ (gcn (rg g.r n.toNat)) i.toNat ≤ 60000 := (hgb n.toNat (by omega)).2.2.2.1 i.toNat (by omega)
        rw [((hIN.2.2.2 n.toNat (by omega)).2.2.2.2.2.2.1 i.toNat (by omega)).1, show rg g.r n.toNat (6 + i.toNat) = (gcn (rg g.r n.toNat)) i.toNat from rfl]
        refine ga_callB ok hS [vI ((gcn (rg g.r n.toNat)) i.toNat)] lb_X3_273 rfl (c_J4_appendI ok.fl hG hS hqM (by omega) (by have := gLn_2 (gcn (rg g.r n.toNat)) i.toNat; first | (rw [putL_2]; omega) | omega)) rfl (by rw [hR]; exact ⟨by decide, by decide, by show 2 + 2 * i.toNat + 1 ≤ 24; omega, by show 406 + 800 * i.toNat + 400 ≤ 9206; omega⟩) (Nat.le_of_ble_eq_true rfl) dX3_guardLine_53 (fun r9 m2 hq9 => ?_) (fun _ _ h => h.elim)
        obtain ⟨rfl, hq2, hxb2⟩ := hq9
        simp only [Option.toList_some, List.singleton_append]
        refine ga_pop ok dX3_guardLine_56 rfl ?_
        refine ga_iinc ok rfl hn2 dX3_guardLine_57 ?_
        refine ga_goto ok 15 (by decide) dX3_guardLine_60 ?_
        have e9 : gLn (gcn (rg g.r n.toNat)) (i + 1).toNat = numL (gLn (gcn (rg g.r n.toNat)) i.toNat) ((gcn (rg g.r n.toNat)) i.toNat) := by
          rw [show (i + 1).toNat = i.toNat + 1 by omega]; simp only [gLn]; rw [if_pos (by omega)]
        exact WA.wd (by show 2 + 2 * i.toNat + 1 ≤ 2 + 2 * (i + 1).toNat; omega) (by show 406 + 800 * i.toNat + 400 ≤ 406 + 800 * (i + 1).toNat; omega) (WA.re (by exact ⟨rfl, rfl, rfl, trivial⟩) (ih (i + 1) m2 ⟨by omega, by omega, by rw [e9]; exact hq2, hxM.tr hxb2⟩ (by omega)))
      · refine ga_aload_n ok 0 rfl rfl dX3_guardLine_25 ?_
        refine gf_X3_54 ok hG rfl dX3_guardLine_26 ?_
        refine ga_bipush ok dX3_guardLine_29 (by decide) ?_
        refine ga_callB ok hS [vI 32] lb_X3_265 rfl (c_J4_appendC ok.fl hG hS hqM (by omega) (by have := gLn_2 (gcn (rg g.r n.toNat)) i.toNat; omega)) rfl (by rw [hR]; exact ⟨by decide, by decide, by show 2 + 2 * i.toNat + 1 ≤ 24; omega, by show 406 + 800 * i.toNat + 400 ≤ 9206; omega⟩) (Nat.le_of_ble_eq_true rfl) dX3_guardLine_31 (fun r9 m1 hq9 => ?_) (fun _ _ h => h.elim)
        obtain ⟨rfl, hq1, hxb1⟩ := hq9
        simp only [Option.toList_some, List.singleton_append]
        refine ga_pop ok dX3_guardLine_34 rfl ?_
        have hIN := hIM.xb hxb1 (by omega) b0.2
        refine ga_aload_n ok 0 rfl rfl dX3_guardLine_35 ?_
        refine gf_X3_54 ok hG rfl dX3_guardLine_36 ?_
        refine ga_aload_n ok 0 rfl rfl dX3_guardLine_39 ?_
        refine gf_X3_12 ok hG rfl dX3_guardLine_40 ?_
        refine gf_X3_93 ok hG (by omega) dX3_guardLine_43 ?_
        refine ga_iload_n ok 1 rfl rfl dX3_guardLine_46 ?_
        refine ga_aaload_qa ok (ar_ga hG (by omega)) (by omega) dX3_guardLine_47 ?_
        refine gf_X3_194 ok hG (by omega) dX3_guardLine_48 ?_
        refine ga_iload_n ok 2 rfl rfl dX3_guardLine_51 ?_
        refine ga_iaload_ia ok (ar_co hG (by omega)) (by omega) dX3_guardLine_52 ?_
        have hcb9 : -60000 ≤ (gcn (rg g.r n.toNat)) i.toNat ∧ (gcn (rg g.r n.toNat)) i.toNat ≤ 60000 := (hgb n.toNat (by omega)).2.2.2.1 i.toNat (by omega)
        rw [((hIN.2.2.2 n.toNat (by omega)).2.2.2.2.2.2.1 i.toNat (by omega)).1, show rg g.r n.toNat (6 + i.toNat) = (gcn (rg g.r n.toNat)) i.toNat from rfl]
        refine ga_callB ok hS [vI ((gcn (rg g.r n.toNat)) i.toNat)] lb_X3_273 rfl (c_J4_appendI ok.fl hG hS hq1 (by omega) (by have := gLn_2 (gcn (rg g.r n.toNat)) i.toNat; first | (rw [putL_2]; omega) | omega)) rfl (by rw [hR]; exact ⟨by decide, by decide, by show 2 + 2 * i.toNat + 1 + 1 ≤ 24; omega, by show 406 + 800 * i.toNat + 400 + 400 ≤ 9206; omega⟩) (Nat.le_of_ble_eq_true rfl) dX3_guardLine_53 (fun r9 m2 hq9 => ?_) (fun _ _ h => h.elim)
        obtain ⟨rfl, hq2, hxb2⟩ := hq9
        simp only [Option.toList_some, List.singleton_append]
        refine ga_pop ok dX3_guardLine_56 rfl ?_
        refine ga_iinc ok rfl hn2 dX3_guardLine_57 ?_
        refine ga_goto ok 15 (by decide) dX3_guardLine_60 ?_
        have e9 : gLn (gcn (rg g.r n.toNat)) (i + 1).toNat = numL (putL (gLn (gcn (rg g.r n.toNat)) i.toNat) 32) ((gcn (rg g.r n.toNat)) i.toNat) := by
          rw [show (i + 1).toNat = i.toNat + 1 by omega]; simp only [gLn]; rw [if_neg (by omega)]
        exact WA.wd (by show 2 + 2 * i.toNat + 1 + 1 ≤ 2 + 2 * (i + 1).toNat; omega) (by show 406 + 800 * i.toNat + 400 + 400 ≤ 406 + 800 * (i + 1).toNat; omega) (WA.re (by exact ⟨rfl, rfl, rfl, trivial⟩) (ih (i + 1) m2 ⟨by omega, by omega, by rw [e9]; exact hq2, (hxM.tr hxb1).tr hxb2⟩ (by omega)))
  refine ga_aload_n ok 0 rfl rfl dX3_guardLine_5 ?_
  refine gf_X3_54 ok hG rfl dX3_guardLine_6 ?_
  refine ga_iconst ok dX3_guardLine_9 ?_
  refine ga_callB ok hS [vI 0] lb_X3_262 rfl (c_J4_setLength0 ok.fl hG hS hB) rfl (by rw [hR]; exact ⟨by decide, by decide, by decide, by decide⟩) (Nat.le_of_ble_eq_true rfl) dX3_guardLine_10 (fun r9 m1 hq9 => ?_) (fun _ _ h => h.elim)
  obtain ⟨rfl, hq1, hxb1⟩ := hq9
  simp only [Option.toList_none, List.nil_append]
  refine ga_iconst ok dX3_guardLine_13 ?_
  refine ga_istore_n ok 2 rfl hn2 dX3_guardLine_14 ?_
  exact WA.wd (by exact Nat.le_refl 2) (by exact Nat.le_refl 406) (WA.re (by exact ⟨rfl, rfl, rfl, trivial⟩) (loop 0 m1 ⟨by omega, by omega, hq1, hxb1⟩))
set_option maxHeartbeats 4000000 in
set_option maxRecDepth 100000 in
theorem c_X3_character {G : GG} {l : Launch} (hfl : l.stackTraces = false) (hG : MW G) (hS : SBW G) {m : Mm} {g : Gm} {T : Int} (hX : XIs T m g) (hB : BLs m (g.ln, g.nn)) (hln : LnOk (g.ln, g.nn)) {i : Int} (hiR : -2147483648 ≤ i ∧ i ≤ 2147483647) : CT G l yX3_character cX3_character 2 (some .char) (RM 9 1 6) [.ref 0, vI i] m (fun r' m' => (0 ≤ i ∧ i < g.nn) ∧ r' = some (vI (g.ln i.toNat)) ∧ m' = m) (fun X m' => X = "java/lang/IndexOutOfBoundsException" ∧ ¬(0 ≤ i ∧ i < g.nn) ∧ m' = m) := by
  refine CT.of RX3 [(0, .ref 0), (1, vI i)] hfl (by decide +kernel) rfl rfl (Nat.le_of_ble_eq_true rfl) ?_
  intro E ok en hml hEl htab
  have hR : e_R E = RM 9 1 6 := en.2.2.2
  have hn0 : 0 < (e_c E).maxLocals := by rw [hml]; decide
  have hn1 : 1 < (e_c E).maxLocals := by rw [hml]; decide
  refine ga_iload_n ok 1 rfl rfl dX3_character_0 ?_
  refine ga_if_lt ok 15 (by decide) (by omega) dX3_character_1 (fun c_1 => ?_) (fun c_1 => ?_)
  · exact ga_throwW ok en htab lt_IndexOutOfBoundsException (text := "the line has no such index") (by decide +kernel) ⟨by decide, by decide, by decide, by decide⟩ (Nat.le_of_ble_eq_true rfl) dX3_character_15 dX3_character_18 dX3_character_19 dX3_character_22 dX3_character_25 ⟨rfl, fun h => by omega, rfl⟩
  · refine ga_iload_n ok 1 rfl rfl dX3_character_4 ?_
    refine ga_aload_n ok 0 rfl rfl dX3_character_5 ?_
    refine gf_X3_54 ok hG rfl dX3_character_6 ?_
    refine ga_callB ok hS [] lb_X3_269 rfl (c_J4_length ok.fl hG hS hB) rfl (by rw [hR]; exact ⟨by decide, by decide, by decide, by decide⟩) (Nat.le_of_ble_eq_true rfl) dX3_character_9 (fun r9 m1 hq9 => ?_) (fun _ _ h => h.elim)
    obtain ⟨rfl, hm9⟩ := hq9
    subst m1
    simp only [Option.toList_some, List.singleton_append]
    have hnx : 0 ≤ g.nn ∧ g.nn ≤ 100 := hX.2.2.2.2.2.2.1
    refine ga_icmp_lt ok 26 (by decide) (by omega) (by show -2147483648 ≤ g.nn ∧ g.nn ≤ 2147483647; omega) dX3_character_12 (fun c_12 => ?_) (fun c_12 => ?_)
    · have c9 : i < g.nn := c_12
      refine ga_aload_n ok 0 rfl rfl dX3_character_26 ?_
      refine gf_X3_54 ok hG rfl dX3_character_27 ?_
      refine ga_iload_n ok 1 rfl rfl dX3_character_30 ?_
      refine ga_callB ok hS [vI i] lb_X3_281 rfl (c_J4_charAt ok.fl hG hS hB (i := i) (by show 0 ≤ i ∧ i < g.nn; omega) hln) rfl (by rw [hR]; exact ⟨by decide, by decide, by decide, by decide⟩) (Nat.le_of_ble_eq_true rfl) dX3_character_31 (fun r9 m1 hq9 => ?_) (fun _ _ h => h.elim)
      obtain ⟨rfl, hm9⟩ := hq9
      subst m1
      simp only [Option.toList_some, List.singleton_append]
      have hl9 := hln.2 i.toNat (by show ((i.toNat : Nat) : Int) < g.nn; omega)
      exact ga_ireturn ok en rfl (narC (by show 0 ≤ g.ln i.toNat ∧ g.ln i.toNat ≤ 65535; have hl9 : 0 ≤ g.ln i.toNat ∧ g.ln i.toNat ≤ 127 := hl9; omega)) (by decide) (by decide) dX3_character_34 ⟨⟨by omega, c9⟩, rfl, rfl⟩
    · exact ga_throwW ok en htab lt_IndexOutOfBoundsException (text := "the line has no such index") (by decide +kernel) ⟨by decide, by decide, by decide, by decide⟩ (Nat.le_of_ble_eq_true rfl) dX3_character_15 dX3_character_18 dX3_character_19 dX3_character_22 dX3_character_25 ⟨rfl, fun h => absurd h.2 (Int.not_lt.mpr c_12), rfl⟩
