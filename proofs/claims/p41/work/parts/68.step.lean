/-! A STEP: what it keeps -/
def StepOK (g : Gm) (z : Int) (g' : Gm) : Prop := ((z < 0 ∧ g'.r = g.r ∧ g'.pa = g.pa ∧ g'.kt = g.kt) ∨ (0 ≤ z ∧ g'.pa = (kpG g g.r).pa ∧ g'.kt = (kpG g g.r).kt)) ∧ (-2147483648 ≤ z ∧ z ≤ 2147483647) ∧ g'.tn = g.tn
theorem kpG_tn {g : Gm} {R : Nat → Int} : (kpG g R).tn = g.tn := by unfold kpG; split <;> rfl
theorem st_no {g g' : Gm} {k : Int} (hk : 1 ≤ k ∧ k ≤ 3) (h1 : g'.r = g.r) (h2 : g'.pa = g.pa) (h3 : g'.kt = g.kt) (h4 : g'.tn = g.tn) : StepOK g (wr (k, 0, g')) g' := by
  have e : wr (k, 0, g') = -k := if_neg (by show ¬ k = 0; omega)
  rw [e]
  exact ⟨Or.inl ⟨by omega, h1, h2, h3⟩, by omega, h4⟩
theorem st_yes {g : Gm} {z : Int} {R : Nat → Int} (hz : 0 ≤ z ∧ z ≤ 2147483647) : StepOK g (wr (0, z, chG g R)) (chG g R) := by
  have e : wr (0, z, chG g R) = z := if_pos rfl
  rw [e]
  exact ⟨Or.inr ⟨hz.1, rfl, rfl⟩, by omega, kpG_tn⟩
theorem st_guard {g : Gm} {T : Int} (h : gtOk T g.r) (x : Int) : StepOK g (wr (sp_guard g x)) (sp_guard g x).2.2 := by
  have h0 := h.1
  unfold sp_guard
  split
  · exact st_no (by omega) rfl rfl rfl rfl
  · split
    · exact st_no (by omega) rfl rfl rfl rfl
    · exact st_yes (by omega)
theorem gtOk.rg {T : Int} {r : Nat → Int} (h : gtOk T r) {n : Int} (hn : 0 ≤ n ∧ n < r 0) : gOk T (rg r n.toNat) := h.2.2.2 n.toNat (by omega)
theorem st_rate {g : Gm} {T : Int} (h : gtOk T g.r) (n x : Int) : StepOK g (wr (sp_rate g n x)) (sp_rate g n x).2.2 := by
  unfold sp_rate
  split
  · exact st_no (by omega) rfl rfl rfl rfl
  · rename_i hn
    have h0 := (h.rg (Classical.not_not.mp hn)).1
    split
    · exact st_no (by omega) rfl rfl rfl rfl
    · split
      · exact st_no (by omega) rfl rfl rfl rfl
      · exact st_yes (by omega)
theorem st_caution {g : Gm} {T : Int} (h : gtOk T g.r) (n x : Int) : StepOK g (wr (sp_caution g n x)) (sp_caution g n x).2.2 := by
  unfold sp_caution
  split
  · exact st_no (by omega) rfl rfl rfl rfl
  · rename_i hn
    have h0 := (h.rg (Classical.not_not.mp hn)).2.1
    split
    · exact st_no (by omega) rfl rfl rfl rfl
    · split
      · exact st_no (by omega) rfl rfl rfl rfl
      · exact st_yes (by omega)
theorem st_visitor {g : Gm} {T : Int} (h : gtOk T g.r) (x f : Int) : StepOK g (wr (sp_visitor g x f)) (sp_visitor g x f).2.2 := by
  have h0 := h.2.1
  unfold sp_visitor
  split
  · exact st_no (by omega) rfl rfl rfl rfl
  · split
    · exact st_no (by omega) rfl rfl rfl rfl
    · split
      · exact st_no (by omega) rfl rfl rfl rfl
      · exact st_yes (by omega)
theorem st_forget {g : Gm} {T : Int} (h : gtOk T g.r) (v : Int) : StepOK g (wr (sp_forget g v)) (sp_forget g v).2.2 := by
  have h0 := h.2.1
  unfold sp_forget
  split
  · exact st_no (by omega) rfl rfl rfl rfl
  · exact st_yes (by omega)
theorem st_teach {g : Gm} (n v : Int) : StepOK g (wr (sp_teach g n v)) (sp_teach g n v).2.2 := by
  unfold sp_teach
  split
  · exact st_no (by omega) rfl rfl rfl rfl
  · split
    · exact st_yes (by have := b2i_01 (psS (rg g.r n.toNat) (vX g.r v.toNat) (vF g.r v.toNat)); omega)
    · exact st_no (by omega) rfl rfl rfl rfl
theorem st_day {g : Gm} {T : Int} (h : gtOk T g.r) (hT : T ≤ 1000000000) (n : Int) : StepOK g (wr (sp_day g n)) (sp_day g n).2.2 := by
  unfold sp_day
  split
  · exact st_no (by omega) rfl rfl rfl rfl
  · rename_i hn
    split
    · exact st_no (by omega) rfl rfl rfl rfl
    · split
      · rename_i d S hd
        have hb := (gOk_dRun (by have := h.2.1; omega) _ _ _ _ (h.rg (Classical.not_not.mp hn)) _ _ hd).1.2.2.1 4 (by omega) (by omega)
        exact st_yes ⟨hb.1, by have := hb.2; have e : (1 : Int).toNat = 1 := rfl; rw [e] at this; omega⟩
      · exact st_no (by omega) rfl rfl rfl rfl
theorem st_days {g : Gm} {T : Int} (h : gtOk T g.r) (n most : Int) : StepOK g (wr (sp_days g n most)) (sp_days g n most).2.2 := by
  unfold sp_days
  split
  · exact st_no (by omega) rfl rfl rfl rfl
  · rename_i hn
    split
    · exact st_no (by omega) rfl rfl rfl rfl
    · split
      · exact st_no (by omega) rfl rfl rfl rfl
      · split
        · rename_i d S hd
          have hb := (gOk_dRun (by have := h.2.1; omega) _ _ _ _ (h.rg (Classical.not_not.mp hn)) _ _ hd).2
          exact st_yes (by omega)
        · exact st_no (by omega) rfl rfl rfl rfl
theorem exO_kp {g : Gm} {c a b : Int} : (exO g c a b).2.pa = g.pa ∧ (exO g c a b).2.kt = g.kt ∧ (exO g c a b).2.tn = g.tn := by
  unfold exO
  repeat' split
  all_goals exact ⟨rfl, rfl, rfl⟩
theorem exA_kp {t : Nat → Int} {n : Int} : ∀ (f k : Nat) (g : Gm), (exA t n f k g).2.pa = g.pa ∧ (exA t n f k g).2.kt = g.kt ∧ (exA t n f k g).2.tn = g.tn
  | 0, k, g => ⟨rfl, rfl, rfl⟩
  | f + 1, k, g => by
    unfold exA
    have h := exO_kp (g := g) (c := sgn t n (pS t n k)) (a := (rOrd t n (pS t n k)).1) (b := (rOrd t n (pS t n k)).2.1)
    split
    · obtain ⟨e1, e2, e3⟩ := exA_kp f (k + 1) (exO g (sgn t n (pS t n k)) (rOrd t n (pS t n k)).1 (rOrd t n (pS t n k)).2.1).2
      exact ⟨e1.trans h.1, e2.trans h.2.1, e3.trans h.2.2⟩
    · exact h
theorem pRes_cnt {t : Nat → Int} {n : Int} : ∀ f k : Nat, (pRes t n f k).2.2 ≤ f + k + 1
  | 0, k => by show k ≤ _; omega
  | f + 1, k => by
    unfold pRes
    repeat' split
    · show k + 1 ≤ _; omega
    · have := pRes_cnt (t := t) (n := n) f (k + 1); omega
    · show k + 1 ≤ _; omega
    · show k ≤ _; omega
theorem kpG_kp {X g : Gm} {R : Nat → Int} (h1 : X.pa = g.pa) (h2 : X.kt = g.kt) : (kpG X R).pa = (kpG g R).pa ∧ (kpG X R).kt = (kpG g R).kt := by
  unfold kpG
  rw [h2]
  split
  · exact ⟨by show (fun i : Nat => if i = 7 then R else X.pa (i + 1)) = _; rw [h1]; rfl, rfl⟩
  · exact ⟨by show (fun i : Nat => if (i : Int) = g.kt then R else X.pa i) = _; rw [h1]; rfl, rfl⟩
theorem st_run {g g0 : Gm} (e1 : g.r = g0.r) (e2 : g.pa = g0.pa) (e3 : g.kt = g0.kt) (e4 : g0.tn = 0) : StepOK g0 (wr (sp_run g)) (sp_run g).2.2 := by
  unfold sp_run
  split
  · exact st_no (by omega) e1 e2 e3 e4.symm
  · obtain ⟨q1, q2, q3⟩ := exA_kp (t := g.tx) (n := g.tn) (pRes g.tx g.tn 60 0).2.2 0 (rnG g (-1))
    split
    · have e : ∀ (z : Int) (X : Gm), wr (0, z, X) = z := fun z X => if_pos rfl
      rw [e]
      have hc := pRes_cnt (t := g.tx) (n := g.tn) 60 0
      obtain ⟨k1, k2⟩ := kpG_kp (R := g.r) (q1.trans (show (rnG g (-1)).pa = g0.pa from e2)) (q2.trans (show (rnG g (-1)).kt = g0.kt from e3))
      rw [e1] at k1 k2 
      exact ⟨Or.inr ⟨by omega, by rw [e1]; exact k1, by rw [e1]; exact k2⟩, by omega, by show (kpG _ g.r).tn = _; rw [kpG_tn, q3, e4]; rfl⟩
    · split
      · exact st_no (by omega) e1 (q1.trans e2) (q2.trans e3) (by show (exA _ _ _ _ _).2.tn = _; rw [q3, e4]; rfl)
      · exact st_no (by omega) e1 (q1.trans e2) (q2.trans e3) (by show (exA _ _ _ _ _).2.tn = _; rw [q3, e4]; rfl)
/-! A TEXT IS RUN -/
theorem li_L_213 : LinkI RL 213 yJ4_init_da8c8 cJ4_init_da8c8 1 0 := ⟨List.forall_mem_cons.mpr ⟨tb_in 598 (by decide +kernel) (by decide +kernel), List.forall_mem_cons.mpr ⟨tb_in 158 (by decide +kernel) (by decide +kernel), List.forall_mem_cons.mpr ⟨tb_in 6 (by decide +kernel) (by decide +kernel), fun _ h => absurd h List.not_mem_nil⟩⟩⟩, tb_in 159 (by decide +kernel) (by decide +kernel), rfl, by decide +kernel⟩
theorem lv_L_216 : LinkV RL 216 yJ4_append_15ec4 cJ4_append_15ec4 2 (some (.object "java/lang/StringBuilder")) 1 := ⟨List.forall_mem_cons.mpr ⟨tb_in 600 (by decide +kernel) (by decide +kernel), List.forall_mem_cons.mpr ⟨tb_in 601 (by decide +kernel) (by decide +kernel), List.forall_mem_cons.mpr ⟨tb_in 602 (by decide +kernel) (by decide +kernel), List.forall_mem_cons.mpr ⟨tb_in 6 (by decide +kernel) (by decide +kernel), fun _ h => absurd h List.not_mem_nil⟩⟩⟩⟩, tb_in 603 (by decide +kernel) (by decide +kernel), by decide +kernel⟩
theorem lv_L_219 : LinkV RL 219 yJ4_append_bf812 cJ4_append_bf812 2 (some (.object "java/lang/StringBuilder")) 1 := ⟨List.forall_mem_cons.mpr ⟨tb_in 718 (by decide +kernel) (by decide +kernel), List.forall_mem_cons.mpr ⟨tb_in 719 (by decide +kernel) (by decide +kernel), List.forall_mem_cons.mpr ⟨tb_in 720 (by decide +kernel) (by decide +kernel), List.forall_mem_cons.mpr ⟨tb_in 6 (by decide +kernel) (by decide +kernel), fun _ h => absurd h List.not_mem_nil⟩⟩⟩⟩, tb_in 721 (by decide +kernel) (by decide +kernel), by decide +kernel⟩
theorem lv_L_222 : LinkV RL 222 yJ4_toString_0e30d cJ4_toString_0e30d 1 (some (.object "java/lang/String")) 0 := ⟨List.forall_mem_cons.mpr ⟨tb_in 743 (by decide +kernel) (by decide +kernel), List.forall_mem_cons.mpr ⟨tb_in 744 (by decide +kernel) (by decide +kernel), List.forall_mem_cons.mpr ⟨tb_in 745 (by decide +kernel) (by decide +kernel), List.forall_mem_cons.mpr ⟨tb_in 6 (by decide +kernel) (by decide +kernel), fun _ h => absurd h List.not_mem_nil⟩⟩⟩⟩, tb_in 746 (by decide +kernel) (by decide +kernel), by decide +kernel⟩
theorem lv_L_127 : LinkV RL 127 yJ0_length_8abf5 cJ0_length_8abf5 1 (some .int) 0 := ⟨List.forall_mem_cons.mpr ⟨tb_in 913 (by decide +kernel) (by decide +kernel), List.forall_mem_cons.mpr ⟨tb_in 676 (by decide +kernel) (by decide +kernel), List.forall_mem_cons.mpr ⟨tb_in 677 (by decide +kernel) (by decide +kernel), List.forall_mem_cons.mpr ⟨tb_in 7 (by decide +kernel) (by decide +kernel), fun _ h => absurd h List.not_mem_nil⟩⟩⟩⟩, tb_in 678 (by decide +kernel) (by decide +kernel), by decide +kernel⟩
theorem lv_L_132 : LinkV RL 132 yJ0_charAt_5068e cJ0_charAt_5068e 2 (some .char) 1 := ⟨List.forall_mem_cons.mpr ⟨tb_in 932 (by decide +kernel) (by decide +kernel), List.forall_mem_cons.mpr ⟨tb_in 933 (by decide +kernel) (by decide +kernel), List.forall_mem_cons.mpr ⟨tb_in 934 (by decide +kernel) (by decide +kernel), List.forall_mem_cons.mpr ⟨tb_in 7 (by decide +kernel) (by decide +kernel), fun _ h => absurd h List.not_mem_nil⟩⟩⟩⟩, tb_in 935 (by decide +kernel) (by decide +kernel), by decide +kernel⟩
theorem lv_L_280 : LinkV RL 280 yJ4_append_cf468 cJ4_append_cf468 2 (some (.object "java/lang/StringBuilder")) 1 := ⟨List.forall_mem_cons.mpr ⟨tb_in 1144 (by decide +kernel) (by decide +kernel), List.forall_mem_cons.mpr ⟨tb_in 890 (by decide +kernel) (by decide +kernel), List.forall_mem_cons.mpr ⟨tb_in 891 (by decide +kernel) (by decide +kernel), List.forall_mem_cons.mpr ⟨tb_in 6 (by decide +kernel) (by decide +kernel), fun _ h => absurd h List.not_mem_nil⟩⟩⟩⟩, tb_in 892 (by decide +kernel) (by decide +kernel), by decide +kernel⟩
theorem cl_SB : Cond.classLink RL 211 RJ4 ∈ BIG := tb_in 597 (by decide +kernel) (by decide +kernel)
theorem ci_SB : Cond.instantiable RJ4 4 ∈ BIG := tb_in 156 (by decide +kernel) (by decide +kernel)
theorem cn_SB : Cond.initialized RJ4 ∈ BIG := tb_in 6 (by decide +kernel) (by decide +kernel)
set_option maxHeartbeats 3000000 in
set_option maxRecDepth 100000 in
theorem c_L_run {G : GG} {l : Launch} (hfl : l.stackTraces = false) (hG : MW G) (hS : SBW G) {m : Mm} {Xs : XS} {g : Gm} {T : Int} (hX : LWX T m g) (hT0 : 0 ≤ T ∧ T ≤ 998000000) (htn : g.tn = 0) {s v N : Nat} {t : Nat → Int} (hsin : SIN G Xs s v t N) (hN : N ≤ 60) : CL G l yL_run cL_run 3 (some .int) (RM 12 320 1500) [.ref 0, .ref (RAW + s)] m (Xs) (fun r' m' Xs' => ∃ (z : Int) (g' : Gm), r' = some (vI z) ∧ StepOK g z g' ∧ LWX (T + 61000) m' g' ∧ Xs' = Xs) := by
  refine CL.of RL [(0, .ref 0), (1, .ref (RAW + s))] hfl (by decide +kernel) rfl rfl (Nat.le_of_ble_eq_true rfl) ?_
  intro E ok0 en hml hEl hnam
  have hR : e_R E = RM 12 320 1500 := en.2.2.2
  have ok : ∀ {Xs : XS}, OK0 (GX G Xs) E RL cL_run := fun {_} => ok0.gx
  have hn0 : 0 < (e_c E).maxLocals := by rw [hml]; decide
  have hn1 : 1 < (e_c E).maxLocals := by rw [hml]; decide
  have hn2 : 2 < (e_c E).maxLocals := by rw [hml]; decide
  refine ga_iconst ok dL_run_0 ?_
  refine ga_istore_n ok 2 rfl hn2 dL_run_1 ?_
  have loop : ∀ (i : Int) (m1 : Mm) (g1 : Gm), ((0 ≤ i ∧ i ≤ N) ∧ LWX (T + 1000 * i) m1 g1 ∧ g1.r = g.r ∧ g1.pa = g.pa ∧ g1.kt = g.kt ∧ g1.tn = i) → WA (GX G Xs) E (5 * i.toNat) (24 * i.toNat) 2 [(2, vI i), (0, .ref 0), (1, .ref (RAW + s))] [] m1 := by
    refine wl3 _ (fun i _ _ => ((N : Int) - i).toNat) _ ?_
    intro i m1 g1 hf ih
    obtain ⟨hi, hX1, e1, e2, e3, e4⟩ := hf
    refine ga_iload_n ok 2 rfl rfl dL_run_2 ?_
    refine ga_aload_n ok 1 rfl rfl dL_run_3 ?_
    refine gl_callStr ok0 hS hX1.h40 hsin [] lv_L_127 rfl (fun _ h => absurd h List.not_mem_nil) (fun G9 hS9 h9 => c_J0_length ok0.fl trivial hS9 h9) rfl (by rw [hR]; exact ⟨by decide, by decide, by simp only [RM]; omega, by simp only [RM]; omega⟩) (Nat.le_of_ble_eq_true rfl) dL_run_4 ?_
    refine ga_icmp_ge ok 34 (by decide) (by omega) (by omega) dL_run_7 (fun c_7 => ?_) (fun c_7 => ?_)
    · refine ga_aload_n ok 0 rfl rfl dL_run_34 ?_
      refine gl_callT ok0 hG hS [.ref 0] lw_L_140 hX1.h40 (fun G9 hG9 hS9 => w_runs ok0.fl hG9 hS9 hX1 (by omega) ) rfl (by rw [hR]; exact ⟨by decide, by decide, by simp only [RM]; omega, by simp only [RM]; omega⟩) (Nat.le_of_ble_eq_true rfl) dL_run_35 (fun r9 m2 hq9 => ?_)
      obtain ⟨rfl, hX2⟩ := hq9
      simp only [Option.toList_some, List.singleton_append]
      exact gl_ireturn ok0 en rfl rfl (by first | decide | (simp only [RM]; omega)) (by first | decide | (simp only [RM]; omega)) dL_run_38 ⟨_, _, rfl, st_run e1 e2 e3 htn, hX2.mono (by omega), rfl⟩
    · have c_7 : i < (N : Int) := by omega
      refine ga_aload_n ok 0 rfl rfl dL_run_10 ?_
      refine ga_aload_n ok 1 rfl rfl dL_run_11 ?_
      refine ga_iload_n ok 2 rfl rfl dL_run_12 ?_
      refine gl_callStr ok0 hS hX1.h40 hsin [vI i] lv_L_132 rfl (fun x h => Or.inl ⟨_, List.mem_singleton.mp h⟩) (fun G9 hS9 h9 => c_J0_charAt ok0.fl trivial hS9 h9 ⟨hi.1, c_7⟩) rfl (by rw [hR]; exact ⟨by decide, by decide, by simp only [RM]; omega, by simp only [RM]; omega⟩) (Nat.le_of_ble_eq_true rfl) dL_run_13 ?_
      refine gl_callT ok0 hG hS [.ref 0, vI (t i.toNat)] lw_L_135 hX1.h40 (fun G9 hG9 hS9 => w_append ok0.fl hG9 hS9 hX1 (by omega) (by have := hsin.1.2 i.toNat (by omega); omega)) rfl (by rw [hR]; exact ⟨by decide, by decide, by simp only [RM]; omega, by simp only [RM]; omega⟩) (Nat.le_of_ble_eq_true rfl) dL_run_16 (fun r9 m2 hq9 => ?_)
      obtain ⟨rfl, hX2⟩ := hq9
      simp only [Option.toList_some, List.singleton_append]
      have e7 : ¬ g1.tn = 60 := by omega
      have e8 : sp_append g1 (t i.toNat) = (0, g1.tn + 1, (mkG g1.r g1.sv g1.hs g1.pa g1.kt g1.rs g1.dt g1.er (fun j => if (j : Int) = g1.tn then t i.toNat else g1.tx j) (g1.tn + 1) g1.ln g1.nn)) := if_neg e7
      rw [e8] at hX2 ⊢
      rw [show wr (0, g1.tn + 1, (mkG g1.r g1.sv g1.hs g1.pa g1.kt g1.rs g1.dt g1.er (fun j => if (j : Int) = g1.tn then t i.toNat else g1.tx j) (g1.tn + 1) g1.ln g1.nn)) = g1.tn + 1 from if_pos rfl]
      refine ga_iload_n ok 2 rfl rfl dL_run_19 ?_
      refine ga_iconst ok dL_run_20 ?_
      refine ga_iadd ok dL_run_21 ?_
      refine ga_icmp_eq ok 28 (by decide) (by omega) (by omega) dL_run_22 (fun c_22 => ?_) (fun c_22 => ?_)
      · refine ga_iinc ok rfl hn2 dL_run_28 ?_
        refine ga_goto ok 2 (by decide) dL_run_31 ?_
        refine WA.wd (k2 := 5 * (i + 1).toNat) (n2 := 24 * (i + 1).toNat) (by first | omega | (simp only [RM]; omega)) (by first | omega | (simp only [RM]; omega)) ?_
        exact WA.re (by exact ⟨rfl, rfl, rfl, trivial⟩) (ih (i + 1) m2 (mkG g1.r g1.sv g1.hs g1.pa g1.kt g1.rs g1.dt g1.er (fun j => if (j : Int) = g1.tn then t i.toNat else g1.tx j) (g1.tn + 1) g1.ln g1.nn) ⟨by omega, by rw [show T + 1000 * (i + 1) = T + 1000 * i + 1000 by omega]; exact hX2, e1, e2, e3, by show g1.tn + 1 = i + 1; omega⟩ (by omega))
      · exact absurd (show g1.tn + 1 = i + 1 by omega) c_22
  exact WA.wd (Nat.le_refl _) (Nat.le_refl _) (WA.re (by exact ⟨rfl, rfl, rfl, trivial⟩) (loop 0 m g ⟨by omega, hX.mono (by omega), rfl, rfl, rfl, htn⟩))
