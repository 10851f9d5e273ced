/-! THE LAW'S SMALL METHODS -/
def sx (xs : Nat → Int32) (j : Nat) : Int := (xs j).toInt
theorem sx_rng (xs : Nat → Int32) (j : Nat) : -2147483648 ≤ sx xs j ∧ sx xs j ≤ 2147483647 := ⟨Int32.le_toInt _, by have := Int32.toInt_lt (xs j); unfold sx; omega⟩
/-- what the law has at hand all the time: its texts, its script -/
def LGW (G : GG) (la lv : Nat → Nat) (sb sl : Nat) (xs : Nat → Int32) : Prop := LIT G la lv ∧ (∀ u, g_st G u → va_X sb sl xs u u.heap ∧ sb < u.heap.size ∧ AO2 u) ∧ ¬ g_A G sb ∧ sl ≤ 2048
theorem u_small {w : UInt32} (h : w.toNat < 2 ^ 31) : 0 ≤ w.toInt32.toInt ∧ w.toInt32.toInt ≤ 2147483647 := by
  show 0 ≤ w.toBitVec.toInt ∧ w.toBitVec.toInt ≤ 2147483647
  have h2 : w.toBitVec.toNat = w.toNat := rfl
  rw [BitVec.toInt_eq_toNat_of_lt (by rw [h2]; omega)]
  omega
theorem zShr_rng {x k : Int} (hk : k = 1 ∨ k = 3 ∨ k = 4 ∨ k = 6 ∨ k = 12) : 0 ≤ zShr x k ∧ zShr x k ≤ 2147483647 := by
  have h4 : (Int32.ofInt x).toUInt32.toNat < 2 ^ 32 := UInt32.toNat_lt _
  have key : ∀ (c : UInt32) (w : Nat), c.toNat % 32 = w → 1 ≤ w → 0 ≤ ((Int32.ofInt x).toUInt32 >>> c).toInt32.toInt ∧ ((Int32.ofInt x).toUInt32 >>> c).toInt32.toInt ≤ 2147483647 := fun c w h1 h2 => by
    refine u_small ?_
    rw [UInt32.toNat_shiftRight, h1, Nat.shiftRight_eq_div_pow]
    have h5 : 2 ^ 1 ≤ 2 ^ w := Nat.pow_le_pow_right (by decide) h2
    have h6 : (Int32.ofInt x).toUInt32.toNat / 2 ^ w ≤ (Int32.ofInt x).toUInt32.toNat / 2 ^ 1 := Nat.div_le_div_left h5 (by decide)
    omega
  unfold zShr
  rcases hk with rfl | rfl | rfl | rfl | rfl
  · exact key _ 1 (by decide) (by decide)
  · exact key _ 3 (by decide) (by decide)
  · exact key _ 4 (by decide) (by decide)
  · exact key _ 6 (by decide) (by decide)
  · exact key _ 12 (by decide) (by decide)
section SCRG
variable {G : GG} {E : EE} {own : String} {b : ByteArray} {k n pc : Nat} {L : List (Nat × Value)} {st : List Value} {m : Mm} {Xs : XS} {la lv : Nat → Nat} {sb sl : Nat} {xs : Nat → Int32}
theorem LGW.at (ok : OK0 G E own b) (h : LGW G la lv sb sl xs) : va_X sb sl xs (e_s E) (e_s E).heap ∧ sb < (e_s E).heap.size ∧ AO2 (e_s E) := h.2.1 _ ok.f.2.2.2.2.2.2.2.2.2.2.2.1
theorem gl_scr (ok : OK0 G E own b) (hS : SBW G) (hg : LGW G la lv sb sl xs) {i : Int} (hi : 0 ≤ i ∧ i < sl) (d : decode b pc = .ok (.iaload, 1)) (kk : WA (GX G Xs) E k n (pc + 1) L (vI (sx xs i.toNat) :: st) m) : WA (GX G Xs) E k n pc L (vI i :: .ref (RAW + sb) :: st) m := by
  intro H locs ls hW hS2 hl
  obtain ⟨h1, h2, -⟩ := hg.at ok
  have h4 := hg.2.2.2
  have hSA : va_S (g_A G) (e_s E).heap H locs := hS2
  show gW E k n H locs (F0 (e_m E) pc ls (vI i :: Value.ref (g_ad G (RAW + sb)) :: st.map (cv (g_ad G))))
  rw [hS.1]
  refine va_sld ok.x ok.b h1 h2 hg.2.2.1 hSA (oi_in hi (by omega)) d ?_
  rw [oi_cl hi (by omega)]
  have h := kk H locs ls hW hS2 hl
  have e8 : vI (sx xs i.toNat) = .int (xs i.toNat) := by show Value.int (Int32.ofInt (xs i.toNat).toInt) = _; rw [Int32.ofInt_toInt]
  rw [e8] at h
  exact h
theorem gl_slen (ok : OK0 G E own b) (hS : SBW G) (hg : LGW G la lv sb sl xs) (d : decode b pc = .ok (.arraylength, 1)) (kk : WA (GX G Xs) E k n (pc + 1) L (vI (sl : Int) :: st) m) : WA (GX G Xs) E k n pc L (.ref (RAW + sb) :: st) m := by
  intro H locs ls hW hS2 hl
  obtain ⟨h1, h2, -⟩ := hg.at ok
  have hSA : va_S (g_A G) (e_s E).heap H locs := hS2
  show gW E k n H locs (F0 (e_m E) pc ls (Value.ref (g_ad G (RAW + sb)) :: st.map (cv (g_ad G))))
  rw [hS.1]
  refine va_slen ok.x ok.b h1 h2 hg.2.2.1 hSA d ?_
  have h := kk H locs ls hW hS2 hl
  have e8 : vI (sl : Int) = .int (Int32.ofNat sl) := by
    show Value.int (Int32.ofInt (sl : Int)) = _
    rw [oi_n]; rfl
  rw [e8] at h
  exact h
end SCRG
/-- a number of the script, or what stands for it -/
def cel (xs : Nat → Int32) (sl : Nat) (k : Int) : Int := if k < sl then sx xs k.toNat else 40503 * k
def hasB (x i : Int) : Bool := decide (i < 0 ∨ x / 2 ^ i.toNat % 2 ^ 1 = 1)
theorem fq_d {k : Int} : FP.fdiv (FP.i2f (Int32.ofInt k)) 1115684864 = fq k := rfl
theorem cB24' {c : Nat → Int} (h : cBd c) {i : Nat} (hi : i < 11) : -16777216 < c i ∧ c i < 16777216 := by
  have := h i hi
  omega
theorem cBd.of {r : Nat → Int} {T : Int} (h : gtOk T r) {n : Int} (hn : 0 ≤ n ∧ n < r 0) : cBd (gcn (rg r n.toNat)) := (h.2.2.2 n.toNat (by omega)).2.2.2.1
theorem tb_m {w : Cond} (h : w ∈ tables_1) (hg : goodWord w = true) : w ∈ BIG := List.mem_filter.mpr ⟨List.mem_append_right _ h, hg⟩
theorem lk_L_186 : LinkS RL 186 yL_drawn cL_drawn 10 (some (.object "GateGuards")) 1 := ⟨List.forall_mem_cons.mpr ⟨tb_in 29 (by decide +kernel) (by decide +kernel), List.forall_mem_cons.mpr ⟨tb_in 30 (by decide +kernel) (by decide +kernel), List.forall_mem_cons.mpr ⟨tb_in 0 (by decide +kernel) (by decide +kernel), fun _ h => absurd h List.not_mem_nil⟩⟩⟩, tb_m (List.mem_append_left _ (List.mem_of_getElem? (i := 31) rfl)) rfl, by decide +kernel⟩
theorem lk_L_152 : LinkS RL 152 yL_cell cL_cell 2 (some .int) 2 := ⟨List.forall_mem_cons.mpr ⟨tb_in 228 (by decide +kernel) (by decide +kernel), List.forall_mem_cons.mpr ⟨tb_in 229 (by decide +kernel) (by decide +kernel), List.forall_mem_cons.mpr ⟨tb_in 0 (by decide +kernel) (by decide +kernel), fun _ h => absurd h List.not_mem_nil⟩⟩⟩, tb_in 230 (by decide +kernel) (by decide +kernel), by decide +kernel⟩
theorem lk_L_190 : LinkS RL 190 yL_weighed cL_weighed 9 (some .boolean) 2 := ⟨List.forall_mem_cons.mpr ⟨tb_in 578 (by decide +kernel) (by decide +kernel), List.forall_mem_cons.mpr ⟨tb_in 579 (by decide +kernel) (by decide +kernel), List.forall_mem_cons.mpr ⟨tb_in 0 (by decide +kernel) (by decide +kernel), fun _ h => absurd h List.not_mem_nil⟩⟩⟩, tb_m (List.mem_append_right _ (List.mem_append_right _ (List.mem_append_left _ (List.mem_of_getElem? (i := 100) rfl)))) rfl, by decide +kernel⟩
theorem lk_L_207 : LinkS RL 207 yL_counts cL_counts 4 (some (.array .int)) 2 := ⟨List.forall_mem_cons.mpr ⟨tb_in 581 (by decide +kernel) (by decide +kernel), List.forall_mem_cons.mpr ⟨tb_in 582 (by decide +kernel) (by decide +kernel), List.forall_mem_cons.mpr ⟨tb_in 0 (by decide +kernel) (by decide +kernel), fun _ h => absurd h List.not_mem_nil⟩⟩⟩, tb_in 583 (by decide +kernel) (by decide +kernel), by decide +kernel⟩
theorem lk_L_183 : LinkS RL 183 yL_margin cL_margin 4 (some .float) 2 := ⟨List.forall_mem_cons.mpr ⟨tb_in 947 (by decide +kernel) (by decide +kernel), List.forall_mem_cons.mpr ⟨tb_in 948 (by decide +kernel) (by decide +kernel), List.forall_mem_cons.mpr ⟨tb_in 0 (by decide +kernel) (by decide +kernel), fun _ h => absurd h List.not_mem_nil⟩⟩⟩, tb_in 949 (by decide +kernel) (by decide +kernel), by decide +kernel⟩
theorem lk_L_178 : LinkS RL 178 yL_has cL_has 2 (some .boolean) 2 := ⟨List.forall_mem_cons.mpr ⟨tb_in 950 (by decide +kernel) (by decide +kernel), List.forall_mem_cons.mpr ⟨tb_in 951 (by decide +kernel) (by decide +kernel), List.forall_mem_cons.mpr ⟨tb_in 0 (by decide +kernel) (by decide +kernel), fun _ h => absurd h List.not_mem_nil⟩⟩⟩, tb_in 952 (by decide +kernel) (by decide +kernel), by decide +kernel⟩
theorem lk_L_194 : LinkS RL 194 yL_knew cL_knew 16 (some .boolean) 1 := ⟨List.forall_mem_cons.mpr ⟨tb_in 1032 (by decide +kernel) (by decide +kernel), List.forall_mem_cons.mpr ⟨tb_in 1033 (by decide +kernel) (by decide +kernel), List.forall_mem_cons.mpr ⟨tb_in 0 (by decide +kernel) (by decide +kernel), fun _ h => absurd h List.not_mem_nil⟩⟩⟩, tb_m (List.mem_append_right _ (List.mem_append_right _ (List.mem_append_right _ (List.mem_append_right _ (List.mem_append_left _ (List.mem_of_getElem? (i := 74) rfl)))))) rfl, by decide +kernel⟩
theorem lk_L_259 : LinkS RL 259 yL_pushes cL_pushes 5 (some .boolean) 4 := ⟨List.forall_mem_cons.mpr ⟨tb_in 1076 (by decide +kernel) (by decide +kernel), List.forall_mem_cons.mpr ⟨tb_in 1077 (by decide +kernel) (by decide +kernel), List.forall_mem_cons.mpr ⟨tb_in 0 (by decide +kernel) (by decide +kernel), fun _ h => absurd h List.not_mem_nil⟩⟩⟩, tb_in 1078 (by decide +kernel) (by decide +kernel), by decide +kernel⟩
theorem lk_L_198 : LinkS RL 198 yL_voted cL_voted 9 (some .boolean) 2 := ⟨List.forall_mem_cons.mpr ⟨tb_in 1087 (by decide +kernel) (by decide +kernel), List.forall_mem_cons.mpr ⟨tb_in 1088 (by decide +kernel) (by decide +kernel), List.forall_mem_cons.mpr ⟨tb_in 0 (by decide +kernel) (by decide +kernel), fun _ h => absurd h List.not_mem_nil⟩⟩⟩, tb_m (List.mem_append_right _ (List.mem_append_right _ (List.mem_append_right _ (List.mem_append_right _ (List.mem_append_left _ (List.mem_of_getElem? (i := 129) rfl)))))) rfl, by decide +kernel⟩
theorem lk_L_201 : LinkS RL 201 yL_visited cL_visited 11 (some .boolean) 1 := ⟨List.forall_mem_cons.mpr ⟨tb_in 1139 (by decide +kernel) (by decide +kernel), List.forall_mem_cons.mpr ⟨tb_in 1140 (by decide +kernel) (by decide +kernel), List.forall_mem_cons.mpr ⟨tb_in 0 (by decide +kernel) (by decide +kernel), fun _ h => absurd h List.not_mem_nil⟩⟩⟩, tb_m (List.mem_append_right _ (List.mem_append_right _ (List.mem_append_right _ (List.mem_append_right _ (List.mem_append_left _ (List.mem_of_getElem? (i := 181) rfl)))))) rfl, by decide +kernel⟩
theorem lk_L_204 : LinkS RL 204 yL_undone cL_undone 10 (some .boolean) 2 := ⟨List.forall_mem_cons.mpr ⟨tb_in 1156 (by decide +kernel) (by decide +kernel), List.forall_mem_cons.mpr ⟨tb_in 1157 (by decide +kernel) (by decide +kernel), List.forall_mem_cons.mpr ⟨tb_in 0 (by decide +kernel) (by decide +kernel), fun _ h => absurd h List.not_mem_nil⟩⟩⟩, tb_m (List.mem_append_right _ (List.mem_append_right _ (List.mem_append_right _ (List.mem_append_right _ (List.mem_append_left _ (List.mem_of_getElem? (i := 198) rfl)))))) rfl, by decide +kernel⟩
theorem lk_L_301 : LinkS RL 301 yL_sum cL_sum 5 (some .long) 1 := ⟨List.forall_mem_cons.mpr ⟨tb_in 1159 (by decide +kernel) (by decide +kernel), List.forall_mem_cons.mpr ⟨tb_in 1160 (by decide +kernel) (by decide +kernel), List.forall_mem_cons.mpr ⟨tb_in 0 (by decide +kernel) (by decide +kernel), fun _ h => absurd h List.not_mem_nil⟩⟩⟩, tb_m (List.mem_append_right _ (List.mem_append_right _ (List.mem_append_right _ (List.mem_append_right _ (List.mem_append_left _ (List.mem_of_getElem? (i := 201) rfl)))))) rfl, by decide +kernel⟩
theorem lk_L_317 : LinkS RL 317 yL_run cL_run 3 (some .int) 2 := ⟨List.forall_mem_cons.mpr ⟨tb_in 1191 (by decide +kernel) (by decide +kernel), List.forall_mem_cons.mpr ⟨tb_in 1192 (by decide +kernel) (by decide +kernel), List.forall_mem_cons.mpr ⟨tb_in 0 (by decide +kernel) (by decide +kernel), fun _ h => absurd h List.not_mem_nil⟩⟩⟩, tb_in 1193 (by decide +kernel) (by decide +kernel), by decide +kernel⟩
set_option maxHeartbeats 8000000 in
set_option maxRecDepth 100000 in
theorem c_L_cell {G : GG} {l : Launch} (hfl : l.stackTraces = false) (hG : MW G) (hS : SBW G) {la lv : Nat → Nat} {sb sl : Nat} {xs : Nat → Int32} (hg : LGW G la lv sb sl xs) {m : Mm} {Xs : XS} {k : Int} (hk : 0 ≤ k ∧ k ≤ 1000) : CL G l yL_cell cL_cell 2 (some .int) (RM 0 0 0) [.ref (RAW + sb), vI k] m (Xs) (fun r' m' Xs' => r' = some (vI (cel xs sl k)) ∧ m' = m ∧ Xs' = Xs) := by
  refine CL.of RL [(0, .ref (RAW + sb)), (1, vI k)] hfl (by decide +kernel) rfl rfl (Nat.le_of_ble_eq_true rfl) ?_
  intro E ok0 en hml hEl hnam
  have hR : e_R E = RM 0 0 0 := en.2.2.2
  have ok : ∀ {Xs : XS}, OK0 (GX G Xs) E RL cL_cell := fun {_} => ok0.gx
  have hn0 : 0 < (e_c E).maxLocals := by rw [hml]; decide
  have hn1 : 1 < (e_c E).maxLocals := by rw [hml]; decide
  refine ga_iload_n ok 1 rfl rfl dL_cell_0 ?_
  refine ga_aload_n ok 0 rfl rfl dL_cell_1 ?_
  refine gl_slen ok0 hS hg dL_cell_2 ?_
  refine ga_icmp_ge ok 12 (by decide) (by omega) (by have := hg.2.2.2; omega) dL_cell_3 (fun c_3 => ?_) (fun c_3 => ?_)
  · refine ga_ldc (z := 40503) ok dL_cell_12 (tb_in 231 (by decide +kernel) (by decide +kernel)) ?_
    refine ga_iload_n ok 1 rfl rfl dL_cell_14 ?_
    refine ga_imul ok dL_cell_15 ?_
    exact gl_ireturn ok0 en rfl rfl (by first | decide | (simp only [RM]; omega)) (by first | decide | (simp only [RM]; omega)) dL_cell_16 ⟨by unfold cel; rw [if_neg (by omega)], rfl, rfl⟩
  · have c_3 : k < (sl : Int) := by omega
    refine ga_aload_n ok 0 rfl rfl dL_cell_6 ?_
    refine ga_iload_n ok 1 rfl rfl dL_cell_7 ?_
    refine gl_scr ok0 hS hg ⟨hk.1, c_3⟩ dL_cell_8 ?_
    refine ga_goto ok 16 (by decide) dL_cell_9 ?_
    exact gl_ireturn ok0 en rfl rfl (by first | decide | (simp only [RM]; omega)) (by first | decide | (simp only [RM]; omega)) dL_cell_16 ⟨by unfold cel; rw [if_pos c_3], rfl, rfl⟩
set_option maxHeartbeats 4000000 in
set_option maxRecDepth 100000 in
theorem c_L_has {G : GG} {l : Launch} (hfl : l.stackTraces = false) {P9 : Prop} (hG : P9) {m : Mm} {x i : Int} (hx : 0 ≤ x ∧ x ≤ 1023) (hi : -1 ≤ i ∧ i ≤ 9) : CT G l yL_has cL_has 2 (some .boolean) (RM 0 0 0) [vI x, vI i] m (fun r' m' => r' = some (vI (b2i (hasB x i))) ∧ m' = m) (fun _ _ => False) := by
  refine CT.of RL [(0, vI x), (1, vI i)] hfl (by decide +kernel) rfl rfl (Nat.le_of_ble_eq_true rfl) ?_
  intro E ok en hml hEl htab
  have hR : e_R E = RM 0 0 0 := en.2.2.2
  have hn0 : 0 < (e_c E).maxLocals := by rw [hml]; decide
  have hn1 : 1 < (e_c E).maxLocals := by rw [hml]; decide
  refine ga_iload_n ok 1 rfl rfl dL_has_0 ?_
  refine ga_if_lt ok 13 (by decide) (by omega) dL_has_1 (fun c_1 => ?_) (fun c_1 => ?_)
  · refine ga_iconst ok dL_has_13 ?_
    refine ga_goto ok 18 (by decide) dL_has_14 ?_
    exact ga_ireturn ok en rfl (by first | exact nar01 (Or.inl rfl) | exact nar01 (Or.inr rfl)) (by decide) (by decide) dL_has_18 ⟨by rw [show hasB x i = true from decide_eq_true (Or.inl c_1)]; rfl, rfl⟩
  · have c_1 : ¬ i < 0 := by omega
    refine ga_iload_n ok 0 rfl rfl dL_has_4 ?_
    refine ga_iload_n ok 1 rfl rfl dL_has_5 ?_
    refine ga_ishr ok dL_has_6 (by omega) (by omega) ?_
    refine ga_iconst ok dL_has_7 ?_
    refine ga_iand ok 1 dL_has_8 (by decide) (by decide) ?_
    refine ga_iconst ok dL_has_9 ?_
    refine ga_icmp_ne ok 17 (by decide) (bit_rng _ _) (by omega) dL_has_10 (fun c_10 => ?_) (fun c_10 => ?_)
    · refine ga_iconst ok dL_has_17 ?_
      exact ga_ireturn ok en rfl (by first | exact nar01 (Or.inl rfl) | exact nar01 (Or.inr rfl)) (by decide) (by decide) dL_has_18 ⟨by rw [show hasB x i = false from decide_eq_false (fun h => h.elim (fun h => c_1 h) (fun h => c_10 h))]; rfl, rfl⟩
    · refine ga_iconst ok dL_has_13 ?_
      refine ga_goto ok 18 (by decide) dL_has_14 ?_
      exact ga_ireturn ok en rfl (by first | exact nar01 (Or.inl rfl) | exact nar01 (Or.inr rfl)) (by decide) (by decide) dL_has_18 ⟨by rw [show hasB x i = true from decide_eq_true (Or.inr c_10)]; rfl, rfl⟩
set_option maxHeartbeats 8000000 in
set_option maxRecDepth 100000 in
theorem c_L_margin {G : GG} {l : Launch} (hfl : l.stackTraces = false) (hS : SBW G) {m : Mm} {Xs : XS} {q : Nat} {f : Nat → Int} (hq : (q, iA G 11 f) ∈ Xs) (hc : cBd f) {x : Int} (hx : 0 ≤ x ∧ x ≤ 1023) : CL G l yL_margin cL_margin 4 (some .float) (RM 1 0 0) [.ref (RAW + q), vI x] m (Xs) (fun r' m' Xs' => r' = some (.float (fq (mg f x))) ∧ m' = m ∧ Xs' = Xs) := by
  refine CL.of RL [(0, .ref (RAW + q)), (1, vI x)] hfl (by decide +kernel) rfl rfl (Nat.le_of_ble_eq_true rfl) ?_
  intro E ok0 en hml hEl hnam
  have hR : e_R E = RM 1 0 0 := en.2.2.2
  have ok : ∀ {Xs : XS}, OK0 (GX G Xs) E RL cL_margin := fun {_} => ok0.gx
  have hn0 : 0 < (e_c E).maxLocals := by rw [hml]; decide
  have hn1 : 1 < (e_c E).maxLocals := by rw [hml]; decide
  have hn2 : 2 < (e_c E).maxLocals := by rw [hml]; decide
  have hn3 : 3 < (e_c E).maxLocals := by rw [hml]; decide
  refine ga_aload_n ok 0 rfl rfl dL_margin_0 ?_
  refine ga_iconst ok dL_margin_1 ?_
  refine gl_iald ok0 hS hq (by decide) (by omega) dL_margin_2 ?_
  refine ga_i2f ok dL_margin_3 ?_
  refine ga_ldcf (z := 1115684864) ok dL_margin_4 (tb_in 819 (by decide +kernel) (by decide +kernel)) ?_
  refine ga_fdiv ok dL_margin_6 (n32_of (by rw [fq_d]; exact fq_nan (cB24' hc (by omega)))) ?_
  rw [fq_d]
  refine ga_fstore_n ok 2 rfl hn2 dL_margin_7 ?_
  refine ga_iconst ok dL_margin_8 ?_
  refine ga_istore_n ok 3 rfl hn3 dL_margin_9 ?_
  have loop : ∀ (i : Int), 0 ≤ i ∧ i ≤ 10 → WA (GX G Xs) E 0 0 10 [(3, vI i), (2, .float (fq (mgA f x i.toNat))), (0, .ref (RAW + q)), (1, vI x)] [] m := by
    refine wl1 _ (fun i => (10 - i).toNat) _ ?_
    intro i hi ih
    have hb1 := mgA_bd2 hc x (n := i.toNat) (by omega)
    refine ga_iload_n ok 3 rfl rfl dL_margin_10 ?_
    refine ga_bipush ok dL_margin_11 (by decide) ?_
    refine ga_icmp_ge ok 42 (by decide) (by omega) (by omega) dL_margin_13 (fun c_13 => ?_) (fun c_13 => ?_)
    · refine ga_fload_n ok 2 rfl rfl dL_margin_42 ?_
      exact gl_freturn ok0 en rfl (by first | decide | (simp only [RM]; omega)) (by first | decide | (simp only [RM]; omega)) dL_margin_43 ⟨by rw [show mg f x = mgA f x i.toNat from by rw [show i = 10 by omega]; rfl], rfl, rfl⟩
    · refine ga_iload_n ok 1 rfl rfl dL_margin_16 ?_
      refine ga_iload_n ok 3 rfl rfl dL_margin_17 ?_
      refine ga_callS ok [vI x, vI i] lk_L_178 (c_L_has ok0.fl trivial hx (by omega)) rfl (by rw [hR]; exact ⟨by decide, by decide, by decide, by decide⟩) (Nat.le_of_ble_eq_true rfl) dL_margin_18 (fun r9 m1 hq9 => ?_) (fun _ _ h => h.elim)
      obtain ⟨rfl, hm9⟩ := hq9
      subst m1
      simp only [Option.toList_some, List.singleton_append]
      refine ga_if_eq ok 36 (by decide) (b2i_rng _) dL_margin_21 (fun c_21 => ?_) (fun c_21 => ?_)
      · have f_21 := of_decide_eq_false (b2i_0.mp c_21)
        refine ga_iinc ok rfl hn3 dL_margin_36 ?_
        refine ga_goto ok 10 (by decide) dL_margin_39 ?_
        have e9 : mgA f x (i + 1).toNat = mgA f x i.toNat := mgA_f hi.1 (fun h => f_21 (Or.inr h))
        exact WA.re (by exact ⟨rfl, by rw [e9]; rfl, rfl, rfl, trivial⟩) (ih (i + 1) (by omega) (by omega))
      · have f_21 := of_decide_eq_true (b2i_n0.mp c_21)
        refine ga_fload_n ok 2 rfl rfl dL_margin_24 ?_
        refine ga_aload_n ok 0 rfl rfl dL_margin_25 ?_
        refine ga_iload_n ok 3 rfl rfl dL_margin_26 ?_
        refine ga_iconst ok dL_margin_27 ?_
        refine ga_iadd ok dL_margin_28 ?_
        refine gl_iald ok0 hS hq (by decide) (by omega) dL_margin_29 ?_
        refine ga_i2f ok dL_margin_30 ?_
        refine ga_ldcf (z := 1115684864) ok dL_margin_31 (tb_in 819 (by decide +kernel) (by decide +kernel)) ?_
        refine ga_fdiv ok dL_margin_33 (n32_of (by rw [fq_d]; exact fq_nan (cB24' hc (by omega)))) ?_
        have hb3 : -16777216 < mgA f x i.toNat + f (i + 1).toNat ∧ mgA f x i.toNat + f (i + 1).toNat < 16777216 := by
          rw [← mgA_t (c := f) (x := x) hi.1 (f_21.resolve_left (by omega))]
          exact mgA_bd2 hc x (by omega)
        refine ga_fadd ok dL_margin_34 (n32_of (by rw [fq_d, fq_add hb1 (cB24' hc (by omega)) hb3]; exact fq_nan hb3)) ?_
        rw [fq_d, fq_add hb1 (cB24' hc (by omega)) hb3, ← mgA_t (c := f) (x := x) hi.1 (f_21.resolve_left (by omega))]
        refine ga_fstore_n ok 2 rfl hn2 dL_margin_35 ?_
        refine ga_iinc ok rfl hn3 dL_margin_36 ?_
        refine ga_goto ok 10 (by decide) dL_margin_39 ?_
        exact WA.re (by exact ⟨rfl, rfl, rfl, rfl, trivial⟩) (ih (i + 1) (by omega) (by omega))
  exact WA.re (by exact ⟨rfl, rfl, rfl, rfl, trivial⟩) (loop 0 (by omega))
set_option maxHeartbeats 8000000 in
set_option maxRecDepth 100000 in
theorem c_L_counts {G : GG} {l : Launch} (hfl : l.stackTraces = false) (hG : MW G) (hS : SBW G) {m : Mm} {Xs : XS} {g : Gm} {T : Int} (hX : LWX T m g) (hT0 : 0 ≤ T ∧ T ≤ 999000000) {n : Int} (hn : 0 ≤ n ∧ n < g.r 0) : CL G l yL_counts cL_counts 4 (some (.array .int)) (RM 12 24 150) [.ref 0, vI n] m (Xs) (fun r' m' Xs' => m' = m ∧ ∃ (q : Nat) (f : Nat → Int), r' = some (.ref (RAW + q)) ∧ Xs' = (q, iA G 11 f) :: Xs ∧ ∀ j, j < 11 → f j = gcn (rg g.r n.toNat) j) := by
  refine CL.of RL [(0, .ref 0), (1, vI n)] hfl (by decide +kernel) rfl rfl (Nat.le_of_ble_eq_true rfl) ?_
  intro E ok0 en hml hEl hnam
  have hR : e_R E = RM 12 24 150 := en.2.2.2
  have ok : ∀ {Xs : XS}, OK0 (GX G Xs) E RL cL_counts := fun {_} => ok0.gx
  have hn0 : 0 < (e_c E).maxLocals := by rw [hml]; decide
  have hn1 : 1 < (e_c E).maxLocals := by rw [hml]; decide
  have hn2 : 2 < (e_c E).maxLocals := by rw [hml]; decide
  have hn3 : 3 < (e_c E).maxLocals := by rw [hml]; decide
  have hn9 : g.r 0 ≤ 4 := hX.O.1.2
  refine ga_bipush ok dL_counts_0 (by decide) ?_
  refine gl_newi ok0 hS (N := 11) (tb_in 92 (by decide +kernel) (by decide +kernel)) (by decide) rfl (by rw [hR]; exact Nat.le_of_ble_eq_true rfl) (by rw [hR]; exact Nat.le_of_ble_eq_true rfl) dL_counts_2 (fun q => ?_)
  refine ga_astore_n ok 2 rfl hn2 dL_counts_4 ?_
  refine ga_iconst ok dL_counts_5 ?_
  refine ga_istore_n ok 3 rfl hn3 dL_counts_6 ?_
  have loop : ∀ (i : Int) (f : Nat → Int), ((-1 ≤ i ∧ i ≤ 10) ∧ ∀ j : Nat, (j : Int) < i + 1 → f j = gcn (rg g.r n.toNat) j) → WA (GX G ((q, iA G 11 f) :: Xs)) E (1 + 2 * (i + 1).toNat) (11 + 12 * (i + 1).toNat) 7 [(3, vI i), (2, .ref (RAW + q)), (0, .ref 0), (1, vI n)] [] m := by
    refine wl2 _ (fun i _ => (10 - i).toNat) _ ?_
    intro i f hf ih
    have hi := hf.1
    refine ga_iload_n ok 3 rfl rfl dL_counts_7 ?_
    refine ga_bipush ok dL_counts_8 (by decide) ?_
    refine ga_icmp_ge ok 30 (by decide) (by omega) (by omega) dL_counts_10 (fun c_10 => ?_) (fun c_10 => ?_)
    · refine ga_aload_n ok 2 rfl rfl dL_counts_30 ?_
      exact gl_areturn ok0 en rfl (Or.inr ⟨_, rfl⟩) (by first | decide | (simp only [RM]; omega)) (by first | decide | (simp only [RM]; omega)) dL_counts_31 ⟨rfl, q, f, rfl, rfl, fun j hj => hf.2 j (by omega)⟩
    · refine ga_aload_n ok 2 rfl rfl dL_counts_13 ?_
      refine ga_iload_n ok 3 rfl rfl dL_counts_14 ?_
      refine ga_iconst ok dL_counts_15 ?_
      refine ga_iadd ok dL_counts_16 ?_
      refine ga_aload_n ok 0 rfl rfl dL_counts_17 ?_
      refine ga_iload_n ok 1 rfl rfl dL_counts_18 ?_
      refine ga_iload_n ok 3 rfl rfl dL_counts_19 ?_
      refine gl_callT ok0 hG hS [.ref 0, vI n, vI i] lw_L_181 hX.h40 (fun G9 hG9 hS9 => w_counted ok0.fl hG9 hS9 hX (by omega) (by omega) (by omega)) rfl (by rw [hR]; exact ⟨by decide, by decide, by simp only [RM]; omega, by simp only [RM]; omega⟩) (Nat.le_of_ble_eq_true rfl) dL_counts_20 (fun r9 m1 hq9 => ?_)
      obtain ⟨rfl, hm9⟩ := hq9
      subst m1
      simp only [Option.toList_some, List.singleton_append]
      rw [show q_counted g.r n i = gcn (rg g.r n.toNat) (i + 1).toNat from by unfold q_counted; rw [if_pos hn, if_pos (by omega)]]
      refine gl_iast ok0 hS (by decide) (by omega) dL_counts_23 ?_
      refine ga_iinc ok rfl hn3 dL_counts_24 ?_
      refine ga_goto ok 7 (by decide) dL_counts_27 ?_
      refine WA.wd (k2 := 1 + 2 * (i + 1 + 1).toNat) (n2 := 11 + 12 * (i + 1 + 1).toNat) (by simp only [RM]; omega) (by simp only [RM]; omega) ?_
      exact WA.re (by exact ⟨rfl, rfl, rfl, rfl, trivial⟩) (ih (i + 1) _ ⟨by omega, fun j hj => (by
        by_cases e : j = (i + 1).toNat
        · rw [if_pos e, e]
        · rw [if_neg e]; exact hf.2 j (by omega))⟩ (by omega))
  exact WA.wd (Nat.le_refl _) (Nat.le_refl _) (WA.re (by exact ⟨rfl, rfl, rfl, rfl, trivial⟩) (loop (-1) _ ⟨by omega, fun j hj => by omega⟩))
set_option maxHeartbeats 8000000 in
set_option maxRecDepth 100000 in
theorem c_L_pushes {G : GG} {l : Launch} (hfl : l.stackTraces = false) (hS : SBW G) {m : Mm} {Xs : XS} {q : Nat} {f : Nat → Int} (hq : (q, iA G 11 f) ∈ Xs) (hc : cBd f) {x : Int} (hx : 0 ≤ x ∧ x ≤ 1023) {ca fr : Int} (hfr : fr = 0 ∨ fr = 1) (hca : 0 ≤ ca ∧ ca ≤ 256) : CL G l yL_pushes cL_pushes 5 (some .boolean) (RM 2 0 0) [.ref (RAW + q), vI x, vI fr, vI ca] m (Xs) (fun r' m' Xs' => r' = some (vI (b2i (pshd (mg f x) ca fr))) ∧ m' = m ∧ Xs' = Xs) := by
  refine CL.of RL [(0, .ref (RAW + q)), (1, vI x), (2, vI fr), (3, vI ca)] hfl (by decide +kernel) rfl rfl (Nat.le_of_ble_eq_true rfl) ?_
  intro E ok0 en hml hEl hnam
  have hR : e_R E = RM 2 0 0 := en.2.2.2
  have ok : ∀ {Xs : XS}, OK0 (GX G Xs) E RL cL_pushes := fun {_} => ok0.gx
  have hn0 : 0 < (e_c E).maxLocals := by rw [hml]; decide
  have hn1 : 1 < (e_c E).maxLocals := by rw [hml]; decide
  have hn2 : 2 < (e_c E).maxLocals := by rw [hml]; decide
  have hn3 : 3 < (e_c E).maxLocals := by rw [hml]; decide
  have hn4 : 4 < (e_c E).maxLocals := by rw [hml]; decide
  have hb := mg_bd hc x
  refine ga_aload_n ok 0 rfl rfl dL_pushes_0 ?_
  refine ga_iload_n ok 1 rfl rfl dL_pushes_1 ?_
  refine gl_callL ok0 [.ref (RAW + q), vI x] lk_L_183 (c_L_margin ok0.fl hS hq hc hx) rfl (by rw [hR]; exact ⟨by decide, by decide, by decide, by decide⟩) (Nat.le_of_ble_eq_true rfl) dL_pushes_2 (fun r9 m1 Xs1 hq9 => ?_)
  obtain ⟨rfl, hm9, hxs⟩ := hq9
  subst m1
  subst Xs1
  simp only [Option.toList_some, List.singleton_append]
  refine ga_fstore ok hn4 dL_pushes_5 ?_
  refine ga_fload ok rfl dL_pushes_7 ?_
  refine ga_fconst0 ok dL_pushes_9 ?_
  refine ga_fcmp ok dL_pushes_10 (fq_cmpz0 hb) ?_
  refine ga_if_le ok 18 (by decide) (cmpz_rng _ _) dL_pushes_11 (fun c_11 => ?_) (fun c_11 => ?_)
  · refine ga_iconst ok dL_pushes_18 ?_
    refine ga_iload_n ok 2 rfl rfl dL_pushes_19 ?_
    refine ga_icmp_ne ok 48 (by decide) (by omega) (by omega) dL_pushes_20 (fun c_20 => ?_) (fun c_20 => ?_)
    · refine ga_iconst ok dL_pushes_48 ?_
      refine ga_goto ok 53 (by decide) dL_pushes_49 ?_
      exact gl_ireturn ok0 en rfl (by first | exact nar01 (Or.inl rfl) | exact nar01 (Or.inr rfl)) (by first | decide | (simp only [RM]; omega)) (by first | decide | (simp only [RM]; omega)) dL_pushes_53 ⟨by rw [show pshd (mg f x) ca fr = true from pshd_t.mpr (Or.inl (by have h0 := cmpz_le.mp c_11; omega))]; rfl, rfl, rfl⟩
    · refine ga_fload ok rfl dL_pushes_23 ?_
      refine ga_fconst0 ok dL_pushes_25 ?_
      refine ga_fcmp ok dL_pushes_26 (fq_cmpz0 hb) ?_
      refine ga_if_ge ok 37 (by decide) (cmpz_rng _ _) dL_pushes_27 (fun c_27 => ?_) (fun c_27 => ?_)
      · refine ga_fload ok rfl dL_pushes_37 ?_
        refine ga_iload_n ok 3 rfl rfl dL_pushes_39 ?_
        refine ga_i2f ok dL_pushes_40 ?_
        refine ga_ldcf (z := 1115684864) ok dL_pushes_41 (tb_in 819 (by decide +kernel) (by decide +kernel)) ?_
        refine ga_fdiv ok dL_pushes_43 (n32_of (by rw [fq_d]; exact fq_nan (by omega))) ?_
        refine ga_fcmp ok dL_pushes_44 (by rw [fq_d]; exact fq_cmpz (by omega) (by omega)) ?_
        refine ga_if_ge ok 52 (by decide) (cmpz_rng _ _) dL_pushes_45 (fun c_45 => ?_) (fun c_45 => ?_)
        · refine ga_iconst ok dL_pushes_52 ?_
          exact gl_ireturn ok0 en rfl (by first | exact nar01 (Or.inl rfl) | exact nar01 (Or.inr rfl)) (by first | decide | (simp only [RM]; omega)) (by first | decide | (simp only [RM]; omega)) dL_pushes_53 ⟨by rw [show pshd (mg f x) ca fr = false from pshd_f.mpr (⟨by have h0 := cmpz_le.mp c_11; omega, by have h1 := cmpz_ge.mp c_27; have h2 := cmpz_ge.mp c_45; rw [if_neg (by omega)]; omega⟩)]; rfl, rfl, rfl⟩
        · refine ga_iconst ok dL_pushes_48 ?_
          refine ga_goto ok 53 (by decide) dL_pushes_49 ?_
          exact gl_ireturn ok0 en rfl (by first | exact nar01 (Or.inl rfl) | exact nar01 (Or.inr rfl)) (by first | decide | (simp only [RM]; omega)) (by first | decide | (simp only [RM]; omega)) dL_pushes_53 ⟨by rw [show pshd (mg f x) ca fr = true from pshd_t.mpr (Or.inr (by have h1 := cmpz_ge.mp c_27; have h2 := cmpz_lt.mp (show cmpz _ ca < 0 by omega); rw [if_neg (by omega)]; omega))]; rfl, rfl, rfl⟩
      · refine ga_fconst0 ok dL_pushes_30 ?_
        refine ga_fload ok rfl dL_pushes_31 ?_
        refine ga_fsub ok dL_pushes_33 (n32_of (by rw [← fq_0, fq_sub (by omega) hb (by omega)]; exact fq_nan (by omega))) ?_
        rw [← fq_0, fq_sub (by omega) hb (by omega)]
        refine ga_goto ok 39 (by decide) dL_pushes_34 ?_
        refine ga_iload_n ok 3 rfl rfl dL_pushes_39 ?_
        refine ga_i2f ok dL_pushes_40 ?_
        refine ga_ldcf (z := 1115684864) ok dL_pushes_41 (tb_in 819 (by decide +kernel) (by decide +kernel)) ?_
        refine ga_fdiv ok dL_pushes_43 (n32_of (by rw [fq_d]; exact fq_nan (by omega))) ?_
        refine ga_fcmp ok dL_pushes_44 (by rw [fq_d]; exact fq_cmpz (by omega) (by omega)) ?_
        refine ga_if_ge ok 52 (by decide) (cmpz_rng _ _) dL_pushes_45 (fun c_45 => ?_) (fun c_45 => ?_)
        · refine ga_iconst ok dL_pushes_52 ?_
          exact gl_ireturn ok0 en rfl (by first | exact nar01 (Or.inl rfl) | exact nar01 (Or.inr rfl)) (by first | decide | (simp only [RM]; omega)) (by first | decide | (simp only [RM]; omega)) dL_pushes_53 ⟨by rw [show pshd (mg f x) ca fr = false from pshd_f.mpr (⟨by have h0 := cmpz_le.mp c_11; omega, by have h1 := cmpz_lt.mp (show cmpz (mg f x) 0 < 0 by omega); have h2 := cmpz_ge.mp c_45; rw [if_pos (by omega)]; omega⟩)]; rfl, rfl, rfl⟩
        · refine ga_iconst ok dL_pushes_48 ?_
          refine ga_goto ok 53 (by decide) dL_pushes_49 ?_
          exact gl_ireturn ok0 en rfl (by first | exact nar01 (Or.inl rfl) | exact nar01 (Or.inr rfl)) (by first | decide | (simp only [RM]; omega)) (by first | decide | (simp only [RM]; omega)) dL_pushes_53 ⟨by rw [show pshd (mg f x) ca fr = true from pshd_t.mpr (Or.inr (by have h1 := cmpz_lt.mp (show cmpz (mg f x) 0 < 0 by omega); have h2 := cmpz_lt.mp (show cmpz _ ca < 0 by omega); rw [if_pos (by omega)]; omega))]; rfl, rfl, rfl⟩
  · refine ga_iconst ok dL_pushes_14 ?_
    refine ga_goto ok 19 (by decide) dL_pushes_15 ?_
    refine ga_iload_n ok 2 rfl rfl dL_pushes_19 ?_
    refine ga_icmp_ne ok 48 (by decide) (by omega) (by omega) dL_pushes_20 (fun c_20 => ?_) (fun c_20 => ?_)
    · refine ga_iconst ok dL_pushes_48 ?_
      refine ga_goto ok 53 (by decide) dL_pushes_49 ?_
      exact gl_ireturn ok0 en rfl (by first | exact nar01 (Or.inl rfl) | exact nar01 (Or.inr rfl)) (by first | decide | (simp only [RM]; omega)) (by first | decide | (simp only [RM]; omega)) dL_pushes_53 ⟨by rw [show pshd (mg f x) ca fr = true from pshd_t.mpr (Or.inl (by have h0 := cmpz_gt.mp (show 0 < cmpz (mg f x) 0 by omega); omega))]; rfl, rfl, rfl⟩
    · refine ga_fload ok rfl dL_pushes_23 ?_
      refine ga_fconst0 ok dL_pushes_25 ?_
      refine ga_fcmp ok dL_pushes_26 (fq_cmpz0 hb) ?_
      refine ga_if_ge ok 37 (by decide) (cmpz_rng _ _) dL_pushes_27 (fun c_27 => ?_) (fun c_27 => ?_)
      · refine ga_fload ok rfl dL_pushes_37 ?_
        refine ga_iload_n ok 3 rfl rfl dL_pushes_39 ?_
        refine ga_i2f ok dL_pushes_40 ?_
        refine ga_ldcf (z := 1115684864) ok dL_pushes_41 (tb_in 819 (by decide +kernel) (by decide +kernel)) ?_
        refine ga_fdiv ok dL_pushes_43 (n32_of (by rw [fq_d]; exact fq_nan (by omega))) ?_
        refine ga_fcmp ok dL_pushes_44 (by rw [fq_d]; exact fq_cmpz (by omega) (by omega)) ?_
        refine ga_if_ge ok 52 (by decide) (cmpz_rng _ _) dL_pushes_45 (fun c_45 => ?_) (fun c_45 => ?_)
        · refine ga_iconst ok dL_pushes_52 ?_
          exact gl_ireturn ok0 en rfl (by first | exact nar01 (Or.inl rfl) | exact nar01 (Or.inr rfl)) (by first | decide | (simp only [RM]; omega)) (by first | decide | (simp only [RM]; omega)) dL_pushes_53 ⟨by rw [show pshd (mg f x) ca fr = false from pshd_f.mpr (⟨by have h0 := cmpz_gt.mp (show 0 < cmpz (mg f x) 0 by omega); omega, by have h1 := cmpz_ge.mp c_27; have h2 := cmpz_ge.mp c_45; rw [if_neg (by omega)]; omega⟩)]; rfl, rfl, rfl⟩
        · refine ga_iconst ok dL_pushes_48 ?_
          refine ga_goto ok 53 (by decide) dL_pushes_49 ?_
          exact gl_ireturn ok0 en rfl (by first | exact nar01 (Or.inl rfl) | exact nar01 (Or.inr rfl)) (by first | decide | (simp only [RM]; omega)) (by first | decide | (simp only [RM]; omega)) dL_pushes_53 ⟨by rw [show pshd (mg f x) ca fr = true from pshd_t.mpr (Or.inr (by have h1 := cmpz_ge.mp c_27; have h2 := cmpz_lt.mp (show cmpz _ ca < 0 by omega); rw [if_neg (by omega)]; omega))]; rfl, rfl, rfl⟩
      · refine ga_fconst0 ok dL_pushes_30 ?_
        refine ga_fload ok rfl dL_pushes_31 ?_
        refine ga_fsub ok dL_pushes_33 (n32_of (by rw [← fq_0, fq_sub (by omega) hb (by omega)]; exact fq_nan (by omega))) ?_
        rw [← fq_0, fq_sub (by omega) hb (by omega)]
        refine ga_goto ok 39 (by decide) dL_pushes_34 ?_
        refine ga_iload_n ok 3 rfl rfl dL_pushes_39 ?_
        refine ga_i2f ok dL_pushes_40 ?_
        refine ga_ldcf (z := 1115684864) ok dL_pushes_41 (tb_in 819 (by decide +kernel) (by decide +kernel)) ?_
        refine ga_fdiv ok dL_pushes_43 (n32_of (by rw [fq_d]; exact fq_nan (by omega))) ?_
        refine ga_fcmp ok dL_pushes_44 (by rw [fq_d]; exact fq_cmpz (by omega) (by omega)) ?_
        refine ga_if_ge ok 52 (by decide) (cmpz_rng _ _) dL_pushes_45 (fun c_45 => ?_) (fun c_45 => ?_)
        · refine ga_iconst ok dL_pushes_52 ?_
          exact gl_ireturn ok0 en rfl (by first | exact nar01 (Or.inl rfl) | exact nar01 (Or.inr rfl)) (by first | decide | (simp only [RM]; omega)) (by first | decide | (simp only [RM]; omega)) dL_pushes_53 ⟨by rw [show pshd (mg f x) ca fr = false from pshd_f.mpr (⟨by have h0 := cmpz_gt.mp (show 0 < cmpz (mg f x) 0 by omega); omega, by have h1 := cmpz_lt.mp (show cmpz (mg f x) 0 < 0 by omega); have h2 := cmpz_ge.mp c_45; rw [if_pos (by omega)]; omega⟩)]; rfl, rfl, rfl⟩
        · refine ga_iconst ok dL_pushes_48 ?_
          refine ga_goto ok 53 (by decide) dL_pushes_49 ?_
          exact gl_ireturn ok0 en rfl (by first | exact nar01 (Or.inl rfl) | exact nar01 (Or.inr rfl)) (by first | decide | (simp only [RM]; omega)) (by first | decide | (simp only [RM]; omega)) dL_pushes_53 ⟨by rw [show pshd (mg f x) ca fr = true from pshd_t.mpr (Or.inr (by have h1 := cmpz_lt.mp (show cmpz (mg f x) 0 < 0 by omega); have h2 := cmpz_lt.mp (show cmpz _ ca < 0 by omega); rw [if_pos (by omega)]; omega))]; rfl, rfl, rfl⟩
