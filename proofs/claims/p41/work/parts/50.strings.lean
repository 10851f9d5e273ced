/-! STRINGS that nothing here writes to: at raw addresses -/
/-- at s stands a text of n letters, its bytes at v -/
def STv (A : Nat → Prop) (u : State) (s v : Nat) (t : Nat → Int) (n : Nat) : Prop := va_O "java/lang/String" s A u u.heap ∧ va_OF "java/lang/String" "coder" "B" (.int 0) s A u u.heap ∧ va_OF "java/lang/String" "value" "[B" (.ref v) s A u u.heap ∧ va_T .byte v n (fun j => .int (Int32.ofInt (t j))) A u u.heap ∧ n ≤ 100 ∧ ∀ j, j < n → 0 ≤ t j ∧ t j ≤ 127
theorem STv.narrow {A B : Nat → Prop} {u : State} {s v n : Nat} {t : Nat → Int} (h : STv A u s v t n) (hAB : ∀ q, B q → A q) : STv B u s v t n :=
  ⟨h.1.narrow hAB, h.2.1.narrow hAB, h.2.2.1.narrow hAB, h.2.2.2.1.narrow hAB, h.2.2.2.2⟩
theorem STv.moved {A : Nat → Prop} {u U : State} {s v n : Nat} {t : Nat → Int} (hW : u.WarmedH U.vm) (hk : ∀ q, q < u.heap.size → ¬ A q → U.heap[q]? = u.heap[q]?) (h : STv A u s v t n) : STv A U s v t n :=
  ⟨(h.1.kept hk).moved hW.alike, (h.2.1.kept hk).moved hW.alike, (h.2.2.1.kept hk).moved hW.alike, (h.2.2.2.1.kept hk).moved hW.alike, h.2.2.2.2⟩
/-- n letters of t behind q -/
def catL (q : (Nat → Int) × Int) (t : Nat → Int) (n : Int) : (Nat → Int) × Int := (fun i => if (i : Int) < q.2 then q.1 i else t (i - q.2.toNat), q.2 + n)
/-- n letters of t are laid from p on -/
def cpS (m : Mm) (t : Nat → Int) (p n : Nat) : Mm := (fun x j => if x = 961 ∧ p ≤ j ∧ j < p + n then t (j - p) else m.1 x j, m.2)
theorem cpS_x {m : Mm} {t : Nat → Int} {p n : Nat} : XB m (cpS m t p n) := ⟨fun k h1 h2 => by funext j; simp [cpS, h2], rfl⟩
theorem cpS_0 {m : Mm} {t : Nat → Int} {p n : Nat} : (cpS m t p n).1 960 = m.1 960 := by funext j; simp [cpS]
theorem cpS_k {m : Mm} {t : Nat → Int} {p n : Nat} (h : SBk m) (ht : ∀ j, j < n → 0 ≤ t j ∧ t j ≤ 127) : SBk (cpS m t p n) := by
  obtain ⟨h1, h2, h3, h4, h5⟩ := h
  refine ⟨by rw [cpS_0]; exact h1, by rw [cpS_0]; exact h2, by rw [cpS_0]; exact h3, by rw [cpS_0]; exact h4, fun i hi => ?_⟩
  rw [cpS_0] at hi
  have h9 := h5 i hi
  show -128 ≤ (if 961 = 961 ∧ p ≤ i ∧ i < p + n then t (i - p) else m.1 961 i) ∧ (if 961 = 961 ∧ p ≤ i ∧ i < p + n then t (i - p) else m.1 961 i) ≤ 127
  by_cases e : p ≤ i ∧ i < p + n
  · have := ht (i - p) (by omega)
    rw [if_pos ⟨rfl, e⟩]
    omega
  · rw [if_neg (fun z => e z.2)]
    exact h9
section STR
variable {G : GG} {E : EE} {own : String} {b : ByteArray} {k n pc : Nat} {L : List (Nat × Value)} {st : List Value} {m : Mm}
theorem rw_raw (hS : SBW G) (a : Nat) (st : List Value) : (Value.ref (RAW + a) :: st).map (cv (g_ad G)) = .ref a :: st.map (cv (g_ad G)) := by
  show Value.ref (g_ad G (RAW + a)) :: _ = _
  rw [hS.1]
theorem gs_svalue (ok : OK0 G E own b) (hS : SBW G) {s v N : Nat} {t : Nat → Int} (hq : STv (g_A G) (e_s E) s v t N) {index : Nat} (hlink : Cond.fieldLink own index "java/lang/String" "value" "[B" ∈ BIG) (d : decode b pc = .ok (.getfield index, 3)) (kk : WA G E k n (pc + 3) L (.ref (RAW + v) :: st) m) : WA G E k n pc L (.ref (RAW + s) :: st) m := by
  intro H locs ls hW hS2 hl
  have h := kk H locs ls hW hS2 hl
  rw [rw_raw hS] at h ⊢
  exact vk_getf ok.x ok.b hq.2.2.1 hS2 ok.o (ok.w _ hlink) (fun _ h => h) d h
theorem gs_scoder (ok : OK0 G E own b) (hS : SBW G) {s v N : Nat} {t : Nat → Int} (hq : STv (g_A G) (e_s E) s v t N) {index : Nat} (hlink : Cond.fieldLink own index "java/lang/String" "coder" "B" ∈ BIG) (d : decode b pc = .ok (.getfield index, 3)) (kk : WA G E k n (pc + 3) L (vI 0 :: st) m) : WA G E k n pc L (.ref (RAW + s) :: st) m := by
  intro H locs ls hW hS2 hl
  have h := kk H locs ls hW hS2 hl
  rw [rw_raw hS]
  exact vk_getf ok.x ok.b hq.2.1 hS2 ok.o (ok.w _ hlink) (fun _ h => h) d h
theorem gs_slenT (ok : OK0 G E own b) (hS : SBW G) {s v N : Nat} {t : Nat → Int} (hq : STv (g_A G) (e_s E) s v t N) (d : decode b pc = .ok (.arraylength, 1)) (kk : WA G E k n (pc + 1) L (vI (N : Int) :: st) m) : WA G E k n pc L (.ref (RAW + v) :: st) m := by
  intro H locs ls hW hS2 hl
  have h := kk H locs ls hW hS2 hl
  rw [rw_raw hS]
  exact va_tlen ok.x ok.b hq.2.2.2.1 hS2 (v := Int32.ofInt (N : Int)) (by rw [oi_n]; rfl) d h
theorem gs_sbald (ok : OK0 G E own b) (hS : SBW G) {s v N : Nat} {t : Nat → Int} (hq : STv (g_A G) (e_s E) s v t N) {i : Int} (hi : 0 ≤ i ∧ i < N) (d : decode b pc = .ok (.baload, 1)) (kk : WA G E k n (pc + 1) L (vI (t i.toNat) :: st) m) : WA G E k n pc L (vI i :: .ref (RAW + v) :: st) m := by
  intro H locs ls hW hS2 hl
  have h := kk H locs ls hW hS2 hl
  have hN := hq.2.2.2.2.1
  have e9 : (vI i :: Value.ref (RAW + v) :: st).map (cv (g_ad G)) = vI i :: .ref v :: st.map (cv (g_ad G)) := by
    show vI i :: Value.ref (g_ad G (RAW + v)) :: _ = _
    rw [hS.1]
  rw [e9]
  exact va_tb ok.x ok.b hq.2.2.2.1 hS2 (oi_in hi (by omega)) (v := vI (t i.toNat)) (by rw [oi_cl hi (by omega)]; rfl) d h
/-- a method of a text -/
theorem gs_callR (ok : OK0 G E own b) (hS : SBW G) {s v N : Nat} {t : Nat → Int} (hq : STv (g_A G) (e_s E) s v t N) {y : MethodName} {bytes : ByteArray} {maxL index na : Nat} {ret : Option FieldType} {rm : Room} {Qr : Option Value → Mm → Prop} (as : List Value)
    (lk : LinkV own index y bytes maxL ret na) (hy : y.cls = RJ0) (hC : CT G (e_l E) y bytes maxL ret rm (.ref (RAW + s) :: as) m Qr (fun _ _ => False)) (hn : as.length = na) (hf : Fits (e_R E) rm maxL k n) (hw : (st.map fun v => v.category).sum ≤ 8)
    (d : decode b pc = .ok (.invokevirtual index, 3))
    (kr : ∀ (r : Option Value) (m' : Mm), Qr r m' → WA G E (k + rm.cells) (n + rm.slots) (pc + 3) L (r.toList ++ st) m') : WA G E k n pc L (as.reverse ++ .ref (RAW + s) :: st) m := by
  obtain ⟨f1, f2, f3, f4⟩ := hf
  refine ga_back (a := (Value.ref (g_ad G (RAW + s)) :: as.map (cv (g_ad G))).toArray) (fun H locs ls hW hS2 hsz => ?_) kr (fun X m' (h : False) => h.elim)
  have cw := cwV (R := e_R E) (s := e_s E) (args := e_a E) (own := own) (C := y.cls) (index := index) (y := y) (bytes := bytes) (maxL := maxL) (ret := ret) (Ts := BIG) (ws := Cond.code y bytes maxL ret :: BIG) (ws' := BIG) (rm := rm) (mc := rm.cells) (ms := rm.slots) na ok.w (big_in (fun w hw => by
    rcases List.mem_append.mp hw with h | h
    · exact lk.1 w h
    · rcases List.mem_cons.mp h with h | h
      · rw [h]; exact lk.2.1
      · exact h)) rfl rfl rfl ⟨rfl, lk.2.2⟩ ⟨f1, f2⟩
  have hcl : ∃ cell : Cell, H[g_ad G (RAW + s)]? = some cell ∧ cell.vm.isStatics = false ∧ (e_s E).vm.findClass y.cls = some cell.cls := by
    obtain ⟨cell, c1, c2, c3, -⟩ := hq.1.kept hS2.2.1
    exact ⟨cell, by rw [hS.1]; exact c1, c2, by rw [hy]; exact c3⟩
  refine vx_runV (As := as.map (cv (g_ad G))) (rest := st.map (cv (g_ad G))) ⟨ok.x, ok.b, rfl, ok.o, ok.w⟩ hC cw ⟨blind_CT G (.ref (RAW + s) :: as) m, hcl, fun U hU hWm => ⟨rfl, SF.moved hWm (by rw [hU]; exact hS2.1) (fun q h1 h2 => ?_) ok.f, by rw [hU]; exact hW⟩⟩ rfl (by rw [List.length_map]; exact hn) hsz (by simp [cv]) ?_ d ⟨f3, f4⟩
  · rw [hU]; exact hS2.2.1 q h1 h2
  · have := sum_cv (g_ad G) st
    exact lv_room (by omega)
theorem ga_ifnonnullR (ok : OK0 G E own b) {a : Nat} {off : Int} (tgt : Nat) (ht : (pc : Int) + off = (tgt : Int)) (d : decode b pc = .ok (.ifnonnull off, 3)) (kk : WA G E k n tgt L st m) : WA G E k n pc L (.ref a :: st) m := by
  intro H locs ls hW hS hl
  exact lv_ifnonnull ok.x ok.b d ht (kk H locs ls hW hS hl)
theorem hid_only (hS : SBW G) {m : Mm} {H : Heap} (hdm : ∀ q, ¬ g_dm G q) (hx : sbX (g_A G) (g_cA G) (g_dm G) (g_ad G) (g_D G) m H) : HW G m H := ⟨fun q hq => absurd hq (hdm q), by rw [hS.2.1]; exact hx⟩
/-- a text's bytes are laid into the builder's -/
theorem gs_scopy (ok : OK0 G E own b) (hS : SBW G) (hdm : ∀ q, ¬ g_dm G q) (hB : SBk m) (h4 : m.1 960 4 = 0) {s v N : Nat} {t : Nat → Int} (hq : STv (g_A G) (e_s E) s v t N) {index : Nat} {p : Int} (lk : LinkC own index) (h1 : 0 ≤ p ∧ p + N ≤ m.1 960 3) (hframes : 1 ≤ (e_R E).frames) (hlocals : (st.map fun v => v.category).sum + 40 ≤ (e_R E).locals) (d : decode b pc = .ok (.invokestatic index, 3))
    (kk : WA G E k n (pc + 3) L st (cpS m t p.toNat N)) : WA G E k n pc L (vI (N : Int) :: vI p :: raw (m.1 960 2) :: vI 0 :: .ref (RAW + v) :: st) m := by
  intro H locs ls hW hS2 hl
  have hX := sb_ex hS hW
  have hN := hq.2.2.2.2.1
  have h65 := hB.2.1
  obtain ⟨p, rfl⟩ := oi_nz h1.1
  have cl0 : (Int32.ofInt (0 : Int)).toNatClampNeg = 0 := by decide
  have clp : (Int32.ofInt (p : Int)).toNatClampNeg = p := by rw [oi_n]; exact nI_clamp (by omega)
  have clN : (Int32.ofInt (N : Int)).toNatClampNeg = N := by rw [oi_n]; exact nI_clamp (by omega)
  have ng : ∀ z : Nat, z < 2147483648 → ¬ Int32.ofInt (z : Int) < 0 := fun z hz => by rw [oi_n]; exact nI_pos hz
  have hmap : (vI (N : Int) :: vI (p : Int) :: raw (m.1 960 2) :: vI 0 :: Value.ref (RAW + v) :: st).map (cv (g_ad G)) = vI (N : Int) :: vI (p : Int) :: .ref (m.1 960 2).toNat :: vI 0 :: .ref v :: st.map (cv (g_ad G)) := by
    show cv (g_ad G) (vI (N : Int)) :: cv (g_ad G) (vI (p : Int)) :: cv (g_ad G) (raw (m.1 960 2)) :: cv (g_ad G) (vI 0) :: Value.ref (g_ad G (RAW + v)) :: st.map (cv (g_ad G)) = _
    rw [hS.raw, hS.1]
    rfl
  rw [hmap]
  have hne := hX.2.2.1
  have hn9 : nativeFrameWords "java/lang/System" "arraycopy" 5 + 11 ≤ 40 := by decide
  have hP : va_P (g_D G) vcl [(g_ad G 960, .inr (5, sbF m)), ((m.1 960 2).toNat, .inl (g_cA G 8, (m.1 960 3).toNat, .inl (fun j => Int32.ofInt (m.1 961 j))))] H := by
    intro i q hi
    match i, hi with
    | 0, hi => cases hi; exact hX.1
    | 1, hi => cases hi; exact hX.2.1
  have hD : va_D (g_A G) [(g_ad G 960, .inr (5, sbF m)), ((m.1 960 2).toNat, .inl (g_cA G 8, (m.1 960 3).toNat, .inl (fun j => Int32.ofInt (m.1 961 j))))] := by
    refine ⟨fun i j x y hi hj e => ?_, fun i x hi => ?_⟩
    · match i, hi, j, hj with
      | 0, hi, 0, hj => rfl
      | 1, hi, 1, hj => rfl
      | 0, hi, 1, hj => cases hi; cases hj; exact absurd e.symm hne.2.2.1
      | 1, hi, 0, hj => cases hi; cases hj; exact absurd e hne.2.2.1
    · match i, hi with
      | 0, hi => cases hi; exact hne.1
      | 1, hi => cases hi; exact hne.2.1
  refine vk_copyt ok.x ok.b hl.1.symm ok.o (ok.w _ lk.1) (ok.w _ lk.2.1) (ok.w _ lk.2.2.1) (ok.w _ lk.2.2.2) ok.f.1 hP hD hS2 (n0 := N) (f := fun j => Int32.ofInt (t j)) hq.2.2.2.1 1 8 rfl rfl (ng 0 (by omega)) (ng p (by omega)) (ng N (by omega)) (by rw [cl0, clN]; omega) (by rw [clp, clN]; omega) (fun i hi => ?_) hframes (by have := sum_cv (g_ad G) st; omega) d (fun H1 locs1 hP1 hD1 hS3 => ?_)
  · rw [clN] at hi
    rw [cl0, Nat.zero_add]
    have := hq.2.2.2.2.2 i hi
    exact fitB (by omega)
  · rw [cl0, clp, clN] at hP1
    have a0 := hP1 0 _ rfl
    have a1 := hP1 1 _ rfl
    refine kk H1 locs1 ls (hid_only hS hdm ⟨?_, ?_, ?_, fun e => ?_⟩) hS3 hl
    · have hsb : sbF (cpS m t p N) = sbF m := by unfold sbF; rw [cpS_0]
      rw [Int.toNat_natCast, hsb]
      exact a0
    · rw [Int.toNat_natCast, cpS_0]
      have e9 : (fun j => Int32.ofInt ((cpS m t p N).1 961 j)) = va_cpy (fun j => Int32.ofInt (t j)) (fun j => Int32.ofInt (m.1 961 j)) 0 p N := by
        funext j
        simp only [va_cpy, cpS, true_and]
        by_cases hj : p ≤ j ∧ j < p + N
        · rw [if_pos hj, if_pos hj, Nat.zero_add]
        · rw [if_neg hj, if_neg hj]
      rw [e9]
      exact a1
    · rw [Int.toNat_natCast, cpS_0]
      exact hne
    · rw [Int.toNat_natCast, cpS_0, h4] at e
      exact absurd e (by decide)
end STR
theorem BLs.cat {m : Mm} {q : (Nat → Int) × Int} {t : Nat → Int} {N : Nat} (h : BLs m q) (ht : ∀ j, j < N → 0 ≤ t j ∧ t j ≤ 127) (hc : q.2 + N ≤ m.1 960 3) : BLs (upI (cpS m t q.2.toNat N) 960 0 (q.2 + N)) (catL q t N) := by
  obtain ⟨hB, h4, h0, hch⟩ := h
  have h00 := hB.1
  have hk := cpS_k (p := q.2.toNat) hB ht
  obtain ⟨h1, h2, h3, h5, h6⟩ := hk
  rw [cpS_0] at h1 h2 h3 h5
  have e : ∀ j, j ≠ 0 → (upI (cpS m t q.2.toNat N) 960 0 (q.2 + N)).1 960 j = m.1 960 j := fun j hj => by rw [upI_no (by omega), cpS_0]
  have e1 : (upI (cpS m t q.2.toNat N) 960 0 (q.2 + N)).1 961 = (cpS m t q.2.toNat N).1 961 := upI_r (by omega)
  refine ⟨⟨by rw [upI_at, e 3 (by omega)]; omega, by rw [e 3 (by omega)]; exact h2, by rw [e 1 (by omega)]; exact h3, by rw [e 2 (by omega)]; exact h5, fun i hi => ?_⟩, by rw [e 4 (by omega)]; exact h4, by rw [upI_at]; rfl, fun i hi => ?_⟩
  · rw [e 3 (by omega)] at hi
    rw [e1]
    refine h6 i ?_
    rw [cpS_0]
    exact hi
  · rw [e1]
    have hi : (i : Int) < q.2 + N := hi
    show (if 961 = 961 ∧ q.2.toNat ≤ i ∧ i < q.2.toNat + N then t (i - q.2.toNat) else m.1 961 i) = (if (i : Int) < q.2 then q.1 i else t (i - q.2.toNat))
    by_cases hj : (i : Int) < q.2
    · rw [if_neg (by omega), if_pos hj]
      exact hch i hj
    · rw [if_pos ⟨rfl, by omega, by omega⟩, if_neg hj]
set_option maxHeartbeats 4000000 in
set_option maxRecDepth 100000 in
theorem c_J0_coder {G : GG} {l : Launch} (hfl : l.stackTraces = false) {P9 : Prop} (hG : P9) (hS : SBW G) {m : Mm} {s v N : Nat} {t : Nat → Int} (hX : ∀ u, g_st G u → STv (g_A G) u s v t N) : CT G l yJ0_coder_7d493 cJ0_coder_7d493 1 (some .byte) (RM 0 0 0) [.ref (RAW + s)] m (fun r' m' => r' = some (vI 0) ∧ m' = m) (fun _ _ => False) := by
  refine CT.of RJ0 [(0, .ref (RAW + s))] hfl (by decide +kernel) rfl rfl (Nat.le_of_ble_eq_true rfl) ?_
  intro E ok en hml hEl htab
  have hR : e_R E = RM 0 0 0 := en.2.2.2
  have hn0 : 0 < (e_c E).maxLocals := by rw [hml]; decide
  have hq9 : STv (g_A G) (e_s E) s v t N := hX _ ok.f.2.2.2.2.2.2.2.2.2.2.2.1
  obtain ⟨-, -, -, -, hN9, ht9⟩ := id hq9
  refine gs_compact ok hS (tb_in 683 (by decide +kernel) (by decide +kernel)) dJ0_coder_7d493_0 ?_
  refine ga_if_eq ok 13 (by decide) (by omega) dJ0_coder_7d493_3 (fun c_3 => ?_) (fun c_3 => ?_)
  · exact absurd c_3 (by decide)
  · refine ga_aload_n ok 0 rfl rfl dJ0_coder_7d493_6 ?_
    refine gs_scoder ok hS hq9 (tb_in 800 (by decide +kernel) (by decide +kernel)) dJ0_coder_7d493_7 ?_
    refine ga_goto ok 14 (by decide) dJ0_coder_7d493_10 ?_
    exact ga_ireturn ok en rfl (narB (by omega)) (by decide) (by decide) dJ0_coder_7d493_14 ⟨rfl, rfl⟩
set_option maxHeartbeats 4000000 in
set_option maxRecDepth 100000 in
theorem c_J0_isLatin1 {G : GG} {l : Launch} (hfl : l.stackTraces = false) {P9 : Prop} (hG : P9) (hS : SBW G) {m : Mm} {s v N : Nat} {t : Nat → Int} (hX : ∀ u, g_st G u → STv (g_A G) u s v t N) : CT G l yJ0_isLatin1_aae02 cJ0_isLatin1_aae02 1 (some .boolean) (RM 0 0 0) [.ref (RAW + s)] m (fun r' m' => r' = some (vI 1) ∧ m' = m) (fun _ _ => False) := by
  refine CT.of RJ0 [(0, .ref (RAW + s))] hfl (by decide +kernel) rfl rfl (Nat.le_of_ble_eq_true rfl) ?_
  intro E ok en hml hEl htab
  have hR : e_R E = RM 0 0 0 := en.2.2.2
  have hn0 : 0 < (e_c E).maxLocals := by rw [hml]; decide
  have hq9 : STv (g_A G) (e_s E) s v t N := hX _ ok.f.2.2.2.2.2.2.2.2.2.2.2.1
  obtain ⟨-, -, -, -, hN9, ht9⟩ := id hq9
  refine gs_compact ok hS (tb_in 683 (by decide +kernel) (by decide +kernel)) dJ0_isLatin1_aae02_0 ?_
  refine ga_if_eq ok 17 (by decide) (by omega) dJ0_isLatin1_aae02_3 (fun c_3 => ?_) (fun c_3 => ?_)
  · exact absurd c_3 (by decide)
  · refine ga_aload_n ok 0 rfl rfl dJ0_isLatin1_aae02_6 ?_
    refine gs_scoder ok hS hq9 (tb_in 800 (by decide +kernel) (by decide +kernel)) dJ0_isLatin1_aae02_7 ?_
    refine ga_if_ne ok 17 (by decide) (by omega) dJ0_isLatin1_aae02_10 (fun c_10 => ?_) (fun c_10 => ?_)
    · exact absurd rfl c_10
    · refine ga_iconst ok dJ0_isLatin1_aae02_13 ?_
      refine ga_goto ok 18 (by decide) dJ0_isLatin1_aae02_14 ?_
      exact ga_ireturn ok en rfl (nar01 (Or.inr rfl)) (by decide) (by decide) dJ0_isLatin1_aae02_18 ⟨rfl, rfl⟩
theorem lr_J0_335 : LinkV RJ0 335 yJ0_coder_7d493 cJ0_coder_7d493 1 (some .byte) 0 := ⟨List.forall_mem_cons.mpr ⟨tb_in 679 (by decide +kernel) (by decide +kernel), List.forall_mem_cons.mpr ⟨tb_in 680 (by decide +kernel) (by decide +kernel), List.forall_mem_cons.mpr ⟨tb_in 681 (by decide +kernel) (by decide +kernel), List.forall_mem_cons.mpr ⟨tb_in 7 (by decide +kernel) (by decide +kernel), fun _ h => absurd h List.not_mem_nil⟩⟩⟩⟩, tb_in 682 (by decide +kernel) (by decide +kernel), by decide +kernel⟩
set_option maxHeartbeats 4000000 in
set_option maxRecDepth 100000 in
theorem c_J0_length {G : GG} {l : Launch} (hfl : l.stackTraces = false) {P9 : Prop} (hG : P9) (hS : SBW G) {m : Mm} {s v N : Nat} {t : Nat → Int} (hX : ∀ u, g_st G u → STv (g_A G) u s v t N) : CT G l yJ0_length_8abf5 cJ0_length_8abf5 1 (some .int) (RM 1 0 0) [.ref (RAW + s)] m (fun r' m' => r' = some (vI (N : Int)) ∧ m' = m) (fun _ _ => False) := by
  refine CT.of RJ0 [(0, .ref (RAW + s))] hfl (by decide +kernel) rfl rfl (Nat.le_of_ble_eq_true rfl) ?_
  intro E ok en hml hEl htab
  have hR : e_R E = RM 1 0 0 := en.2.2.2
  have hn0 : 0 < (e_c E).maxLocals := by rw [hml]; decide
  have hq9 : STv (g_A G) (e_s E) s v t N := hX _ ok.f.2.2.2.2.2.2.2.2.2.2.2.1
  obtain ⟨-, -, -, -, hN9, ht9⟩ := id hq9
  refine ga_aload_n ok 0 rfl rfl dJ0_length_8abf5_0 ?_
  refine gs_svalue ok hS hq9 (tb_in 799 (by decide +kernel) (by decide +kernel)) dJ0_length_8abf5_1 ?_
  refine gs_slenT ok hS hq9 dJ0_length_8abf5_4 ?_
  refine ga_aload_n ok 0 rfl rfl dJ0_length_8abf5_5 ?_
  refine gs_callR ok hS hq9 [] lr_J0_335 rfl (c_J0_coder ok.fl hG hS hX) rfl (by rw [hR]; exact ⟨by decide, by decide, by decide, by decide⟩) (Nat.le_of_ble_eq_true rfl) dJ0_length_8abf5_6 (fun r9 m1 hq8 => ?_)
  obtain ⟨rfl, hm9⟩ := hq8
  subst m1
  simp only [Option.toList_some, List.singleton_append]
  refine ga_ishr ok dJ0_length_8abf5_9 (by omega) (by omega) ?_
  rw [show (2 : Int) ^ (0 : Int).toNat = 1 from rfl, Int.ediv_one]
  exact ga_ireturn ok en rfl rfl (by decide) (by decide) dJ0_length_8abf5_10 ⟨rfl, rfl⟩
theorem lj_J1_9 : LinkJ RJ1 9 yJ0_checkIndex_df160 cJ0_checkIndex_df160 2 none 2 := ⟨⟨tb_in 943 (by decide +kernel) (by decide +kernel), tb_in 906 (by decide +kernel) (by decide +kernel), tb_in 7 (by decide +kernel) (by decide +kernel)⟩, tb_in 907 (by decide +kernel) (by decide +kernel), by decide +kernel⟩
set_option maxHeartbeats 4000000 in
set_option maxRecDepth 100000 in
theorem c_J1_charAt {G : GG} {l : Launch} (hfl : l.stackTraces = false) {P9 : Prop} (hG : P9) (hS : SBW G) {m : Mm} {s v N : Nat} {t : Nat → Int} (hX : ∀ u, g_st G u → STv (g_A G) u s v t N) {i : Int} (hi : 0 ≤ i ∧ i < N) : CT G l yJ1_charAt_3b067 cJ1_charAt_3b067 2 (some .char) (RM 2 0 0) [.ref (RAW + v), vI i] m (fun r' m' => r' = some (vI (t i.toNat)) ∧ m' = m) (fun _ _ => False) := by
  refine CT.of RJ1 [(0, .ref (RAW + v)), (1, vI i)] hfl (by decide +kernel) rfl rfl (Nat.le_of_ble_eq_true rfl) ?_
  intro E ok en hml hEl htab
  have hR : e_R E = RM 2 0 0 := en.2.2.2
  have hn0 : 0 < (e_c E).maxLocals := by rw [hml]; decide
  have hn1 : 1 < (e_c E).maxLocals := by rw [hml]; decide
  have hq9 : STv (g_A G) (e_s E) s v t N := hX _ ok.f.2.2.2.2.2.2.2.2.2.2.2.1
  obtain ⟨-, -, -, -, hN9, ht9⟩ := id hq9
  refine ga_iload_n ok 1 rfl rfl dJ1_charAt_3b067_0 ?_
  refine ga_aload_n ok 0 rfl rfl dJ1_charAt_3b067_1 ?_
  refine gs_slenT ok hS hq9 dJ1_charAt_3b067_2 ?_
  refine ga_callJ ok [vI i, vI (N : Int)] lj_J1_9 (c_J0_checkIndex ok.fl hG hS hi (by omega)) rfl (by rw [hR]; exact ⟨by decide, by decide, by decide, by decide⟩) (Nat.le_of_ble_eq_true rfl) dJ1_charAt_3b067_3 (fun r9 m1 hq8 => ?_) (fun _ _ h => h.elim)
  obtain ⟨rfl, hm9⟩ := hq8
  subst m1
  simp only [Option.toList_none, List.nil_append]
  refine ga_aload_n ok 0 rfl rfl dJ1_charAt_3b067_6 ?_
  refine ga_iload_n ok 1 rfl rfl dJ1_charAt_3b067_7 ?_
  refine gs_sbald ok hS hq9 hi dJ1_charAt_3b067_8 ?_
  have hl9 := ht9 i.toNat (by omega)
  refine ga_sipush ok dJ1_charAt_3b067_9 (by decide) ?_
  refine ga_iand ok 8 dJ1_charAt_3b067_12 (by decide) (by decide) ?_
  refine ga_i2c ok dJ1_charAt_3b067_13 ?_
  exact ga_ireturn ok en rfl (narC (by omega)) (by decide) (by decide) dJ1_charAt_3b067_14 ⟨by rw [show t i.toNat % 2 ^ 8 % 65536 = t i.toNat by omega], rfl⟩
theorem lr_J0_492 : LinkV RJ0 492 yJ0_isLatin1_aae02 cJ0_isLatin1_aae02 1 (some .boolean) 0 := ⟨List.forall_mem_cons.mpr ⟨tb_in 936 (by decide +kernel) (by decide +kernel), List.forall_mem_cons.mpr ⟨tb_in 937 (by decide +kernel) (by decide +kernel), List.forall_mem_cons.mpr ⟨tb_in 938 (by decide +kernel) (by decide +kernel), List.forall_mem_cons.mpr ⟨tb_in 7 (by decide +kernel) (by decide +kernel), fun _ h => absurd h List.not_mem_nil⟩⟩⟩⟩, tb_in 939 (by decide +kernel) (by decide +kernel), by decide +kernel⟩
theorem lj_J0_495 : LinkJ RJ0 495 yJ1_charAt_3b067 cJ1_charAt_3b067 2 (some .char) 2 := ⟨⟨tb_in 940 (by decide +kernel) (by decide +kernel), tb_in 941 (by decide +kernel) (by decide +kernel), tb_in 22 (by decide +kernel) (by decide +kernel)⟩, tb_in 942 (by decide +kernel) (by decide +kernel), by decide +kernel⟩
set_option maxHeartbeats 4000000 in
set_option maxRecDepth 100000 in
theorem c_J0_charAt {G : GG} {l : Launch} (hfl : l.stackTraces = false) {P9 : Prop} (hG : P9) (hS : SBW G) {m : Mm} {s v N : Nat} {t : Nat → Int} (hX : ∀ u, g_st G u → STv (g_A G) u s v t N) {i : Int} (hi : 0 ≤ i ∧ i < N) : CT G l yJ0_charAt_5068e cJ0_charAt_5068e 2 (some .char) (RM 3 0 0) [.ref (RAW + s), vI i] m (fun r' m' => r' = some (vI (t i.toNat)) ∧ m' = m) (fun _ _ => False) := by
  refine CT.of RJ0 [(0, .ref (RAW + s)), (1, vI i)] hfl (by decide +kernel) rfl rfl (Nat.le_of_ble_eq_true rfl) ?_
  intro E ok en hml hEl htab
  have hR : e_R E = RM 3 0 0 := en.2.2.2
  have hn0 : 0 < (e_c E).maxLocals := by rw [hml]; decide
  have hn1 : 1 < (e_c E).maxLocals := by rw [hml]; decide
  have hq9 : STv (g_A G) (e_s E) s v t N := hX _ ok.f.2.2.2.2.2.2.2.2.2.2.2.1
  obtain ⟨-, -, -, -, hN9, ht9⟩ := id hq9
  refine ga_aload_n ok 0 rfl rfl dJ0_charAt_5068e_0 ?_
  refine gs_callR ok hS hq9 [] lr_J0_492 rfl (c_J0_isLatin1 ok.fl hG hS hX) rfl (by rw [hR]; exact ⟨by decide, by decide, by decide, by decide⟩) (Nat.le_of_ble_eq_true rfl) dJ0_charAt_5068e_1 (fun r9 m1 hq8 => ?_)
  obtain ⟨rfl, hm9⟩ := hq8
  subst m1
  simp only [Option.toList_some, List.singleton_append]
  refine ga_if_eq ok 16 (by decide) (by omega) dJ0_charAt_5068e_4 (fun c_4 => ?_) (fun c_4 => ?_)
  · exact absurd c_4 (by decide)
  · refine ga_aload_n ok 0 rfl rfl dJ0_charAt_5068e_7 ?_
    refine gs_svalue ok hS hq9 (tb_in 799 (by decide +kernel) (by decide +kernel)) dJ0_charAt_5068e_8 ?_
    refine ga_iload_n ok 1 rfl rfl dJ0_charAt_5068e_11 ?_
    refine gd_J_2 ok lj_J0_495 (c_J1_charAt ok.fl hG hS hX hi) (by rw [hR]; exact ⟨by decide, by decide, by decide, by decide⟩) (Nat.le_of_ble_eq_true rfl) dJ0_charAt_5068e_12 ?_
    have hl9 := ht9 i.toNat (by omega)
    exact ga_ireturn ok en rfl (narC (by omega)) (by decide) (by decide) dJ0_charAt_5068e_15 ⟨rfl, rfl⟩
theorem lr_J5_40 : LinkV RJ5 40 yJ0_coder_7d493 cJ0_coder_7d493 1 (some .byte) 0 := ⟨List.forall_mem_cons.mpr ⟨tb_in 692 (by decide +kernel) (by decide +kernel), List.forall_mem_cons.mpr ⟨tb_in 680 (by decide +kernel) (by decide +kernel), List.forall_mem_cons.mpr ⟨tb_in 681 (by decide +kernel) (by decide +kernel), List.forall_mem_cons.mpr ⟨tb_in 7 (by decide +kernel) (by decide +kernel), fun _ h => absurd h List.not_mem_nil⟩⟩⟩⟩, tb_in 682 (by decide +kernel) (by decide +kernel), by decide +kernel⟩
set_option maxHeartbeats 4000000 in
set_option maxRecDepth 100000 in
theorem c_J5_inflateIf {G : GG} {l : Launch} (hfl : l.stackTraces = false) {P9 : Prop} (hG : P9) (hS : SBW G) {m : Mm} {s v N : Nat} {t : Nat → Int} (hX : ∀ u, g_st G u → STv (g_A G) u s v t N) : CT G l yJ5_inflateIfNeededFor_a7421 cJ5_inflateIfNeededFor_a7421 2 none (RM 1 0 0) [.ref 960, .ref (RAW + s)] m (fun r' m' => r' = none ∧ m' = m) (fun _ _ => False) := by
  refine CT.of RJ5 [(0, .ref 960), (1, .ref (RAW + s))] hfl (by decide +kernel) rfl rfl (Nat.le_of_ble_eq_true rfl) ?_
  intro E ok en hml hEl htab
  have hR : e_R E = RM 1 0 0 := en.2.2.2
  have hn0 : 0 < (e_c E).maxLocals := by rw [hml]; decide
  have hn1 : 1 < (e_c E).maxLocals := by rw [hml]; decide
  have hq9 : STv (g_A G) (e_s E) s v t N := hX _ ok.f.2.2.2.2.2.2.2.2.2.2.2.1
  obtain ⟨-, -, -, -, hN9, ht9⟩ := id hq9
  refine gs_compact ok hS (tb_in 164 (by decide +kernel) (by decide +kernel)) dJ5_inflateIfNeededFor_a7421_0 ?_
  refine ga_if_eq ok 21 (by decide) (by omega) dJ5_inflateIfNeededFor_a7421_3 (fun c_3 => ?_) (fun c_3 => ?_)
  · exact absurd c_3 (by decide)
  · refine ga_aload_n ok 0 rfl rfl dJ5_inflateIfNeededFor_a7421_6 ?_
    refine gs_coder ok hS (tb_in 174 (by decide +kernel) (by decide +kernel)) dJ5_inflateIfNeededFor_a7421_7 ?_
    refine ga_aload_n ok 1 rfl rfl dJ5_inflateIfNeededFor_a7421_10 ?_
    refine gs_callR ok hS hq9 [] lr_J5_40 rfl (c_J0_coder ok.fl hG hS hX) rfl (by rw [hR]; exact ⟨by decide, by decide, by decide, by decide⟩) (Nat.le_of_ble_eq_true rfl) dJ5_inflateIfNeededFor_a7421_11 (fun r9 m1 hq8 => ?_)
    obtain ⟨rfl, hm9⟩ := hq8
    subst m1
    simp only [Option.toList_some, List.singleton_append]
    refine ga_icmp_eq ok 21 (by decide) (by omega) (by omega) dJ5_inflateIfNeededFor_a7421_14 (fun c_14 => ?_) (fun c_14 => ?_)
    · exact ga_return ok en rfl (by decide) (by decide) dJ5_inflateIfNeededFor_a7421_21 ⟨rfl, rfl⟩
    · exact absurd rfl c_14
set_option maxHeartbeats 4000000 in
set_option maxRecDepth 100000 in
theorem c_J0_getBytes {G : GG} {l : Launch} (hfl : l.stackTraces = false) {P9 : Prop} (hG : P9) (hS : SBW G) {m : Mm} {s v N : Nat} {t : Nat → Int} (hX : ∀ u, g_st G u → STv (g_A G) u s v t N) (hdm : ∀ q, ¬ g_dm G q) (hB : SBk m) (h40 : m.1 960 4 = 0) {p : Int} (hp : 0 ≤ p ∧ p + N ≤ m.1 960 3) : CT G l yJ0_getBytes_840e7 cJ0_getBytes_840e7 4 none (RM 1 0 0) [.ref (RAW + s), raw (m.1 960 2), vI p, vI 0] m (fun r' m' => r' = none ∧ m' = cpS m t p.toNat N) (fun _ _ => False) := by
  refine CT.of RJ0 [(0, .ref (RAW + s)), (1, raw (m.1 960 2)), (2, vI p), (3, vI 0)] hfl (by decide +kernel) rfl rfl (Nat.le_of_ble_eq_true rfl) ?_
  intro E ok en hml hEl htab
  have hR : e_R E = RM 1 0 0 := en.2.2.2
  have hn0 : 0 < (e_c E).maxLocals := by rw [hml]; decide
  have hn1 : 1 < (e_c E).maxLocals := by rw [hml]; decide
  have hn2 : 2 < (e_c E).maxLocals := by rw [hml]; decide
  have hn3 : 3 < (e_c E).maxLocals := by rw [hml]; decide
  have hq9 : STv (g_A G) (e_s E) s v t N := hX _ ok.f.2.2.2.2.2.2.2.2.2.2.2.1
  obtain ⟨-, -, -, -, hN9, ht9⟩ := id hq9
  obtain ⟨hb1, hb2, hb3, hb4, hb5⟩ := id hB
  refine ga_aload_n ok 0 rfl rfl dJ0_getBytes_840e7_0 ?_
  refine gs_callR ok hS hq9 [] lr_J0_335 rfl (c_J0_coder ok.fl hG hS hX) rfl (by rw [hR]; exact ⟨by decide, by decide, by decide, by decide⟩) (Nat.le_of_ble_eq_true rfl) dJ0_getBytes_840e7_1 (fun r9 m1 hq8 => ?_)
  obtain ⟨rfl, hm9⟩ := hq8
  subst m1
  simp only [Option.toList_some, List.singleton_append]
  refine ga_iload_n ok 3 rfl rfl dJ0_getBytes_840e7_4 ?_
  refine ga_icmp_ne ok 28 (by decide) (by omega) (by omega) dJ0_getBytes_840e7_5 (fun c_5 => ?_) (fun c_5 => ?_)
  · exact absurd rfl c_5
  · refine ga_aload_n ok 0 rfl rfl dJ0_getBytes_840e7_8 ?_
    refine gs_svalue ok hS hq9 (tb_in 799 (by decide +kernel) (by decide +kernel)) dJ0_getBytes_840e7_9 ?_
    refine ga_iconst ok dJ0_getBytes_840e7_12 ?_
    refine ga_aload_n ok 1 rfl rfl dJ0_getBytes_840e7_13 ?_
    refine ga_iload_n ok 2 rfl rfl dJ0_getBytes_840e7_14 ?_
    refine ga_iload_n ok 3 rfl rfl dJ0_getBytes_840e7_15 ?_
    refine ga_ishl ok dJ0_getBytes_840e7_16 (by omega) (by omega) (by rw [show (2 : Int) ^ (0 : Int).toNat = 1 from rfl]; omega) ?_
    rw [show (2 : Int) ^ (0 : Int).toNat = 1 from rfl, Int.mul_one]
    refine ga_aload_n ok 0 rfl rfl dJ0_getBytes_840e7_17 ?_
    refine gs_svalue ok hS hq9 (tb_in 799 (by decide +kernel) (by decide +kernel)) dJ0_getBytes_840e7_18 ?_
    refine gs_slenT ok hS hq9 dJ0_getBytes_840e7_21 ?_
    refine gs_scopy ok hS hdm hB h40 hq9 ⟨tb_in 716 (by decide +kernel) (by decide +kernel), tb_in 357 (by decide +kernel) (by decide +kernel), tb_in 356 (by decide +kernel) (by decide +kernel), tb_in 14 (by decide +kernel) (by decide +kernel)⟩ hp (by rw [hR]; exact (by decide)) (by rw [hR]; exact Nat.le_of_ble_eq_true rfl) dJ0_getBytes_840e7_22 ?_
    refine ga_goto ok 43 (by decide) dJ0_getBytes_840e7_25 ?_
    exact ga_return ok en rfl (by decide) (by decide) dJ0_getBytes_840e7_43 ⟨rfl, rfl⟩
theorem lvu_J5_397 : LinkVU RJ5 397 yJ5_inflateIfNeededFor_a7421 cJ5_inflateIfNeededFor_a7421 2 none 1 := ⟨List.forall_mem_cons.mpr ⟨tb_in 688 (by decide +kernel) (by decide +kernel), List.forall_mem_cons.mpr ⟨tb_in 1295 (by decide +kernel) (by decide +kernel), List.forall_mem_cons.mpr ⟨tb_in 690 (by decide +kernel) (by decide +kernel), List.forall_mem_cons.mpr ⟨tb_in 5 (by decide +kernel) (by decide +kernel), fun _ h => absurd h List.not_mem_nil⟩⟩⟩⟩, tb_in 691 (by decide +kernel) (by decide +kernel), by decide +kernel⟩
theorem lr_J5_399 : LinkV RJ5 399 yJ0_getBytes_840e7 cJ0_getBytes_840e7 4 none 3 := ⟨List.forall_mem_cons.mpr ⟨tb_in 712 (by decide +kernel) (by decide +kernel), List.forall_mem_cons.mpr ⟨tb_in 713 (by decide +kernel) (by decide +kernel), List.forall_mem_cons.mpr ⟨tb_in 714 (by decide +kernel) (by decide +kernel), List.forall_mem_cons.mpr ⟨tb_in 7 (by decide +kernel) (by decide +kernel), fun _ h => absurd h List.not_mem_nil⟩⟩⟩⟩, tb_in 715 (by decide +kernel) (by decide +kernel), by decide +kernel⟩
set_option maxHeartbeats 4000000 in
set_option maxRecDepth 100000 in
theorem c_J5_putStringAt {G : GG} {l : Launch} (hfl : l.stackTraces = false) {P9 : Prop} (hG : P9) (hS : SBW G) {m : Mm} {s v N : Nat} {t : Nat → Int} (hX : ∀ u, g_st G u → STv (g_A G) u s v t N) (hdm : ∀ q, ¬ g_dm G q) (hB : SBk m) (h40 : m.1 960 4 = 0) {p : Int} (hp : 0 ≤ p ∧ p + N ≤ m.1 960 3) : CT G l yJ5_putStringAt_47b60 cJ5_putStringAt_47b60 3 none (RM 2 0 0) [.ref 960, vI p, .ref (RAW + s)] m (fun r' m' => r' = none ∧ m' = cpS m t p.toNat N) (fun _ _ => False) := by
  refine CT.of RJ5 [(0, .ref 960), (1, vI p), (2, .ref (RAW + s))] hfl (by decide +kernel) rfl rfl (Nat.le_of_ble_eq_true rfl) ?_
  intro E ok en hml hEl htab
  have hR : e_R E = RM 2 0 0 := en.2.2.2
  have hn0 : 0 < (e_c E).maxLocals := by rw [hml]; decide
  have hn1 : 1 < (e_c E).maxLocals := by rw [hml]; decide
  have hn2 : 2 < (e_c E).maxLocals := by rw [hml]; decide
  have hq9 : STv (g_A G) (e_s E) s v t N := hX _ ok.f.2.2.2.2.2.2.2.2.2.2.2.1
  obtain ⟨-, -, -, -, hN9, ht9⟩ := id hq9
  refine ga_aload_n ok 0 rfl rfl dJ5_putStringAt_47b60_0 ?_
  refine ga_aload_n ok 2 rfl rfl dJ5_putStringAt_47b60_1 ?_
  refine ga_callVU ok hS [.ref (RAW + s)] lvu_J5_397 (sb_s4 ok hS) (c_J5_inflateIf ok.fl hG hS hX) rfl (by rw [hR]; exact ⟨by decide, by decide, by decide, by decide⟩) (Nat.le_of_ble_eq_true rfl) dJ5_putStringAt_47b60_2 (fun r9 m1 hq8 => ?_)
  obtain ⟨rfl, hm9⟩ := hq8
  subst m1
  simp only [Option.toList_none, List.nil_append]
  refine ga_aload_n ok 2 rfl rfl dJ5_putStringAt_47b60_5 ?_
  refine ga_aload_n ok 0 rfl rfl dJ5_putStringAt_47b60_6 ?_
  refine gs_value ok hS (tb_in 173 (by decide +kernel) (by decide +kernel)) dJ5_putStringAt_47b60_7 ?_
  refine ga_iload_n ok 1 rfl rfl dJ5_putStringAt_47b60_10 ?_
  refine ga_aload_n ok 0 rfl rfl dJ5_putStringAt_47b60_11 ?_
  refine gs_coder ok hS (tb_in 174 (by decide +kernel) (by decide +kernel)) dJ5_putStringAt_47b60_12 ?_
  refine gs_callR ok hS hq9 [raw (m.1 960 2), vI p, vI 0] lr_J5_399 rfl (c_J0_getBytes ok.fl hG hS hX hdm hB h40 hp) rfl (by rw [hR]; exact ⟨by decide, by decide, by decide, by decide⟩) (Nat.le_of_ble_eq_true rfl) dJ5_putStringAt_47b60_15 (fun r9 m1 hq8 => ?_)
  obtain ⟨rfl, hm9⟩ := hq8
  subst m1
  simp only [Option.toList_none, List.nil_append]
  exact ga_return ok en rfl (by decide) (by decide) dJ5_putStringAt_47b60_18 ⟨rfl, rfl⟩
theorem lr_J5_32 : LinkV RJ5 32 yJ0_length_8abf5 cJ0_length_8abf5 1 (some .int) 0 := ⟨List.forall_mem_cons.mpr ⟨tb_in 675 (by decide +kernel) (by decide +kernel), List.forall_mem_cons.mpr ⟨tb_in 676 (by decide +kernel) (by decide +kernel), List.forall_mem_cons.mpr ⟨tb_in 677 (by decide +kernel) (by decide +kernel), List.forall_mem_cons.mpr ⟨tb_in 7 (by decide +kernel) (by decide +kernel), fun _ h => absurd h List.not_mem_nil⟩⟩⟩⟩, tb_in 678 (by decide +kernel) (by decide +kernel), by decide +kernel⟩
theorem lvu_J5_208 : LinkVU RJ5 208 yJ5_putStringAt_47b60 cJ5_putStringAt_47b60 3 none 2 := ⟨List.forall_mem_cons.mpr ⟨tb_in 684 (by decide +kernel) (by decide +kernel), List.forall_mem_cons.mpr ⟨tb_in 1294 (by decide +kernel) (by decide +kernel), List.forall_mem_cons.mpr ⟨tb_in 686 (by decide +kernel) (by decide +kernel), List.forall_mem_cons.mpr ⟨tb_in 5 (by decide +kernel) (by decide +kernel), fun _ h => absurd h List.not_mem_nil⟩⟩⟩⟩, tb_in 687 (by decide +kernel) (by decide +kernel), by decide +kernel⟩
set_option maxHeartbeats 4000000 in
set_option maxRecDepth 100000 in
theorem c_J5_appendS {G : GG} {l : Launch} (hfl : l.stackTraces = false) {P9 : Prop} (hG : P9) (hS : SBW G) {m : Mm} {s v N : Nat} {t : Nat → Int} (hX : ∀ u, g_st G u → STv (g_A G) u s v t N) (hdm : ∀ q, ¬ g_dm G q) {q : (Nat → Int) × Int} (hq : BLs m q) (hn : q.2 + N ≤ 98) : CT G l yJ5_append_cf1ce cJ5_append_cf1ce 3 (some (.object "java/lang/AbstractStringBuilder")) (RM 7 1 400) [.ref 960, .ref (RAW + s)] m (fun r' m' => r' = some (.ref 960) ∧ BLs m' (catL q t N) ∧ XB m m') (fun _ _ => False) := by
  refine CT.of RJ5 [(0, .ref 960), (1, .ref (RAW + s))] hfl (by decide +kernel) rfl rfl (Nat.le_of_ble_eq_true rfl) ?_
  intro E ok en hml hEl htab
  have hR : e_R E = RM 7 1 400 := en.2.2.2
  have hn0 : 0 < (e_c E).maxLocals := by rw [hml]; decide
  have hn1 : 1 < (e_c E).maxLocals := by rw [hml]; decide
  have hn2 : 2 < (e_c E).maxLocals := by rw [hml]; decide
  have hq9 : STv (g_A G) (e_s E) s v t N := hX _ ok.f.2.2.2.2.2.2.2.2.2.2.2.1
  obtain ⟨-, -, -, -, hN9, ht9⟩ := id hq9
  obtain ⟨hB, h40, hc0, hch⟩ := id hq
  obtain ⟨hb1, hb2, hb3, hb4, hb5⟩ := id hB
  refine ga_aload_n ok 1 rfl rfl dJ5_append_cf1ce_0 ?_
  refine ga_ifnonnullR ok 9 (by decide) dJ5_append_cf1ce_1 ?_
  refine ga_aload_n ok 1 rfl rfl dJ5_append_cf1ce_9 ?_
  refine gs_callR ok hS hq9 [] lr_J5_32 rfl (c_J0_length ok.fl hG hS hX) rfl (by rw [hR]; exact ⟨by decide, by decide, by decide, by decide⟩) (Nat.le_of_ble_eq_true rfl) dJ5_append_cf1ce_10 (fun r9 m1 hq8 => ?_)
  obtain ⟨rfl, hm9⟩ := hq8
  subst m1
  simp only [Option.toList_some, List.singleton_append]
  refine ga_istore_n ok 2 rfl hn2 dJ5_append_cf1ce_13 ?_
  refine ga_aload_n ok 0 rfl rfl dJ5_append_cf1ce_14 ?_
  refine ga_aload_n ok 0 rfl rfl dJ5_append_cf1ce_15 ?_
  refine gs_count ok hS (tb_in 177 (by decide +kernel) (by decide +kernel)) dJ5_append_cf1ce_16 ?_
  first | rw [hc0] | rw [hc1] | rw [cpS_0, hc1]
  refine ga_iload_n ok 2 rfl rfl dJ5_append_cf1ce_19 ?_
  refine ga_iadd ok dJ5_append_cf1ce_20 ?_
  refine ga_callVU ok hS [vI (q.2 + N)] lvu_J5_100 (sb_s1 ok hS) (c_J5_ensure ok.fl hG hS hq (by omega) (by omega)) rfl (by rw [hR]; exact ⟨by decide, by decide, by decide, by decide⟩) (Nat.le_of_ble_eq_true rfl) dJ5_append_cf1ce_21 (fun r9 m1 hq8 => ?_)
  obtain ⟨rfl, hq1, hcap1, hxb1⟩ := hq8
  simp only [Option.toList_none, List.nil_append]
  obtain ⟨hB1, h401, hc1, hch1⟩ := id hq1
  refine ga_aload_n ok 0 rfl rfl dJ5_append_cf1ce_24 ?_
  refine ga_aload_n ok 0 rfl rfl dJ5_append_cf1ce_25 ?_
  refine gs_count ok hS (tb_in 177 (by decide +kernel) (by decide +kernel)) dJ5_append_cf1ce_26 ?_
  first | rw [hc0] | rw [hc1] | rw [cpS_0, hc1]
  refine ga_aload_n ok 1 rfl rfl dJ5_append_cf1ce_29 ?_
  refine ga_callVU ok hS [vI q.2, .ref (RAW + s)] lvu_J5_208 (sb_s3 ok hS) (c_J5_putStringAt ok.fl hG hS hX hdm hB1 h401 (p := q.2) (by omega)) rfl (by rw [hR]; exact ⟨by decide, by decide, by decide, by decide⟩) (Nat.le_of_ble_eq_true rfl) dJ5_append_cf1ce_30 (fun r9 m2 hq8 => ?_)
  obtain ⟨rfl, hm9⟩ := hq8
  subst m2
  simp only [Option.toList_none, List.nil_append]
  refine ga_aload_n ok 0 rfl rfl dJ5_append_cf1ce_33 ?_
  refine ga_dup ok dJ5_append_cf1ce_34 rfl ?_
  refine gs_count ok hS (tb_in 177 (by decide +kernel) (by decide +kernel)) dJ5_append_cf1ce_35 ?_
  first | rw [hc0] | rw [hc1] | rw [cpS_0, hc1]
  refine ga_iload_n ok 2 rfl rfl dJ5_append_cf1ce_38 ?_
  refine ga_iadd ok dJ5_append_cf1ce_39 ?_
  refine gs_pcount ok hS (tb_in 177 (by decide +kernel) (by decide +kernel)) dJ5_append_cf1ce_40 ?_
  refine ga_aload_n ok 0 rfl rfl dJ5_append_cf1ce_43 ?_
  exact ga_areturn ok en rfl (Or.inl ⟨_, rfl⟩) (by exact Nat.le_refl 1) (by exact Nat.le_refl 400) dJ5_append_cf1ce_44 ⟨rfl, hq1.cat ht9 (by omega), (hxb1.tr cpS_x).u (Or.inl rfl)⟩
theorem lsu_J4_29 : LinkSU RJ4 29 yJ5_append_cf1ce cJ5_append_cf1ce 3 (some (.object "java/lang/AbstractStringBuilder")) 1 := ⟨List.forall_mem_cons.mpr ⟨tb_in 604 (by decide +kernel) (by decide +kernel), List.forall_mem_cons.mpr ⟨tb_in 1290 (by decide +kernel) (by decide +kernel), List.forall_mem_cons.mpr ⟨tb_in 186 (by decide +kernel) (by decide +kernel), List.forall_mem_cons.mpr ⟨tb_in 605 (by decide +kernel) (by decide +kernel), List.forall_mem_cons.mpr ⟨tb_in 5 (by decide +kernel) (by decide +kernel), fun _ h => absurd h List.not_mem_nil⟩⟩⟩⟩⟩, tb_in 606 (by decide +kernel) (by decide +kernel), by decide +kernel, by decide +kernel⟩
set_option maxHeartbeats 4000000 in
set_option maxRecDepth 100000 in
theorem c_J4_appendS {G : GG} {l : Launch} (hfl : l.stackTraces = false) {P9 : Prop} (hG : P9) (hS : SBW G) {m : Mm} {s v N : Nat} {t : Nat → Int} (hX : ∀ u, g_st G u → STv (g_A G) u s v t N) (hdm : ∀ q, ¬ g_dm G q) {q : (Nat → Int) × Int} (hq : BLs m q) (hn : q.2 + N ≤ 98) : CT G l yJ4_append_15ec4 cJ4_append_15ec4 2 (some (.object "java/lang/StringBuilder")) (RM 8 1 400) [.ref 960, .ref (RAW + s)] m (fun r' m' => r' = some (.ref 960) ∧ BLs m' (catL q t N) ∧ XB m m') (fun _ _ => False) := by
  refine CT.of RJ4 [(0, .ref 960), (1, .ref (RAW + s))] hfl (by decide +kernel) rfl rfl (Nat.le_of_ble_eq_true rfl) ?_
  intro E ok en hml hEl htab
  have hR : e_R E = RM 8 1 400 := en.2.2.2
  have hn0 : 0 < (e_c E).maxLocals := by rw [hml]; decide
  have hn1 : 1 < (e_c E).maxLocals := by rw [hml]; decide
  have hq9 : STv (g_A G) (e_s E) s v t N := hX _ ok.f.2.2.2.2.2.2.2.2.2.2.2.1
  obtain ⟨-, -, -, -, hN9, ht9⟩ := id hq9
  refine ga_aload_n ok 0 rfl rfl dJ4_append_15ec4_0 ?_
  refine ga_aload_n ok 1 rfl rfl dJ4_append_15ec4_1 ?_
  refine ga_callSU ok hS [.ref (RAW + s)] lsu_J4_29 (c_J5_appendS ok.fl hG hS hX hdm hq hn) rfl (by rw [hR]; exact ⟨by decide, by decide, by decide, by decide⟩) (Nat.le_of_ble_eq_true rfl) dJ4_append_15ec4_2 (fun r9 m1 hq8 => ?_)
  obtain ⟨rfl, hq1, hxb1⟩ := hq8
  simp only [Option.toList_some, List.singleton_append]
  refine ga_pop ok dJ4_append_15ec4_5 rfl ?_
  refine ga_aload_n ok 0 rfl rfl dJ4_append_15ec4_6 ?_
  exact ga_areturn ok en rfl (Or.inl ⟨_, rfl⟩) (by decide) (by decide) dJ4_append_15ec4_7 ⟨rfl, hq1, hxb1⟩
