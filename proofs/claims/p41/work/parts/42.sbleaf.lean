/-! THE BUILDER'S METHODS -/
section SBR2
variable {G : GG} {E : EE} {own : String} {b : ByteArray} {k n pc : Nat} {L : List (Nat × Value)} {st : List Value} {m : Mm}
def cp2 (m : Mm) (c : Int) : Mm := (fun x j => if x = 960 ∧ 16 ≤ j ∧ ((j - 16 : Nat) : Int) < c then m.1 961 (j - 16) else m.1 x j, m.2)
theorem gs_copy (ok : OK0 G E own b) (hS : SBW G) (hB : SBk m) {index : Nat} {c : Int} (lk : LinkC own index) (h4 : m.1 960 4 = 1) (h1 : 0 ≤ c ∧ c ≤ m.1 960 3 ∧ c ≤ m.1 960 6 ∧ m.1 960 6 ≤ 65536) (hframes : 1 ≤ (e_R E).frames) (hlocals : (st.map fun v => v.category).sum + 40 ≤ (e_R E).locals) (d : decode b pc = .ok (.invokestatic index, 3))
    (kk : WA G E k n (pc + 3) L st (cp2 m c)) : WA G E k n pc L (vI c :: vI 0 :: raw (m.1 960 5) :: vI 0 :: raw (m.1 960 2) :: st) m := by
  intro H locs ls hW hS2 hl T hT X
  have hX := sb_ex hS hW
  obtain ⟨x4, xb, xn, xn2, xd⟩ := hX.2.2.2 h4
  have h65 := hB.2.1
  obtain ⟨c, rfl⟩ := oi_nz h1.1
  have cl0 : (Int32.ofInt (0 : Int)).toNatClampNeg = 0 := by decide
  have cl2 : (Int32.ofInt (c : Int)).toNatClampNeg = c := by rw [oi_n]; exact nI_clamp (by omega)
  have ti0 := oi_T (z := (0 : Int)) (by omega)
  have ti2 := oi_T (z := (c : Int)) (by omega)
  have ng : ∀ z : Nat, z < 2147483648 → ¬ Int32.ofInt (z : Int) < 0 := fun z hz => by rw [oi_n]; exact nI_pos hz
  have hc0 : H[(m.1 960 2).toNat]? = some (vp_cell (g_cA G 8) ((m.1 960 3).toNat, .inl (fun j => Int32.ofInt (m.1 961 j)))) := hX.2.1
  have hc1 : H[(m.1 960 5).toNat]? = some (vp_cell (g_cA G 8) ((m.1 960 6).toNat, .inl (fun j => Int32.ofInt (m.1 960 (16 + j))))) := x4
  have hR := (ok.f.1.2 8 _ rfl).1
  obtain ⟨-, k0, hk0, cm0, hkk0⟩ := hR (m.1 960 3).toNat (fun j => .int ((fun j => Int32.ofInt (m.1 961 j)) j))
  obtain ⟨-, k1, hk1, cm1, hkk1⟩ := hR (m.1 960 6).toNat (fun j => .int ((fun j => Int32.ofInt (m.1 960 (16 + j))) j))
  have hcc : c ≤ (m.1 960 3).toNat ∧ c ≤ (m.1 960 6).toNat := by omega
  have hn9 : nativeFrameWords "java/lang/System" "arraycopy" 5 + 11 ≤ 40 := by decide
  have hmap : (vI (c : Int) :: vI 0 :: raw (m.1 960 5) :: vI 0 :: raw (m.1 960 2) :: st).map (cv (g_ad G)) = vI (c : Int) :: vI 0 :: .ref (m.1 960 5).toNat :: vI 0 :: .ref (m.1 960 2).toNat :: st.map (cv (g_ad G)) := by
    show cv (g_ad G) (vI (c : Int)) :: cv (g_ad G) (vI 0) :: cv (g_ad G) (raw (m.1 960 5)) :: cv (g_ad G) (vI 0) :: cv (g_ad G) (raw (m.1 960 2)) :: st.map (cv (g_ad G)) = _
    rw [hS.raw, hS.raw]
    rfl
  rw [hmap]
  obtain ⟨vm', X', step⟩ := X.arraycopy ok.x ok.o (ok.w _ lk.1) (ok.w _ lk.2.1) (ok.w _ lk.2.2.1) (ok.w _ lk.2.2.2) (src := (m.1 960 2).toNat) (dst := (m.1 960 5).toNat) (cs := vp_cell (g_cA G 8) ((m.1 960 3).toNat, .inl (fun j => Int32.ofInt (m.1 961 j)))) (cd := vp_cell (g_cA G 8) ((m.1 960 6).toNat, .inl (fun j => Int32.ofInt (m.1 960 (16 + j))))) (srcPos := Int32.ofInt 0) (destPos := Int32.ofInt 0) (n := Int32.ofInt (c : Int)) (by rw [hT]; exact hc0) (by rw [hT]; exact hc1)
    (fun _ h => by cases h) (fun _ h => by cases h) (fun h => by cases h) (fun h => by cases h) hk0 hk1 hkk0 hkk1 (by simp [refKind]) (ng 0 (by omega)) (ng 0 (by omega)) (ng c (by omega))
    (by rw [ti0, ti2]; show ¬ _ > ((arrV (g_cA G 8) (m.1 960 3).toNat (fun j => .int ((fun j => Int32.ofInt (m.1 961 j)) j))).slots.size : Int); rw [arrV_size]; omega)
    (by rw [ti0, ti2]; show ¬ _ > ((arrV (g_cA G 8) (m.1 960 6).toNat (fun j => .int ((fun j => Int32.ofInt (m.1 960 (16 + j))) j))).slots.size : Int); rw [arrV_size]; omega)
    (fun vm₁ _ i hi => by
      rw [cl2] at hi
      have e : (vp_cell (g_cA G 8) ((m.1 960 3).toNat, .inl (fun j => Int32.ofInt (m.1 961 j)))).slots.getD ((Int32.ofInt 0).toNatClampNeg + i) .null = .int ((fun j => Int32.ofInt (m.1 961 j)) (0 + i)) := by
        rw [cl0]
        show (arrV (g_cA G 8) (m.1 960 3).toNat (fun j => .int ((fun j => Int32.ofInt (m.1 961 j)) j))).slots.getD _ _ = _
        rw [Array.getD_eq_getD_getElem?, arrV_read _ _ (by omega)]
        rfl
      refine ⟨?_, ?_⟩
      · rw [e]
        have hbb := hB.2.2.2.2 i (by omega)
        show fits .byte (.int (Int32.ofInt (m.1 961 (0 + i)))) = true
        rw [Nat.zero_add]
        exact fitB hbb
      · rw [e]
        exact trivial)
    (g := F0 (e_m E) pc ls (vI (c : Int) :: vI 0 :: .ref (m.1 960 5).toNat :: vI 0 :: .ref (m.1 960 2).toNat :: st.map (cv (g_ad G)))) rfl (by rw [hl.1]) (rest := st.map (cv (g_ad G))) rfl (by rw [ok.b]; exact d) hframes (by have := sum_cv (g_ad G) st; show 2 * 0 + _ + _ ≤ _; omega)
  have e1 : copied (vp_cell (g_cA G 8) ((m.1 960 3).toNat, .inl (fun j => Int32.ofInt (m.1 961 j)))) (vp_cell (g_cA G 8) ((m.1 960 6).toNat, .inl (fun j => Int32.ofInt (m.1 960 (16 + j))))) (Int32.ofInt 0) (Int32.ofInt 0) (Int32.ofInt (c : Int)) = vp_cell (g_cA G 8) ((m.1 960 6).toNat, .inl (va_cpy (fun j => Int32.ofInt (m.1 961 j)) (fun j => Int32.ofInt (m.1 960 (16 + j))) 0 0 c)) := by
    have h := va_copied (fun z => Value.int z) (g_cA G 8) (g_cA G 8) (n1 := (m.1 960 6).toNat) (dp := 0) (sp := 0) (fun j => Int32.ofInt (m.1 961 j)) (fun j => Int32.ofInt (m.1 960 (16 + j))) (show 0 + c ≤ (m.1 960 3).toNat by omega)
    unfold copied
    rw [cl0, cl2]
    exact h
  rw [e1] at X' step
  have hlt : (m.1 960 5).toNat < H.size := (Array.getElem?_eq_some_iff.mp hc1).1
  have hheap : ((T.setVm vm').setCell (m.1 960 5).toNat (vp_cell (g_cA G 8) ((m.1 960 6).toNat, .inl (va_cpy (fun j => Int32.ofInt (m.1 961 j)) (fun j => Int32.ofInt (m.1 960 (16 + j))) 0 0 c)))).heap = H.setIfInBounds (m.1 960 5).toNat (vp_cell (g_cA G 8) ((m.1 960 6).toNat, .inl (va_cpy (fun j => Int32.ofInt (m.1 961 j)) (fun j => Int32.ofInt (m.1 960 (16 + j))) 0 0 c))) := by rw [← hT]; rfl
  obtain ⟨H1, hH1⟩ : ∃ H1, H1 = H.setIfInBounds (m.1 960 5).toNat (vp_cell (g_cA G 8) ((m.1 960 6).toNat, .inl (va_cpy (fun j => Int32.ofInt (m.1 961 j)) (fun j => Int32.ofInt (m.1 960 (16 + j))) 0 0 c))) := ⟨_, rfl⟩
  rw [← hH1] at hheap
  have oq : ∀ q : Nat, q ≠ (m.1 960 5).toNat → H1[q]? = H[q]? := fun q hq => by rw [hH1]; simp [Array.getElem?_setIfInBounds, Ne.symm hq]
  have hz : H1.size = H.size := by rw [hH1]; simp
  have eat : H1[(m.1 960 5).toNat]? = some (vp_cell (g_cA G 8) ((m.1 960 6).toNat, .inl (va_cpy (fun j => Int32.ofInt (m.1 961 j)) (fun j => Int32.ofInt (m.1 960 (16 + j))) 0 0 c))) := by
    rw [hH1, Array.getElem?_setIfInBounds]
    simp only [hlt, if_true]
  have f0 : ∀ j, j < 16 → (cp2 m c).1 960 j = m.1 960 j := fun j hj => by simp [cp2, show ¬ 16 ≤ j by omega]
  have f1 : (cp2 m c).1 961 = m.1 961 := by funext j; simp [cp2]
  have hx1 : sbX (g_A G) (g_cA G) (g_dm G) (g_ad G) (g_D G) (cp2 m c) H1 := by
    refine ⟨?_, ?_, by rw [f0 2 (by omega)]; exact hX.2.2.1, fun _ => ?_⟩
    · have hsb : sbF (cp2 m c) = sbF m := by unfold sbF; rw [f0 2 (by omega), f0 1 (by omega), f0 0 (by omega)]
      rw [hsb]
      exact hX.1.kept (oq _ (fun e => xn e.symm))
    · rw [f0 2 (by omega), f0 3 (by omega), f1]
      exact hX.2.1.kept (oq _ (fun e => xn2 e.symm))
    · rw [f0 5 (by omega), f0 6 (by omega), f0 2 (by omega)]
      refine ⟨?_, xb, xn, xn2, xd⟩
      show H1[(m.1 960 5).toNat]? = some (vp_cell _ _)
      rw [eat]
      congr 4
      funext j
      simp only [va_cpy, cp2, true_and]
      by_cases hj : j < c
      · rw [if_pos ⟨by omega, by omega⟩, if_pos ⟨by omega, by omega⟩, show 16 + j - 16 = j by omega, show 0 + (j - 0) = j by omega]
      · rw [if_neg (by omega), if_neg (by omega)]
  obtain ⟨t, a1, b1⟩ := kk H1 _ ls (HW.hid ok.f hW (fun q h1 h2 => by funext j; simp [cp2, h1]) rfl (fun q hq => oq _ (xd q hq)) (by rw [hS.2.1]; exact hx1)) ⟨by rw [hz]; exact hS2.1, fun q g1 g2 => by
      rw [oq q (fun e => g2 (by rw [e]; exact xb))]
      exact hS2.2.1 q g1 g2, fun q hq => by
      rcases List.mem_append.mp hq with h | h
      · exact hS2.2.2 q h
      · obtain ⟨z, -, hz⟩ := List.mem_map.mp h
        rw [← hz]
        exact xb⟩ hl _ hheap X'
  exact ⟨t, step t a1, b1⟩
theorem sb_st (ok : OK0 G E own b) (hS : SBW G) : SST (g_A G) (e_s E) := hS.2.2 _ ok.f.2.2.2.2.2.2.2.2.2.2.2.1
theorem sb_s1 (ok : OK0 G E own b) (hS : SBW G) : (Cond.selects RJ4 yJ5_ensureCapacityInternal_d00df yJ5_ensureCapacityInternal_d00df).before (e_a E) (e_s E) = true := va_tabs rfl rfl (sb_st ok hS).2.2.2.2.1
theorem sb_s2 (ok : OK0 G E own b) (hS : SBW G) : (Cond.selects RJ4 yJ5_newCapacity_0f7a4 yJ5_newCapacity_0f7a4).before (e_a E) (e_s E) = true := va_tabs rfl rfl (sb_st ok hS).2.2.2.2.2.1
theorem sb_s3 (ok : OK0 G E own b) (hS : SBW G) : (Cond.selects RJ4 yJ5_putStringAt_47b60 yJ5_putStringAt_47b60).before (e_a E) (e_s E) = true := va_tabs rfl rfl (sb_st ok hS).2.2.2.2.2.2.1
theorem sb_s4 (ok : OK0 G E own b) (hS : SBW G) : (Cond.selects RJ4 yJ5_inflateIfNeededFor_a7421 yJ5_inflateIfNeededFor_a7421).before (e_a E) (e_s E) = true := va_tabs rfl rfl (sb_st ok hS).2.2.2.2.2.2.2
theorem gs_compact (ok : OK0 G E own b) (hS : SBW G) {index : Nat} (hlink : Cond.fieldLink own index "java/lang/String" "COMPACT_STRINGS" "Z" ∈ BIG) (d : decode b pc = .ok (.getstatic index, 3)) (kk : WA G E k n (pc + 3) L (vI 1 :: st) m) : WA G E k n pc L st m := by
  intro H locs ls hW hS2 hl
  exact va_gets ok.x ok.b (sb_st ok hS).1 hS2 ok.o (ok.w _ hlink) (fun _ h => h) d (kk H locs ls hW hS2 hl)
theorem gs_fmt (ok : OK0 G E own b) (hS : SBW G) {index : Nat} (hlink : Cond.fieldLink own index "jdk/internal/util/Preconditions" "SIOOBE_FORMATTER" "Ljava/util/function/BiFunction;" ∈ BIG) (d : decode b pc = .ok (.getstatic index, 3)) (kk : ∀ v, (v = .null ∨ ∃ a, v = .ref (RAW + a)) → WA G E k n (pc + 3) L (v :: st) m) : WA G E k n pc L st m := by
  intro H locs ls hW hS2 hl
  obtain ⟨v, hv, hZ⟩ := (sb_st ok hS).2.1
  refine va_gets ok.x ok.b hZ hS2 ok.o (ok.w _ hlink) (fun _ h => h) d ?_
  rcases hv with rfl | ⟨a, rfl⟩
  · exact kk .null (Or.inl rfl) H locs ls hW hS2 hl
  · have h := kk (.ref (RAW + a)) (Or.inr ⟨a, rfl⟩) H locs ls hW hS2 hl
    have e9 : (Value.ref (RAW + a) :: st).map (cv (g_ad G)) = .ref a :: st.map (cv (g_ad G)) := by
      show Value.ref (g_ad G (RAW + a)) :: _ = _
      rw [hS.1]
    rw [e9] at h
    exact h
theorem ga_mmax (ok : OK0 G E own b) {index : Nat} {x y : Int} (lk : Cond.methodLink own index Lib.Math.max.name ∈ BIG ∧ Cond.static Lib.Math.max.name ∈ BIG ∧ Cond.initialized "java/lang/Math" ∈ BIG ∧ Cond.code Lib.Math.max.name Lib.Math.max.code 2 (some .int) ∈ BIG) (hx : -2147483648 ≤ x ∧ x ≤ 2147483647) (hy : -2147483648 ≤ y ∧ y ≤ 2147483647)
    (hframes : 1 ≤ (e_R E).frames) (hlocals : (st.map fun v => v.category).sum + 13 ≤ (e_R E).locals) (hc : k ≤ (e_R E).cells) (hs : n ≤ (e_R E).slots) (d : decode b pc = .ok (.invokestatic index, 3))
    (kk : WA G E k n (pc + 3) L (vI (if x < y then y else x) :: st) m) : WA G E k n pc L (vI y :: vI x :: st) m := by
  intro H locs ls hW hS hl
  refine va_mmax ok.x ok.b hl.1.symm ok.o (ok.w _ lk.1) (ok.w _ lk.2.1) (ok.w _ lk.2.2.1) (ok.w _ lk.2.2.2) hframes (by have := sum_cv (g_ad G) st; omega) hc hs d ?_
  have e : (if Int32.ofInt x < Int32.ofInt y then Int32.ofInt y else Int32.ofInt x) = Int32.ofInt (if x < y then y else x) := by
    have h0 := oi_lt hx hy
    by_cases h : x < y
    · rw [if_pos (h0.mpr h), if_pos h]
    · rw [if_neg (fun e => h (h0.mp e)), if_neg h]
  rw [e]
  exact kk H locs ls hW hS hl
theorem ga_mmin (ok : OK0 G E own b) {index : Nat} {x y : Int} (lk : Cond.methodLink own index Lib.Math.min.name ∈ BIG ∧ Cond.static Lib.Math.min.name ∈ BIG ∧ Cond.initialized "java/lang/Math" ∈ BIG ∧ Cond.code Lib.Math.min.name Lib.Math.min.code 2 (some .int) ∈ BIG) (hx : -2147483648 ≤ x ∧ x ≤ 2147483647) (hy : -2147483648 ≤ y ∧ y ≤ 2147483647)
    (hframes : 1 ≤ (e_R E).frames) (hlocals : (st.map fun v => v.category).sum + 13 ≤ (e_R E).locals) (hc : k ≤ (e_R E).cells) (hs : n ≤ (e_R E).slots) (d : decode b pc = .ok (.invokestatic index, 3))
    (kk : WA G E k n (pc + 3) L (vI (if y < x then y else x) :: st) m) : WA G E k n pc L (vI y :: vI x :: st) m := by
  intro H locs ls hW hS hl
  refine va_mmin ok.x ok.b hl.1.symm ok.o (ok.w _ lk.1) (ok.w _ lk.2.1) (ok.w _ lk.2.2.1) (ok.w _ lk.2.2.2) hframes (by have := sum_cv (g_ad G) st; omega) hc hs d ?_
  have e : (if Int32.ofInt y < Int32.ofInt x then Int32.ofInt y else Int32.ofInt x) = Int32.ofInt (if y < x then y else x) := by
    have h0 := oi_lt hy hx
    by_cases h : y < x
    · rw [if_pos (h0.mpr h), if_pos h]
    · rw [if_neg (fun e => h (h0.mp e)), if_neg h]
  rw [e]
  exact kk H locs ls hW hS hl
end SBR2
theorem gd_J_2 {G : GG} {E : EE} {own : String} {b : ByteArray} {k n pc : Nat} {L : List (Nat × Value)} {st : List Value} {m : Mm} (ok : OK0 G E own b) {y : MethodName} {bytes : ByteArray} {maxL index : Nat} {ret : Option FieldType} {rm : Room} {v1 v2 : Value} (lk : LinkJ own index y bytes maxL ret 2) {v : Value} {m1 : Mm} (hC : CT G (e_l E) y bytes maxL ret rm [v1, v2] m (fun r m' => r = some v ∧ m' = m1) (fun _ _ => False)) (hf : Fits (e_R E) rm maxL k n) (hw : (st.map fun v => v.category).sum ≤ 8) (d : decode b pc = .ok (.invokestatic index, 3))
    (kr : WA G E (k + rm.cells) (n + rm.slots) (pc + 3) L (v :: st) m1) : WA G E k n pc L (v2 :: v1 :: st) m :=
  ga_callJ ok [v1, v2] lk hC rfl hf hw d (fun r m' h => by obtain ⟨rfl, rfl⟩ := h; exact kr) (fun _ _ h => h.elim)
theorem gd_J_3 {G : GG} {E : EE} {own : String} {b : ByteArray} {k n pc : Nat} {L : List (Nat × Value)} {st : List Value} {m : Mm} (ok : OK0 G E own b) {y : MethodName} {bytes : ByteArray} {maxL index : Nat} {ret : Option FieldType} {rm : Room} {v1 v2 v3 : Value} (lk : LinkJ own index y bytes maxL ret 3) {v : Value} {m1 : Mm} (hC : CT G (e_l E) y bytes maxL ret rm [v1, v2, v3] m (fun r m' => r = some v ∧ m' = m1) (fun _ _ => False)) (hf : Fits (e_R E) rm maxL k n) (hw : (st.map fun v => v.category).sum ≤ 8) (d : decode b pc = .ok (.invokestatic index, 3))
    (kr : WA G E (k + rm.cells) (n + rm.slots) (pc + 3) L (v :: st) m1) : WA G E k n pc L (v3 :: v2 :: v1 :: st) m :=
  ga_callJ ok [v1, v2, v3] lk hC rfl hf hw d (fun r m' h => by obtain ⟨rfl, rfl⟩ := h; exact kr) (fun _ _ h => h.elim)
/-- what isn't the builder's has not changed -/
def XB (m m' : Mm) : Prop := (∀ n, n ≠ 960 → n ≠ 961 → m'.1 n = m.1 n) ∧ m'.2 = m.2
theorem XB.rf {m : Mm} : XB m m := ⟨fun _ _ _ => rfl, rfl⟩
theorem XB.tr {m m1 m2 : Mm} (h1 : XB m m1) (h2 : XB m1 m2) : XB m m2 := ⟨fun n a b => (h2.1 n a b).trans (h1.1 n a b), h2.2.trans h1.2⟩
theorem XB.u {m m' : Mm} {a i : Nat} {v : Int} (h : XB m m') (ha : a = 960 ∨ a = 961) : XB m (upI m' a i v) := ⟨fun n b c => by rw [upI_r (by omega)]; exact h.1 n b c, h.2⟩
/-- the text in the builder -/
def BLs (m : Mm) (q : (Nat → Int) × Int) : Prop := SBk m ∧ m.1 960 4 = 0 ∧ m.1 960 0 = q.2 ∧ ∀ i : Nat, (i : Int) < q.2 → m.1 961 i = q.1 i
theorem raw_c {x y : Int} (h : x = y) : raw x = raw y := by rw [h]
set_option maxHeartbeats 4000000 in
set_option maxRecDepth 100000 in
theorem c_J5_isLatin1 {G : GG} {l : Launch} (hfl : l.stackTraces = false) {P9 : Prop} (hG : P9) (hS : SBW G) {m : Mm} : CT G l yJ5_isLatin1_aae02 cJ5_isLatin1_aae02 1 (some .boolean) (RM 0 0 0) [.ref 960] m (fun r' m' => r' = some (vI 1) ∧ m' = m) (fun _ _ => False) := by
  refine CT.of RJ5 [(0, .ref 960)] hfl (by decide +kernel) rfl rfl (Nat.le_of_ble_eq_true rfl) ?_
  intro E ok en hml hEl htab
  have hR : e_R E = RM 0 0 0 := en.2.2.2
  have hn0 : 0 < (e_c E).maxLocals := by rw [hml]; decide
  refine gs_compact ok hS (tb_in 164 (by decide +kernel) (by decide +kernel)) dJ5_isLatin1_aae02_0 ?_
  refine ga_if_eq ok 17 (by decide) (by omega) dJ5_isLatin1_aae02_3 (fun c_3 => ?_) (fun c_3 => ?_)
  · exact absurd c_3 (by decide)
  · refine ga_aload_n ok 0 rfl rfl dJ5_isLatin1_aae02_6 ?_
    refine gs_coder ok hS (tb_in 174 (by decide +kernel) (by decide +kernel)) dJ5_isLatin1_aae02_7 ?_
    refine ga_if_ne ok 17 (by decide) (by omega) dJ5_isLatin1_aae02_10 (fun c_10 => ?_) (fun c_10 => ?_)
    · exact absurd rfl c_10
    · refine ga_iconst ok dJ5_isLatin1_aae02_13 ?_
      refine ga_goto ok 18 (by decide) dJ5_isLatin1_aae02_14 ?_
      exact ga_ireturn ok en rfl (nar01 (Or.inr rfl)) (by decide) (by decide) dJ5_isLatin1_aae02_18 ⟨rfl, rfl⟩
set_option maxHeartbeats 4000000 in
set_option maxRecDepth 100000 in
theorem c_J1_canEncode {G : GG} {l : Launch} (hfl : l.stackTraces = false) {P9 : Prop} (hG : P9) (hS : SBW G) {m : Mm} {c : Int} (hc : 0 ≤ c ∧ c ≤ 127) : CT G l yJ1_canEncode_fc78d cJ1_canEncode_fc78d 1 (some .boolean) (RM 0 0 0) [vI c] m (fun r' m' => r' = some (vI 1) ∧ m' = m) (fun _ _ => False) := by
  refine CT.of RJ1 [(0, vI c)] hfl (by decide +kernel) rfl rfl (Nat.le_of_ble_eq_true rfl) ?_
  intro E ok en hml hEl htab
  have hR : e_R E = RM 0 0 0 := en.2.2.2
  have hn0 : 0 < (e_c E).maxLocals := by rw [hml]; decide
  refine ga_iload_n ok 0 rfl rfl dJ1_canEncode_fc78d_0 ?_
  refine ga_sipush ok dJ1_canEncode_fc78d_1 (by decide) ?_
  refine ga_icmp_gt ok 11 (by decide) (by omega) (by omega) dJ1_canEncode_fc78d_4 (fun c_4 => ?_) (fun c_4 => ?_)
  · exfalso; omega
  · refine ga_iconst ok dJ1_canEncode_fc78d_7 ?_
    refine ga_goto ok 12 (by decide) dJ1_canEncode_fc78d_8 ?_
    exact ga_ireturn ok en rfl (nar01 (Or.inr rfl)) (by decide) (by decide) dJ1_canEncode_fc78d_12 ⟨rfl, rfl⟩
set_option maxHeartbeats 4000000 in
set_option maxRecDepth 100000 in
theorem c_J8_newLength {G : GG} {l : Launch} (hfl : l.stackTraces = false) {P9 : Prop} (hG : P9) (hS : SBW G) {m : Mm} {x y z : Int} (hx : 0 ≤ x ∧ x ≤ 65536) (hy : 1 ≤ y ∧ y ≤ 65536) (hz : 0 ≤ z ∧ z ≤ 65536) : CT G l yJ8_newLength_cabcc cJ8_newLength_cabcc 4 (some .int) (RM 1 0 0) [vI x, vI y, vI z] m (fun r' m' => r' = some (vI (x + (if y < z then z else y))) ∧ m' = m) (fun _ _ => False) := by
  refine CT.of RJ8 [(0, vI x), (1, vI y), (2, vI z)] hfl (by decide +kernel) rfl rfl (Nat.le_of_ble_eq_true rfl) ?_
  intro E ok en hml hEl htab
  have hR : e_R E = RM 1 0 0 := en.2.2.2
  have hn0 : 0 < (e_c E).maxLocals := by rw [hml]; decide
  have hn1 : 1 < (e_c E).maxLocals := by rw [hml]; decide
  have hn2 : 2 < (e_c E).maxLocals := by rw [hml]; decide
  have hn3 : 3 < (e_c E).maxLocals := by rw [hml]; decide
  refine ga_iload_n ok 0 rfl rfl dJ8_newLength_cabcc_0 ?_
  refine ga_iload_n ok 1 rfl rfl dJ8_newLength_cabcc_1 ?_
  refine ga_iload_n ok 2 rfl rfl dJ8_newLength_cabcc_2 ?_
  refine ga_mmax ok ⟨tb_in 622 (by decide +kernel) (by decide +kernel), tb_in 623 (by decide +kernel) (by decide +kernel), tb_in 19 (by decide +kernel) (by decide +kernel), tb_in 624 (by decide +kernel) (by decide +kernel)⟩ (by omega) (by omega) (by rw [hR]; exact (by decide)) (by rw [hR]; exact Nat.le_of_ble_eq_true rfl) (by rw [hR]; exact Nat.le_of_ble_eq_true rfl) (by rw [hR]; exact Nat.le_of_ble_eq_true rfl) dJ8_newLength_cabcc_3 ?_
  refine ga_iadd ok dJ8_newLength_cabcc_6 ?_
  refine ga_istore_n ok 3 rfl hn3 dJ8_newLength_cabcc_7 ?_
  refine ga_iconst ok dJ8_newLength_cabcc_8 ?_
  refine ga_iload_n ok 3 rfl rfl dJ8_newLength_cabcc_9 ?_
  refine ga_icmp_ge ok 21 (by decide) (by first | (split <;> omega) | omega) (by first | (split <;> omega) | omega) dJ8_newLength_cabcc_10 (fun c_10 => ?_) (fun c_10 => ?_)
  · exfalso
    split at c_10 <;> omega
  · refine ga_iload_n ok 3 rfl rfl dJ8_newLength_cabcc_13 ?_
    refine ga_ldc (z := 2147483639) ok dJ8_newLength_cabcc_14 (tb_in 625 (by decide +kernel) (by decide +kernel)) ?_
    refine ga_icmp_gt ok 21 (by decide) (by first | (split <;> omega) | omega) (by first | (split <;> omega) | omega) dJ8_newLength_cabcc_16 (fun c_16 => ?_) (fun c_16 => ?_)
    · exfalso
      split at c_16 <;> omega
    · refine ga_iload_n ok 3 rfl rfl dJ8_newLength_cabcc_19 ?_
      exact ga_ireturn ok en rfl rfl (by decide) (by decide) dJ8_newLength_cabcc_20 ⟨rfl, rfl⟩
theorem lj_J5_114 : LinkJ RJ5 114 yJ8_newLength_cabcc cJ8_newLength_cabcc 4 (some .int) 3 := ⟨⟨tb_in 619 (by decide +kernel) (by decide +kernel), tb_in 620 (by decide +kernel) (by decide +kernel), tb_in 18 (by decide +kernel) (by decide +kernel)⟩, tb_in 621 (by decide +kernel) (by decide +kernel), by decide +kernel⟩
set_option maxHeartbeats 4000000 in
set_option maxRecDepth 100000 in
theorem c_J5_newCapacity {G : GG} {l : Launch} (hfl : l.stackTraces = false) {P9 : Prop} (hG : P9) (hS : SBW G) {m : Mm} (hB : SBk m) {n : Int} (hn : m.1 960 3 < n ∧ n ≤ 100) : CT G l yJ5_newCapacity_0f7a4 cJ5_newCapacity_0f7a4 6 (some .int) (RM 3 0 0) [.ref 960, vI n] m (fun r' m' => r' = some (vI (m.1 960 3 + (if n - m.1 960 3 < m.1 960 3 + 2 then m.1 960 3 + 2 else n - m.1 960 3))) ∧ m' = m) (fun _ _ => False) := by
  refine CT.of RJ5 [(0, .ref 960), (1, vI n)] hfl (by decide +kernel) rfl rfl (Nat.le_of_ble_eq_true rfl) ?_
  intro E ok en hml hEl htab
  have hR : e_R E = RM 3 0 0 := en.2.2.2
  have hn0 : 0 < (e_c E).maxLocals := by rw [hml]; decide
  have hn1 : 1 < (e_c E).maxLocals := by rw [hml]; decide
  have hn2 : 2 < (e_c E).maxLocals := by rw [hml]; decide
  have hn3 : 3 < (e_c E).maxLocals := by rw [hml]; decide
  have hn4 : 4 < (e_c E).maxLocals := by rw [hml]; decide
  have hn5 : 5 < (e_c E).maxLocals := by rw [hml]; decide
  obtain ⟨hb1, hb2, hb3, hb4, hb5⟩ := id hB
  refine ga_aload_n ok 0 rfl rfl dJ5_newCapacity_0f7a4_0 ?_
  refine gs_value ok hS (tb_in 173 (by decide +kernel) (by decide +kernel)) dJ5_newCapacity_0f7a4_1 ?_
  refine gs_len ok hS hB dJ5_newCapacity_0f7a4_4 ?_
  refine ga_istore_n ok 2 rfl hn2 dJ5_newCapacity_0f7a4_5 ?_
  refine ga_iload_n ok 1 rfl rfl dJ5_newCapacity_0f7a4_6 ?_
  refine ga_aload_n ok 0 rfl rfl dJ5_newCapacity_0f7a4_7 ?_
  refine gs_coder ok hS (tb_in 174 (by decide +kernel) (by decide +kernel)) dJ5_newCapacity_0f7a4_8 ?_
  refine ga_ishl ok dJ5_newCapacity_0f7a4_11 (by omega) (by omega) (by rw [show (2 : Int) ^ (0 : Int).toNat = 1 from rfl]; omega) ?_
  rw [show (2 : Int) ^ (0 : Int).toNat = 1 from rfl, Int.mul_one]
  refine ga_istore_n ok 3 rfl hn3 dJ5_newCapacity_0f7a4_12 ?_
  refine ga_iload_n ok 3 rfl rfl dJ5_newCapacity_0f7a4_13 ?_
  refine ga_iload_n ok 2 rfl rfl dJ5_newCapacity_0f7a4_14 ?_
  refine ga_isub ok dJ5_newCapacity_0f7a4_15 ?_
  refine ga_istore ok hn4 dJ5_newCapacity_0f7a4_16 ?_
  refine ga_iload_n ok 2 rfl rfl dJ5_newCapacity_0f7a4_18 ?_
  refine ga_iload ok rfl dJ5_newCapacity_0f7a4_19 ?_
  refine ga_iload_n ok 2 rfl rfl dJ5_newCapacity_0f7a4_21 ?_
  refine ga_iconst ok dJ5_newCapacity_0f7a4_22 ?_
  refine ga_aload_n ok 0 rfl rfl dJ5_newCapacity_0f7a4_23 ?_
  refine gs_coder ok hS (tb_in 174 (by decide +kernel) (by decide +kernel)) dJ5_newCapacity_0f7a4_24 ?_
  refine ga_ishl ok dJ5_newCapacity_0f7a4_27 (by omega) (by omega) (by rw [show (2 : Int) ^ (0 : Int).toNat = 1 from rfl]; omega) ?_
  rw [show (2 : Int) ^ (0 : Int).toNat = 1 from rfl, Int.mul_one]
  refine ga_iadd ok dJ5_newCapacity_0f7a4_28 ?_
  refine gd_J_3 ok lj_J5_114 (c_J8_newLength ok.fl hG hS (by omega) (by omega) (by omega)) (by rw [hR]; exact ⟨by decide, by decide, by decide, by decide⟩) (Nat.le_of_ble_eq_true rfl) dJ5_newCapacity_0f7a4_29 ?_
  refine ga_istore ok hn5 dJ5_newCapacity_0f7a4_32 ?_
  refine ga_iload ok rfl dJ5_newCapacity_0f7a4_34 ?_
  refine ga_ldc (z := 2147483647) ok dJ5_newCapacity_0f7a4_36 (tb_in 629 (by decide +kernel) (by decide +kernel)) ?_
  refine ga_icmp_ne ok 51 (by decide) (by first | (split <;> omega) | omega) (by first | (split <;> omega) | omega) dJ5_newCapacity_0f7a4_38 (fun c_38 => ?_) (fun c_38 => ?_)
  · refine ga_iload ok rfl dJ5_newCapacity_0f7a4_51 ?_
    refine ga_aload_n ok 0 rfl rfl dJ5_newCapacity_0f7a4_53 ?_
    refine gs_coder ok hS (tb_in 174 (by decide +kernel) (by decide +kernel)) dJ5_newCapacity_0f7a4_54 ?_
    refine ga_ishr ok dJ5_newCapacity_0f7a4_57 (by first | (split <;> omega) | omega) (by omega) ?_
    rw [show (2 : Int) ^ (0 : Int).toNat = 1 from rfl, Int.ediv_one]
    exact ga_ireturn ok en rfl rfl (by decide) (by decide) dJ5_newCapacity_0f7a4_58 ⟨rfl, rfl⟩
  · exfalso
    split at c_38 <;> omega
theorem nwM_0 {m : Mm} {h : Nat} {z : Int} {j : Nat} (hj : j < 4) : (nwM m h z).1 960 j = m.1 960 j := by simp [nwM, show j ≠ 4 by omega, show j ≠ 5 by omega, show j ≠ 6 by omega, show ¬ 16 ≤ j by omega]
theorem nwM_1 {m : Mm} {h : Nat} {z : Int} : (nwM m h z).1 961 = m.1 961 := by funext j; simp [nwM]
theorem nwM_k {m : Mm} {h : Nat} {z : Int} (hB : SBk m) : SBk (nwM m h z) := by
  unfold SBk
  rw [nwM_0 (by omega), nwM_0 (by omega), nwM_0 (by omega), nwM_0 (by omega), nwM_1]
  exact hB
set_option maxHeartbeats 4000000 in
set_option maxRecDepth 100000 in
theorem c_J7_copyOf {G : GG} {l : Launch} (hfl : l.stackTraces = false) {P9 : Prop} (hG : P9) (hS : SBW G) {m : Mm} (hB : SBk m) {n : Int} (hn : m.1 960 3 < n ∧ n ≤ 400) : CT G l yJ7_copyOf_9075b cJ7_copyOf_9075b 3 (some (.array .byte)) (RM 1 1 400) [raw (m.1 960 2), vI n] m (fun r' m' => ∃ h : Nat, r' = some (raw h) ∧ m' = cp2 (nwM m h n) (m.1 960 3)) (fun _ _ => False) := by
  refine CT.of RJ7 [(0, raw (m.1 960 2)), (1, vI n)] hfl (by decide +kernel) rfl rfl (Nat.le_of_ble_eq_true rfl) ?_
  intro E ok en hml hEl htab
  have hR : e_R E = RM 1 1 400 := en.2.2.2
  have hn0 : 0 < (e_c E).maxLocals := by rw [hml]; decide
  have hn1 : 1 < (e_c E).maxLocals := by rw [hml]; decide
  have hn2 : 2 < (e_c E).maxLocals := by rw [hml]; decide
  obtain ⟨hb1, hb2, hb3, hb4, hb5⟩ := id hB
  refine ga_iload_n ok 1 rfl rfl dJ7_copyOf_9075b_0 ?_
  refine ga_aload_n ok 0 rfl rfl dJ7_copyOf_9075b_1 ?_
  refine gs_len ok hS hB dJ7_copyOf_9075b_2 ?_
  refine ga_icmp_ne ok 14 (by decide) (by omega) (by omega) dJ7_copyOf_9075b_3 (fun c_3 => ?_) (fun c_3 => ?_)
  · refine ga_iload_n ok 1 rfl rfl dJ7_copyOf_9075b_14 ?_
    refine gs_newa ok hS hB (by omega) (tb_in 187 (by decide +kernel) (by decide +kernel)) (by rw [hR]; exact Nat.le_refl 1) (by rw [hR]; show 0 + n.toNat ≤ 400; omega) dJ7_copyOf_9075b_15 (fun h => ?_)
    have hB2 : SBk (nwM m h n) := nwM_k hB
    have e2 : raw (m.1 960 2) = raw ((nwM m h n).1 960 2) := raw_c (nwM_0 (by omega)).symm
    have e5 : raw (h : Int) = raw ((nwM m h n).1 960 5) := raw_c (by simp [nwM])
    have e3 : (nwM m h n).1 960 3 = m.1 960 3 := nwM_0 (by omega)
    have e4 : (nwM m h n).1 960 4 = 1 := by simp [nwM]
    have e6 : (nwM m h n).1 960 6 = n := by simp [nwM]
    rw [e2, e5]
    refine ga_astore_n ok 2 rfl hn2 dJ7_copyOf_9075b_17 ?_
    refine ga_aload_n ok 0 rfl rfl dJ7_copyOf_9075b_18 ?_
    refine ga_iconst ok dJ7_copyOf_9075b_19 ?_
    refine ga_aload_n ok 2 rfl rfl dJ7_copyOf_9075b_20 ?_
    refine ga_iconst ok dJ7_copyOf_9075b_21 ?_
    refine ga_aload_n ok 0 rfl rfl dJ7_copyOf_9075b_22 ?_
    refine gs_len ok hS hB2 dJ7_copyOf_9075b_23 ?_
    refine ga_iload_n ok 1 rfl rfl dJ7_copyOf_9075b_24 ?_
    rw [e3]
    refine ga_mmin ok ⟨tb_in 640 (by decide +kernel) (by decide +kernel), tb_in 641 (by decide +kernel) (by decide +kernel), tb_in 19 (by decide +kernel) (by decide +kernel), tb_in 642 (by decide +kernel) (by decide +kernel)⟩ (by omega) (by omega) (by rw [hR]; exact (by decide)) (by rw [hR]; exact Nat.le_of_ble_eq_true rfl) (by rw [hR]; exact Nat.le_of_ble_eq_true rfl) (by rw [hR]; show 0 + n.toNat ≤ 400; omega) dJ7_copyOf_9075b_25 ?_
    rw [if_neg (by omega)]
    refine gs_copy ok hS hB2 ⟨tb_in 643 (by decide +kernel) (by decide +kernel), tb_in 357 (by decide +kernel) (by decide +kernel), tb_in 356 (by decide +kernel) (by decide +kernel), tb_in 14 (by decide +kernel) (by decide +kernel)⟩ e4 (by rw [e3, e6]; omega) (by rw [hR]; exact (by decide)) (by rw [hR]; exact Nat.le_of_ble_eq_true rfl) dJ7_copyOf_9075b_28 ?_
    refine ga_aload_n ok 2 rfl rfl dJ7_copyOf_9075b_31 ?_
    exact ga_areturn ok en rfl (Or.inr ⟨_, rfl⟩) (by exact Nat.le_refl 1) (by show 0 + n.toNat ≤ 400; omega) dJ7_copyOf_9075b_32 ⟨h, by rw [← show (nwM m h n).1 960 5 = (h : Int) from by simp [nwM]]; rfl, rfl⟩
  · exfalso; omega
