/-! COPIES, NATIVE CALLS, THROWS over the abstract machine -/
def cpI (m : Mm) (a0 a sp dp n : Nat) : Mm := (fun x j => if x = a ∧ dp ≤ j ∧ j < dp + n then m.1 a0 (sp + (j - dp)) else m.1 x j, m.2)
def cpF (m : Mm) (a0 a sp dp n : Nat) : Mm := (m.1, fun x j => if x = a ∧ dp ≤ j ∧ j < dp + n then m.2 a0 (sp + (j - dp)) else m.2 x j)
theorem cpI_ne {m : Mm} {a0 a sp dp n : Nat} : ∀ j, j ≠ a → m.1 j = (cpI m a0 a sp dp n).1 j ∧ m.2 j = (cpI m a0 a sp dp n).2 j := by
  intro j hj
  refine ⟨?_, rfl⟩
  funext x
  simp [cpI, hj]
theorem cpF_ne {m : Mm} {a0 a sp dp n : Nat} : ∀ j, j ≠ a → m.1 j = (cpF m a0 a sp dp n).1 j ∧ m.2 j = (cpF m a0 a sp dp n).2 j := by
  intro j hj
  refine ⟨rfl, ?_⟩
  funext x
  simp [cpF, hj]
def LinkC (own : String) (index : Nat) : Prop := Cond.methodLink own index arraycopyName ∈ BIG ∧ Cond.native arraycopyName ∈ BIG ∧ Cond.static arraycopyName ∈ BIG ∧ Cond.initialized "java/lang/System" ∈ BIG
section NAT
variable {G : GG} {E : EE} {own : String} {b : ByteArray} {k n pc : Nat} {L : List (Nat × Value)} {st : List Value} {m : Mm}
theorem ga_copy_ia (ok : OK0 G E own b) {index a0 a N0 N1 : Nat} {sp dp c : Int} (lk : LinkC own index) (ha0 : arr_ia G a0 N0) (ha : arr_ia G a N1) (h1 : 0 ≤ sp) (h2 : 0 ≤ dp) (h3 : 0 ≤ c) (h4 : sp + c ≤ N0) (h5 : dp + c ≤ N1) (hframes : 1 ≤ (e_R E).frames) (hlocals : (st.map fun v => v.category).sum + 40 ≤ (e_R E).locals) (d : decode b pc = .ok (.invokestatic index, 3))
    (kk : WA G E k n (pc + 3) L st (cpI m a0 a sp.toNat dp.toNat c.toNat)) : WA G E k n pc L (vI c :: vI dp :: .ref a :: vI sp :: .ref a0 :: st) m := by
  intro H locs ls hW hS hl T hT X
  have hat0 := hW.1 a0 ha0.1
  rw [ha0.2.2 m] at hat0
  have hat1 := hW.1 a ha.1
  rw [ha.2.2 m] at hat1
  have hN0 := ha0.2.1
  have hN1 := ha.2.1
  obtain ⟨sp, rfl⟩ := oi_nz h1
  obtain ⟨dp, rfl⟩ := oi_nz h2
  obtain ⟨c, rfl⟩ := oi_nz h3
  have cl0 : (Int32.ofInt (sp : Int)).toNatClampNeg = sp := by rw [oi_n]; exact nI_clamp (by omega)
  have cl1 : (Int32.ofInt (dp : Int)).toNatClampNeg = dp := by rw [oi_n]; exact nI_clamp (by omega)
  have cl2 : (Int32.ofInt (c : Int)).toNatClampNeg = c := by rw [oi_n]; exact nI_clamp (by omega)
  have ti0 := oi_T (z := (sp : Int)) (by omega)
  have ti1 := oi_T (z := (dp : Int)) (by omega)
  have ti2 := oi_T (z := (c : Int)) (by omega)
  have ng : ∀ z : Nat, z < 2147483648 → ¬ Int32.ofInt (z : Int) < 0 := fun z hz => by rw [oi_n]; exact nI_pos hz
  have hc0 : H[g_ad G a0]? = some (vp_cell (g_cA G 0) (N0, .inl (fun j => Int32.ofInt (m.1 a0 j)))) := hat0
  have hc1 : H[g_ad G a]? = some (vp_cell (g_cA G 0) (N1, .inl (fun j => Int32.ofInt (m.1 a j)))) := hat1
  have hR := (ok.f.1.2 0 _ rfl).1
  obtain ⟨-, k0, hk0, cm0, hkk0⟩ := hR N0 (fun j => .int ((fun j => Int32.ofInt (m.1 a0 j)) j))
  obtain ⟨-, k1, hk1, cm1, hkk1⟩ := hR N1 (fun j => .int ((fun j => Int32.ofInt (m.1 a j)) j))
  have hn9 : nativeFrameWords "java/lang/System" "arraycopy" 5 + 11 ≤ 40 := by decide
  obtain ⟨vm', X', step⟩ := X.arraycopy ok.x ok.o (ok.w _ lk.1) (ok.w _ lk.2.1) (ok.w _ lk.2.2.1) (ok.w _ lk.2.2.2) (src := g_ad G a0) (dst := g_ad G a) (cs := vp_cell (g_cA G 0) (N0, .inl (fun j => Int32.ofInt (m.1 a0 j)))) (cd := vp_cell (g_cA G 0) (N1, .inl (fun j => Int32.ofInt (m.1 a j)))) (srcPos := Int32.ofInt (sp : Int)) (destPos := Int32.ofInt (dp : Int)) (n := Int32.ofInt (c : Int)) (by rw [hT]; exact hc0) (by rw [hT]; exact hc1)
    (fun _ h => by cases h) (fun _ h => by cases h) (fun h => by cases h) (fun h => by cases h) hk0 hk1 hkk0 hkk1 (by simp [refKind]) (ng sp (by omega)) (ng dp (by omega)) (ng c (by omega))
    (by rw [ti0, ti2]; show ¬ _ > ((arrV (g_cA G 0) N0 (fun j => .int ((fun j => Int32.ofInt (m.1 a0 j)) j))).slots.size : Int); rw [arrV_size]; omega)
    (by rw [ti1, ti2]; show ¬ _ > ((arrV (g_cA G 0) N1 (fun j => .int ((fun j => Int32.ofInt (m.1 a j)) j))).slots.size : Int); rw [arrV_size]; omega)
    (fun vm₁ _ i hi => by
      rw [cl2] at hi
      have e : (vp_cell (g_cA G 0) (N0, .inl (fun j => Int32.ofInt (m.1 a0 j)))).slots.getD ((Int32.ofInt (sp : Int)).toNatClampNeg + i) .null = .int ((fun j => Int32.ofInt (m.1 a0 j)) (sp + i)) := by
        rw [cl0]
        show (arrV (g_cA G 0) N0 (fun j => .int ((fun j => Int32.ofInt (m.1 a0 j)) j))).slots.getD _ _ = _
        rw [Array.getD_eq_getD_getElem?, arrV_read _ _ (by omega)]
        rfl
      refine ⟨?_, ?_⟩
      · rw [e]
        rfl
      · rw [e]
        exact trivial)
    (g := F0 (e_m E) pc ls ((vI (c : Int) :: vI (dp : Int) :: .ref a :: vI (sp : Int) :: .ref a0 :: st).map (cv (g_ad G)))) rfl (by rw [hl.1]) (rest := st.map (cv (g_ad G))) rfl (by rw [ok.b]; exact d) hframes (by have := sum_cv (g_ad G) st; show 2 * 0 + _ + _ ≤ _; omega)
  have e1 : copied (vp_cell (g_cA G 0) (N0, .inl (fun j => Int32.ofInt (m.1 a0 j)))) (vp_cell (g_cA G 0) (N1, .inl (fun j => Int32.ofInt (m.1 a j)))) (Int32.ofInt (sp : Int)) (Int32.ofInt (dp : Int)) (Int32.ofInt (c : Int)) = vp_cell (g_cA G 0) (N1, .inl (va_cpy (fun j => Int32.ofInt (m.1 a0 j)) (fun j => Int32.ofInt (m.1 a j)) sp dp c)) := by
    have h := va_copied (fun z => Value.int z) (g_cA G 0) (g_cA G 0) (n1 := N1) (dp := dp) (fun j => Int32.ofInt (m.1 a0 j)) (fun j => Int32.ofInt (m.1 a j)) (show sp + c ≤ N0 by omega)
    unfold copied
    rw [cl0, cl1, cl2]
    exact h
  rw [e1] at X' step
  have hlt : g_ad G a < H.size := (Array.getElem?_eq_some_iff.mp hc1).1
  have hheap : ((T.setVm vm').setCell (g_ad G a) (vp_cell (g_cA G 0) (N1, .inl (va_cpy (fun j => Int32.ofInt (m.1 a0 j)) (fun j => Int32.ofInt (m.1 a j)) sp dp c)))).heap = H.setIfInBounds (g_ad G a) (vp_cell (g_cA G 0) (N1, .inl (va_cpy (fun j => Int32.ofInt (m.1 a0 j)) (fun j => Int32.ofInt (m.1 a j)) sp dp c))) := by rw [← hT]; rfl
  have oq : ∀ q : Nat, q ≠ g_ad G a → (H.setIfInBounds (g_ad G a) (vp_cell (g_cA G 0) (N1, .inl (va_cpy (fun j => Int32.ofInt (m.1 a0 j)) (fun j => Int32.ofInt (m.1 a j)) sp dp c))))[q]? = H[q]? := fun q hq => by simp [Array.getElem?_setIfInBounds, Ne.symm hq]
  have hA := (ok.f.2.2.1 a ha.1).1
  have hW' : HW G (cpI m a0 a sp dp c) (H.setIfInBounds (g_ad G a) (vp_cell (g_cA G 0) (N1, .inl (va_cpy (fun j => Int32.ofInt (m.1 a0 j)) (fun j => Int32.ofInt (m.1 a j)) sp dp c)))) := by
    refine HW.put ok.f hW ha.1 ?_ oq cpI_ne
    rw [ha.2.2]
    show (H.setIfInBounds (g_ad G a) _)[g_ad G a]? = some (vp_cell _ _)
    rw [Array.getElem?_setIfInBounds]
    simp only [hlt, if_true]
    congr 4
    funext j
    simp only [va_cpy, cpI, true_and]
    try (split <;> rfl)
  obtain ⟨t, a1, b1⟩ := kk _ _ ls (by simpa using hW') ⟨by simp; exact hS.1, fun q g1 g2 => by
      rw [oq q (fun e => g2 (by rw [e]; exact hA))]
      exact hS.2.1 q g1 g2, fun q hq => by
      rcases List.mem_append.mp hq with h | h
      · exact hS.2.2 q h
      · obtain ⟨z, -, hz⟩ := List.mem_map.mp h
        rw [← hz]
        exact hA⟩ hl _ hheap X'
  exact ⟨t, step t a1, b1⟩
theorem ga_copy_fa (ok : OK0 G E own b) {index a0 a N0 N1 : Nat} {sp dp c : Int} (lk : LinkC own index) (ha0 : arr_fa G a0 N0) (ha : arr_fa G a N1) (h1 : 0 ≤ sp) (h2 : 0 ≤ dp) (h3 : 0 ≤ c) (h4 : sp + c ≤ N0) (h5 : dp + c ≤ N1) (hframes : 1 ≤ (e_R E).frames) (hlocals : (st.map fun v => v.category).sum + 40 ≤ (e_R E).locals) (d : decode b pc = .ok (.invokestatic index, 3))
    (kk : WA G E k n (pc + 3) L st (cpF m a0 a sp.toNat dp.toNat c.toNat)) : WA G E k n pc L (vI c :: vI dp :: .ref a :: vI sp :: .ref a0 :: st) m := by
  intro H locs ls hW hS hl T hT X
  have hat0 := hW.1 a0 ha0.1
  rw [ha0.2.2 m] at hat0
  have hat1 := hW.1 a ha.1
  rw [ha.2.2 m] at hat1
  have hN0 := ha0.2.1
  have hN1 := ha.2.1
  obtain ⟨sp, rfl⟩ := oi_nz h1
  obtain ⟨dp, rfl⟩ := oi_nz h2
  obtain ⟨c, rfl⟩ := oi_nz h3
  have cl0 : (Int32.ofInt (sp : Int)).toNatClampNeg = sp := by rw [oi_n]; exact nI_clamp (by omega)
  have cl1 : (Int32.ofInt (dp : Int)).toNatClampNeg = dp := by rw [oi_n]; exact nI_clamp (by omega)
  have cl2 : (Int32.ofInt (c : Int)).toNatClampNeg = c := by rw [oi_n]; exact nI_clamp (by omega)
  have ti0 := oi_T (z := (sp : Int)) (by omega)
  have ti1 := oi_T (z := (dp : Int)) (by omega)
  have ti2 := oi_T (z := (c : Int)) (by omega)
  have ng : ∀ z : Nat, z < 2147483648 → ¬ Int32.ofInt (z : Int) < 0 := fun z hz => by rw [oi_n]; exact nI_pos hz
  have hc0 : H[g_ad G a0]? = some (vp_cell (g_cA G 1) (N0, .inr (.inr (.inl (fun j => m.2 a0 j))))) := hat0
  have hc1 : H[g_ad G a]? = some (vp_cell (g_cA G 1) (N1, .inr (.inr (.inl (fun j => m.2 a j))))) := hat1
  have hR := (ok.f.1.2 1 _ rfl).1
  obtain ⟨-, k0, hk0, cm0, hkk0⟩ := hR N0 (fun j => .float ((fun j => m.2 a0 j) j))
  obtain ⟨-, k1, hk1, cm1, hkk1⟩ := hR N1 (fun j => .float ((fun j => m.2 a j) j))
  have hn9 : nativeFrameWords "java/lang/System" "arraycopy" 5 + 11 ≤ 40 := by decide
  obtain ⟨vm', X', step⟩ := X.arraycopy ok.x ok.o (ok.w _ lk.1) (ok.w _ lk.2.1) (ok.w _ lk.2.2.1) (ok.w _ lk.2.2.2) (src := g_ad G a0) (dst := g_ad G a) (cs := vp_cell (g_cA G 1) (N0, .inr (.inr (.inl (fun j => m.2 a0 j))))) (cd := vp_cell (g_cA G 1) (N1, .inr (.inr (.inl (fun j => m.2 a j))))) (srcPos := Int32.ofInt (sp : Int)) (destPos := Int32.ofInt (dp : Int)) (n := Int32.ofInt (c : Int)) (by rw [hT]; exact hc0) (by rw [hT]; exact hc1)
    (fun _ h => by cases h) (fun _ h => by cases h) (fun h => by cases h) (fun h => by cases h) hk0 hk1 hkk0 hkk1 (by simp [refKind]) (ng sp (by omega)) (ng dp (by omega)) (ng c (by omega))
    (by rw [ti0, ti2]; show ¬ _ > ((arrV (g_cA G 1) N0 (fun j => .float ((fun j => m.2 a0 j) j))).slots.size : Int); rw [arrV_size]; omega)
    (by rw [ti1, ti2]; show ¬ _ > ((arrV (g_cA G 1) N1 (fun j => .float ((fun j => m.2 a j) j))).slots.size : Int); rw [arrV_size]; omega)
    (fun vm₁ _ i hi => by
      rw [cl2] at hi
      have e : (vp_cell (g_cA G 1) (N0, .inr (.inr (.inl (fun j => m.2 a0 j))))).slots.getD ((Int32.ofInt (sp : Int)).toNatClampNeg + i) .null = .float ((fun j => m.2 a0 j) (sp + i)) := by
        rw [cl0]
        show (arrV (g_cA G 1) N0 (fun j => .float ((fun j => m.2 a0 j) j))).slots.getD _ _ = _
        rw [Array.getD_eq_getD_getElem?, arrV_read _ _ (by omega)]
        rfl
      refine ⟨?_, ?_⟩
      · rw [e]
        rfl
      · rw [e]
        exact trivial)
    (g := F0 (e_m E) pc ls ((vI (c : Int) :: vI (dp : Int) :: .ref a :: vI (sp : Int) :: .ref a0 :: st).map (cv (g_ad G)))) rfl (by rw [hl.1]) (rest := st.map (cv (g_ad G))) rfl (by rw [ok.b]; exact d) hframes (by have := sum_cv (g_ad G) st; show 2 * 0 + _ + _ ≤ _; omega)
  have e1 : copied (vp_cell (g_cA G 1) (N0, .inr (.inr (.inl (fun j => m.2 a0 j))))) (vp_cell (g_cA G 1) (N1, .inr (.inr (.inl (fun j => m.2 a j))))) (Int32.ofInt (sp : Int)) (Int32.ofInt (dp : Int)) (Int32.ofInt (c : Int)) = vp_cell (g_cA G 1) (N1, .inr (.inr (.inl (va_cpy (fun j => m.2 a0 j) (fun j => m.2 a j) sp dp c)))) := by
    have h := va_copied (fun z => Value.float z) (g_cA G 1) (g_cA G 1) (n1 := N1) (dp := dp) (fun j => m.2 a0 j) (fun j => m.2 a j) (show sp + c ≤ N0 by omega)
    unfold copied
    rw [cl0, cl1, cl2]
    exact h
  rw [e1] at X' step
  have hlt : g_ad G a < H.size := (Array.getElem?_eq_some_iff.mp hc1).1
  have hheap : ((T.setVm vm').setCell (g_ad G a) (vp_cell (g_cA G 1) (N1, .inr (.inr (.inl (va_cpy (fun j => m.2 a0 j) (fun j => m.2 a j) sp dp c)))))).heap = H.setIfInBounds (g_ad G a) (vp_cell (g_cA G 1) (N1, .inr (.inr (.inl (va_cpy (fun j => m.2 a0 j) (fun j => m.2 a j) sp dp c))))) := by rw [← hT]; rfl
  have oq : ∀ q : Nat, q ≠ g_ad G a → (H.setIfInBounds (g_ad G a) (vp_cell (g_cA G 1) (N1, .inr (.inr (.inl (va_cpy (fun j => m.2 a0 j) (fun j => m.2 a j) sp dp c))))))[q]? = H[q]? := fun q hq => by simp [Array.getElem?_setIfInBounds, Ne.symm hq]
  have hA := (ok.f.2.2.1 a ha.1).1
  have hW' : HW G (cpF m a0 a sp dp c) (H.setIfInBounds (g_ad G a) (vp_cell (g_cA G 1) (N1, .inr (.inr (.inl (va_cpy (fun j => m.2 a0 j) (fun j => m.2 a j) sp dp c)))))) := by
    refine HW.put ok.f hW ha.1 ?_ oq cpF_ne
    rw [ha.2.2]
    show (H.setIfInBounds (g_ad G a) _)[g_ad G a]? = some (vp_cell _ _)
    rw [Array.getElem?_setIfInBounds]
    simp only [hlt, if_true]
    congr 6
    funext j
    simp only [va_cpy, cpF, true_and]
    try (split <;> rfl)
  obtain ⟨t, a1, b1⟩ := kk _ _ ls (by simpa using hW') ⟨by simp; exact hS.1, fun q g1 g2 => by
      rw [oq q (fun e => g2 (by rw [e]; exact hA))]
      exact hS.2.1 q g1 g2, fun q hq => by
      rcases List.mem_append.mp hq with h | h
      · exact hS.2.2 q h
      · obtain ⟨z, -, hz⟩ := List.mem_map.mp h
        rw [← hz]
        exact hA⟩ hl _ hheap X'
  exact ⟨t, step t a1, b1⟩
def LinkF (own : String) (index : Nat) (y : MethodName) : Prop := Cond.methodLink own index y ∈ BIG ∧ Cond.native y ∈ BIG ∧ Cond.static y ∈ BIG ∧ Cond.initialized "java/lang/Float" ∈ BIG
theorem ga_rawBits (ok : OK0 G E own b) {index : Nat} {x : UInt32} {z : Int} (lk : LinkF own index ⟨"java/lang/Float", "floatToRawIntBits", "(F)I"⟩) (hframes : 1 ≤ (e_R E).frames) (hlocals : (st.map fun v => v.category).sum + 15 ≤ (e_R E).locals) (hz : x.toInt32 = Int32.ofInt z) (d : decode b pc = .ok (.invokestatic index, 3))
    (kk : WA G E k n (pc + 3) L (vI z :: st) m) : WA G E k n pc L (.float x :: st) m := by
  intro H locs ls hW hS hl
  refine vn_f2i ok.x ok.b hl.1.symm ok.o (ok.w _ lk.1) (ok.w _ lk.2.1) (ok.w _ lk.2.2.1) (ok.w _ lk.2.2.2) hframes (by have := sum_cv (g_ad G) st; omega) d ?_
  rw [hz]
  exact kk H locs ls hW hS hl
theorem ga_bitsToFloat (ok : OK0 G E own b) {index : Nat} {z : Int} (lk : LinkF own index ⟨"java/lang/Float", "intBitsToFloat", "(I)F"⟩) (hv : vn_sni2f (Int32.ofInt z) = false) (hframes : 1 ≤ (e_R E).frames) (hlocals : (st.map fun v => v.category).sum + 15 ≤ (e_R E).locals) (d : decode b pc = .ok (.invokestatic index, 3))
    (kk : WA G E k n (pc + 3) L (.float (Int32.ofInt z).toUInt32 :: st) m) : WA G E k n pc L (vI z :: st) m := by
  intro H locs ls hW hS hl
  exact vn_i2f ok.x ok.b hl.1.symm ok.o (ok.w _ lk.1) (ok.w _ lk.2.1) (ok.w _ lk.2.2.1) (ok.w _ lk.2.2.2) hv hframes (by have := sum_cv (g_ad G) st; omega) d (kk H locs ls hW hS hl)
/-- the words of a throw -/
def LinkT (own cls : String) (names : List String) (ik ic : Nat) : Prop := Bundle.fit cls = true ∧ (∀ q ∈ names, Bundle.fit q = true) ∧ Cond.classLink own ik cls ∈ BIG ∧ Cond.initialized cls ∈ BIG ∧ (∀ w ∈ vx_atS own ic cls names, w ∈ SPW ∨ w ∈ BIG) ∧ cls ∈ excs ∧ (∀ w ∈ Cond.classLink own ik cls :: Cond.initialized cls :: vx_atS own ic cls names, vx_ot w = true) ∧ names.length ≤ 4
theorem ga_throw (ok : OK0 G E own b) {cls text : String} {names : List String} {ik is ic : Nat} {rm : Room} {ret : Option FieldType} {Qr : Option Value → Mm → Prop} {Qx : String → Mm → Prop} (en : EndOK G E rm ret Qr Qx) (hx : ∀ x ∈ (e_c E).exceptionTable.toList, False) (lk : LinkT own cls names ik ic) (htx : (own, is, text) ∈ msgs)
    (hR : 8 ≤ rm.frames ∧ 200 ≤ rm.locals ∧ k + 1 ≤ rm.cells ∧ n + 6 ≤ rm.slots) (hw : (st.map fun v => v.category).sum ≤ 8)
    (d0 : decode b pc = .ok (.new ik, 3)) (d3 : decode b (pc + 3) = .ok (.dup, 1)) (d4 : decode b (pc + 4) = .ok (.ldc is, 2)) (d6 : decode b (pc + 6) = .ok (.invokespecial ic, 3)) (d9 : decode b (pc + 9) = .ok (.athrow, 1)) (hq : Qx cls m) : WA G E k n pc L st m := by
  intro H locs ls hW hS hl
  obtain ⟨e1, e2, e3, e4⟩ := en
  obtain ⟨l1, l2, l3, l4, l5, l8, l6, l7⟩ := lk
  obtain ⟨h1, h2, h3, h4, h5, h6, hU, hN, hT, hC, -⟩ := ok.f
  obtain ⟨sa, hsa⟩ := hT _ htx
  show gW E k n H locs _
  unfold gW
  rw [e1]
  have hsum := sum_cv (g_ad G) st
  refine vx_throwS ok.x ok.b ok.2.2.2.2.2 ok.o l1 l2 (ok.w _ l3) (ok.w _ l4) hsa (fun w h => (l5 w h).elim (fun e => va_Nw.use (spw_onT e) (hC _ e)) (fun e => ok.w _ e)) l6 hU hN hS hl.1 d0 d3 d4 d6 d9 (fun x h => (hx x h).elim) (by rw [e4]; omega) (by rw [e4]; omega) (by rw [e4]; omega) (by rw [e4]; omega) e2 (fun t ht hz hk => ?_) (fun q h => hS.2.2 q h) (by omega) (by omega)
  refine ⟨⟨m, hq, fun j hj => ?_, ?_⟩, ?_⟩
  · exact (hW.1 j hj).kept (hk _ (hW.1 j hj).lt)
  · exact h5 m H t.heap hW.2 (fun q hq _ => hk q hq)
  · exact ⟨Nat.le_trans hS.1 hz, fun q g1 g2 => by rw [hk q (Nat.lt_of_lt_of_le g1 hS.1)]; exact hS.2.1 q g1 g2⟩
theorem ga_throwW (ok : OK0 G E own b) {cls text : String} {names : List String} {ik is ic : Nat} {rm : Room} {ret : Option FieldType} {Qr : Option Value → Mm → Prop} {Qx : String → Mm → Prop} (en : EndOK G E rm ret Qr Qx) (hx : ∀ x ∈ (e_c E).exceptionTable.toList, False) (lk : LinkT own cls names ik ic) (htx : (own, is, text) ∈ msgs)
    (hR : 8 ≤ rm.frames ∧ 200 ≤ rm.locals ∧ k + 1 ≤ rm.cells ∧ n + 6 ≤ rm.slots) (hw : (st.map fun v => v.category).sum ≤ 8)
    (d0 : decode b pc = .ok (.new ik, 3)) (d3 : decode b (pc + 3) = .ok (.dup, 1)) (d4 : decode b (pc + 4) = .ok (.ldc_w is, 3)) (d6 : decode b (pc + 7) = .ok (.invokespecial ic, 3)) (d9 : decode b (pc + 10) = .ok (.athrow, 1)) (hq : Qx cls m) : WA G E k n pc L st m := by
  intro H locs ls hW hS hl
  obtain ⟨e1, e2, e3, e4⟩ := en
  obtain ⟨l1, l2, l3, l4, l5, l8, l6, l7⟩ := lk
  obtain ⟨h1, h2, h3, h4, h5, h6, hU, hN, hT, hC, -⟩ := ok.f
  obtain ⟨sa, hsa⟩ := hT _ htx
  show gW E k n H locs _
  unfold gW
  rw [e1]
  have hsum := sum_cv (g_ad G) st
  refine vx_throwSW ok.x ok.b ok.2.2.2.2.2 ok.o l1 l2 (ok.w _ l3) (ok.w _ l4) hsa (fun w h => (l5 w h).elim (fun e => va_Nw.use (spw_onT e) (hC _ e)) (fun e => ok.w _ e)) l6 hU hN hS hl.1 d0 d3 d4 d6 d9 (fun x h => (hx x h).elim) (by rw [e4]; omega) (by rw [e4]; omega) (by rw [e4]; omega) (by rw [e4]; omega) e2 (fun t ht hz hk => ?_) (fun q h => hS.2.2 q h) (by omega) (by omega)
  refine ⟨⟨m, hq, fun j hj => ?_, ?_⟩, ?_⟩
  · exact (hW.1 j hj).kept (hk _ (hW.1 j hj).lt)
  · exact h5 m H t.heap hW.2 (fun q hq _ => hk q hq)
  · exact ⟨Nat.le_trans hS.1 hz, fun q g1 g2 => by rw [hk q (Nat.lt_of_lt_of_le g1 hS.1)]; exact hS.2.1 q g1 g2⟩
end NAT
theorem lc_X1_41 : LinkC RX1 41 := ⟨tb_in 355 (by decide +kernel) (by decide +kernel), tb_in 357 (by decide +kernel) (by decide +kernel), tb_in 356 (by decide +kernel) (by decide +kernel), tb_in 14 (by decide +kernel) (by decide +kernel)⟩
theorem lf_Jf_74 : LinkF "java/lang/Float" 74 ⟨"java/lang/Float", "floatToRawIntBits", "(F)I"⟩ := ⟨tb_in 826 (by decide +kernel) (by decide +kernel), tb_in 828 (by decide +kernel) (by decide +kernel), tb_in 827 (by decide +kernel) (by decide +kernel), tb_in 25 (by decide +kernel) (by decide +kernel)⟩
theorem lt_IllegalArgumentException : LinkT RX3 "java/lang/IllegalArgumentException" ["java/lang/RuntimeException", "java/lang/Exception"] 106 110 := ⟨by decide +kernel, by decide +kernel, tb_in 247 (by decide +kernel) (by decide +kernel), tb_in 12 (by decide +kernel) (by decide +kernel), by decide +kernel, by decide +kernel, by decide +kernel, by decide⟩
theorem lt_UnsupportedOperationException : LinkT RX3 "java/lang/UnsupportedOperationException" ["java/lang/RuntimeException", "java/lang/Exception"] 75 79 := ⟨by decide +kernel, by decide +kernel, tb_in 327 (by decide +kernel) (by decide +kernel), tb_in 13 (by decide +kernel) (by decide +kernel), by decide +kernel, by decide +kernel, by decide +kernel, by decide⟩
theorem lt_IndexOutOfBoundsException : LinkT RX3 "java/lang/IndexOutOfBoundsException" ["java/lang/RuntimeException", "java/lang/Exception"] 276 280 := ⟨by decide +kernel, by decide +kernel, tb_in 405 (by decide +kernel) (by decide +kernel), tb_in 15 (by decide +kernel) (by decide +kernel), by decide +kernel, by decide +kernel, by decide +kernel, by decide⟩
theorem lt_ArithmeticException : LinkT RX3 "java/lang/ArithmeticException" ["java/lang/RuntimeException", "java/lang/Exception"] 197 201 := ⟨by decide +kernel, by decide +kernel, tb_in 1006 (by decide +kernel) (by decide +kernel), tb_in 27 (by decide +kernel) (by decide +kernel), by decide +kernel, by decide +kernel, by decide +kernel, by decide⟩
theorem lt_IllegalStateException : LinkT RX3 "java/lang/IllegalStateException" ["java/lang/RuntimeException", "java/lang/Exception"] 287 291 := ⟨by decide +kernel, by decide +kernel, tb_in 1202 (by decide +kernel) (by decide +kernel), tb_in 28 (by decide +kernel) (by decide +kernel), by decide +kernel, by decide +kernel, by decide +kernel, by decide⟩
