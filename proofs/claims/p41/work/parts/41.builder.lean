/-! A WORLD WITH A BUILDER: her cell and her rows of bytes are hidden; addresses stand in memory -/
def RAW : Nat := 1000000
def raw (z : Int) : Value := .ref (RAW + z.toNat)
def sbF (m : Mm) : List Value := [.ref (m.1 960 2).toNat, .int 0, .int (Int32.ofInt (m.1 960 1)), .int (Int32.ofInt (m.1 960 0))]
def sbX (A9 : Nat → Prop) (cA : Nat → ClassId) (dm : Nat → Prop) (ad : Nat → Nat) (D : va_G) (m : Mm) (H : Heap) : Prop :=
  va_at D vcl (ad 960, .inr (5, sbF m)) H ∧ va_at D vcl ((m.1 960 2).toNat, .inl (cA 8, (m.1 960 3).toNat, .inl (fun j => Int32.ofInt (m.1 961 j)))) H ∧
  (A9 (ad 960) ∧ A9 (m.1 960 2).toNat ∧ (m.1 960 2).toNat ≠ ad 960 ∧ ∀ n, dm n → ad n ≠ ad 960 ∧ ad n ≠ (m.1 960 2).toNat) ∧
  (m.1 960 4 = 1 → va_at D vcl ((m.1 960 5).toNat, .inl (cA 8, (m.1 960 6).toNat, .inl (fun j => Int32.ofInt (m.1 960 (16 + j))))) H ∧ A9 (m.1 960 5).toNat ∧ (m.1 960 5).toNat ≠ ad 960 ∧ (m.1 960 5).toNat ≠ (m.1 960 2).toNat ∧ ∀ n, dm n → ad n ≠ (m.1 960 5).toNat)
def dig1 (j : Nat) : Int := 48 + (j : Int) % 10
def dig2 (j : Nat) : Int := 48 + (j : Int) / 10
def DGR (A : Nat → Prop) (nm : String) (f : Nat → Int) (u : State) : Prop := ∃ (a : Nat) (cell : Cell), va_Z "java/lang/Integer" nm "[B" (.ref a) A u u.heap ∧ u.heap[a]? = some cell ∧ ¬ A a ∧ u.isArrayOf cell .byte ∧ cell.vm ≠ .unknown ∧ cell.slots.size = 100 ∧ ∀ j, j < 100 → cell.slots[j]? = some (.int (Int32.ofInt (f j)))
def SST (A : Nat → Prop) (u : State) : Prop := va_Z "java/lang/String" "COMPACT_STRINGS" "Z" (.int 1) A u u.heap ∧ (∃ v, (v = .null ∨ ∃ a, v = .ref a) ∧ va_Z "jdk/internal/util/Preconditions" "SIOOBE_FORMATTER" "Ljava/util/function/BiFunction;" v A u u.heap) ∧ DGR A "DigitOnes" dig1 u ∧ DGR A "DigitTens" dig2 u ∧ (Cond.selects RJ4 yJ5_ensureCapacityInternal_d00df yJ5_ensureCapacityInternal_d00df).before #[] u = true ∧ (Cond.selects RJ4 yJ5_newCapacity_0f7a4 yJ5_newCapacity_0f7a4).before #[] u = true ∧ (Cond.selects RJ4 yJ5_putStringAt_47b60 yJ5_putStringAt_47b60).before #[] u = true ∧ (Cond.selects RJ4 yJ5_inflateIfNeededFor_a7421 yJ5_inflateIfNeededFor_a7421).before #[] u = true
def SBW (G : GG) : Prop := (∀ a, g_ad G (RAW + a) = a) ∧ g_ex G = sbX (g_A G) (g_cA G) (g_dm G) ∧ ∀ u, g_st G u → SST (g_A G) u
theorem SBW.raw {G : GG} (h : SBW G) (z : Int) : cv (g_ad G) (raw z) = .ref z.toNat := by
  show Value.ref (g_ad G (RAW + z.toNat)) = _
  rw [h.1]
/-- the builder is as she may be -/
def SBk (m : Mm) : Prop := (0 ≤ m.1 960 0 ∧ m.1 960 0 ≤ m.1 960 3) ∧ (0 ≤ m.1 960 3 ∧ m.1 960 3 ≤ 200) ∧ (m.1 960 1 = 0 ∨ m.1 960 1 = 1) ∧ 0 ≤ m.1 960 2 ∧ ∀ i : Nat, (i : Int) < m.1 960 3 → -128 ≤ m.1 961 i ∧ m.1 961 i ≤ 127
theorem HW.hid {G : GG} {s : State} {m m' : Mm} {H H1 : Heap} (hf : SF G s) (hW : HW G m H) (hm : ∀ n, n ≠ 960 → n ≠ 961 → m.1 n = m'.1 n) (hm2 : m.2 = m'.2) (oq : ∀ n, g_dm G n → H1[g_ad G n]? = H[g_ad G n]?) (hx : g_ex G (g_ad G) (g_D G) m' H1) : HW G m' H1 := by
  refine ⟨fun n hn => ?_, hx⟩
  have h3 := (hf.2.2.1 n hn).2
  rw [← hf.2.2.2.1 m m' n hn (hm n h3.1 h3.2) (by rw [hm2])]
  exact (hW.1 n hn).kept (oq n hn)
/-! contracts without exceptions as the kit's -/
theorem CT.met {G : GG} {l : Launch} {y : MethodName} {bytes : ByteArray} {maxL : Nat} {ret : Option FieldType} {rm : Room} {av : List Value} {m : Mm} {Qr : Option Value → Mm → Prop} (h : CT G l y bytes maxL ret rm av m Qr (fun _ _ => False)) :
    Met l y (Cond.code y bytes maxL ret :: BIG) rm (va_Pc (av.map (cv (g_ad G))) (fun U => SF G U ∧ HW G m U.heap)) (qR G Qr) rm.cells rm.slots (g_A G) := by
  intro p e h1 h2 h3 s m0 args below h4 h5 h6 h7
  obtain ⟨n, o, a1, a2, a3, a4⟩ := h p e h1 h2 h3 s m0 args below h4 h5 h6 h7
  refine ⟨n, o, a1, a2, a3, ?_⟩
  rcases a4 with a4 | ⟨q, -, hT⟩
  · exact a4
  · obtain ⟨L, X, ce, ⟨⟨m', hq, -⟩, -⟩, -⟩ := hT
    exact hq.elim
section SBC
variable {G : GG} {E : EE} {own : String} {b : ByteArray} {k n pc : Nat} {L : List (Nat × Value)} {st : List Value} {m : Mm}
theorem ga_backM {Qr : Option Value → Mm → Prop} {mc ms : Nat} {g0 : List Value} {a : Array Value}
    (hr : ∀ (H : Heap) (locs : List Loc) (ls : Array Slot), HW G m H → va_S (g_A G) (e_s E).heap H locs → ls.size = (e_c E).maxLocals → va_Run (e_p E) (e_l E) (e_e E) (e_R E) (e_s E) (e_m E) (e_a E) (e_b E) (e_t E) (e_c E) H locs k n mc ms (F0 (e_m E) pc ls (g0.map (cv (g_ad G)))) (st.map (cv (g_ad G))) (qR G Qr a) (g_A G))
    (kr : ∀ (r : Option Value) (m' : Mm), Qr r m' → WA G E (k + mc) (n + ms) (pc + 3) L (r.toList ++ st) m') : WA G E k n pc L g0 m := by
  intro H locs ls hW hS hl T hT X
  obtain ⟨v, st₀, t, T', Lc, h0, X', hL, e1, e2, ⟨⟨r, m', hv, hp, hb⟩, hF⟩, hst⟩ := hr H locs ls hW hS hl.1 T hT X
  obtain ⟨k1, k2, k3⟩ := vx_keep h0 e1 hS (fun q _ h => h) (fun q h => h) hL hF
  have hv' : v = r.map (cv (g_ad G)) := by injection hv
  subst hv'
  obtain ⟨t2, a1, b1⟩ := kr r m' hp T'.heap (locs ++ Lc) ls (by rw [e1]; exact hb) k3 hl T' rfl X'
  refine ⟨t2, hst t2 ?_, b1⟩
  have e9 : (r.map (cv (g_ad G))).toList ++ st.map (cv (g_ad G)) = (r.toList ++ st).map (cv (g_ad G)) := by cases r <;> rfl
  rw [e9]
  exact a1
/-- her class -/
theorem sb_cls (ok : OK0 G E own b) (hS : SBW G) {H : Heap} (hW : HW G m H) : ∃ cell : Cell, H[g_ad G 960]? = some cell ∧ cell.vm.isStatics = false ∧ (e_s E).vm.findClass RJ4 = some cell.cls := by
  have hx := hW.2
  rw [hS.2.1] at hx
  obtain ⟨q', g0, cell, g1, g2, g3, -⟩ := hx.1
  have hqq : q' = (RJ4, TJ4, 4) := Option.some.inj (g0.symm.trans rfl)
  subst hqq
  exact ⟨cell, g1, by rw [g3]; rfl, by rw [g2]; exact (ok.f.1.1 5 (RJ4, TJ4, 4) rfl).2.1⟩
theorem ga_callB (ok : OK0 G E own b) (hS : SBW G) {y : MethodName} {bytes : ByteArray} {maxL index na : Nat} {ret : Option FieldType} {rm : Room} {Qr : Option Value → Mm → Prop} {Qx : String → Mm → Prop} (as : List Value)
    (lk : LinkV own index y bytes maxL ret na) (hy : y.cls = RJ4) (hC : CT G (e_l E) y bytes maxL ret rm (.ref 960 :: as) m Qr Qx) (hn : as.length = na) (hf : Fits (e_R E) rm maxL k n) (hw : (st.map fun v => v.category).sum ≤ 8)
    (d : decode b pc = .ok (.invokevirtual index, 3))
    (kr : ∀ (r : Option Value) (m' : Mm), Qr r m' → WA G E (k + rm.cells) (n + rm.slots) (pc + 3) L (r.toList ++ st) m')
    (kx : ∀ (X : String) (m' : Mm), Qx X m' → WX G E (k + rm.cells) (n + rm.slots) pc L m' X) : WA G E k n pc L (as.reverse ++ .ref 960 :: st) m := by
  obtain ⟨f1, f2, f3, f4⟩ := hf
  refine ga_back (a := (Value.ref (g_ad G 960) :: as.map (cv (g_ad G))).toArray) (fun H locs ls hW hS2 hsz => ?_) kr kx
  have cw := cwV (R := e_R E) (s := e_s E) (args := e_a E) (own := own) (C := y.cls) (index := index) (y := y) (bytes := bytes) (maxL := maxL) (ret := ret) (Ts := BIG) (ws := Cond.code y bytes maxL ret :: BIG) (ws' := BIG) (rm := rm) (mc := rm.cells) (ms := rm.slots) na ok.w (big_in (fun w hw => by
    rcases List.mem_append.mp hw with h | h
    · exact lk.1 w h
    · rcases List.mem_cons.mp h with h | h
      · rw [h]; exact lk.2.1
      · exact h)) rfl rfl rfl ⟨rfl, lk.2.2⟩ ⟨f1, f2⟩
  have hcl := sb_cls ok hS hW
  rw [← hy] at hcl
  refine vx_runV (As := as.map (cv (g_ad G))) (rest := st.map (cv (g_ad G))) ⟨ok.x, ok.b, rfl, ok.o, ok.w⟩ hC cw ⟨blind_CT G (.ref 960 :: as) m, hcl, fun U hU hWm => ⟨rfl, SF.moved hWm (by rw [hU]; exact hS2.1) (fun q h1 h2 => ?_) ok.f, by rw [hU]; exact hW⟩⟩ rfl (by rw [List.length_map]; exact hn) hsz (by simp [cv]) ?_ d ⟨f3, f4⟩
  · rw [hU]; exact hS2.2.1 q h1 h2
  · have := sum_cv (g_ad G) st
    exact lv_room (by omega)
/-- super.m(..) -/
def LinkSU (own : String) (index : Nat) (y : MethodName) (bytes : ByteArray) (maxL : Nat) (ret : Option FieldType) (na : Nat) : Prop :=
  (∀ w ∈ ([.methodLink own index y, .sameMethod y.cls y.cls y.name y.desc, .superclass own y.cls, .instanceMethod y, .initialized y.cls] : List Cond), w ∈ BIG) ∧ Cond.code y bytes maxL ret ∈ BIG ∧ y.name ≠ "<init>" ∧ (parseMethodDescriptor y.desc).map (fun d => d.parameters.length) = some na
theorem ga_callSU (ok : OK0 G E own b) (hS : SBW G) {y : MethodName} {bytes : ByteArray} {maxL index na : Nat} {ret : Option FieldType} {rm : Room} {Qr : Option Value → Mm → Prop} (as : List Value)
    (lk : LinkSU own index y bytes maxL ret na) (hC : CT G (e_l E) y bytes maxL ret rm (.ref 960 :: as) m Qr (fun _ _ => False)) (hn : as.length = na) (hf : Fits (e_R E) rm maxL k n) (hw : (st.map fun v => v.category).sum ≤ 8)
    (d : decode b pc = .ok (.invokespecial index, 3))
    (kr : ∀ (r : Option Value) (m' : Mm), Qr r m' → WA G E (k + rm.cells) (n + rm.slots) (pc + 3) L (r.toList ++ st) m') : WA G E k n pc L (as.reverse ++ .ref 960 :: st) m := by
  obtain ⟨f1, f2, f3, f4⟩ := hf
  refine ga_backM (a := (Value.ref (g_ad G 960) :: as.map (cv (g_ad G))).toArray) (fun H locs ls hW hS2 hsz => ?_) kr
  have cw := va_cwSU (R := e_R E) (s := e_s E) (args := e_a E) (own := own) (index := index) (y := y) (bytes := bytes) (maxL := maxL) (ret := ret) (Ts := BIG) (ws := Cond.code y bytes maxL ret :: BIG) (ws' := BIG) (rm := rm) (mc := rm.cells) (ms := rm.slots) na ok.w (big_in (fun w hw => by
    unfold va_wsSU at hw
    rcases List.mem_append.mp hw with h | h
    · exact lk.1 w h
    · rcases List.mem_cons.mp h with h | h
      · rw [h]; exact lk.2.1
      · exact h)) rfl rfl rfl lk.2.2 ⟨f1, f2⟩
  refine va_runSU (As := as.map (cv (g_ad G))) (rest := st.map (cv (g_ad G))) (ok.f.1.1 5 (RJ4, TJ4, 4) rfl).2 ⟨ok.x, ok.b, rfl, ok.o, ok.w⟩ hC.met cw ⟨blind_CT G (.ref 960 :: as) m, sb_cls ok hS hW, fun U hU hWm => ⟨rfl, SF.moved hWm (by rw [hU]; exact hS2.1) (fun q h1 h2 => ?_) ok.f, by rw [hU]; exact hW⟩⟩ rfl (by rw [List.length_map]; exact hn) hsz (by simp [cv]) ?_ d ⟨f3, f4⟩
  · rw [hU]; exact hS2.2.1 q h1 h2
  · have := sum_cv (g_ad G) st
    exact lv_room (by omega)
/-- a method of her superclass on herself, by her superclass's own reference -/
def LinkVU (own : String) (index : Nat) (y : MethodName) (bytes : ByteArray) (maxL : Nat) (ret : Option FieldType) (na : Nat) : Prop :=
  (∀ w ∈ ([.methodLink own index y, .sameMethod y.cls y.cls y.name y.desc, .instanceMethod y, .initialized y.cls] : List Cond), w ∈ BIG) ∧ Cond.code y bytes maxL ret ∈ BIG ∧
  (y.cls ≠ "java/lang/invoke/MethodHandle" ∧ y.cls ≠ "java/lang/invoke/VarHandle" ∧ (parseMethodDescriptor y.desc).map (fun d => d.parameters.length) = some na)
theorem ga_callVU (ok : OK0 G E own b) (hS : SBW G) {y : MethodName} {bytes : ByteArray} {maxL index na : Nat} {ret : Option FieldType} {rm : Room} {Qr : Option Value → Mm → Prop} (as : List Value)
    (lk : LinkVU own index y bytes maxL ret na) (hsel : (Cond.selects RJ4 y y).before (e_a E) (e_s E) = true) (hC : CT G (e_l E) y bytes maxL ret rm (.ref 960 :: as) m Qr (fun _ _ => False)) (hn : as.length = na) (hf : Fits (e_R E) rm maxL k n) (hw : (st.map fun v => v.category).sum ≤ 8)
    (d : decode b pc = .ok (.invokevirtual index, 3))
    (kr : ∀ (r : Option Value) (m' : Mm), Qr r m' → WA G E (k + rm.cells) (n + rm.slots) (pc + 3) L (r.toList ++ st) m') : WA G E k n pc L (as.reverse ++ .ref 960 :: st) m := by
  obtain ⟨f1, f2, f3, f4⟩ := hf
  refine ga_backM (a := (Value.ref (g_ad G 960) :: as.map (cv (g_ad G))).toArray) (fun H locs ls hW hS2 hsz => ?_) kr
  have hcb := ok.w _ lk.2.1
  have hws : ∀ w ∈ (Cond.code y bytes maxL ret :: BIG), ∀ (a' : Array Value) (U : State), (e_s E).WarmedH U.vm → w.before a' U = true := pay_in ok.w (big_in (fun w hw => by
    rcases List.mem_cons.mp hw with h | h
    · rw [h]; exact lk.2.1
    · exact h))
  have hl : ∀ w ∈ ([.methodLink own index y, .sameMethod y.cls y.cls y.name y.desc, .instanceMethod y, .initialized y.cls] : List Cond), w.before (e_a E) (e_s E) = true := fun w hw => ok.w w (lk.1 w hw)
  have cw : va_CU (e_R E) (e_s E) (e_a E) own RJ4 y.cls index y y bytes maxL ret (Cond.code y bytes maxL ret :: BIG) rm rm.cells rm.slots na := by
    refine ⟨⟨rfl, rfl, f1, f2, hws, List.mem_cons_self⟩, hcb, hl _ (by simp), ⟨lk.2.2.1, lk.2.2.2.1⟩, fun sig h => ?_, hl _ (by simp), hl _ (by simp), va_Decl.of (x := y) (hl _ (by simp)) hcb, hsel, hl _ (by simp)⟩
    have h2 := lk.2.2.2.2
    rw [h] at h2
    exact (Option.some.inj h2).symm
  refine va_runU (As := as.map (cv (g_ad G))) (rest := st.map (cv (g_ad G))) ⟨ok.x, ok.b, rfl, ok.o, ok.w⟩ hC.met cw ⟨blind_CT G (.ref 960 :: as) m, sb_cls ok hS hW, fun U hU hWm => ⟨rfl, SF.moved hWm (by rw [hU]; exact hS2.1) (fun q h1 h2 => ?_) ok.f, by rw [hU]; exact hW⟩⟩ rfl (by rw [List.length_map]; exact hn) hsz (by simp [cv]) ?_ d ⟨f3, f4⟩
  · rw [hU]; exact hS2.2.1 q h1 h2
  · have := sum_cv (g_ad G) st
    exact lv_room (by omega)
theorem sel_priv {C : String} {N : Nat} {y z : MethodName} {s : State} {args : Array Value} (hy : y.cls ≠ "java/lang/invoke/MethodHandle" ∧ y.cls ≠ "java/lang/invoke/VarHandle") (hz : z.cls = y.cls)
    (hins : (Cond.instantiable C N).before args s = true) (hpriv : (Cond.privateMethod y).before args s = true) (hinst : (Cond.instanceMethod y).before args s = true) (hsz : (Cond.selects C z z).before args s = true) :
    (Cond.selects C y y).before args s = true := by
  obtain ⟨c, k, hc, hk, -, hniab, -, -⟩ := Cond.instantiable_spec hins
  obtain ⟨mk, methM, hnamed, hmethM, -, -⟩ := Cond.instanceMethod_spec hinst
  have hfound : s.methodFound? y.cls y.name y.desc = some mk := State.methodFound?_of_named hnamed hy
  have hsel : selectMethod {} s.vm c mk = .method mk := selectMethod_private hmethM (Cond.privateMethod_at hpriv mk methM hnamed hmethM)
  obtain ⟨c2, r2, m2, q1, q2, q3, q4, kP, hkP, hkPi⟩ := Cond.selects_spec hsz
  have e1 : mk.cls = m2.cls := by
    have h1 := findClass_of_methodNamed hnamed
    have h2 := findClass_of_methodNamed q3
    rw [hz] at h2
    exact Option.some.inj (h1.symm.trans h2)
  rw [← e1] at hkP
  simp only [Cond.before, Cond.holds, Cond.value, hc, hfound, hnamed, hsel, hkP]
  simp; exact hkPi
theorem ga_areturn (ok : OK0 G E own b) {rm : Room} {ret : Option FieldType} {Qr : Option Value → Mm → Prop} {Qx : String → Mm → Prop} (en : EndOK G E rm ret Qr Qx) {a : Nat} {rt : FieldType} (hret : ret = some rt) (hrt : (∃ n, rt = .object n) ∨ ∃ t, rt = .array t) (hk : k ≤ rm.cells) (hn : n ≤ rm.slots) (d : decode b pc = .ok (.areturn, 1)) (hq : Qr (some (.ref a)) m) : WA G E k n pc L [.ref a] m := by
  intro H locs ls hW hS hl
  obtain ⟨e1, e2, e3, e4⟩ := en
  show gW E k n H locs _
  unfold gW
  rw [e1]
  refine vx_ret ?_
  refine W.widen (k := rm.cells) (n := rm.slots) hk hn ?_
  exact W.aret (v := .ref (g_ad G a)) ok.x ok.b (by rw [e3, hret]) hrt (Or.inr ⟨_, rfl⟩) (fun t ht hWm => ⟨⟨some (.ref a), m, rfl, hq, by rw [ht]; exact hW⟩, hS.F ht⟩) (fun q hq => hS.2.2 q hq) d e2
theorem ga_dup_x1 (ok : OK0 G E own b) {v w : Value} (d : decode b pc = .ok (.dup_x1, 1)) (hv : v.category = 1) (hw : w.category = 1)
    (kk : WA G E k n (pc + 1) L (v :: w :: v :: st) m) : WA G E k n pc L (v :: w :: st) m := by
  intro H locs ls hW hS hl
  have h := kk H locs ls hW hS hl
  exact lv_dup_x1 ok.x ok.b d ((cv_cat _ v).trans hv) ((cv_cat _ w).trans hw) h
theorem ga_i2b (ok : OK0 G E own b) {x : Int} (d : decode b pc = .ok (.i2b, 1)) (hx : -128 ≤ x ∧ x ≤ 127)
    (kk : WA G E k n (pc + 1) L (vI x :: st) m) : WA G E k n pc L (vI x :: st) m := by
  intro H locs ls hW hS hl
  have h := kk H locs ls hW hS hl
  refine lv_i2b ok.x ok.b d (v := Int32.ofInt x) ?_ h
  rw [← Int32.toInt_inj, Int8.toInt_toInt32, Int32.toInt_toInt8, oi_T (by omega)]
  exact Int.bmod_eq_of_le (by omega) (by omega)
end SBC
theorem big_J4 : ∀ w ∈ wsJ40, w ∈ BIG := by
  intro w hw
  obtain ⟨k, hk, rfl⟩ := List.mem_map.mp hw
  have hk := List.mem_range.mp hk
  match k, hk with
  | 0, _ => exact tb_in 178 (by decide +kernel) (by decide +kernel)
  | 1, _ => exact tb_in 180 (by decide +kernel) (by decide +kernel)
  | 2, _ => exact tb_in 182 (by decide +kernel) (by decide +kernel)
  | 3, _ => exact tb_in 184 (by decide +kernel) (by decide +kernel)
  | k + 4, hk => exact absurd hk (by omega)
section SBR
variable {G : GG} {E : EE} {own : String} {b : ByteArray} {k n pc : Nat} {L : List (Nat × Value)} {st : List Value} {m : Mm}
theorem sb_ex (hS : SBW G) {H : Heap} (hW : HW G m H) : sbX (g_A G) (g_cA G) (g_dm G) (g_ad G) (g_D G) m H := by
  have hx := hW.2
  rw [hS.2.1] at hx
  exact hx
theorem gs_get (ok : OK0 G E own b) (hS : SBW G) {index kf : Nat} {v : Value} (hk : kf < 4) (hlink : Cond.fieldLink own index (TJ4 kf).1 (TJ4 kf).2.1 (TJ4 kf).2.2.1 ∈ BIG) (hv : (sbF m)[kf]? = some (cv (g_ad G) v)) (d : decode b pc = .ok (.getfield index, 3)) (kk : WA G E k n (pc + 3) L (v :: st) m) : WA G E k n pc L (.ref 960 :: st) m := by
  intro H locs ls hW hS2 hl
  exact va_get (D := g_D G) (ci := 5) (v := cv (g_ad G) v) (C := RJ4) (T := TJ4) (N := 4) ok.x ok.b ok.w big_J4 ok.o ok.f.1 (one_P (sb_ex hS hW).1) 0 rfl rfl kf hk (ok.w _ hlink) (fun _ h => h) hv d (kk H locs ls hW hS2 hl)
theorem gs_value (ok : OK0 G E own b) (hS : SBW G) {index : Nat} (hlink : Cond.fieldLink own index "java/lang/AbstractStringBuilder" "value" "[B" ∈ BIG) (d : decode b pc = .ok (.getfield index, 3)) (kk : WA G E k n (pc + 3) L (raw (m.1 960 2) :: st) m) : WA G E k n pc L (.ref 960 :: st) m :=
  gs_get ok hS (kf := 0) (by decide) hlink (by rw [hS.raw]; rfl) d kk
theorem gs_coder (ok : OK0 G E own b) (hS : SBW G) {index : Nat} (hlink : Cond.fieldLink own index "java/lang/AbstractStringBuilder" "coder" "B" ∈ BIG) (d : decode b pc = .ok (.getfield index, 3)) (kk : WA G E k n (pc + 3) L (vI 0 :: st) m) : WA G E k n pc L (.ref 960 :: st) m :=
  gs_get ok hS (kf := 1) (v := vI 0) (by decide) hlink rfl d kk
theorem gs_count (ok : OK0 G E own b) (hS : SBW G) {index : Nat} (hlink : Cond.fieldLink own index "java/lang/AbstractStringBuilder" "count" "I" ∈ BIG) (d : decode b pc = .ok (.getfield index, 3)) (kk : WA G E k n (pc + 3) L (vI (m.1 960 0) :: st) m) : WA G E k n pc L (.ref 960 :: st) m :=
  gs_get ok hS (kf := 3) (v := vI (m.1 960 0)) (by decide) hlink rfl d kk
theorem gs_put (ok : OK0 G E own b) (hS : SBW G) {index kf : Nat} {v : Value} (m' : Mm) (hk : kf < 4) (hlink : Cond.fieldLink own index (TJ4 kf).1 (TJ4 kf).2.1 (TJ4 kf).2.2.1 ∈ BIG) (hm : ∀ n, n ≠ 960 → n ≠ 961 → m.1 n = m'.1 n) (hm2 : m.2 = m'.2) (hfs : sbF m' = (sbF m).set kf (cv (g_ad G) v))
    (hn : narrow (tyJ4 kf) (cv (g_ad G) v) = cv (g_ad G) v) (hfit : fits (tyJ4 kf) (cv (g_ad G) v) = true)
    (hex : ∀ H H1 : Heap, HW G m H → va_at (g_D G) vcl (g_ad G 960, .inr (5, sbF m')) H1 → (∀ q, q ≠ g_ad G 960 → H1[q]? = H[q]?) → sbX (g_A G) (g_cA G) (g_dm G) (g_ad G) (g_D G) m' H1)
    (d : decode b pc = .ok (.putfield index, 3)) (kk : WA G E k n (pc + 3) L st m') : WA G E k n pc L (v :: .ref 960 :: st) m := by
  intro H locs ls hW hS2 hl
  have hat := (sb_ex hS hW).1
  have hK := ok.f.1
  have hap := va_apart (own := own) (s := e_s E) (args := e_a E) ok.w big_J4 tyJ4 tyJ4_ok nmJ4 hK (show vcl[5]? = some (RJ4, TJ4, 4) from rfl)
  obtain ⟨r, h1, cell, q1, q2, q3, q4⟩ := hat
  have hr : r = (RJ4, TJ4, 4) := Option.some.inj (h1.symm.trans rfl)
  subst hr
  obtain ⟨hS9, hfc, kC, hkC, hkind⟩ := hK.1 5 (RJ4, TJ4, 4) rfl
  obtain ⟨cf, kf2, fi, f, hi, hsl⟩ := hS9 kf hk
  have hlay := ok.w _ (big_J4 _ (u_in_lay hk))
  have hfin : (TJ4 kf).2.2.2 = false := by
    match kf, hk with
    | 0, _ => rfl
    | 1, _ => rfl
    | 2, _ => rfl
    | 3, _ => rfl
    | k + 4, hk => exact absurd hk (by omega)
  unfold u_lay at hlay
  rw [if_neg (by rw [hfin]; decide)] at hlay
  have hst := (u_facts hfc hkC (u_lays ok.w big_J4 hk) hi).1
  have h6 := u_store hfc hkC hkind hlay hi (tyJ4_ok kf hk) hn hfit
  refine W.putK ok.x ok.b (f := f) ⟨ok.o, ok.w _ hlink, ⟨_, _, _, hi⟩, hst⟩ (by rw [q2]; exact h6) q1 q3 (by rw [hsl]; exact k2_hasslot (q4 kf hk)) rfl rfl d fun H' e1 e2 e3 => ?_
  rw [hsl] at e1 ⊢
  have hx := sb_ex hS hW
  have hat' : va_at (g_D G) vcl (g_ad G 960, .inr (5, sbF m')) H' := by
    rw [hfs]
    exact ⟨_, rfl, t_OB.to (V := updV (vp_V (sbF m)) kf (cv (g_ad G) v)) ⟨_, e1, q2, q3, t_set q4 hap hk _⟩ (fun j _ => vp_updV_set (show kf < (sbF m).length from hk) _ j)⟩
  refine kk H' _ ls (HW.hid ok.f hW hm hm2 (fun q hq => e3 _ (hx.2.2.1.2.2.2 q hq).1) (by rw [hS.2.1]; exact hex H H' hW hat' e3)) (hS2.put e2 e3 hx.2.2.1.1) hl
/-- only her cell has changed -/
theorem sbX.cell {A9 : Nat → Prop} {cA : Nat → ClassId} {dm : Nat → Prop} {ad : Nat → Nat} {D : va_G} {m m' : Mm} {H H1 : Heap} (h : sbX A9 cA dm ad D m H) (hat : va_at D vcl (ad 960, .inr (5, sbF m')) H1) (oq : ∀ q, q ≠ ad 960 → H1[q]? = H[q]?) (h2 : m'.1 960 2 = m.1 960 2) (h3 : m'.1 960 3 = m.1 960 3) (h4 : m'.1 960 4 = m.1 960 4) (h5 : m'.1 960 5 = m.1 960 5) (h6 : m'.1 960 6 = m.1 960 6) (h7 : m'.1 961 = m.1 961) (h8 : ∀ j, m'.1 960 (16 + j) = m.1 960 (16 + j)) : sbX A9 cA dm ad D m' H1 := by
  obtain ⟨a1, a2, a3, a4⟩ := h
  refine ⟨hat, ?_, by rw [h2]; exact a3, fun e => ?_⟩
  · rw [h2, h3, h7]
    exact a2.kept (oq _ a3.2.2.1)
  · rw [h4] at e
    obtain ⟨b1, b2, b3, b4, b5⟩ := a4 e
    rw [h5, h6, h2]
    simp only [h8]
    exact ⟨b1.kept (oq _ b3), b2, b3, b4, b5⟩
theorem gs_pcount (ok : OK0 G E own b) (hS : SBW G) {index : Nat} {z : Int} (hlink : Cond.fieldLink own index "java/lang/AbstractStringBuilder" "count" "I" ∈ BIG) (d : decode b pc = .ok (.putfield index, 3)) (kk : WA G E k n (pc + 3) L st (upI m 960 0 z)) : WA G E k n pc L (vI z :: .ref 960 :: st) m :=
  gs_put ok hS (kf := 3) (v := vI z) (upI m 960 0 z) (by decide) hlink (fun n h1 h2 => (upI_r h1).symm) rfl (by simp [sbF, upI, up2, cv, vI]) rfl rfl (fun H H1 hW hat oq => (sb_ex hS hW).cell hat oq (upI_no (by omega)) (upI_no (by omega)) (upI_no (by omega)) (upI_no (by omega)) (upI_no (by omega)) (upI_r (by omega)) (fun j => upI_no (by omega))) d kk
theorem gs_pml (ok : OK0 G E own b) (hS : SBW G) {index : Nat} {z : Int} (hz : z = 0 ∨ z = 1) (hlink : Cond.fieldLink own index "java/lang/AbstractStringBuilder" "maybeLatin1" "Z" ∈ BIG) (d : decode b pc = .ok (.putfield index, 3)) (kk : WA G E k n (pc + 3) L st (upI m 960 1 z)) : WA G E k n pc L (vI z :: .ref 960 :: st) m :=
  gs_put ok hS (kf := 2) (v := vI z) (upI m 960 1 z) (by decide) hlink (fun n h1 h2 => (upI_r h1).symm) rfl (by simp [sbF, upI, up2, cv, vI]) (nar01 hz) (by rcases hz with rfl | rfl <;> rfl) (fun H H1 hW hat oq => (sb_ex hS hW).cell hat oq (upI_no (by omega)) (upI_no (by omega)) (upI_no (by omega)) (upI_no (by omega)) (upI_no (by omega)) (upI_r (by omega)) (fun j => upI_no (by omega))) d kk
/-- the new row becomes hers -/
def swM (m : Mm) : Mm := (fun x j => if x = 960 ∧ j = 2 then m.1 960 5 else if x = 960 ∧ j = 3 then m.1 960 6 else if x = 960 ∧ j = 4 then 0 else if x = 961 then m.1 960 (16 + j) else m.1 x j, m.2)
theorem gs_pvalue (ok : OK0 G E own b) (hS : SBW G) {index : Nat} (h4 : m.1 960 4 = 1) (hlink : Cond.fieldLink own index "java/lang/AbstractStringBuilder" "value" "[B" ∈ BIG) (d : decode b pc = .ok (.putfield index, 3)) (kk : WA G E k n (pc + 3) L st (swM m)) : WA G E k n pc L (raw (m.1 960 5) :: .ref 960 :: st) m := by
  refine gs_put ok hS (kf := 0) (v := raw (m.1 960 5)) (swM m) (by decide) hlink (fun n h1 h2 => ?_) rfl ?_ ?_ ?_ (fun H H1 hW hat oq => ?_) d kk
  · funext j
    simp [swM, h1, h2]
  · rw [hS.raw]
    simp [sbF, swM]
  · rw [hS.raw]; rfl
  · rw [hS.raw]; rfl
  · obtain ⟨a1, a2, a3, a4⟩ := sb_ex hS hW
    obtain ⟨b1, b2, b3, b4, b5⟩ := a4 h4
    have e2 : (swM m).1 960 2 = m.1 960 5 := by simp [swM]
    have e3 : (swM m).1 960 3 = m.1 960 6 := by simp [swM]
    have e4 : (swM m).1 960 4 = 0 := by simp [swM]
    have e5 : ∀ j, (swM m).1 961 j = m.1 960 (16 + j) := fun j => by simp [swM]
    refine ⟨hat, ?_, ?_, fun e => ?_⟩
    · rw [e2, e3]
      simp only [e5]
      exact b1.kept (oq _ b3)
    · rw [e2]
      exact ⟨a3.1, b2, b3, fun n hn => ⟨(a3.2.2.2 n hn).1, b5 n hn⟩⟩
    · rw [e4] at e
      exact absurd e (by decide)
/-! her row of bytes -/
theorem gs_len (ok : OK0 G E own b) (hS : SBW G) (hB : SBk m) (d : decode b pc = .ok (.arraylength, 1)) (kk : WA G E k n (pc + 1) L (vI (m.1 960 3) :: st) m) : WA G E k n pc L (raw (m.1 960 2) :: st) m := by
  intro H locs ls hW hS2 hl
  have hat := (sb_ex hS hW).2.1
  show gW E k n H locs (F0 (e_m E) pc ls (cv (g_ad G) (raw (m.1 960 2)) :: st.map (cv (g_ad G))))
  rw [hS.raw]
  refine va_alen (D := g_D G) ok.x ok.b ok.f.1 (one_P hat) 0 8 rfl (ty := .byte) rfl (v := Int32.ofInt (m.1 960 3)) ?_ d (kk H locs ls hW hS2 hl)
  rw [oi_z hB.2.1.1]
  rfl
theorem gs_bald (ok : OK0 G E own b) (hS : SBW G) (hB : SBk m) {i : Int} (hi : 0 ≤ i ∧ i < m.1 960 3) (d : decode b pc = .ok (.baload, 1)) (kk : WA G E k n (pc + 1) L (vI (m.1 961 i.toNat) :: st) m) : WA G E k n pc L (vI i :: raw (m.1 960 2) :: st) m := by
  intro H locs ls hW hS2 hl
  have hat := (sb_ex hS hW).2.1
  show gW E k n H locs (F0 (e_m E) pc ls (cv (g_ad G) (vI i) :: cv (g_ad G) (raw (m.1 960 2)) :: st.map (cv (g_ad G))))
  rw [hS.raw]
  have hc : i < ((m.1 960 3).toNat : Int) := by have := hB.2.1.1; omega
  have h65 := hB.2.1.2
  refine va_bald (D := g_D G) ok.x ok.b ok.f.1 (one_P hat) 0 8 rfl rfl (oi_in ⟨hi.1, hc⟩ (by omega)) d ?_
  rw [oi_cl ⟨hi.1, hc⟩ (by omega)]
  exact kk H locs ls hW hS2 hl
theorem narB {x : Int} (h : -128 ≤ x ∧ x ≤ 127) : narrow .byte (.int (Int32.ofInt x)) = .int (Int32.ofInt x) := by
  show Value.int ((Int32.ofInt x).toInt8.toInt32) = _
  congr 1
  rw [← Int32.toInt_inj, Int8.toInt_toInt32, Int32.toInt_toInt8, oi_T (by omega)]
  exact Int.bmod_eq_of_le (by omega) (by omega)
theorem fitB {x : Int} (h : -128 ≤ x ∧ x ≤ 127) : fits .byte (.int (Int32.ofInt x)) = true := by
  have e : (Int32.ofInt x).toInt8.toInt32 = Int32.ofInt x := by
    rw [← Int32.toInt_inj, Int8.toInt_toInt32, Int32.toInt_toInt8, oi_T (by omega)]
    exact Int.bmod_eq_of_le (by omega) (by omega)
  have h2 := pk_fb (Int32.ofInt x)
  rw [e] at h2
  exact h2
theorem gs_bast (ok : OK0 G E own b) (hS : SBW G) (hB : SBk m) {i x : Int} (hi : 0 ≤ i ∧ i < m.1 960 3) (hx : -128 ≤ x ∧ x ≤ 127) (h40 : m.1 960 4 = 0) (d : decode b pc = .ok (.bastore, 1)) (kk : WA G E k n (pc + 1) L st (upI m 961 i.toNat x)) : WA G E k n pc L (vI x :: vI i :: raw (m.1 960 2) :: st) m := by
  intro H locs ls hW hS2 hl
  have hX := sb_ex hS hW
  have hat := hX.2.1
  show gW E k n H locs (F0 (e_m E) pc ls (cv (g_ad G) (vI x) :: cv (g_ad G) (vI i) :: cv (g_ad G) (raw (m.1 960 2)) :: st.map (cv (g_ad G))))
  rw [hS.raw]
  have hc : i < ((m.1 960 3).toNat : Int) := by have := hB.2.1.1; omega
  have h65 := hB.2.1.2
  have hin := oi_in (N := (m.1 960 3).toNat) ⟨hi.1, hc⟩ (by omega)
  have hcl := oi_cl (N := (m.1 960 3).toNat) ⟨hi.1, hc⟩ (by omega)
  refine W.bast ok.x ok.b hat ((ok.f.1.2 8 _ rfl).1 (m.1 960 3).toNat _) (fun q => by cases q) (by show ¬ (Int32.ofInt i < 0 ∨ (arrV _ _ _).slots.size ≤ _); rw [arrV_size]; exact hin) rfl rfl d fun H1 e z oq => ?_
  have hne := hX.2.2.1
  have hat1 : va_at (g_D G) vcl ((m.1 960 2).toNat, .inl (g_cA G 8, (m.1 960 3).toNat, .inl (fun j => Int32.ofInt ((upI m 961 i.toNat x).1 961 j)))) H1 := by
    show H1[(m.1 960 2).toNat]? = some (vp_cell _ _)
    rw [e]
    rw [narB hx]
    dsimp only
    rw [vp_cell_i, vp_cell_i, hcl, arrV_store]
    congr 2
    funext q
    by_cases hq : q = i.toNat
    · subst hq
      simp [updV, upI, up2]
    · simp [updV, upI, up2, hq]
  have hx1 : sbX (g_A G) (g_cA G) (g_dm G) (g_ad G) (g_D G) (upI m 961 i.toNat x) H1 := by
    have e9 : ∀ j, (upI m 961 i.toNat x).1 960 j = m.1 960 j := fun j => by rw [upI_r (by omega)]
    refine ⟨?_, by rw [e9, e9]; exact hat1, by rw [e9]; exact hne, fun e => by rw [e9, h40] at e; exact absurd e (by decide)⟩
    have hsb : sbF (upI m 961 i.toNat x) = sbF m := by unfold sbF; rw [e9, e9, e9]
    rw [hsb]
    exact hX.1.kept (oq _ (fun e => hne.2.2.1 e.symm))
  exact kk H1 _ ls (HW.hid ok.f hW (fun n h1 h2 => (upI_r h2).symm) rfl (fun q hq => oq _ (hne.2.2.2 q hq).2) (by rw [hS.2.1]; exact hx1)) (hS2.put z oq hne.2.1) hl
/-- a new row of bytes -/
def nwM (m : Mm) (h : Nat) (z : Int) : Mm := (fun x j => if x = 960 ∧ j = 4 then 1 else if x = 960 ∧ j = 5 then (h : Int) else if x = 960 ∧ j = 6 then z else if x = 960 ∧ 16 ≤ j then 0 else m.1 x j, m.2)
theorem gs_newa (ok : OK0 G E own b) (hS : SBW G) (hB : SBk m) {z : Int} (hz : 0 ≤ z ∧ z ≤ 65536) (hw : Cond.arrayClass .byte ∈ BIG) (hcell : k + 1 ≤ (e_R E).cells) (hslot : n + z.toNat ≤ (e_R E).slots) (d : decode b pc = .ok (.newarray .byte, 2))
    (kk : ∀ h : Nat, WA G E (k + 1) (n + z.toNat) (pc + 2) L (raw h :: st) (nwM m h z)) : WA G E k n pc L (vI z :: st) m := by
  intro H locs ls hW hS2 hl
  have hX := sb_ex hS hW
  have hcl : (Int32.ofInt z).toNatClampNeg = z.toNat := by rw [oi_z hz.1]; exact nI_clamp (by omega)
  refine va_newaK (atype := .byte) ok.x ok.b (ok.w _ hw) rfl d rfl (n := Int32.ofInt z) (N := z.toNat) (by rw [oi_z hz.1]; exact nI_pos (by omega)) hcl (by show z.toNat * 1 ≤ 536870912; omega) hcell hslot rfl fun H1 cA e1 z1 o1 hAr hNm => ?_
  have hcA : cA = g_cA G 8 := by
    have h8 := (ok.f.1.2 8 _ rfl).2
    exact Option.some.inj (hNm.symm.trans h8)
  subst hcA
  have hlt : g_ad G 960 < H.size := hX.1.lt
  have hlt2 : (m.1 960 2).toNat < H.size := hX.2.1.lt
  have hbs : g_A G H.size := Or.inl (Nat.le_trans ok.f.2.2.2.2.2.2.2.2.2.2.2.2.2 hS2.1)
  have f0 : ∀ j, j ≠ 4 → j ≠ 5 → j < 6 → (nwM m H.size z).1 960 j = m.1 960 j := fun j a c d => by simp [nwM, a, c, show j ≠ 6 by omega, show ¬ 16 ≤ j by omega]
  have f1 : (nwM m H.size z).1 961 = m.1 961 := by funext j; simp [nwM]
  have hx1 : sbX (g_A G) (g_cA G) (g_dm G) (g_ad G) (g_D G) (nwM m H.size z) H1 := by
    refine ⟨?_, ?_, ?_, fun _ => ?_⟩
    · have hsb : sbF (nwM m H.size z) = sbF m := by unfold sbF; rw [f0 2 (by omega) (by omega) (by omega), f0 1 (by omega) (by omega) (by omega), f0 0 (by omega) (by omega) (by omega)]
      rw [hsb]
      exact hX.1.kept (o1 _ hlt)
    · rw [f0 2 (by omega) (by omega) (by omega), f0 3 (by omega) (by omega) (by omega)]
      rw [f1]
      exact hX.2.1.kept (o1 _ hlt2)
    · rw [f0 2 (by omega) (by omega) (by omega)]
      exact hX.2.2.1
    · have e5 : (nwM m H.size z).1 960 5 = (H.size : Int) := by simp [nwM]
      have e6 : (nwM m H.size z).1 960 6 = z := by simp [nwM]
      rw [e5, e6, f0 2 (by omega) (by omega) (by omega)]
      refine ⟨?_, hbs, by omega, by omega, fun q hq => ?_⟩
      · show H1[((H.size : Int)).toNat]? = some (vp_cell _ _)
        rw [show ((H.size : Int)).toNat = H.size from rfl, e1, vp_cell_i]
        congr 2
        funext j
        have : (nwM m H.size z).1 960 (16 + j) = 0 := by simp [nwM, show ¬ 16 + j = 4 by omega, show ¬ 16 + j = 5 by omega, show ¬ 16 + j = 6 by omega]
        rw [this]
        rfl
      · have := (hW.1 q hq).lt
        have : g_ad G q < H.size := this
        omega
  have k1 := kk H.size H1 locs ls (HW.hid ok.f hW (fun q h1 h2 => by funext j; simp [nwM, h1, h2]) rfl (fun q hq => o1 _ (hW.1 q hq).lt) (by rw [hS.2.1]; exact hx1)) ⟨Nat.le_trans hS2.1 (by omega), fun x h1 h2 => (o1 x (Nat.lt_of_lt_of_le h1 hS2.1)).trans (hS2.2.1 x h1 h2), hS2.2.2⟩ hl
  have e9 : (raw (H.size : Int) :: st).map (cv (g_ad G)) = .ref H.size :: st.map (cv (g_ad G)) := by
    show cv (g_ad G) (raw (H.size : Int)) :: _ = _
    rw [hS.raw]
    rfl
  rw [e9] at k1
  exact k1
end SBR
