/-! THE LAW'S METHODS: with a table of exceptions -/
section LAW1
variable {G : GG} {E : EE} {own : String} {b : ByteArray} {k n pc : Nat} {L : List (Nat × Value)} {st : List Value} {m : Mm}
def CW (G : GG) (l : Launch) (y : MethodName) (bytes : ByteArray) (maxL : Nat) (ret : Option FieldType) (hh : List (Nat × Nat × Nat × Nat)) (rm : Room) (av : List Value) (m : Mm) (Qr : Option Value → Mm → Prop) (Qx : String → Mm → Prop) : Prop :=
  vx_Met l y (Cond.codeWith y bytes maxL ret hh :: BIG) rm (va_Pc (av.map (cv (g_ad G))) (fun U => SF G U ∧ HW G m U.heap)) (qR G Qr) (qX G Qx) rm.cells rm.slots (g_A G)
theorem CW.of {l : Launch} {y : MethodName} {bytes : ByteArray} {maxL : Nat} {ret : Option FieldType} {hh : List (Nat × Nat × Nat × Nat)} {rm : Room} {av : List Value} {m : Mm} {Qr : Option Value → Mm → Prop} {Qx : String → Mm → Prop} (own : String) (L : List (Nat × Value))
    (hfl : l.stackTraces = false) (hy : plainName y.cls = true) (hown : y.cls = own) (hL : lv_args 0 av = L) (hlen : (lg_sl av).length ≤ maxL)
    (body : ∀ E : EE, OK0 G E own bytes → EndOK G E rm ret Qr Qx → (e_c E).maxLocals = maxL → (e_l E) = l → (e_c E).exceptionTable.toList = tableOf hh → WA G E 0 0 0 L [] m) : CW G l y bytes maxL ret hh rm av m Qr Qx := by
  refine vx_ofWH (cc := bytes) (maxL := maxL) (ret := ret) (hh := hh) hy rfl ?_
  intro p e s m0 args below meth c s₁ B hml hP
  obtain ⟨rfl, hSF, hHW⟩ := hP
  have hts := atoms_spec (ws := Cond.codeWith y bytes maxL ret hh :: BIG) B.pre
  have ht := vx_table (x := y) B (hts _ List.mem_cons_self)
  have hownc : s.vm.findClass own = some m0.cls := by rw [← hown]; exact findClass_of_methodNamed B.named
  have hl0 := lv_entry (av.map (cv (g_ad G))) (n := maxL) (by rw [sl_len]; exact hlen)
  rw [lg_entry_eq]
  have hl1 : lv_has (lg_sl (List.map (cv (g_ad G)) av) ++ List.replicate (maxL - (lg_sl (List.map (cv (g_ad G)) av)).length) Slot.unset).toArray maxL (L.map (cvp G)) := by
    have e : L.map (cvp G) = lv_args 0 (av.map (cv (g_ad G))) := by rw [← hL, args_cv]; rfl
    rw [e]; exact hl0
  obtain ⟨E, hE⟩ : ∃ E : EE, E = (p, l, e, (headSpec (Cond.codeWith y bytes maxL ret hh :: BIG) rm).room, s, m0, (av.map (cv (g_ad G))).toArray, below, meth, c, vx_MQ below (qR G Qr) (qX G Qx) (av.map (cv (g_ad G))).toArray s rm.cells rm.slots (g_A G)) := ⟨_, rfl⟩
  have k := body E (by subst hE; exact ⟨B.exec, B.bytes, hownc, fun w hw => hts w (List.mem_cons_of_mem _ hw), hSF, hfl⟩) (by subst hE; exact ⟨rfl, B.notSynchronized, B.returns, rfl⟩) (by subst hE; exact hml) (by subst hE; rfl) (by subst hE; exact ht)
  have hml' : (e_c E).maxLocals = maxL := by subst hE; exact hml
  have k2 := k s.heap [] _ hHW (by subst hE; exact va_S.rf) (by rw [hml']; exact hl1)
  subst hE
  exact k2
def LinkW (own : String) (index : Nat) (y : MethodName) (bytes : ByteArray) (maxL : Nat) (ret : Option FieldType) (hh : List (Nat × Nat × Nat × Nat)) (na : Nat) : Prop :=
  (∀ w ∈ ([.methodLink own index y, .static y, .initialized own] : List Cond), w ∈ BIG) ∧ Cond.codeWith y bytes maxL ret hh ∈ BIG ∧
  (y.cls = own ∧ y.cls ≠ "java/lang/invoke/MethodHandle" ∧ y.cls ≠ "java/lang/invoke/VarHandle" ∧ (parseMethodDescriptor y.desc).map (fun d => d.parameters.length) = some na)
theorem blind_CW (G : GG) (av : List Value) (m : Mm) : FrameBlind (va_Pc (av.map (cv (g_ad G))) (fun U => SF G U ∧ HW G m U.heap)) := blind_CT G av m
theorem ga_callT (ok : OK0 G E own b) {y : MethodName} {bytes : ByteArray} {maxL index na : Nat} {ret : Option FieldType} {hh : List (Nat × Nat × Nat × Nat)} {rm : Room} {Qr : Option Value → Mm → Prop} {Qx : String → Mm → Prop} (as : List Value)
    (lk : LinkW own index y bytes maxL ret hh na) (hC : CW G (e_l E) y bytes maxL ret hh rm as m Qr Qx) (hn : as.length = na) (hf : Fits (e_R E) rm maxL k n) (hw : (st.map fun v => v.category).sum ≤ 8)
    (d : decode b pc = .ok (.invokestatic index, 3))
    (kr : ∀ (r : Option Value) (m' : Mm), Qr r m' → WA G E (k + rm.cells) (n + rm.slots) (pc + 3) L (r.toList ++ st) m')
    (kx : ∀ (X : String) (m' : Mm), Qx X m' → WX G E (k + rm.cells) (n + rm.slots) pc L m' X) : WA G E k n pc L (as.reverse ++ st) m := by
  obtain ⟨f1, f2, f3, f4⟩ := hf
  refine ga_back (a := (as.map (cv (g_ad G))).toArray) (fun H locs ls hW hS hsz => ?_) kr kx
  have cw := vx_cwSW (R := e_R E) (s := e_s E) (args := e_a E) (own := own) (index := index) (y := y) (bytes := bytes) (maxL := maxL) (ret := ret) (hh := hh) (Ts := BIG) (ws := Cond.codeWith y bytes maxL ret hh :: BIG) (ws' := BIG) (rm := rm) (mc := rm.cells) (ms := rm.slots) na ok.w (by
    rw [show va_wsS own index y (Cond.codeWith y bytes maxL ret hh :: BIG) = va_wsS own index y (Cond.codeWith y bytes maxL ret hh :: BIG) from rfl]
    exact big_in (fun w hw => by
      rcases List.mem_append.mp hw with h | h
      · have e : y.cls = own := lk.2.2.1
        rw [e] at h
        exact lk.1 w h
      · rcases List.mem_cons.mp h with h | h
        · rw [h]; exact lk.2.1
        · exact h)) rfl rfl rfl ⟨lk.2.2.2.1, lk.2.2.2.2.1, lk.2.2.2.2.2⟩ ⟨f1, f2⟩
  refine vx_runSX (As := as.map (cv (g_ad G))) (rest := st.map (cv (g_ad G))) ⟨ok.x, ok.b, rfl, ok.o, ok.w⟩ hC cw ⟨blind_CW G as m, fun U hU hWm => ⟨rfl, SF.moved hWm (by rw [hU]; exact hS.1) (fun q h1 h2 => ?_) ok.f, by rw [hU]; exact hW⟩⟩ rfl (by rw [List.length_map]; exact hn) hsz (by simp) ?_ d ⟨f3, f4⟩
  · rw [hU]; exact hS.2.1 q h1 h2
  · have := sum_cv (g_ad G) st
    exact lv_room (by omega)
/-- an exception is caught here, past rows of other classes -/
theorem gx_catch (ok : OK0 G E own b) (hS : SBW G) {X : String} {hh : List (Nat × Nat × Nat × Nat)} (ht : (e_c E).exceptionTable.toList = tableOf hh) (pre : List (Nat × Nat × Nat × Nat)) (x : Nat × Nat × Nat × Nat) (suf : List (Nat × Nat × Nat × Nat)) (hsplit : hh = pre ++ x :: suf)
    (hpass : ∀ z ∈ pre, z.2.2.2 ≠ 0 ∧ ∃ nm : String, Cond.classLink own z.2.2.2 nm ∈ BIG ∧ X ∈ excs ∧ nm ∈ excs ∧ X ≠ nm) (hx : (decide (x.1 ≤ pc) && decide (pc < x.2.1)) = true) (h0 : x.2.2.2 ≠ 0)
    (hlink : Cond.classLink own x.2.2.2 X ∈ BIG) (hcast : Cond.castable X X ∈ SPW) (kk : ∀ q : Nat, WA G E k n x.2.2.1 L [.ref (RAW + q)] m) : WX G E k n pc L m X := by
  intro H locs ls st ce q hW hS2 hl hce hv hcl
  have h := kk q H locs ls hW hS2 hl
  rw [show ([Value.ref (RAW + q)]).map (cv (g_ad G)) = [.ref q] from by show [Value.ref (g_ad G (RAW + q))] = _; rw [hS.1]] at h
  have hSP := ok.f.2.2.2.2.2.2.2.2.2.1
  have hNc := ok.f.2.2.2.2.2.2.2.2.2.2.1
  refine vx_catch ok.o (pre.map fun q => ⟨q.1, q.2.1, q.2.2.1, q.2.2.2⟩) ⟨x.1, x.2.1, x.2.2.1, x.2.2.2⟩ (suf.map fun q => ⟨q.1, q.2.1, q.2.2.1, q.2.2.2⟩) (by rw [ht, hsplit]; simp [tableOf]) (fun z hz => ?_) ?_ h0 (ok.w _ hlink) (va_Nw.use (spw_onT hcast) (hSP _ hcast)) hce hv hcl h
  · obtain ⟨z0, hz0, rfl⟩ := List.mem_map.mp hz
    obtain ⟨a1, nm, a2, a3, a4, a5⟩ := hpass z0 hz0
    exact Or.inr ⟨a1, nm, ok.w _ a2, hNc X a3 nm a4 a5⟩
  · exact hx
theorem ga_i2lW (ok : OK0 G E own b) {x : Int} (d : decode b pc = .ok (.i2l, 1)) (kk : WA G E k n (pc + 1) L (vJ (Int32.ofInt x).toInt :: st) m) : WA G E k n pc L (vI x :: st) m := by
  have e : vI x = vI (Int32.ofInt x).toInt := by show Value.int _ = Value.int _; rw [Int32.ofInt_toInt]
  rw [e]
  exact ga_i2l ok d ⟨Int32.le_toInt _, by have := Int32.toInt_lt (Int32.ofInt x); omega⟩ kk
end LAW1
def w32 (z : Int) : Int := (Int32.ofInt z).toInt
/-- all but the law's own cells is as it was -/
def WEq (m m' : Mm) : Prop := ∀ n, n ≠ 1600 → n ≠ 1664 → m'.1 n = m.1 n ∧ m'.2 n = m.2 n
theorem WEq.rf {m : Mm} : WEq m m := fun _ _ _ => ⟨rfl, rfl⟩
theorem WEq.u {m m' : Mm} {a i : Nat} {v : Int} (h : WEq m m') (ha : a = 1600 ∨ a = 1664) : WEq m (upI m' a i v) := fun n h1 h2 => ⟨by rw [upI_r (by omega)]; exact (h n h1 h2).1, (h n h1 h2).2⟩
theorem WEq.tr {m m1 m2 : Mm} (h1 : WEq m m1) (h2 : WEq m1 m2) : WEq m m2 := fun n a b => ⟨((h2 n a b).1).trans (h1 n a b).1, ((h2 n a b).2).trans (h1 n a b).2⟩
/-- what isn't the face's, nor the law's, has not changed -/
def WFr (m m' : Mm) : Prop := ∀ n, 960 ≤ n → n ≠ 1600 → n ≠ 1664 → m'.1 n = m.1 n ∧ m'.2 n = m.2 n
theorem XFr.w {m m' : Mm} (h : XFr m m') : WFr m m' := fun n a _ _ => h n a
theorem WFr.u {m m' : Mm} {a i : Nat} {v : Int} (h : WFr m m') (ha : a = 1600 ∨ a = 1664) : WFr m (upI m' a i v) := fun n h0 h1 h2 => ⟨by rw [upI_r (by omega)]; exact (h n h0 h1 h2).1, (h n h0 h1 h2).2⟩
theorem ei_0 {p : Prop} [Decidable p] (h : p) : (if p then (0 : Int) else 1) = 0 := if_pos h
theorem ei_1 {p : Prop} [Decidable p] (h : ¬ p) : (if p then (0 : Int) else 1) = 1 := if_neg h
theorem bb_0 {p : Prop} [Decidable p] (h : p) : (if decide p = true then (0 : Int) else 1) = 0 := if_pos (decide_eq_true h)
theorem bb_1 {p : Prop} [Decidable p] (h : ¬ p) : (if decide p = true then (0 : Int) else 1) = 1 := if_neg (by simpa using h)
theorem b2_0 {p q : Prop} [Decidable p] [Decidable q] (h1 : p) (h2 : q) : (if decide p = true ∧ decide q = true then (0 : Int) else 1) = 0 := if_pos ⟨decide_eq_true h1, decide_eq_true h2⟩
theorem b2_1 {p q : Prop} [Decidable p] [Decidable q] (h : ¬ p ∨ ¬ q) : (if decide p = true ∧ decide q = true then (0 : Int) else 1) = 1 := if_neg (fun e => h.elim (fun h => h (of_decide_eq_true e.1)) (fun h => h (of_decide_eq_true e.2)))
theorem spw_in {w : Cond} (i : Nat) (h : tables_1[i]? = some w) (hg : spOK w = true) : w ∈ SPW := List.mem_filter.mpr ⟨List.mem_of_getElem? h, hg⟩
