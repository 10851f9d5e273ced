/-! CONTRACTS over the abstract machine -/
theorem big_good {w : Cond} (h : w ∈ BIG) : goodWord w = true := (List.mem_filter.mp h).2
theorem big_in {ws : List Cond} (h : ∀ w ∈ ws, w ∈ BIG) : GoodIn BIG ws := fun w hw => ⟨h w hw, good_of_word (big_good (h w hw))⟩
def qR (G : GG) (Qr : Option Value → Mm → Prop) : Array Value → State → Outcome → State → Prop := fun _ st o t => (∃ (r : Option Value) (m' : Mm), o = .returned (r.map (cv (g_ad G))) ∧ Qr r m' ∧ HW G m' t.heap) ∧ va_F (g_A G) st t
def qX (G : GG) (Qx : String → Mm → Prop) : String → State → State → Prop := fun X st t => (∃ m' : Mm, Qx X m' ∧ HW G m' t.heap) ∧ va_F (g_A G) st t
/-- the contract of a method that keeps the world's cells where they are -/
def CT (G : GG) (l : Launch) (y : MethodName) (bytes : ByteArray) (maxL : Nat) (ret : Option FieldType) (rm : Room) (av : List Value) (m : Mm) (Qr : Option Value → Mm → Prop) (Qx : String → Mm → Prop) : Prop :=
  vx_Met l y (Cond.code y bytes maxL ret :: BIG) rm (va_Pc (av.map (cv (g_ad G))) (fun U => SF G U ∧ HW G m U.heap)) (qR G Qr) (qX G Qx) rm.cells rm.slots (g_A G)
def EndOK (G : GG) (E : EE) (rm : Room) (ret : Option FieldType) (Qr : Option Value → Mm → Prop) (Qx : String → Mm → Prop) : Prop :=
  e_Q E = vx_MQ (e_b E) (qR G Qr) (qX G Qx) (e_a E) (e_s E) rm.cells rm.slots (g_A G) ∧ (e_t E).locks = false ∧ (e_t E).sig.returnType = ret ∧ (e_R E) = rm
theorem sl_len (ad : Nat → Nat) : ∀ av : List Value, (lg_sl (av.map (cv ad))).length = (lg_sl av).length
  | [] => rfl
  | v :: av => by
    have h := sl_len ad av
    have hc := cv_cat ad v
    simp only [lg_sl, List.map_cons, List.flatMap_cons, List.length_append] at h ⊢
    rw [hc, h]
    split <;> rfl
theorem args_cv (ad : Nat → Nat) : ∀ (av : List Value) (i : Nat), lv_args i (av.map (cv ad)) = (lv_args i av).map (fun q => (q.1, cv ad q.2))
  | [], i => rfl
  | v :: av, i => by
    simp only [List.map_cons, lv_args, cv_cat]
    rw [args_cv ad av]
theorem CT.of {G : GG} {l : Launch} {y : MethodName} {bytes : ByteArray} {maxL : Nat} {ret : Option FieldType} {rm : Room} {av : List Value} {m : Mm} {Qr : Option Value → Mm → Prop} {Qx : String → Mm → Prop} (own : String) (L : List (Nat × Value))
    (hfl : l.stackTraces = false) (hy : plainName y.cls = true) (hown : y.cls = own) (hL : lv_args 0 av = L) (hlen : (lg_sl av).length ≤ maxL)
    (body : ∀ E : EE, OK0 G E own bytes → EndOK G E rm ret Qr Qx → (e_c E).maxLocals = maxL → (e_l E) = l → (∀ x ∈ (e_c E).exceptionTable.toList, False) → WA G E 0 0 0 L [] m) : CT G l y bytes maxL ret rm av m Qr Qx := by
  refine vx_ofW (cc := bytes) (maxL := maxL) (ret := ret) hy rfl ?_
  intro p e s m0 args below meth c s₁ B hml ht hP
  obtain ⟨rfl, hSF, hHW⟩ := hP
  have hts := atoms_spec (ws := Cond.code y bytes maxL ret :: BIG) B.pre
  have hownc : s.vm.findClass own = some m0.cls := by rw [← hown]; exact findClass_of_methodNamed B.named
  have hl0 := lv_entry (av.map (cv (g_ad G))) (n := maxL) (by rw [sl_len]; exact hlen)
  rw [lg_entry_eq]
  have hl1 : lv_has (lg_sl (List.map (cv (g_ad G)) av) ++ List.replicate (maxL - (lg_sl (List.map (cv (g_ad G)) av)).length) Slot.unset).toArray maxL (L.map (cvp G)) := by
    have e : L.map (cvp G) = lv_args 0 (av.map (cv (g_ad G))) := by rw [← hL, args_cv]; rfl
    rw [e]; exact hl0
  obtain ⟨E, hE⟩ : ∃ E : EE, E = (p, l, e, (headSpec (Cond.code y bytes maxL ret :: BIG) rm).room, s, m0, (av.map (cv (g_ad G))).toArray, below, meth, c, vx_MQ below (qR G Qr) (qX G Qx) (av.map (cv (g_ad G))).toArray s rm.cells rm.slots (g_A G)) := ⟨_, rfl⟩
  have k := body E (by subst hE; exact ⟨B.exec, B.bytes, hownc, fun w hw => hts w (List.mem_cons_of_mem _ hw), hSF, hfl⟩) (by subst hE; exact ⟨rfl, B.notSynchronized, B.returns, rfl⟩) (by subst hE; exact hml) (by subst hE; rfl) (by subst hE; exact ht)
  have hml' : (e_c E).maxLocals = maxL := by subst hE; exact hml
  have k2 := k s.heap [] _ hHW (by subst hE; exact va_S.rf) (by rw [hml']; exact hl1)
  subst hE
  exact k2
section CALLS
variable {G : GG} {E : EE} {own : String} {b : ByteArray} {k n pc : Nat} {L : List (Nat × Value)} {st : List Value} {m : Mm}
/-- what a call's words say -/
def LinkV (own : String) (index : Nat) (y : MethodName) (bytes : ByteArray) (maxL : Nat) (ret : Option FieldType) (na : Nat) : Prop :=
  (∀ w ∈ ([.methodLink own index y, .instanceMethod y, .selects y.cls y y, .initialized y.cls] : List Cond), w ∈ BIG) ∧ Cond.code y bytes maxL ret ∈ BIG ∧
  (y.cls ≠ "java/lang/invoke/MethodHandle" ∧ y.cls ≠ "java/lang/invoke/VarHandle" ∧ (parseMethodDescriptor y.desc).map (fun d => d.parameters.length) = some na)
def LinkS (own : String) (index : Nat) (y : MethodName) (bytes : ByteArray) (maxL : Nat) (ret : Option FieldType) (na : Nat) : Prop :=
  (∀ w ∈ ([.methodLink own index y, .static y, .initialized own] : List Cond), w ∈ BIG) ∧ Cond.code y bytes maxL ret ∈ BIG ∧
  (y.cls = own ∧ y.cls ≠ "java/lang/invoke/MethodHandle" ∧ y.cls ≠ "java/lang/invoke/VarHandle" ∧ (parseMethodDescriptor y.desc).map (fun d => d.parameters.length) = some na)
def LinkI (own : String) (index : Nat) (y : MethodName) (bytes : ByteArray) (maxL : Nat) (na : Nat) : Prop :=
  (∀ w ∈ ([.methodLink own index y, .instanceMethod y, .initialized y.cls] : List Cond), w ∈ BIG) ∧ Cond.code y bytes maxL none ∈ BIG ∧ y.name = "<init>" ∧
  (y.cls ≠ "java/lang/invoke/MethodHandle" ∧ y.cls ≠ "java/lang/invoke/VarHandle" ∧ (parseMethodDescriptor y.desc).map (fun d => d.parameters.length) = some na)
def Fits (R rm : Room) (maxL k n : Nat) : Prop := rm.frames + 1 ≤ R.frames ∧ 8 + (maxL + 11) + rm.locals ≤ R.locals ∧ k + rm.cells ≤ R.cells ∧ n + rm.slots ≤ R.slots
theorem blind_CT (G : GG) (av : List Value) (m : Mm) : FrameBlind (va_Pc (av.map (cv (g_ad G))) (fun U => SF G U ∧ HW G m U.heap)) := by
  intro a U g mk h
  obtain ⟨h1, h2, h3⟩ := h
  exact ⟨h1, SF.moved (s := U) (State.WarmedH.refl U) (Nat.le_refl _) (fun q _ _ => rfl) h2, h3⟩
theorem sum_cv (ad : Nat → Nat) (st : List Value) : ((st.map (cv ad)).map fun v => v.category).sum = (st.map fun v => v.category).sum := by
  rw [List.map_map]
  congr 1
  apply List.map_congr_left
  intro v _
  exact cv_cat ad v
/-- behind a call -/
theorem ga_back {Qr : Option Value → Mm → Prop} {Qx : String → Mm → Prop} {mc ms : Nat} {g0 : List Value} {a : Array Value}
    (hr : ∀ (H : Heap) (locs : List Loc) (ls : Array Slot), HW G m H → va_S (g_A G) (e_s E).heap H locs → ls.size = (e_c E).maxLocals → vx_Run (e_p E) (e_l E) (e_e E) (e_R E) (e_s E) (e_m E) (e_a E) (e_b E) (e_t E) (e_c E) H locs k n mc ms (F0 (e_m E) pc ls (g0.map (cv (g_ad G)))) (st.map (cv (g_ad G))) (qR G Qr a) (qX G Qx) (g_A G))
    (kr : ∀ (r : Option Value) (m' : Mm), Qr r m' → WA G E (k + mc) (n + ms) (pc + 3) L (r.toList ++ st) m')
    (kx : ∀ (X : String) (m' : Mm), Qx X m' → WX G E (k + mc) (n + ms) pc L m' X) : WA G E k n pc L g0 m := by
  intro H locs ls hW hS hl T hT X
  rcases hr H locs ls hW hS hl.1 T hT X with ⟨v, st₀, t, T', Lc, h0, X', hL, e1, e2, ⟨⟨r, m', hv, hp, hb⟩, hF⟩, hst⟩ | ⟨q, st₀, t, T', Lc, X0, ce, h0, X', hL, e1, e2, ⟨⟨m', hp, hb⟩, hF⟩, hce, hcv, hcl, hst⟩
  · obtain ⟨k1, k2, k3⟩ := vx_keep h0 e1 hS (fun q _ h => h) (fun q h => h) hL hF
    have hv' : v = r.map (cv (g_ad G)) := by injection hv
    subst hv'
    obtain ⟨t2, a1, b1⟩ := kr r m' hp T'.heap (locs ++ Lc) ls (by rw [e1]; exact hb) k3 hl T' rfl X'
    refine ⟨t2, hst t2 ?_, b1⟩
    have e9 : (r.map (cv (g_ad G))).toList ++ st.map (cv (g_ad G)) = (r.toList ++ st).map (cv (g_ad G)) := by cases r <;> rfl
    rw [e9]
    exact a1
  · obtain ⟨k1, k2, k3⟩ := vx_keep h0 e1 hS (fun q _ h => h) (fun q h => h) hL hF
    obtain ⟨t2, a1, b1⟩ := kx X0 m' hp T'.heap (locs ++ Lc) ls (st.map (cv (g_ad G))) ce q (by rw [e1]; exact hb) k3 hl (by rw [e1]; exact hce) hcv hcl T' rfl X'
    exact ⟨t2, hst.trans a1, b1⟩
theorem ga_callS (ok : OK0 G E own b) {y : MethodName} {bytes : ByteArray} {maxL index na : Nat} {ret : Option FieldType} {rm : Room} {Qr : Option Value → Mm → Prop} {Qx : String → Mm → Prop} (as : List Value)
    (lk : LinkS own index y bytes maxL ret na) (hC : CT G (e_l E) y bytes maxL ret rm as m Qr Qx) (hn : as.length = na) (hf : Fits (e_R E) rm maxL k n) (hw : (st.map fun v => v.category).sum ≤ 8)
    (d : decode b pc = .ok (.invokestatic index, 3))
    (kr : ∀ (r : Option Value) (m' : Mm), Qr r m' → WA G E (k + rm.cells) (n + rm.slots) (pc + 3) L (r.toList ++ st) m')
    (kx : ∀ (X : String) (m' : Mm), Qx X m' → WX G E (k + rm.cells) (n + rm.slots) pc L m' X) : WA G E k n pc L (as.reverse ++ st) m := by
  obtain ⟨f1, f2, f3, f4⟩ := hf
  refine ga_back (a := (as.map (cv (g_ad G))).toArray) (fun H locs ls hW hS hsz => ?_) kr kx
  have cw := cwS (R := e_R E) (s := e_s E) (args := e_a E) (own := own) (index := index) (y := y) (bytes := bytes) (maxL := maxL) (ret := ret) (Ts := BIG) (ws := Cond.code y bytes maxL ret :: BIG) (ws' := BIG) (rm := rm) (mc := rm.cells) (ms := rm.slots) na ok.w (big_in (fun w hw => by
    rcases List.mem_append.mp hw with h | h
    · exact lk.1 w h
    · rcases List.mem_cons.mp h with h | h
      · rw [h]; exact lk.2.1
      · exact h)) rfl rfl rfl lk.2.2 ⟨f1, f2⟩
  refine vx_runS (As := as.map (cv (g_ad G))) (rest := st.map (cv (g_ad G))) ⟨ok.x, ok.b, rfl, ok.o, ok.w⟩ hC cw ⟨blind_CT G as m, fun U hU hWm => ⟨rfl, SF.moved hWm (by rw [hU]; exact hS.1) (fun q h1 h2 => ?_) ok.f, by rw [hU]; exact hW⟩⟩ rfl (by rw [List.length_map]; exact hn) hsz (by simp) ?_ d ⟨f3, f4⟩
  · rw [hU]; exact hS.2.1 q h1 h2
  · have := sum_cv (g_ad G) st
    exact lv_room (by omega)
theorem ga_callV (ok : OK0 G E own b) {y : MethodName} {bytes : ByteArray} {maxL index na a ci : Nat} {ret : Option FieldType} {rm : Room} {Qr : Option Value → Mm → Prop} {Qx : String → Mm → Prop} {q : vw_C} (as : List Value)
    (lk : LinkV own index y bytes maxL ret na) (hC : CT G (e_l E) y bytes maxL ret rm (.ref a :: as) m Qr Qx) (hn : as.length = na) (hf : Fits (e_R E) rm maxL k n) (hw : (st.map fun v => v.category).sum ≤ 8)
    (hd : g_dm G a) (hq : vcl[ci]? = some q) (hq1 : q.1 = y.cls) (hc : ∃ fs, g_cell G m a = .inr (ci, fs))
    (d : decode b pc = .ok (.invokevirtual index, 3))
    (kr : ∀ (r : Option Value) (m' : Mm), Qr r m' → WA G E (k + rm.cells) (n + rm.slots) (pc + 3) L (r.toList ++ st) m')
    (kx : ∀ (X : String) (m' : Mm), Qx X m' → WX G E (k + rm.cells) (n + rm.slots) pc L m' X) : WA G E k n pc L (as.reverse ++ .ref a :: st) m := by
  obtain ⟨f1, f2, f3, f4⟩ := hf
  refine ga_back (a := (Value.ref (g_ad G a) :: as.map (cv (g_ad G))).toArray) (fun H locs ls hW hS hsz => ?_) kr kx
  have cw := cwV (R := e_R E) (s := e_s E) (args := e_a E) (own := own) (C := y.cls) (index := index) (y := y) (bytes := bytes) (maxL := maxL) (ret := ret) (Ts := BIG) (ws := Cond.code y bytes maxL ret :: BIG) (ws' := BIG) (rm := rm) (mc := rm.cells) (ms := rm.slots) na ok.w (big_in (fun w hw => by
    rcases List.mem_append.mp hw with h | h
    · exact lk.1 w h
    · rcases List.mem_cons.mp h with h | h
      · rw [h]; exact lk.2.1
      · exact h)) rfl rfl rfl ⟨rfl, lk.2.2⟩ ⟨f1, f2⟩
  obtain ⟨fs, hfs⟩ := hc
  have hat := hW.1 a hd
  rw [hfs] at hat
  obtain ⟨q', g0, cell, g1, g2, g3, -⟩ := hat
  have hqq : q' = q := Option.some.inj (g0.symm.trans hq)
  subst hqq
  have hk := (ok.f.1.1 ci q' hq).2.1
  rw [hq1] at hk
  refine vx_runV (As := as.map (cv (g_ad G))) (rest := st.map (cv (g_ad G))) ⟨ok.x, ok.b, rfl, ok.o, ok.w⟩ hC cw ⟨blind_CT G (.ref a :: as) m, ⟨cell, g1, by rw [g3]; rfl, by rw [g2]; exact hk⟩, fun U hU hWm => ⟨rfl, SF.moved hWm (by rw [hU]; exact hS.1) (fun q h1 h2 => ?_) ok.f, by rw [hU]; exact hW⟩⟩ rfl (by rw [List.length_map]; exact hn) hsz (by simp [cv]) ?_ d ⟨f3, f4⟩
  · rw [hU]; exact hS.2.1 q h1 h2
  · have := sum_cv (g_ad G) st
    exact lv_room (by omega)
/-! ends -/
theorem ga_ireturn (ok : OK0 G E own b) {rm : Room} {ret : Option FieldType} {Qr : Option Value → Mm → Prop} {Qx : String → Mm → Prop} (en : EndOK G E rm ret Qr Qx) {z : Int} {ty : FieldType} (hret : ret = some ty) (hna : narrow ty (.int (Int32.ofInt z)) = .int (Int32.ofInt z)) (hk : k ≤ rm.cells) (hn : n ≤ rm.slots) (d : decode b pc = .ok (.ireturn, 1)) (hq : Qr (some (vI z)) m) : WA G E k n pc L [vI z] m := by
  intro H locs ls hW hS hl
  obtain ⟨e1, e2, e3, e4⟩ := en
  show gW E k n H locs _
  unfold gW
  rw [e1]
  refine vx_ret ?_
  refine W.widen (k := rm.cells) (n := rm.slots) hk hn ?_
  exact W.zret (v := Int32.ofInt z) ok.x ok.b (by rw [e3, hret]) hna (fun t ht hWm => ⟨⟨some (vI z), m, rfl, hq, by rw [ht]; exact hW⟩, hS.F ht⟩) (fun q hq => hS.2.2 q hq) d e2
theorem ga_freturn (ok : OK0 G E own b) {rm : Room} {ret : Option FieldType} {Qr : Option Value → Mm → Prop} {Qx : String → Mm → Prop} (en : EndOK G E rm ret Qr Qx) {z : UInt32} (hret : ret = some .float) (hk : k ≤ rm.cells) (hn : n ≤ rm.slots) (d : decode b pc = .ok (.freturn, 1)) (hq : Qr (some (.float z)) m) : WA G E k n pc L [.float z] m := by
  intro H locs ls hW hS hl
  obtain ⟨e1, e2, e3, e4⟩ := en
  show gW E k n H locs _
  unfold gW
  rw [e1]
  refine vx_ret ?_
  refine W.widen (k := rm.cells) (n := rm.slots) hk hn ?_
  exact W.fret (v := z) ok.x ok.b (by rw [e3, hret]) (fun t ht hWm => ⟨⟨some (.float z), m, rfl, hq, by rw [ht]; exact hW⟩, hS.F ht⟩) (fun q hq => hS.2.2 q hq) d e2
theorem ga_dreturn (ok : OK0 G E own b) {rm : Room} {ret : Option FieldType} {Qr : Option Value → Mm → Prop} {Qx : String → Mm → Prop} (en : EndOK G E rm ret Qr Qx) {z : UInt64} (hret : ret = some .double) (hk : k ≤ rm.cells) (hn : n ≤ rm.slots) (d : decode b pc = .ok (.dreturn, 1)) (hq : Qr (some (.double z)) m) : WA G E k n pc L [.double z] m := by
  intro H locs ls hW hS hl
  obtain ⟨e1, e2, e3, e4⟩ := en
  show gW E k n H locs _
  unfold gW
  rw [e1]
  refine vx_ret ?_
  refine W.widen (k := rm.cells) (n := rm.slots) hk hn ?_
  exact W.dret (v := z) ok.x ok.b (by rw [e3, hret]) (fun t ht hWm => ⟨⟨some (.double z), m, rfl, hq, by rw [ht]; exact hW⟩, hS.F ht⟩) (fun q hq => hS.2.2 q hq) d e2
theorem ga_return (ok : OK0 G E own b) {rm : Room} {ret : Option FieldType} {Qr : Option Value → Mm → Prop} {Qx : String → Mm → Prop} (en : EndOK G E rm ret Qr Qx) (hret : ret = none) (hk : k ≤ rm.cells) (hn : n ≤ rm.slots) (d : decode b pc = .ok (.return_, 1)) (hq : Qr none m) : WA G E k n pc L [] m := by
  intro H locs ls hW hS hl
  obtain ⟨e1, e2, e3, e4⟩ := en
  show gW E k n H locs _
  unfold gW
  rw [e1]
  refine vx_ret ?_
  refine W.widen (k := rm.cells) (n := rm.slots) hk hn ?_
  exact W.vret ok.x ok.b (by rw [e3, hret]) (fun t ht hWm => ⟨⟨none, m, rfl, hq, by rw [ht]; exact hW⟩, hS.F ht⟩) (fun q hq => hS.2.2 q hq) d e2
/-- an exception that isn't caught here -/
theorem ga_out {rm : Room} {ret : Option FieldType} {Qr : Option Value → Mm → Prop} {Qx : String → Mm → Prop} (en : EndOK G E rm ret Qr Qx) (hx : ∀ x ∈ (e_c E).exceptionTable.toList, False) (hk : k ≤ rm.cells) (hn : n ≤ rm.slots) {X : String} (hq : Qx X m) : WX G E k n pc L m X := by
  intro H locs ls st ce q hW hS hl hce hv hcl
  obtain ⟨e1, e2, e3, e4⟩ := en
  show gX E k n H locs _ q
  unfold gX
  rw [e1]
  exact vx_out (fun x h => (hx x h).elim) e2 hce hv hcl (fun t ht ha => ⟨⟨m, hq, by rw [ht]; exact hW⟩, hS.F ht⟩) (fun q hq => hS.2.2 q hq) hk hn
end CALLS
