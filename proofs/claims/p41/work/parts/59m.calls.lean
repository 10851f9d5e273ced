/-! CONTRACTS OF WHAT MAKES CELLS -/
def qL (G : GG) (Qr : Option Value → Mm → XS → Prop) : Array Value → State → Outcome → State → Prop := fun _ st o t => (∃ (r : Option Value) (m' : Mm) (Xs' : XS), o = .returned (r.map (cv (g_ad G))) ∧ Qr r m' Xs' ∧ HW (GX G Xs') m' t.heap) ∧ va_F (g_A G) st t
def CL (G : GG) (l : Launch) (y : MethodName) (bytes : ByteArray) (maxL : Nat) (ret : Option FieldType) (rm : Room) (av : List Value) (m : Mm) (Xs : XS) (Qr : Option Value → Mm → XS → Prop) : Prop :=
  Met l y (Cond.code y bytes maxL ret :: BIG) rm (va_Pc (av.map (cv (g_ad G))) (fun U => SF G U ∧ HW (GX G Xs) m U.heap)) (qL G Qr) rm.cells rm.slots (g_A G)
def EndL (G : GG) (E : EE) (rm : Room) (ret : Option FieldType) (Qr : Option Value → Mm → XS → Prop) : Prop :=
  e_Q E = MQ (e_b E) (qL G Qr) (e_a E) (e_s E) rm.cells rm.slots (g_A G) ∧ (e_t E).locks = false ∧ (e_t E).sig.returnType = ret ∧ (e_R E) = rm
theorem blind_CL (G : GG) (av : List Value) (m : Mm) (Xs : XS) : FrameBlind (va_Pc (av.map (cv (g_ad G))) (fun U => SF G U ∧ HW (GX G Xs) m U.heap)) := by
  intro a U g mk h
  obtain ⟨h1, h2, h3⟩ := h
  exact ⟨h1, SF.moved (s := U) (State.WarmedH.refl U) (Nat.le_refl _) (fun q _ _ => rfl) h2, h3⟩
theorem CL.of {G : GG} {l : Launch} {y : MethodName} {bytes : ByteArray} {maxL : Nat} {ret : Option FieldType} {rm : Room} {av : List Value} {m : Mm} {Xs : XS} {Qr : Option Value → Mm → XS → Prop} (own : String) (L : List (Nat × Value))
    (hfl : l.stackTraces = false) (hy : plainName y.cls = true) (hown : y.cls = own) (hL : lv_args 0 av = L) (hlen : (lg_sl av).length ≤ maxL)
    (body : ∀ E : EE, OK0 G E own bytes → EndL G E rm ret Qr → (e_c E).maxLocals = maxL → (e_l E) = l → (e_t E).name = y.name → WA (GX G Xs) E 0 0 0 L [] m) : CL G l y bytes maxL ret rm av m Xs Qr := by
  refine Met.ofW (cc := bytes) (maxL := maxL) (ret := ret) hy rfl ?_
  intro p e s m0 args below meth c s₁ B hml hP
  obtain ⟨rfl, hSF, hHW⟩ := hP
  have hts := atoms_spec (ws := Cond.code y bytes maxL ret :: BIG) B.pre
  have hownc : s.vm.findClass own = some m0.cls := by rw [← hown]; exact findClass_of_methodNamed B.named
  have hin : meth.name = y.name := (name_of_methodNamed B.named B.method).1
  have hl0 := lv_entry (av.map (cv (g_ad G))) (n := maxL) (by rw [sl_len]; exact hlen)
  rw [lg_entry_eq]
  have hl1 : lv_has (lg_sl (List.map (cv (g_ad G)) av) ++ List.replicate (maxL - (lg_sl (List.map (cv (g_ad G)) av)).length) Slot.unset).toArray maxL (L.map (cvp G)) := by
    have e : L.map (cvp G) = lv_args 0 (av.map (cv (g_ad G))) := by rw [← hL, args_cv]; rfl
    rw [e]; exact hl0
  obtain ⟨E, hE⟩ : ∃ E : EE, E = (p, l, e, (headSpec (Cond.code y bytes maxL ret :: BIG) rm).room, s, m0, (av.map (cv (g_ad G))).toArray, below, meth, c, MQ below (qL G Qr) (av.map (cv (g_ad G))).toArray s rm.cells rm.slots (g_A G)) := ⟨_, rfl⟩
  have k := body E (by subst hE; exact ⟨B.exec, B.bytes, hownc, fun w hw => hts w (List.mem_cons_of_mem _ hw), hSF, hfl⟩) (by subst hE; exact ⟨rfl, B.notSynchronized, B.returns, rfl⟩) (by subst hE; exact hml) (by subst hE; rfl) (by subst hE; exact hin)
  have hml' : (e_c E).maxLocals = maxL := by subst hE; exact hml
  have k2 := k s.heap [] _ hHW (by subst hE; exact va_S.rf) (by rw [hml']; exact hl1)
  subst hE
  exact k2
section XC
variable {G : GG} {E : EE} {own : String} {b : ByteArray} {k n pc : Nat} {L : List (Nat × Value)} {st : List Value} {m : Mm} {Xs : XS}
theorem gl_ireturn (ok : OK0 G E own b) {rm : Room} {ret : Option FieldType} {Qr : Option Value → Mm → XS → Prop} (en : EndL G E rm ret Qr) {z : Int} {ty : FieldType} (hret : ret = some ty) (hna : narrow ty (.int (Int32.ofInt z)) = .int (Int32.ofInt z)) (hk : k ≤ rm.cells) (hn : n ≤ rm.slots) (d : decode b pc = .ok (.ireturn, 1)) (hq : Qr (some (vI z)) m Xs) : WA (GX G Xs) E k n pc L [vI z] m := by
  intro H locs ls hW hS hl
  obtain ⟨e1, e2, e3, e4⟩ := en
  show gW E k n H locs _
  unfold gW
  rw [e1]
  refine W.widen (k := rm.cells) (n := rm.slots) hk hn ?_
  exact W.zret (v := Int32.ofInt z) ok.x ok.b (by rw [e3, hret]) hna (fun t ht hWm => ⟨⟨some (vI z), m, Xs, rfl, hq, by rw [ht]; exact hW⟩, hS.F ht⟩) (fun q hq => hS.2.2 q hq) d e2
theorem gl_freturn (ok : OK0 G E own b) {rm : Room} {ret : Option FieldType} {Qr : Option Value → Mm → XS → Prop} (en : EndL G E rm ret Qr) {z : UInt32} (hret : ret = some .float) (hk : k ≤ rm.cells) (hn : n ≤ rm.slots) (d : decode b pc = .ok (.freturn, 1)) (hq : Qr (some (.float z)) m Xs) : WA (GX G Xs) E k n pc L [.float z] m := by
  intro H locs ls hW hS hl
  obtain ⟨e1, e2, e3, e4⟩ := en
  show gW E k n H locs _
  unfold gW
  rw [e1]
  refine W.widen (k := rm.cells) (n := rm.slots) hk hn ?_
  exact W.fret (v := z) ok.x ok.b (by rw [e3, hret]) (fun t ht hWm => ⟨⟨some (.float z), m, Xs, rfl, hq, by rw [ht]; exact hW⟩, hS.F ht⟩) (fun q hq => hS.2.2 q hq) d e2
theorem gl_lreturn (ok : OK0 G E own b) {rm : Room} {ret : Option FieldType} {Qr : Option Value → Mm → XS → Prop} (en : EndL G E rm ret Qr) {z : Int} (hret : ret = some .long) (hk : k ≤ rm.cells) (hn : n ≤ rm.slots) (d : decode b pc = .ok (.lreturn, 1)) (hq : Qr (some (vJ z)) m Xs) : WA (GX G Xs) E k n pc L [vJ z] m := by
  intro H locs ls hW hS hl
  obtain ⟨e1, e2, e3, e4⟩ := en
  show gW E k n H locs _
  unfold gW
  rw [e1]
  refine W.widen (k := rm.cells) (n := rm.slots) hk hn ?_
  exact W.lret (v := Int64.ofInt z) ok.x ok.b (by rw [e3, hret]) (fun t ht hWm => ⟨⟨some (vJ z), m, Xs, rfl, hq, by rw [ht]; exact hW⟩, hS.F ht⟩) (fun q hq => hS.2.2 q hq) d e2
theorem gl_areturn (ok : OK0 G E own b) {rm : Room} {ret : Option FieldType} {Qr : Option Value → Mm → XS → Prop} (en : EndL G E rm ret Qr) {a : Nat} {rt : FieldType} (hret : ret = some rt) (hrt : (∃ n, rt = .object n) ∨ ∃ t, rt = .array t) (hk : k ≤ rm.cells) (hn : n ≤ rm.slots) (d : decode b pc = .ok (.areturn, 1)) (hq : Qr (some (.ref a)) m Xs) : WA (GX G Xs) E k n pc L [.ref a] m := by
  intro H locs ls hW hS hl
  obtain ⟨e1, e2, e3, e4⟩ := en
  show gW E k n H locs _
  unfold gW
  rw [e1]
  refine W.widen (k := rm.cells) (n := rm.slots) hk hn ?_
  exact W.aret (v := .ref (g_ad G a)) ok.x ok.b (by rw [e3, hret]) hrt (Or.inr ⟨_, rfl⟩) (fun t ht hWm => ⟨⟨some (.ref a), m, Xs, rfl, hq, by rw [ht]; exact hW⟩, hS.F ht⟩) (fun q hq => hS.2.2 q hq) d e2
theorem gl_return (ok : OK0 G E own b) {rm : Room} {ret : Option FieldType} {Qr : Option Value → Mm → XS → Prop} (en : EndL G E rm ret Qr) (hret : ret = none) (hk : k ≤ rm.cells) (hn : n ≤ rm.slots) (d : decode b pc = .ok (.return_, 1)) (hq : Qr none m Xs) : WA (GX G Xs) E k n pc L [] m := by
  intro H locs ls hW hS hl
  obtain ⟨e1, e2, e3, e4⟩ := en
  show gW E k n H locs _
  unfold gW
  rw [e1]
  refine W.widen (k := rm.cells) (n := rm.slots) hk hn ?_
  exact W.vret ok.x ok.b (by rw [e3, hret]) (fun t ht hWm => ⟨⟨none, m, Xs, rfl, hq, by rw [ht]; exact hW⟩, hS.F ht⟩) (fun q hq => hS.2.2 q hq) d e2
/-- behind a call of such a one -/
theorem gl_backL {Qr : Option Value → Mm → XS → Prop} {mc ms : Nat} {g0 : List Value} {a : Array Value}
    (hr : ∀ (H : Heap) (locs : List Loc) (ls : Array Slot), HW (GX G Xs) m H → va_S (g_A G) (e_s E).heap H locs → ls.size = (e_c E).maxLocals → va_Run (e_p E) (e_l E) (e_e E) (e_R E) (e_s E) (e_m E) (e_a E) (e_b E) (e_t E) (e_c E) H locs k n mc ms (F0 (e_m E) pc ls (g0.map (cv (g_ad G)))) (st.map (cv (g_ad G))) (qL G Qr a) (g_A G))
    (kr : ∀ (r : Option Value) (m' : Mm) (Xs' : XS), Qr r m' Xs' → WA (GX G Xs') E (k + mc) (n + ms) (pc + 3) L (r.toList ++ st) m') : WA (GX G Xs) E k n pc L g0 m := by
  intro H locs ls hW hS hl T hT X
  have hS0 : va_S (g_A G) (e_s E).heap H locs := hS
  have hl0 : lv_has ls (e_c E).maxLocals (L.map (cvp G)) := hl
  obtain ⟨v, st₀, t, T', Lc, h0, X', hL, e1, e2, ⟨⟨r, m', Xs', hv, hp, hb⟩, hF⟩, hst⟩ := hr H locs ls hW hS0 hl0.1 T hT X
  obtain ⟨k1, k2, k3⟩ := vx_keep h0 e1 hS0 (fun q _ h => h) (fun q h => h) hL hF
  have hv' : v = r.map (cv (g_ad G)) := by injection hv
  subst hv'
  obtain ⟨t2, a1, b1⟩ := kr r m' Xs' hp T'.heap (locs ++ Lc) ls (by rw [e1]; exact hb) k3 hl0 T' rfl X'
  refine ⟨t2, hst t2 ?_, b1⟩
  have e9 : (r.map (cv (g_ad G))).toList ++ st.map (cv (g_ad G)) = (r.toList ++ st).map (cv (g_ad G)) := by cases r <;> rfl
  rw [e9]
  exact a1
theorem gl_callL (ok : OK0 G E own b) {y : MethodName} {bytes : ByteArray} {maxL index na : Nat} {ret : Option FieldType} {rm : Room} {Qr : Option Value → Mm → XS → Prop} (as : List Value)
    (lk : LinkS own index y bytes maxL ret na) (hC : CL G (e_l E) y bytes maxL ret rm as m Xs Qr) (hn : as.length = na) (hf : Fits (e_R E) rm maxL k n) (hw : (st.map fun v => v.category).sum ≤ 8)
    (d : decode b pc = .ok (.invokestatic index, 3))
    (kr : ∀ (r : Option Value) (m' : Mm) (Xs' : XS), Qr r m' Xs' → WA (GX G Xs') E (k + rm.cells) (n + rm.slots) (pc + 3) L (r.toList ++ st) m') : WA (GX G Xs) E k n pc L (as.reverse ++ st) m := by
  obtain ⟨f1, f2, f3, f4⟩ := hf
  refine gl_backL (a := (as.map (cv (g_ad G))).toArray) (fun H locs ls hW hS hsz => ?_) kr
  have cw := cwS (R := e_R E) (s := e_s E) (args := e_a E) (own := own) (index := index) (y := y) (bytes := bytes) (maxL := maxL) (ret := ret) (Ts := BIG) (ws := Cond.code y bytes maxL ret :: BIG) (ws' := BIG) (rm := rm) (mc := rm.cells) (ms := rm.slots) na ok.w (big_in (fun w hw => by
    rcases List.mem_append.mp hw with h | h
    · exact lk.1 w h
    · rcases List.mem_cons.mp h with h | h
      · rw [h]; exact lk.2.1
      · exact h)) rfl rfl rfl lk.2.2 ⟨f1, f2⟩
  refine va_runS (As := as.map (cv (g_ad G))) (rest := st.map (cv (g_ad G))) ⟨ok.x, ok.b, rfl, ok.o, ok.w⟩ hC cw ⟨blind_CL G as m Xs, fun U hU hWm => ⟨rfl, SF.moved hWm (by rw [hU]; exact hS.1) (fun q h1 h2 => ?_) ok.f, by rw [hU]; exact hW⟩⟩ rfl (by rw [List.length_map]; exact hn) hsz (by simp) ?_ d ⟨f3, f4⟩
  · rw [hU]; exact hS.2.1 q h1 h2
  · have := sum_cv (g_ad G) st
    exact lv_room (by omega)
theorem gl_callLJ (ok : OK0 G E own b) {y : MethodName} {bytes : ByteArray} {maxL index na : Nat} {ret : Option FieldType} {rm : Room} {Qr : Option Value → Mm → XS → Prop} (as : List Value)
    (lk : LinkJ own index y bytes maxL ret na) (hC : CL G (e_l E) y bytes maxL ret rm as m Xs Qr) (hn : as.length = na) (hf : Fits (e_R E) rm maxL k n) (hw : (st.map fun v => v.category).sum ≤ 8)
    (d : decode b pc = .ok (.invokestatic index, 3))
    (kr : ∀ (r : Option Value) (m' : Mm) (Xs' : XS), Qr r m' Xs' → WA (GX G Xs') E (k + rm.cells) (n + rm.slots) (pc + 3) L (r.toList ++ st) m') : WA (GX G Xs) E k n pc L (as.reverse ++ st) m := by
  obtain ⟨f1, f2, f3, f4⟩ := hf
  refine gl_backL (a := (as.map (cv (g_ad G))).toArray) (fun H locs ls hW hS hsz => ?_) kr
  have cb := callB_of (R := e_R E) (s := e_s E) (args := e_a E) (own := own) (index := index) (y := y) (bytes := bytes) (maxL := maxL) (ret := ret) (Ts := BIG) (ws := Cond.code y bytes maxL ret :: BIG) (ws' := BIG) (rm := rm) (mc := rm.cells) (ms := rm.slots) na ok.w (big_in (fun w hw => by
    rcases List.mem_cons.mp hw with h | h
    · rw [h]; exact lk.2.1
    · exact h)) rfl rfl rfl (ok.w _ lk.1.2.2) (ok.w _ lk.1.1) lk.2.2 ⟨f1, f2⟩
  refine va_runS (As := as.map (cv (g_ad G))) (rest := st.map (cv (g_ad G))) ⟨ok.x, ok.b, rfl, ok.o, ok.w⟩ hC ⟨cb, ok.w _ lk.1.2.1⟩ ⟨blind_CL G as m Xs, fun U hU hWm => ⟨rfl, SF.moved hWm (by rw [hU]; exact hS.1) (fun q h1 h2 => ?_) ok.f, by rw [hU]; exact hW⟩⟩ rfl (by rw [List.length_map]; exact hn) hsz (by simp) ?_ d ⟨f3, f4⟩
  · rw [hU]; exact hS.2.1 q h1 h2
  · have := sum_cv (g_ad G) st
    exact lv_room (by omega)
/-- a constructor over a cell of the law's -/
theorem gl_callLI (ok : OK0 G E own b) {y : MethodName} {bytes : ByteArray} {maxL idx na q : Nat} {rm : Room} {Qr : Option Value → Mm → XS → Prop} (as : List Value)
    (lk : LinkI own idx y bytes maxL na) (hC : CL G (e_l E) y bytes maxL none rm (.ref q :: as) m Xs Qr) (hna : as.length = na) (hf : Fits (e_R E) rm maxL k n) (hw : (st.map fun v => v.category).sum ≤ 8)
    (d : decode b pc = .ok (.invokespecial idx, 3))
    (kr : ∀ (r : Option Value) (m' : Mm) (Xs' : XS), Qr r m' Xs' → WA (GX G Xs') E (k + rm.cells) (n + rm.slots) (pc + 3) L (r.toList ++ st) m') : WA (GX G Xs) E k n pc L (as.reverse ++ .ref q :: st) m := by
  obtain ⟨f1, f2, f3, f4⟩ := hf
  obtain ⟨lk1, lk2, lk3, lk4⟩ := lk
  have w1 := lk1 _ List.mem_cons_self
  have w2 := lk1 _ (List.mem_cons_of_mem _ List.mem_cons_self)
  have w3 := lk1 _ (List.mem_cons_of_mem _ (List.mem_cons_of_mem _ List.mem_cons_self))
  refine gl_backL (a := (Value.ref (g_ad G q) :: as.map (cv (g_ad G))).toArray) (fun H locs ls hW hS hsz => ?_) kr
  have cw := cwI (R := e_R E) (s := e_s E) (args := e_a E) (own := own) (index := idx) (y := y) (bytes := bytes) (maxL := maxL) (Ts := BIG) (ws := Cond.code y bytes maxL none :: BIG) (ws' := BIG) (rm := rm) (mc := rm.cells) (ms := rm.slots) na ok.w (big_in (fun w hw => by
    rcases List.mem_cons.mp hw with h | h
    · rw [h]; exact lk2
    · exact h)) rfl rfl rfl (ok.w _ w3) (ok.w _ w1) (ok.w _ w2) lk3 lk4 ⟨f1, f2⟩
  refine va_runI (b := g_ad G q) (As := as.map (cv (g_ad G))) (rest := st.map (cv (g_ad G))) ⟨ok.x, ok.b, rfl, ok.o, ok.w⟩ hC cw ⟨blind_CL G (.ref q :: as) m Xs, fun U hU hWm => ⟨rfl, SF.moved hWm (by rw [hU]; exact hS.1) (fun q h1 h2 => ?_) ok.f, by rw [hU]; exact hW⟩⟩ rfl (by rw [List.length_map]; exact hna) hsz (by simp [cv]) ?_ d ⟨f3, f4⟩
  · rw [hU]; exact hS.2.1 q h1 h2
  · have := sum_cv (g_ad G) st
    exact lv_room (by omega)
end XC
/-! CALLS OVER A PART OF THE WORLD -/
theorem SST.narrow {A B : Nat → Prop} {u : State} (h : SST A u) (hAB : ∀ q, B q → A q) : SST B u := by
  have kd : ∀ {nm : String} {f : Nat → Int}, DGR A nm f u → DGR B nm f u := fun hd => by
    obtain ⟨a, cell, h1, h2, h3, h4⟩ := hd
    exact ⟨a, cell, h1.narrow hAB, h2, fun z => h3 (hAB a z), h4⟩
  obtain ⟨h1, ⟨v, hv, h2⟩, h3, h4, h5⟩ := h
  exact ⟨h1.narrow hAB, ⟨v, hv, h2.narrow hAB⟩, kd h3, kd h4, h5⟩
theorem SST.moved {A : Nat → Prop} {u U : State} (hW : u.WarmedH U.vm) (hk : ∀ q, q < u.heap.size → ¬ A q → U.heap[q]? = u.heap[q]?) (h : SST A u) : SST A U := by
  have kz : ∀ {C n d : String} {v : Value}, va_Z C n d v A u u.heap → va_Z C n d v A U U.heap := fun hz => (hz.kept hk).moved hW.alike
  have kd : ∀ {nm : String} {f : Nat → Int}, DGR A nm f u → DGR A nm f U := fun hd => by
    obtain ⟨a, cell, h1, h2, h3, h4, h5⟩ := hd
    exact ⟨a, cell, kz h1, by rw [hk a (Array.getElem?_eq_some_iff.mp h2).1 h3]; exact h2, h3, State.isArrayOf_alike hW.alike h4, h5⟩
  obtain ⟨h1, ⟨v, hv, h2⟩, h3, h4, h5, h6, h7, h8⟩ := h
  exact ⟨kz h1, ⟨v, hv, kz h2⟩, kd h3, kd h4, word_at hW (Or.inl (by first | rfl | simp [Cond.onTables, Cond.keeps, Cond.steady])) h5, word_at hW (Or.inl (by first | rfl | simp [Cond.onTables, Cond.keeps, Cond.steady])) h6, word_at hW (Or.inl (by first | rfl | simp [Cond.onTables, Cond.keeps, Cond.steady])) h7, word_at hW (Or.inl (by first | rfl | simp [Cond.onTables, Cond.keeps, Cond.steady])) h8⟩
theorem sbX_5 {A : Nat → Prop} {cA : Nat → ClassId} {dm : Nat → Prop} {ad : Nat → Nat} {D : va_G} {m : Mm} {H H' : Heap} (hx : sbX A cA dm ad D m H) (hq : ∀ q, q < H.size → (∀ n, dm n → ad n ≠ q) → H'[q]? = H[q]?) : sbX A cA dm ad D m H' := by
  obtain ⟨a1, a2, a3, a4⟩ := hx
  refine ⟨a1.kept (hq _ a1.lt (fun n hn => (a3.2.2.2 n hn).1)), a2.kept (hq _ a2.lt (fun n hn => (a3.2.2.2 n hn).2)), a3, fun h => ?_⟩
  obtain ⟨b1, b2⟩ := a4 h
  exact ⟨b1.kept (hq _ b1.lt (fun n hn => b2.2.2.2 n hn)), b2⟩
theorem sbX_6 {A : Nat → Prop} {cA : Nat → ClassId} {dm : Nat → Prop} {ad : Nat → Nat} {D : va_G} {m m' : Mm} {H : Heap} (h1 : m.1 960 = m'.1 960) (h2 : m.1 961 = m'.1 961) (hx : sbX A cA dm ad D m H) : sbX A cA dm ad D m' H := by
  unfold sbX sbF at *
  rw [← h1, ← h2]
  exact hx
def fcA (G : GG) (m : Mm) : Nat → Prop := fun q => (∃ n, g_dm G n ∧ g_ad G n = q) ∨ q = g_ad G 960 ∨ q = (m.1 960 2).toNat
/-- the class's own world alone: what is older than N and not hers is not touched -/
def FC (G : GG) (m : Mm) (N : Nat) : GG := (g_ad G, g_D G, g_cA G, (N, fcA G m), g_dm G, g_cf G, sbX (fun q => N ≤ q ∨ fcA G m q) (g_cA G) (g_dm G), fun u => SST (fun q => N ≤ q ∨ fcA G m q) u)
theorem FC.mw {G : GG} {m : Mm} {N : Nat} (h : MW G) : MW (FC G m N) := h
theorem FC.sb {G : GG} {m : Mm} {N : Nat} (h : SBW G) : SBW (FC G m N) := ⟨h.1, rfl, fun _ h => h⟩
theorem FC.less {G : GG} {s : State} {m : Mm} {H : Heap} {N : Nat} (hf : SF G s) (hS : SBW G) (hW : HW G m H) (hN : g_bs G ≤ N) : ∀ q, g_A (FC G m N) q → g_A G q := by
  intro q h
  have hx := (sb_ex hS hW).2.2.1
  rcases h with h | ⟨n, hn, rfl⟩ | rfl | rfl
  · exact Or.inl (Nat.le_trans hN h)
  · exact (hf.2.2.1 n hn).1
  · exact hx.1
  · exact hx.2.1
theorem FC.sf {G : GG} {U : State} {m : Mm} (hf : SF G U) (hS : SBW G) (hW : HW G m U.heap) : SF (FC G m U.heap.size) U := by
  have hl := FC.less hf hS hW hf.2.2.2.2.2.2.2.2.2.2.2.2.2
  obtain ⟨h1, h2, h3, h4, h5, h6, h7, h8, h9, h12, h13, h10, h11, h14⟩ := hf
  exact ⟨h1, h2, fun n hn => ⟨Or.inr (Or.inl ⟨n, hn, rfl⟩), (h3 n hn).2⟩, h4, fun m0 H H' (hx : sbX (g_A (FC G m U.heap.size)) (g_cA G) (g_dm G) (g_ad G) (g_D G) m0 H) hk => sbX_5 hx hk, fun m0 m' H e0 e1 (hx : sbX (g_A (FC G m U.heap.size)) (g_cA G) (g_dm G) (g_ad G) (g_D G) m0 H) => sbX_6 e0 e1 hx, h7.narrow hl, h8.narrow hl, h9, h12, h13, (hS.2.2 U h10).narrow hl, fun u U' hWm hk hs => SST.moved hWm hk hs, Nat.le_refl _⟩
theorem FC.hw {G : GG} {m : Mm} {H : Heap} {N : Nat} (hS : SBW G) (h40 : m.1 960 4 = 0) (hW : HW G m H) : HW (FC G m N) m H := by
  obtain ⟨a1, a2, a3, -⟩ := sb_ex hS hW
  exact ⟨hW.1, a1, a2, ⟨Or.inr (Or.inr (Or.inl rfl)), Or.inr (Or.inr (Or.inr rfl)), a3.2.2⟩, fun h => by rw [h40] at h; exact absurd h (by decide)⟩
theorem FC.back {G : GG} {m m' : Mm} {H H' : Heap} {Xs : XS} (hS : SBW G) (hX : XOK G m Xs H) (hl : ∀ q, g_A (FC G m H.size) q → g_A G q) (hb : HW (FC G m H.size) m' H') (hk : ∀ q : Nat, q < H.size → ¬ g_A (FC G m H.size) q → H'[q]? = H[q]?) : HW (GX G Xs) m' H' := by
  have hx : sbX (g_A (FC G m H.size)) (g_cA G) (g_dm G) (g_ad G) (g_D G) m' H' := hb.2
  obtain ⟨a1, a2, a3, a4⟩ := hx
  have out : ∀ x ∈ Xs, ∀ q, g_A (FC G m H.size) q → x.1 ≠ q := fun x hx q hq e => by
    obtain ⟨c1, c2, c3, c4, -⟩ := hX.2.2 x hx
    have hlt := (hX.1 x hx).lt
    rcases hq with h | ⟨n, hn, h⟩ | h | h
    · have h : H.size ≤ q := h
      omega
    · exact c2 n hn (h.trans e.symm)
    · exact c3 (e.trans h)
    · exact c4 (e.trans h)
  refine HW.xg ⟨hb.1, ?_⟩ ⟨fun x hx => (hX.1 x hx).kept (hk x.1 (hX.1 x hx).lt (fun h => out x hx _ h rfl)), hX.2.1, fun x hx => ?_⟩
  · rw [hS.2.1]
    exact ⟨a1, a2, ⟨hl _ a3.1, hl _ a3.2.1, a3.2.2⟩, fun h => ⟨(a4 h).1, hl _ (a4 h).2.1, (a4 h).2.2⟩⟩
  · obtain ⟨c1, c2, c3, -, -⟩ := hX.2.2 x hx
    exact ⟨c1, c2, c3, out x hx _ a3.2.1, fun h => out x hx _ (a4 h).2.1⟩
section XF
variable {G : GG} {E : EE} {own : String} {b : ByteArray} {k n pc : Nat} {L : List (Nat × Value)} {st : List Value} {m : Mm} {Xs : XS}
theorem gl_backC (ok : OK0 G E own b) (hS : SBW G) {Qr : Option Value → Mm → Prop} {mc ms : Nat} {g0 : List Value} {a : Array Value}
    (hr : ∀ (H : Heap) (locs : List Loc) (ls : Array Slot), HW (GX G Xs) m H → va_S (g_A G) (e_s E).heap H locs → ls.size = (e_c E).maxLocals → vx_Run (e_p E) (e_l E) (e_e E) (e_R E) (e_s E) (e_m E) (e_a E) (e_b E) (e_t E) (e_c E) H locs k n mc ms (F0 (e_m E) pc ls (g0.map (cv (g_ad G)))) (st.map (cv (g_ad G))) (qR (FC G m H.size) Qr a) (qX (FC G m H.size) (fun _ _ => False)) (g_A (FC G m H.size)))
    (kr : ∀ (r : Option Value) (m' : Mm), Qr r m' → WA (GX G Xs) E (k + mc) (n + ms) (pc + 3) L (r.toList ++ st) m') : WA (GX G Xs) E k n pc L g0 m := by
  intro H locs ls hW hS9 hl T hT X
  have hSA : va_S (g_A G) (e_s E).heap H locs := hS9
  have hl0 : lv_has ls (e_c E).maxLocals (L.map (cvp G)) := hl
  obtain ⟨hW0, hX⟩ := hW.gx
  have hle := FC.less (N := H.size) ok.f hS hW0 (Nat.le_trans ok.f.2.2.2.2.2.2.2.2.2.2.2.2.2 hSA.1)
  rcases hr H locs ls hW hSA hl0.1 T hT X with ⟨v, st₀, t, T', Lc, h0, X', hL, e1, e2, ⟨⟨r, m', hv, hp, hb⟩, hF⟩, hst⟩ | ⟨q, st₀, t, T', Lc, X0, ce, h0, X', hL, e1, e2, ⟨⟨m', hp, hb⟩, hF⟩, hce, hcv, hcl, hst⟩
  · obtain ⟨k1, k2, k3⟩ := vx_keep h0 e1 hSA (fun q _ h => hle q h) (fun q h => hle q h) hL hF
    have hv' : v = r.map (cv (g_ad G)) := by injection hv
    subst hv'
    obtain ⟨t2, a1, b1⟩ := kr r m' hp T'.heap (locs ++ Lc) ls (FC.back hS hX hle (by rw [e1]; exact hb) k2) k3 hl0 T' rfl X'
    refine ⟨t2, hst t2 ?_, b1⟩
    have e9 : (r.map (cv (g_ad G))).toList ++ st.map (cv (g_ad G)) = (r.toList ++ st).map (cv (g_ad G)) := by cases r <;> rfl
    rw [e9]
    exact a1
  · exact hp.elim
/-- the law's wrappers -/
theorem gl_callT (ok : OK0 G E own b) (hG : MW G) (hS : SBW G) {y : MethodName} {bytes : ByteArray} {maxL index na : Nat} {ret : Option FieldType} {hh : List (Nat × Nat × Nat × Nat)} {rm : Room} {Qr : Option Value → Mm → Prop} (as : List Value)
    (lk : LinkW own index y bytes maxL ret hh na) (h40 : m.1 960 4 = 0) (hC : ∀ G' : GG, MW G' → SBW G' → CW G' (e_l E) y bytes maxL ret hh rm as m Qr (fun _ _ => False)) (hn : as.length = na) (hf : Fits (e_R E) rm maxL k n) (hw : (st.map fun v => v.category).sum ≤ 8)
    (d : decode b pc = .ok (.invokestatic index, 3))
    (kr : ∀ (r : Option Value) (m' : Mm), Qr r m' → WA (GX G Xs) E (k + rm.cells) (n + rm.slots) (pc + 3) L (r.toList ++ st) m') : WA (GX G Xs) E k n pc L (as.reverse ++ st) m := by
  obtain ⟨f1, f2, f3, f4⟩ := hf
  refine gl_backC ok hS (a := (as.map (cv (g_ad G))).toArray) (fun H locs ls hW hS9 hsz => ?_) kr
  have cw := vx_cwSW (R := e_R E) (s := e_s E) (args := e_a E) (own := own) (index := index) (y := y) (bytes := bytes) (maxL := maxL) (ret := ret) (hh := hh) (Ts := BIG) (ws := Cond.codeWith y bytes maxL ret hh :: BIG) (ws' := BIG) (rm := rm) (mc := rm.cells) (ms := rm.slots) na ok.w (by
    rw [show va_wsS own index y (Cond.codeWith y bytes maxL ret hh :: BIG) = va_wsS own index y (Cond.codeWith y bytes maxL ret hh :: BIG) from rfl]
    exact big_in (fun w hw => by
      rcases List.mem_append.mp hw with h | h
      · have e : y.cls = own := lk.2.2.1
        rw [e] at h
        exact lk.1 w h
      · rcases List.mem_cons.mp h with h | h
        · rw [h]; exact lk.2.1
        · exact h)) rfl rfl rfl ⟨lk.2.2.2.1, lk.2.2.2.2.1, lk.2.2.2.2.2⟩ ⟨f1, f2⟩
  refine vx_runSX (As := as.map (cv (g_ad G))) (rest := st.map (cv (g_ad G))) ⟨ok.x, ok.b, rfl, ok.o, ok.w⟩ (hC (FC G m H.size) (FC.mw hG) (FC.sb hS)) cw ⟨blind_CW (FC G m H.size) as m, fun U hU hWm => ⟨rfl, ?_, by rw [hU]; exact FC.hw hS h40 hW.gx.1⟩⟩ rfl (by rw [List.length_map]; exact hn) hsz (by simp) ?_ d ⟨f3, f4⟩
  · have hUf : SF G U := SF.moved hWm (by rw [hU]; exact hS9.1) (fun q h1 h2 => by rw [hU]; exact hS9.2.1 q h1 h2) ok.f
    have h := FC.sf (m := m) hUf hS (by rw [hU]; exact hW.gx.1)
    rw [hU] at h
    exact h
  · have := sum_cv (g_ad G) st
    exact lv_room (by omega)
/-- the class's methods, called by the law itself -/
theorem gl_callV (ok : OK0 G E own b) (hG : MW G) (hS : SBW G) {y : MethodName} {bytes : ByteArray} {maxL index na : Nat} {ret : Option FieldType} {rm : Room} {Qr : Option Value → Mm → Prop} (as : List Value)
    (lk : LinkV own index y bytes maxL ret na) (hy : y.cls = RX3) (h40 : m.1 960 4 = 0) (hC : ∀ G' : GG, MW G' → SBW G' → CT G' (e_l E) y bytes maxL ret rm (.ref 0 :: as) m Qr (fun _ _ => False)) (hn : as.length = na) (hf : Fits (e_R E) rm maxL k n) (hw : (st.map fun v => v.category).sum ≤ 8)
    (d : decode b pc = .ok (.invokevirtual index, 3))
    (kr : ∀ (r : Option Value) (m' : Mm), Qr r m' → WA (GX G Xs) E (k + rm.cells) (n + rm.slots) (pc + 3) L (r.toList ++ st) m') : WA (GX G Xs) E k n pc L (as.reverse ++ .ref 0 :: st) m := by
  obtain ⟨f1, f2, f3, f4⟩ := hf
  refine gl_backC ok hS (a := (Value.ref (g_ad G 0) :: as.map (cv (g_ad G))).toArray) (fun H locs ls hW hS9 hsz => ?_) kr
  have cw := cwV (R := e_R E) (s := e_s E) (args := e_a E) (own := own) (C := y.cls) (index := index) (y := y) (bytes := bytes) (maxL := maxL) (ret := ret) (Ts := BIG) (ws := Cond.code y bytes maxL ret :: BIG) (ws' := BIG) (rm := rm) (mc := rm.cells) (ms := rm.slots) na ok.w (big_in (fun w hw => by
    rcases List.mem_append.mp hw with h | h
    · exact lk.1 w h
    · rcases List.mem_cons.mp h with h | h
      · rw [h]; exact lk.2.1
      · exact h)) rfl rfl rfl ⟨rfl, lk.2.2⟩ ⟨f1, f2⟩
  have hat := hW.gx.1.1 0 (dm_X3 hG rfl)
  rw [cell_X3 hG m rfl] at hat
  obtain ⟨q', g0, cell, g1, g2, g3, -⟩ := hat
  have hqq : q' = (RX3, TX3, 13) := Option.some.inj (g0.symm.trans rfl)
  subst hqq
  have hk := (ok.f.1.1 3 (RX3, TX3, 13) rfl).2.1
  refine vx_runV (As := as.map (cv (g_ad G))) (rest := st.map (cv (g_ad G))) ⟨ok.x, ok.b, rfl, ok.o, ok.w⟩ (hC (FC G m H.size) (FC.mw hG) (FC.sb hS)) cw ⟨blind_CT (FC G m H.size) (.ref 0 :: as) m, ⟨cell, g1, by rw [g3]; rfl, by rw [hy, g2]; exact hk⟩, fun U hU hWm => ⟨rfl, ?_, by rw [hU]; exact FC.hw hS h40 hW.gx.1⟩⟩ rfl (by rw [List.length_map]; exact hn) hsz (by simp [cv]) ?_ d ⟨f3, f4⟩
  · have hUf : SF G U := SF.moved hWm (by rw [hU]; exact hS9.1) (fun q h1 h2 => by rw [hU]; exact hS9.2.1 q h1 h2) ok.f
    have h := FC.sf (m := m) hUf hS (by rw [hU]; exact hW.gx.1)
    rw [hU] at h
    exact h
  · have := sum_cv (g_ad G) st
    exact lv_room (by omega)
end XF
