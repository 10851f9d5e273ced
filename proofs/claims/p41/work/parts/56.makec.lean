/-! CONSTRUCTORS: contracts -/
def QI (G : GG) (z : Int) (a dN : Nat) (Sa : Nat → Prop) (Ur : List (Nat × va_E)) : Array Value → State → Outcome → State → Prop := fun _ st o t => o = .returned none ∧ (t.heap.size = g_ad G a + 1 + dN ∧ (∀ n, Sa n → va_at (g_D G) vcl (g_ad G n, g_cell G (m00 z) n) t.heap) ∧ (∀ x ∈ Ur, va_at (g_D G) vcl (g_ad G x.1, x.2) t.heap) ∧ (∀ q, q < st.heap.size → q ≠ g_ad G a → t.heap[q]? = st.heap[q]?)) ∧ va_F (g_A G) st t
def PI (G : GG) (a ci : Nat) (fs0 as : List Value) : Array Value → State → Prop := fun args U => args = ((.ref a :: as).map (cv (g_ad G))).toArray ∧ SF G U ∧ AO2 U ∧ U.heap.size = g_ad G a + 1 ∧ va_at (g_D G) vcl (g_ad G a, .inr (ci, fs0)) U.heap
def CI (G : GG) (l : Launch) (z : Int) (y : MethodName) (bytes : ByteArray) (maxL : Nat) (rm : Room) (a ci : Nat) (fs0 as : List Value) (dN : Nat) (Sa : Nat → Prop) (Ur : List (Nat × va_E)) : Prop :=
  Met l y (Cond.code y bytes maxL none :: BIG) rm (PI G a ci fs0 as) (QI G z a dN Sa Ur) rm.cells rm.slots (g_A G)
theorem blind_PI (G : GG) (a ci : Nat) (fs0 as : List Value) : FrameBlind (PI G a ci fs0 as) := by
  intro x U g mk h
  obtain ⟨h1, h2, h3, h4, h5⟩ := h
  exact ⟨h1, SF.moved (s := U) (State.WarmedH.refl U) (Nat.le_refl _) (fun q _ _ => rfl) h2, AO2.moved (State.WarmedH.refl U).alike h3, h4, h5⟩
def EndB (G : GG) (E : EE) (z : Int) (rm : Room) (a dN : Nat) (Sa : Nat → Prop) (Ur : List (Nat × va_E)) : Prop :=
  e_Q E = MQ (e_b E) (QI G z a dN Sa Ur) (e_a E) (e_s E) rm.cells rm.slots (g_A G) ∧ (e_t E).locks = false ∧ (e_t E).sig.returnType = none ∧ e_R E = rm
theorem CI.of {G : GG} {l : Launch} {z : Int} {y : MethodName} {bytes : ByteArray} {maxL : Nat} {rm : Room} {a ci : Nat} {fs0 as : List Value} {dN : Nat} {Sa : Nat → Prop} {Ur : List (Nat × va_E)} (own : String) (L : List (Nat × Value))
    (hfl : l.stackTraces = false) (hy : plainName y.cls = true) (hyn : y.name = "<init>") (hown : y.cls = own) (hL : lv_args 0 (.ref a :: as) = L) (hlen : (lg_sl (.ref a :: as)).length ≤ maxL)
    (body : ∀ E : EE, OK0 G E own bytes → AO2 (e_s E) → EndB G E z rm a dN Sa Ur → (e_c E).maxLocals = maxL → e_l E = l → (e_t E).name = "<init>" → (e_s E).heap.size = g_ad G a + 1 → WB G E z (g_ad G a + 1) [(a, .inr (ci, fs0))] (fun _ => False) (g_ad G a) 0 0 0 L []) : CI G l z y bytes maxL rm a ci fs0 as dN Sa Ur := by
  refine Met.ofW (cc := bytes) (maxL := maxL) (ret := none) hy rfl ?_
  intro p e s m0 args below meth c s₁ B hml hP
  obtain ⟨rfl, hSF, hAO, hsz, hat⟩ := hP
  have hts := atoms_spec (ws := Cond.code y bytes maxL none :: BIG) B.pre
  have hownc : s.vm.findClass own = some m0.cls := by rw [← hown]; exact findClass_of_methodNamed B.named
  have hin : meth.name = "<init>" := (name_of_methodNamed B.named B.method).1.trans hyn
  have hl0 := lv_entry ((.ref a :: as).map (cv (g_ad G))) (n := maxL) (by rw [sl_len]; exact hlen)
  rw [lg_entry_eq]
  have hl1 : lv_has (lg_sl (List.map (cv (g_ad G)) (.ref a :: as)) ++ List.replicate (maxL - (lg_sl (List.map (cv (g_ad G)) (.ref a :: as))).length) Slot.unset).toArray maxL (L.map (cvp G)) := by
    have e : L.map (cvp G) = lv_args 0 ((.ref a :: as).map (cv (g_ad G))) := by rw [← hL, args_cv]; rfl
    rw [e]; exact hl0
  obtain ⟨E, hE⟩ : ∃ E : EE, E = (p, l, e, (headSpec (Cond.code y bytes maxL none :: BIG) rm).room, s, m0, ((.ref a :: as).map (cv (g_ad G))).toArray, below, meth, c, MQ below (QI G z a dN Sa Ur) ((.ref a :: as).map (cv (g_ad G))).toArray s rm.cells rm.slots (g_A G)) := ⟨_, rfl⟩
  have k := body E (by subst hE; exact ⟨B.exec, B.bytes, hownc, fun w hw => hts w (List.mem_cons_of_mem _ hw), hSF, hfl⟩) (by subst hE; exact hAO) (by subst hE; exact ⟨rfl, B.notSynchronized, B.returns, rfl⟩) (by subst hE; exact hml) (by subst hE; rfl) (by subst hE; exact hin) (by subst hE; exact hsz)
  have hml' : (e_c E).maxLocals = maxL := by subst hE; exact hml
  have k2 := k s.heap [] _ hsz (fun x hx => by rw [List.mem_singleton.mp hx]; exact hat) (fun _ h => h.elim) (by subst hE; exact fun _ _ _ => rfl) (by subst hE; exact va_S.rf) (by rw [hml']; exact hl1)
  subst hE
  exact k2
section MAKE2
variable {G : GG} {E : EE} {own : String} {b : ByteArray} {k n pc : Nat} {L : List (Nat × Value)} {st : List Value} {z : Int} {N : Nat} {U : List (Nat × va_E)} {S : Nat → Prop} {fq : Nat}
theorem wb_return (ok : OK0 G E own b) {rm : Room} {a dN : Nat} {Sa : Nat → Prop} {Ur : List (Nat × va_E)} (en : EndB G E z rm a dN Sa Ur) (hN : N = g_ad G a + 1 + dN) (hSa : ∀ n, Sa n → S n ∨ (n, g_cell G (m00 z) n) ∈ U) (hUr : ∀ x ∈ Ur, x ∈ U) (hfq : fq = g_ad G a) (hk : k ≤ rm.cells) (hn : n ≤ rm.slots) (d : decode b pc = .ok (.return_, 1)) : WB G E z N U S fq k n pc L [] := by
  intro H locs ls h1 h2 h3 h4 h5 h6
  obtain ⟨e1, e2, e3, e4⟩ := en
  show gW E k n H locs _
  unfold gW
  rw [e1]
  refine W.widen (k := rm.cells) (n := rm.slots) hk hn ?_
  refine W.vret ok.x ok.b e3 (fun t ht hWm => ⟨rfl, ⟨by rw [ht, h1, hN], fun n9 hn9 => ?_, fun x hx => by rw [ht]; exact h2 x (hUr x hx), fun q hq hne => by rw [ht]; exact h4 q hq (by rw [hfq]; exact hne)⟩, h5.F ht⟩) (fun q hq => h5.2.2 q hq) d e2
  rw [ht]
  rcases hSa n9 hn9 with h | h
  · exact h3 n9 h
  · exact h2 _ h
theorem wb_callI (ok : OK0 G E own b) (ao : AO2 (e_s E)) {y : MethodName} {bytes : ByteArray} {maxL idx na : Nat} {rm : Room} {a ci dN : Nat} {fs0 : List Value} {Sa : Nat → Prop} {Ur U0 : List (Nat × va_E)} (as : List Value) (lk : LinkI own idx y bytes maxL na) (hC : CI G (e_l E) z y bytes maxL rm a ci fs0 as dN Sa Ur) (hna : as.length = na) (hf : Fits (e_R E) rm maxL k n) (hw : (st.map fun v => v.category).sum ≤ 8)
    (hN : N = g_ad G a + 1) (hUa : (a, .inr (ci, fs0)) ∈ U) (hU0 : ∀ x ∈ U0, x ∈ U ∧ g_ad G x.1 ≠ g_ad G a) (hSn : ∀ n, S n → g_ad G n ≠ g_ad G a) (hfa : g_ad G a = fq ∨ (e_s E).heap.size ≤ g_ad G a)
    (d : decode b pc = .ok (.invokespecial idx, 3)) (kk : WB G E z (N + dN) (U0 ++ Ur) (fun n => S n ∨ Sa n) fq (k + rm.cells) (n + rm.slots) (pc + 3) L st) : WB G E z N U S fq k n pc L (as.reverse ++ .ref a :: st) := by
  obtain ⟨f1, f2, f3, f4⟩ := hf
  intro H locs ls h1 h2 h3 h4 h5 h6 T hT X
  obtain ⟨lk1, lk2, lk3, lk4⟩ := lk
  have w1 := lk1 _ List.mem_cons_self
  have w2 := lk1 _ (List.mem_cons_of_mem _ List.mem_cons_self)
  have w3 := lk1 _ (List.mem_cons_of_mem _ (List.mem_cons_of_mem _ List.mem_cons_self))
  have cw := cwI (R := e_R E) (s := e_s E) (args := e_a E) (own := own) (index := idx) (y := y) (bytes := bytes) (maxL := maxL) (Ts := BIG) (ws := Cond.code y bytes maxL none :: BIG) (ws' := BIG) (rm := rm) (mc := rm.cells) (ms := rm.slots) na ok.w (big_in (fun w hw => by
    rcases List.mem_cons.mp hw with h | h
    · rw [h]; exact lk2
    · exact h)) rfl rfl rfl (ok.w _ w3) (ok.w _ w1) (ok.w _ w2) lk3 lk4 ⟨f1, f2⟩
  have hr := va_runI (p := e_p E) (l := e_l E) (e := e_e E) (R := e_R E) (s := e_s E) (m := e_m E) (args := e_a E) (below := e_b E) (meth := e_t E) (c := e_c E) (H := H) (locs := locs) (cells := k) (slots := n) (b := g_ad G a) (As := as.map (cv (g_ad G))) (rest := st.map (cv (g_ad G))) (g := F0 (e_m E) pc ls ((as.reverse ++ .ref a :: st).map (cv (g_ad G)))) ⟨ok.x, ok.b, rfl, ok.o, ok.w⟩ hC cw ⟨blind_PI G a ci fs0 as, fun U hU hWm => ⟨rfl, SF.moved hWm (by rw [hU]; exact h5.1) (fun q q1 q2 => by rw [hU]; exact h5.2.1 q q1 q2) ok.f, AO2.moved hWm.alike ao, by rw [hU, h1, hN], by rw [hU]; exact h2 _ hUa⟩⟩ rfl (by rw [List.length_map]; exact hna) h6.1 (by simp [cv]) (by have := sum_cv (g_ad G) st; exact lv_room (by omega)) d ⟨f3, f4⟩
  obtain ⟨v, st₀, t, T', Lc, h0, X', hL, e1, e2, ⟨hv, ⟨q1, q2, q3, q4⟩, hF⟩, hst⟩ := hr T hT X
  obtain ⟨k1, k2, k3⟩ := vx_keep h0 e1 h5 (fun q _ h => h) (fun q h => h) hL hF
  have hv' : v = none := by injection hv
  subst hv'
  have hlo : ∀ q, q < H.size → q ≠ g_ad G a → T'.heap[q]? = H[q]? := fun q ha hb => by rw [e1, q4 q (by rw [h0]; exact ha) hb, h0]
  have hA : ∀ x ∈ U0 ++ Ur, va_at (g_D G) vcl (g_ad G x.1, x.2) T'.heap := fun x hx => by
    rcases List.mem_append.mp hx with hx | hx
    · obtain ⟨u1, u2⟩ := hU0 x hx
      exact (h2 x u1).kept (hlo _ (h2 x u1).lt u2)
    · rw [e1]; exact q3 x hx
  have hB : ∀ x, S x ∨ Sa x → va_at (g_D G) vcl (g_ad G x, g_cell G (m00 z) x) T'.heap := fun x hx => by
    rcases hx with hx | hx
    · exact (h3 x hx).kept (hlo _ (h3 x hx).lt (hSn x hx))
    · rw [e1]; exact q2 x hx
  have hC9 : ∀ q, q < (e_s E).heap.size → q ≠ fq → T'.heap[q]? = (e_s E).heap[q]? := fun q ha hb => by
    rw [hlo q (Nat.lt_of_lt_of_le ha h5.1) (fun e => by rcases hfa with h | h <;> omega)]
    exact h4 q ha hb
  obtain ⟨t2, a1, b1⟩ := kk T'.heap (locs ++ Lc) ls (by rw [e1, q1, hN]) hA hB hC9 k3 h6 T' rfl X'
  exact ⟨t2, hst t2 a1, b1⟩
theorem arrV_cong {cA : ClassId} {N : Nat} {f g : Nat → Value} (h : ∀ j, j < N → f j = g j) : arrV cA N f = arrV cA N g := by
  unfold arrV
  congr 1
  apply Array.ext
  · simp
  · intro i h1 h2
    simp at h1
    simp [h i h1]
/-- a row of references is finished -/
theorem wb_fin {x0 : Nat × va_E} {U1 : List (Nat × va_E)} {t len rq : Nat} {f f' : Nat → Option Nat} (hc : g_cell G (m00 z) rq = .inl (g_cA G t, len, .inr (.inr (.inr (.inr f'))))) (hff : ∀ j, j < len → f j = f' j) (kk : WB G E z N (x0 :: U1) (fun n => S n ∨ n = rq) fq k n pc L st) : WB G E z N (x0 :: (rq, .inl (g_cA G t, len, .inr (.inr (.inr (.inr f))))) :: U1) S fq k n pc L st := by
  intro H locs ls h1 h2 h3 h4 h5 h6
  refine kk H locs ls h1 (fun x hx => h2 x (by
    rcases List.mem_cons.mp hx with h | h
    · rw [h]; exact List.mem_cons_self
    · exact List.mem_cons_of_mem _ (List.mem_cons_of_mem _ h))) (fun x hx => ?_) h4 h5 h6
  rcases hx with hx | rfl
  · exact h3 x hx
  · rw [hc]
    have h := h2 _ (List.mem_cons_of_mem _ List.mem_cons_self)
    have h : H[g_ad G x]? = some (arrV (g_cA G t) len (fun j => va_rf (f j))) := h
    show H[g_ad G x]? = some (vp_cell _ _)
    rw [vp_cell_q, h]
    exact congrArg some (arrV_cong (fun j hj => by rw [hff j hj]))
end MAKE2
