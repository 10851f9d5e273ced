/-! STATIC METHODS OF THE JDK -/
section JST
variable {G : GG} {E : EE} {own : String} {b : ByteArray} {k n pc : Nat} {L : List (Nat × Value)} {st : List Value} {m : Mm}
def LinkJ (own : String) (index : Nat) (y : MethodName) (bytes : ByteArray) (maxL : Nat) (ret : Option FieldType) (na : Nat) : Prop :=
  (Cond.methodLink own index y ∈ BIG ∧ Cond.static y ∈ BIG ∧ Cond.initialized y.cls ∈ BIG) ∧ Cond.code y bytes maxL ret ∈ BIG ∧
  (y.cls ≠ "java/lang/invoke/MethodHandle" ∧ y.cls ≠ "java/lang/invoke/VarHandle" ∧ (parseMethodDescriptor y.desc).map (fun d => d.parameters.length) = some na)
theorem ga_callJ (ok : OK0 G E own b) {y : MethodName} {bytes : ByteArray} {maxL index na : Nat} {ret : Option FieldType} {rm : Room} {Qr : Option Value → Mm → Prop} {Qx : String → Mm → Prop} (as : List Value)
    (lk : LinkJ own index y bytes maxL ret na) (hC : CT G (e_l E) y bytes maxL ret rm as m Qr Qx) (hn : as.length = na) (hf : Fits (e_R E) rm maxL k n) (hw : (st.map fun v => v.category).sum ≤ 8)
    (d : decode b pc = .ok (.invokestatic index, 3))
    (kr : ∀ (r : Option Value) (m' : Mm), Qr r m' → WA G E (k + rm.cells) (n + rm.slots) (pc + 3) L (r.toList ++ st) m')
    (kx : ∀ (X : String) (m' : Mm), Qx X m' → WX G E (k + rm.cells) (n + rm.slots) pc L m' X) : WA G E k n pc L (as.reverse ++ st) m := by
  obtain ⟨f1, f2, f3, f4⟩ := hf
  refine ga_back (a := (as.map (cv (g_ad G))).toArray) (fun H locs ls hW hS hsz => ?_) kr kx
  have cb := callB_of (R := e_R E) (s := e_s E) (args := e_a E) (own := own) (index := index) (y := y) (bytes := bytes) (maxL := maxL) (ret := ret) (Ts := BIG) (ws := Cond.code y bytes maxL ret :: BIG) (ws' := BIG) (rm := rm) (mc := rm.cells) (ms := rm.slots) na ok.w (big_in (fun w hw => by
    rcases List.mem_cons.mp hw with h | h
    · rw [h]; exact lk.2.1
    · exact h)) rfl rfl rfl (ok.w _ lk.1.2.2) (ok.w _ lk.1.1) lk.2.2 ⟨f1, f2⟩
  refine vx_runS (As := as.map (cv (g_ad G))) (rest := st.map (cv (g_ad G))) ⟨ok.x, ok.b, rfl, ok.o, ok.w⟩ hC ⟨cb, ok.w _ lk.1.2.1⟩ ⟨blind_CT G as m, fun U hU hWm => ⟨rfl, SF.moved hWm (by rw [hU]; exact hS.1) (fun q h1 h2 => ?_) ok.f, by rw [hU]; exact hW⟩⟩ rfl (by rw [List.length_map]; exact hn) hsz (by simp) ?_ d ⟨f3, f4⟩
  · rw [hU]; exact hS.2.1 q h1 h2
  · have := sum_cv (g_ad G) st
    exact lv_room (by omega)
theorem gd_J_1 (ok : OK0 G E own b) {y : MethodName} {bytes : ByteArray} {maxL index : Nat} {ret : Option FieldType} {rm : Room} {v1 : Value} (lk : LinkJ own index y bytes maxL ret 1) {v : Value} {m1 : Mm} (hC : CT G (e_l E) y bytes maxL ret rm [v1] m (fun r m' => r = some v ∧ m' = m1) (fun _ _ => False)) (hf : Fits (e_R E) rm maxL k n) (hw : (st.map fun v => v.category).sum ≤ 8) (d : decode b pc = .ok (.invokestatic index, 3))
    (kr : WA G E (k + rm.cells) (n + rm.slots) (pc + 3) L (v :: st) m1) : WA G E k n pc L (v1 :: st) m :=
  ga_callJ ok [v1] lk hC rfl hf hw d (fun r m' h => by obtain ⟨rfl, rfl⟩ := h; exact kr) (fun _ _ h => h.elim)
end JST

