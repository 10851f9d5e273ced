/-! THE ABSTRACT MACHINE: cells by numbers of our own (ids), memory words as whole numbers, one world for class, reference and law. -/
abbrev Mm : Type := (Nat → Nat → Int) × (Nat → Nat → UInt32)
def vI (z : Int) : Value := .int (Int32.ofInt z)
def vJ (z : Int) : Value := .long (Int64.ofInt z)
def up2 {α : Type} (f : Nat → Nat → α) (a i : Nat) (v : α) : Nat → Nat → α := fun n j => if n = a ∧ j = i then v else f n j
def upI (m : Mm) (a i : Nat) (v : Int) : Mm := (up2 m.1 a i v, m.2)
def upF (m : Mm) (a i : Nat) (v : UInt32) : Mm := (m.1, up2 m.2 a i v)
def cv (ad : Nat → Nat) : Value → Value
  | .ref n => .ref (ad n)
  | v => v
/-- ad: address of an id; D: classes; cA: array classes; bs, xa: what may be written to is from bs on, or of xa; dm: the ids; cf: their cells; ex: hidden cells; st: more of the tables -/
abbrev GG : Type := (Nat → Nat) × va_G × (Nat → ClassId) × (Nat × (Nat → Prop)) × (Nat → Prop) × ((Nat → Nat) → (Nat → ClassId) → Mm → Nat → va_E) × ((Nat → Nat) → va_G → Mm → Heap → Prop) × (State → Prop)
abbrev g_ad (G : GG) : Nat → Nat := G.1
abbrev g_D (G : GG) : va_G := G.2.1
abbrev g_cA (G : GG) : Nat → ClassId := G.2.2.1
abbrev g_bs (G : GG) : Nat := G.2.2.2.1.1
abbrev g_xa (G : GG) : Nat → Prop := G.2.2.2.1.2
abbrev g_dm (G : GG) : Nat → Prop := G.2.2.2.2.1
abbrev g_cf (G : GG) : (Nat → Nat) → (Nat → ClassId) → Mm → Nat → va_E := G.2.2.2.2.2.1
abbrev g_ex (G : GG) : (Nat → Nat) → va_G → Mm → Heap → Prop := G.2.2.2.2.2.2.1
abbrev g_st (G : GG) : State → Prop := G.2.2.2.2.2.2.2
def g_cell (G : GG) (m : Mm) (n : Nat) : va_E := g_cf G (g_ad G) (g_cA G) m n
def g_A (G : GG) : Nat → Prop := fun q => g_bs G ≤ q ∨ g_xa G q
abbrev vcl : List vw_C := [(RX0, TX0, 5), (RX1, TX1, 9), (RX2, TX2, 7), (RX3, TX3, 13), (RJ0, TJ0, 4), (RJ4, TJ4, 4)]
abbrev vty (cA : Nat → ClassId) : List (ClassId × FieldType) := [(cA 0, .int), (cA 1, .float), (cA 2, .boolean), (cA 3, .char), (cA 4, .object "GateGuards$Guard"), (cA 5, .object "GateGuards$Gate"), (cA 6, .long), (cA 7, .long), (cA 8, .byte)]
def BIG : List Cond := lw_tbl.filter goodWord
theorem in_BIG {w : Cond} (i : Nat) (h : lw_tbl[i]? = some w) (hg : goodWord w = true) : w ∈ BIG := List.mem_filter.mpr ⟨List.mem_of_getElem? h, hg⟩
def HW (G : GG) (m : Mm) (H : Heap) : Prop := (∀ n, g_dm G n → va_at (g_D G) vcl (g_ad G n, g_cell G m n) H) ∧ g_ex G (g_ad G) (g_D G) m H
/-- the texts of the class's messages -/
def TXT (tx : List (String × Nat × String)) (s : State) : Prop := ∀ q ∈ tx, ∃ a, vk_R q.1 q.2.1 q.2.2 a s
def msgs : List (String × Nat × String) := [("GateGuards", 366, "the rate is out of range"), ("GateGuards", 77, "there are 4 guards"), ("GateGuards", 356, "there is no such guard"), ("GateGuards", 108, "the caution is out of range"), ("GateGuards", 114, "the caution is so already"), ("GateGuards", 368, "there is no such set of badges"), ("GateGuards", 123, "the visitor is known, or there are 12"), ("GateGuards", 326, "nothing was refused"), ("GateGuards", 341, "there is no such account"), ("GateGuards", 361, "there is no such visitor"), ("GateGuards", 226, "the guard has been pushed too often"), ("GateGuards", 235, "no visitors, or pushed too often"), ("GateGuards", 372, "the number of days is out of range"), ("GateGuards", 370, "there is no such badge"), ("GateGuardsLaw", 214, ""), ("GateGuardsLaw", 226, " "), ("GateGuards", 278, "the line has no such index"), ("GateGuards", 210, "there is no such place"), ("GateGuards", 199, "the guard had no days"), ("GateGuards", 171, "a guard has no such number"), ("GateGuards", 154, "a visitor has no such number"), ("GateGuards", 216, "there are no visitors"), ("GateGuardsLaw", 276, "+"), ("GateGuardsLaw", 278, "-"), ("GateGuards", 104, "the rate is so already"), ("GateGuardsLaw", 309, "g"), ("GateGuardsLaw", 311, ";+"), ("GateGuardsLaw", 313, "j;t0:0;d0"), ("GateGuardsLaw", 315, ";x"), ("GateGuards", 289, "the input contains 60 characters"), ("GateGuards", 302, "the text has an error"), ("GateGuards", 322, "an order tells what is not there or out of range"), ("GateGuards", 324, "an order is refused"), ("GateGuards", 349, "no change can be undone")]
def excs : List String := ["java/lang/IllegalArgumentException", "java/lang/UnsupportedOperationException", "java/lang/IndexOutOfBoundsException", "java/lang/ArithmeticException", "java/util/NoSuchElementException", "java/lang/IllegalStateException"]
/-- words that stay, though they are not of the kit's good ones -/
def spOK : Cond → Bool
  | .castable _ _ => true
  | .declares _ => true
  | .methodLinkNest _ _ _ _ => true
  | _ => false
def SPW : List Cond := tables_1.filter spOK
theorem spw_moved {s U : State} (hW : s.WarmedH U.vm) {w : Cond} (hw : w ∈ SPW) (h : va_Nw w s) : va_Nw w U := by
  have h1 := (List.mem_filter.mp hw).2
  cases w <;> first | (exact va_Nw.warmC hW h) | (exact va_Nw.warmD hW h) | (exact va_Nw.warmM hW h) | (exact absurd h1 (by simp [spOK]))
theorem spw_onT {w : Cond} (hw : w ∈ SPW) : w.onTables = true := by
  have h1 := (List.mem_filter.mp hw).2
  cases w <;> first | rfl | (exact absurd h1 (by simp [spOK]))
/-- what holds all the time -/
def SF (G : GG) (s : State) : Prop :=
  va_K (g_D G) vcl (vty (g_cA G)) s ∧
  (∀ n n', g_dm G n → g_dm G n' → g_ad G n = g_ad G n' → n = n') ∧
  (∀ n, g_dm G n → g_A G (g_ad G n) ∧ n ≠ 960 ∧ n ≠ 961) ∧
  (∀ (m m' : Mm) n, g_dm G n → m.1 n = m'.1 n → m.2 n = m'.2 n → g_cell G m n = g_cell G m' n) ∧
  (∀ (m : Mm) (H H' : Heap), g_ex G (g_ad G) (g_D G) m H → (∀ q, q < H.size → (∀ n, g_dm G n → g_ad G n ≠ q) → H'[q]? = H[q]?) → g_ex G (g_ad G) (g_D G) m H') ∧
  (∀ (m m' : Mm) (H : Heap), m.1 960 = m'.1 960 → m.1 961 = m'.1 961 → g_ex G (g_ad G) (g_D G) m H → g_ex G (g_ad G) (g_D G) m' H) ∧
  vx_Zq Bundle.tN "UNASSIGNED_STACK" Bundle.steD (g_A G) s s.heap ∧ vx_Zq Bundle.tN "SUPPRESSED_SENTINEL" Bundle.listD (g_A G) s s.heap ∧
  TXT msgs s ∧ (∀ w ∈ SPW, va_Nw w s) ∧ (∀ q ∈ excs, ∀ r ∈ excs, q ≠ r → va_Nc q r s) ∧ g_st G s ∧
  (∀ u U : State, u.WarmedH U.vm → (∀ q, q < u.heap.size → ¬ g_A G q → U.heap[q]? = u.heap[q]?) → g_st G u → g_st G U) ∧ g_bs G ≤ s.heap.size
theorem SF.moved {G : GG} {s U : State} (hW : s.WarmedH U.vm) (hz : s.heap.size ≤ U.heap.size) (hk : ∀ q, q < s.heap.size → ¬ g_A G q → U.heap[q]? = s.heap[q]?) (h : SF G s) : SF G U := by
  obtain ⟨h1, h2, h3, h4, h5, h6, h7, h8, h9, h12, h13, h10, h11, h14⟩ := h
  refine ⟨va_K.moved hW.alike h1, h2, h3, h4, h5, h6, (vx_Zq.kept h7 hk).moved hW.alike, (vx_Zq.kept h8 hk).moved hW.alike, ?_, fun q hq => spw_moved hW hq (h12 q hq), fun q hq r hr hne => va_Nc.moved hW.alike (h13 q hq r hr hne), ?_, h11, Nat.le_trans h14 hz⟩
  · intro q hq
    obtain ⟨a, ha⟩ := h9 q hq
    exact ⟨a, vk_R.warm hW ha⟩
  · exact h11 s U hW hk h10
abbrev EE : Type := Program × Launch × Env × Room × State × MethodId × Array Value × List Frame × Method × Code × (State → Prop)
abbrev e_p (E : EE) : Program := E.1
abbrev e_l (E : EE) : Launch := E.2.1
abbrev e_e (E : EE) : Env := E.2.2.1
abbrev e_R (E : EE) : Room := E.2.2.2.1
abbrev e_s (E : EE) : State := E.2.2.2.2.1
abbrev e_m (E : EE) : MethodId := E.2.2.2.2.2.1
abbrev e_a (E : EE) : Array Value := E.2.2.2.2.2.2.1
abbrev e_b (E : EE) : List Frame := E.2.2.2.2.2.2.2.1
abbrev e_t (E : EE) : Method := E.2.2.2.2.2.2.2.2.1
abbrev e_c (E : EE) : Code := E.2.2.2.2.2.2.2.2.2.1
abbrev e_Q (E : EE) : State → Prop := E.2.2.2.2.2.2.2.2.2.2
abbrev gW (E : EE) (k n : Nat) (H : Heap) (locs : List Loc) (g : JFrame) : Prop := W (e_p E) (e_l E) (e_e E) (e_R E) (e_s E) (e_m E) (e_a E) (e_b E) (e_t E) (e_c E) H locs k n (e_Q E) g
abbrev gX (E : EE) (k n : Nat) (H : Heap) (locs : List Loc) (g : JFrame) (q : Addr) : Prop := vx_W (e_p E) (e_l E) (e_e E) (e_R E) (e_s E) (e_m E) (e_a E) (e_b E) (e_t E) (e_c E) H locs k n (e_Q E) g q
def cvp (G : GG) (q : Nat × Value) : Nat × Value := (q.1, cv (g_ad G) q.2)
/-- from pc, with these locals, this stack and this memory, the method comes to what is due -/
def WA (G : GG) (E : EE) (k n pc : Nat) (L : List (Nat × Value)) (st : List Value) (m : Mm) : Prop :=
  ∀ (H : Heap) (locs : List Loc) (ls : Array Slot), HW G m H → va_S (g_A G) (e_s E).heap H locs → lv_has ls (e_c E).maxLocals (L.map (cvp G)) → gW E k n H locs (F0 (e_m E) pc ls (st.map (cv (g_ad G))))
/-- an exception of the class X has been thrown at pc -/
def WX (G : GG) (E : EE) (k n pc : Nat) (L : List (Nat × Value)) (m : Mm) (X : String) : Prop :=
  ∀ (H : Heap) (locs : List Loc) (ls : Array Slot) (st : List Value) (ce : Cell) (q : Addr), HW G m H → va_S (g_A G) (e_s E).heap H locs → lv_has ls (e_c E).maxLocals (L.map (cvp G)) → H[q]? = some ce → ce.vm = .none → (e_s E).vm.findClass X = some ce.cls → gX E k n H locs (F0 (e_m E) pc ls st) q
def OK0 (G : GG) (E : EE) (own : String) (b : ByteArray) : Prop :=
  (e_p E).tables.exec = Jvm.exec ∧ (e_c E).code = b ∧ (e_s E).vm.findClass own = some (e_m E).cls ∧ (∀ w ∈ BIG, w.before (e_a E) (e_s E) = true) ∧ SF G (e_s E) ∧ (e_l E).stackTraces = false
theorem OK0.x {G : GG} {E : EE} {own : String} {b : ByteArray} (ok : OK0 G E own b) : (e_p E).tables.exec = Jvm.exec := ok.1
theorem OK0.b {G : GG} {E : EE} {own : String} {b : ByteArray} (ok : OK0 G E own b) : (e_c E).code = b := ok.2.1
theorem OK0.o {G : GG} {E : EE} {own : String} {b : ByteArray} (ok : OK0 G E own b) : (e_s E).vm.findClass own = some (e_m E).cls := ok.2.2.1
theorem OK0.w {G : GG} {E : EE} {own : String} {b : ByteArray} (ok : OK0 G E own b) : ∀ w ∈ BIG, w.before (e_a E) (e_s E) = true := ok.2.2.2.1
theorem OK0.f {G : GG} {E : EE} {own : String} {b : ByteArray} (ok : OK0 G E own b) : SF G (e_s E) := ok.2.2.2.2.1
/-! locals -/
def is2 : Value → Bool
  | .long _ => true
  | .double _ => true
  | _ => false
theorem is2_cat (v : Value) : is2 v = true ↔ v.category = 2 := by cases v <;> simp [is2, Value.category]
theorem cv_cat (ad : Nat → Nat) (v : Value) : (cv ad v).category = v.category := by cases v <;> rfl
def lgt : List (Nat × Value) → Nat → Option Value
  | [], _ => none
  | (j, v) :: L, i => bif Nat.beq j i then some v else lgt L i
def ldel : List (Nat × Value) → Nat → List (Nat × Value)
  | [], _ => []
  | (j, v) :: L, i => bif (Nat.beq j i || (Nat.beq (j + 1) i && is2 v)) then ldel L i else (j, v) :: ldel L i
def lst (L : List (Nat × Value)) (i : Nat) (v : Value) : List (Nat × Value) := (i, v) :: ldel L i
theorem lgt_mem {i : Nat} {v : Value} : ∀ {L : List (Nat × Value)}, lgt L i = some v → (i, v) ∈ L
  | [], h => by simp [lgt] at h
  | (j, w) :: L, h => by
    unfold lgt at h
    cases hb : Nat.beq j i with
    | true =>
      rw [hb] at h
      simp only [cond_true, Option.some.injEq] at h
      have := Nat.eq_of_beq_eq_true hb
      subst this; subst h
      exact List.mem_cons_self
    | false =>
      rw [hb] at h
      exact List.mem_cons_of_mem _ (lgt_mem h)
theorem lgt_at {G : GG} {ls : Array Slot} {nL i : Nat} {v : Value} {L : List (Nat × Value)} (h : lv_has ls nL (L.map (cvp G))) (hv : lgt L i = some v) : ls[i]? = some (.val (cv (g_ad G) v)) :=
  h.2.2 (i, cv (g_ad G) v) (List.mem_map.mpr ⟨(i, v), lgt_mem hv, rfl⟩)
theorem ldel_mem {i : Nat} {q : Nat × Value} : ∀ {L : List (Nat × Value)}, q ∈ ldel L i → q ∈ L ∧ q.1 ≠ i ∧ ¬ (q.1 + 1 = i ∧ q.2.category = 2)
  | [], h => by simp [ldel] at h
  | (j, w) :: L, h => by
    unfold ldel at h
    cases hb : (Nat.beq j i || (Nat.beq (j + 1) i && is2 w)) with
    | true =>
      rw [hb] at h
      obtain ⟨h1, h2⟩ := ldel_mem h
      exact ⟨List.mem_cons_of_mem _ h1, h2⟩
    | false =>
      rw [hb] at h
      simp only [cond_false] at h
      rcases List.mem_cons.mp h with h1 | h1
      · subst h1
        simp only [Bool.or_eq_false_iff, Bool.and_eq_false_iff] at hb
        refine ⟨List.mem_cons_self, fun e => ?_, fun e => ?_⟩
        · have : Nat.beq j i = true := by rw [show j = i from e]; exact Nat.beq_refl i
          rw [this] at hb; exact absurd hb.1 (by decide)
        · have h3 : Nat.beq (j + 1) i = true := by rw [show j + 1 = i from e.1]; exact Nat.beq_refl i
          have h4 : is2 w = true := (is2_cat w).mpr e.2
          rcases hb.2 with h5 | h5
          · rw [h3] at h5; exact absurd h5 (by decide)
          · rw [h4] at h5; exact absurd h5 (by decide)
      · obtain ⟨h1, h2⟩ := ldel_mem h1
        exact ⟨List.mem_cons_of_mem _ h1, h2⟩
theorem lst_has {G : GG} {ls : Array Slot} {nL i : Nat} {v : Value} {L : List (Nat × Value)} (h : lv_has ls nL ((i, cv (g_ad G) v) :: (L.map (cvp G)).filter (fun q => !(q.1 == i) && !(q.1 + 1 == i && q.2.category == 2)))) : lv_has ls nL ((lst L i v).map (cvp G)) := by
  refine ⟨h.1, h.2.1, fun q hq => ?_⟩
  obtain ⟨q0, h0, rfl⟩ := List.mem_map.mp hq
  rcases List.mem_cons.mp h0 with h1 | h1
  · subst h1
    exact h.2.2 _ List.mem_cons_self
  · obtain ⟨a, b, c⟩ := ldel_mem h1
    refine h.2.2 _ (List.mem_cons_of_mem _ (List.mem_filter.mpr ⟨List.mem_map.mpr ⟨q0, a, rfl⟩, ?_⟩))
    have hc : (cvp G q0).2.category = q0.2.category := cv_cat _ _
    have h1 : (cvp G q0).1 = q0.1 := rfl
    simp only [hc, h1, Bool.and_eq_true, Bool.not_eq_true', beq_eq_false_iff_ne, ne_eq, Bool.and_eq_false_iff]
    refine ⟨b, ?_⟩
    by_cases hh : q0.1 + 1 = i
    · exact Or.inr (fun e => c ⟨hh, e⟩)
    · exact Or.inl hh
theorem lst_has2 {G : GG} {ls : Array Slot} {nL i : Nat} {v : Value} {L : List (Nat × Value)} (h : lv_has ls nL ((i, cv (g_ad G) v) :: (L.map (cvp G)).filter (fun q => !(q.1 == i) && (!(q.1 == i + 1) && !(q.1 + 1 == i && q.2.category == 2))))) : lv_has ls nL ((lst (ldel L (i + 1)) i v).map (cvp G)) := by
  refine ⟨h.1, h.2.1, fun q hq => ?_⟩
  obtain ⟨q0, h0, rfl⟩ := List.mem_map.mp hq
  rcases List.mem_cons.mp h0 with h1 | h1
  · subst h1
    exact h.2.2 _ List.mem_cons_self
  · obtain ⟨a, b, c⟩ := ldel_mem h1
    obtain ⟨a2, b2, c2⟩ := ldel_mem a
    refine h.2.2 _ (List.mem_cons_of_mem _ (List.mem_filter.mpr ⟨List.mem_map.mpr ⟨q0, a2, rfl⟩, ?_⟩))
    have hc : (cvp G q0).2.category = q0.2.category := cv_cat _ _
    have h1 : (cvp G q0).1 = q0.1 := rfl
    simp only [hc, h1, Bool.and_eq_true, Bool.not_eq_true', beq_eq_false_iff_ne, ne_eq, Bool.and_eq_false_iff]
    refine ⟨b, b2, ?_⟩
    by_cases hh : q0.1 + 1 = i
    · exact Or.inr (fun e => c ⟨hh, e⟩)
    · exact Or.inl hh
/-! whole numbers and the machine's -/
theorem oi_T {z : Int} (h : -2147483648 ≤ z ∧ z ≤ 2147483647) : (Int32.ofInt z).toInt = z := by
  rw [Int32.toInt_ofInt, show Int32.size = 4294967296 from rfl]; exact Int.bmod_eq_of_le (by omega) (by omega)
theorem oi_le {x y : Int} (hx : -2147483648 ≤ x ∧ x ≤ 2147483647) (hy : -2147483648 ≤ y ∧ y ≤ 2147483647) : Int32.ofInt x ≤ Int32.ofInt y ↔ x ≤ y := by
  rw [Int32.le_iff_toInt_le, oi_T hx, oi_T hy]
theorem oi_lt {x y : Int} (hx : -2147483648 ≤ x ∧ x ≤ 2147483647) (hy : -2147483648 ≤ y ∧ y ≤ 2147483647) : Int32.ofInt x < Int32.ofInt y ↔ x < y := by
  rw [Int32.lt_iff_toInt_lt, oi_T hx, oi_T hy]
theorem oi_eq {x y : Int} (hx : -2147483648 ≤ x ∧ x ≤ 2147483647) (hy : -2147483648 ≤ y ∧ y ≤ 2147483647) : Int32.ofInt x = Int32.ofInt y ↔ x = y := by
  rw [← Int32.toInt_inj, oi_T hx, oi_T hy]
theorem oi_0 : (0 : Int32) = Int32.ofInt 0 := by decide
theorem oi_n (n : Nat) : Int32.ofInt (n : Int) = nI n := by
  show (⟨⟨BitVec.ofInt 32 n⟩⟩ : Int32) = ⟨⟨BitVec.ofNat 32 n⟩⟩
  rw [BitVec.ofInt_natCast]
theorem oi_z {z : Int} (h : 0 ≤ z) : Int32.ofInt z = nI z.toNat := by
  have : (z.toNat : Int) = z := Int.toNat_of_nonneg h
  rw [← oi_n, this]
theorem oi_in {i : Int} {N : Nat} (h : 0 ≤ i ∧ i < N) (hN : N < 2147483648) : vp_in (Int32.ofInt i) N := by
  rw [oi_z h.1]; exact vp_in_nI (by omega) (by omega)
theorem oi_cl {i : Int} {N : Nat} (h : 0 ≤ i ∧ i < N) (hN : N < 2147483648) : (Int32.ofInt i).toNatClampNeg = i.toNat := by
  rw [oi_z h.1]; exact nI_clamp (by omega)

theorem oi_neg {x : Int} : - Int32.ofInt x = Int32.ofInt (-x) := by
  rw [show (-x) = 0 - x by omega, Int32.ofInt_sub]
  simp
theorem oi_b0 : -2147483648 ≤ (0 : Int) ∧ (0 : Int) ≤ 2147483647 := by decide
theorem oi_ne0 {y : Int} (hy : 0 < y ∧ y ≤ 2147483647) : ¬ Int32.ofInt y = 0 := fun e => by
  have := (oi_eq (x := y) (y := 0) (by omega) (by omega)).mp e
  omega
theorem oi_nz {z : Int} (h : 0 ≤ z) : ∃ j : Nat, z = (j : Int) := ⟨z.toNat, (Int.toNat_of_nonneg h).symm⟩
theorem oi_div {x y : Int} (hx : 0 ≤ x ∧ x ≤ 2147483647) (hy : 0 < y ∧ y ≤ 2147483647) : Int32.ofInt x / Int32.ofInt y = Int32.ofInt (x / y) := by
  obtain ⟨i, rfl⟩ := oi_nz hx.1
  obtain ⟨j, rfl⟩ := oi_nz (z := y) (by omega)
  rw [← Int.natCast_ediv, oi_n, oi_n, oi_n]
  exact pk_div (by omega) (by omega) (by omega)
theorem oi_rem {x y : Int} (hx : 0 ≤ x ∧ x ≤ 2147483647) (hy : 0 < y ∧ y ≤ 2147483647) : Int32.ofInt x - Int32.ofInt x / Int32.ofInt y * Int32.ofInt y = Int32.ofInt (x % y) := by
  obtain ⟨i, rfl⟩ := oi_nz hx.1
  obtain ⟨j, rfl⟩ := oi_nz (z := y) (by omega)
  rw [← Int.natCast_emod, oi_n, oi_n, oi_n]
  exact pk_rem (by omega) (by omega) (by omega)
theorem oi_s31 : ∀ n, n < 32 → ((nI n &&& 31).toBitVec.smod 32).toNat = n := by decide +kernel
theorem oi_shr {x y : Int} (hx : 0 ≤ x ∧ x ≤ 2147483647) (hy : 0 ≤ y ∧ y < 32) : Int32.ofInt x >>> (Int32.ofInt y &&& 31) = Int32.ofInt (x / 2 ^ y.toNat) := by
  obtain ⟨i, rfl⟩ := oi_nz hx.1
  obtain ⟨j, rfl⟩ := oi_nz hy.1
  rw [oi_n, oi_n, Int.toNat_natCast, pk_shrN (by omega) _ j (oi_s31 j (by omega)), ← oi_n]
  congr 1
theorem oi_shl {x y : Int} (hx : 0 ≤ x ∧ x ≤ 2147483647) (hy : 0 ≤ y ∧ y < 32) (hz : x * 2 ^ y.toNat < 4294967296) : Int32.ofInt x <<< (Int32.ofInt y &&& 31) = Int32.ofInt (x * 2 ^ y.toNat) := by
  obtain ⟨i, rfl⟩ := oi_nz hx.1
  obtain ⟨j, rfl⟩ := oi_nz hy.1
  rw [Int.toNat_natCast] at hz ⊢
  have h2 : i * 2 ^ j < 2 ^ 32 := by
    have h3 : ((i * 2 ^ j : Nat) : Int) < 4294967296 := by push_cast; exact hz
    omega
  rw [oi_n, oi_n, pk_shlN _ j (oi_s31 j (by omega)) h2, ← oi_n]
  push_cast
  rfl
theorem oi_and {x y : Int} {j : Nat} (hy : y = 2 ^ j - 1) (hj : j ≤ 31) : Int32.ofInt x &&& Int32.ofInt y = Int32.ofInt (x % 2 ^ j) := by
  subst hy
  have hp : 1 ≤ 2 ^ j := Nat.one_le_two_pow
  have h2 : 2 ^ j ≤ 2 ^ 31 := Nat.pow_le_pow_right (by decide) hj
  have e1 : ((2 : Int) ^ j - 1) = ((2 ^ j - 1 : Nat) : Int) := by push_cast [hp]; rfl
  have hm : (Int32.ofInt (2 ^ j - 1)).toBitVec.toNat = 2 ^ j - 1 := by
    rw [e1, oi_n]
    exact pk_tn (by omega)
  rw [pk_and _ j hm, ← oi_n]
  congr 1
  have e3 : (Int32.ofInt x).toBitVec.toNat = (x % 4294967296).toNat := by
    show (BitVec.ofInt 32 x).toNat = _
    rw [BitVec.toNat_ofInt]
    rfl
  rw [e3]
  have h4 : 0 ≤ x % 4294967296 := Int.emod_nonneg _ (by decide)
  push_cast
  rw [Int.toNat_of_nonneg h4]
  refine Int.emod_emod_of_dvd x ?_
  exact ⟨2 ^ (32 - j), by rw [← Int.pow_add, show j + (32 - j) = 32 by omega]; rfl⟩
theorem oi_or {x y : Int} (hx : 0 ≤ x) (hy : 0 ≤ y) : Int32.ofInt x ||| Int32.ofInt y = Int32.ofInt ((x.toNat ||| y.toNat : Nat) : Int) := by
  rw [oi_z hx, oi_z hy, oi_n]
  apply Int32.toBitVec_inj.mp
  show (BitVec.ofNat 32 _) ||| (BitVec.ofNat 32 _) = BitVec.ofNat 32 _
  apply BitVec.eq_of_toNat_eq
  simp [Nat.or_mod_two_pow]
theorem oi_l {x : Int} (hx : -2147483648 ≤ x ∧ x ≤ 2147483647) : (Int32.ofInt x).toInt64 = Int64.ofInt x := by
  rw [← Int64.toInt_inj, Int32.toInt_toInt64, oi_T hx, Int64.toInt_ofInt, show Int64.size = 18446744073709551616 from rfl]
  exact (Int.bmod_eq_of_le (by omega) (by omega)).symm
theorem oi_c {x : Int} : ((Int32.ofInt x).toUInt32 % 65536).toInt32 = Int32.ofInt (x % 65536) := by
  rw [pk_char, ← oi_n]
  congr 1
  have e3 : (Int32.ofInt x).toBitVec.toNat = (x % 4294967296).toNat := by
    show (BitVec.ofInt 32 x).toNat = _
    rw [BitVec.toNat_ofInt]
    rfl
  rw [e3]
  omega

section ROWS
variable {G : GG} {E : EE} {own : String} {b : ByteArray} {k n pc : Nat} {L : List (Nat × Value)} {st : List Value} {m : Mm}

theorem ga_iconst (ok : OK0 G E own b) {z : Int} (d : decode b pc = .ok (.iconst z, 1)) 
    (kk : WA G E k n (pc + 1) L (vI z :: st) m) : WA G E k n pc L (st) m := by
  intro H locs ls hW hS hl
  have h := kk H locs ls hW hS hl
  exact lv_iconst ok.x ok.b d rfl h
theorem ga_bipush (ok : OK0 G E own b) {z : Int} (d : decode b pc = .ok (.bipush z, 2)) (hz : (Int8.ofInt z).toInt32 = Int32.ofInt z)
    (kk : WA G E k n (pc + 2) L (vI z :: st) m) : WA G E k n pc L (st) m := by
  intro H locs ls hW hS hl
  have h := kk H locs ls hW hS hl
  exact lv_bipush ok.x ok.b d hz h
theorem ga_sipush (ok : OK0 G E own b) {z : Int} (d : decode b pc = .ok (.sipush z, 3)) (hz : (Int16.ofInt z).toInt32 = Int32.ofInt z)
    (kk : WA G E k n (pc + 3) L (vI z :: st) m) : WA G E k n pc L (st) m := by
  intro H locs ls hW hS hl
  have h := kk H locs ls hW hS hl
  exact lv_sipush ok.x ok.b d hz h
theorem ga_fconst0 (ok : OK0 G E own b)  (d : decode b pc = .ok (.fconst 0, 1)) 
    (kk : WA G E k n (pc + 1) L (.float FP.fconst0 :: st) m) : WA G E k n pc L (st) m := by
  intro H locs ls hW hS hl
  have h := kk H locs ls hW hS hl
  exact lv_fconst0 ok.x ok.b d h
theorem ga_fconst1 (ok : OK0 G E own b)  (d : decode b pc = .ok (.fconst 1, 1)) 
    (kk : WA G E k n (pc + 1) L (.float FP.fconst1 :: st) m) : WA G E k n pc L (st) m := by
  intro H locs ls hW hS hl
  have h := kk H locs ls hW hS hl
  exact lv_fconst1 ok.x ok.b d h
theorem ga_fconst2 (ok : OK0 G E own b)  (d : decode b pc = .ok (.fconst 2, 1)) 
    (kk : WA G E k n (pc + 1) L (.float FP.fconst2 :: st) m) : WA G E k n pc L (st) m := by
  intro H locs ls hW hS hl
  have h := kk H locs ls hW hS hl
  exact lv_fconst2 ok.x ok.b d h
theorem ga_dconst0 (ok : OK0 G E own b)  (d : decode b pc = .ok (.dconst 0, 1)) 
    (kk : WA G E k n (pc + 1) L (.double FP.dconst0 :: st) m) : WA G E k n pc L (st) m := by
  intro H locs ls hW hS hl
  have h := kk H locs ls hW hS hl
  exact lv_dconst0 ok.x ok.b d h
theorem ga_lconst (ok : OK0 G E own b) {q : Fin 2} {z : Int} (d : decode b pc = .ok (.lconst q, 1)) (hz : Int64.ofNat (q : Nat) = Int64.ofInt z)
    (kk : WA G E k n (pc + 1) L (vJ z :: st) m) : WA G E k n pc L (st) m := by
  intro H locs ls hW hS hl
  have h := kk H locs ls hW hS hl
  exact lv_lconst ok.x ok.b d hz h
theorem ga_ldc (ok : OK0 G E own b) {index : Nat} {z : Int} (d : decode b pc = .ok (.ldc index, 2)) (hw : Jvm.Cond.constant own index (Int32.ofInt z) ∈ BIG)
    (kk : WA G E k n (pc + 2) L (vI z :: st) m) : WA G E k n pc L (st) m := by
  intro H locs ls hW hS hl
  have h := kk H locs ls hW hS hl
  exact lv_ldc ok.x ok.b ok.o (ok.w _ hw) d h
theorem ga_ldcf (ok : OK0 G E own b) {index : Nat} {z : UInt32} (d : decode b pc = .ok (.ldc index, 2)) (hw : Jvm.Cond.constantFloat own index z ∈ BIG)
    (kk : WA G E k n (pc + 2) L (.float z :: st) m) : WA G E k n pc L (st) m := by
  intro H locs ls hW hS hl
  have h := kk H locs ls hW hS hl
  exact lv_ldcf ok.x ok.b ok.o (ok.w _ hw) d h
theorem ga_iload_n (ok : OK0 G E own b) {q : Fin 4} (i : Nat) (hq : (q : Nat) = i) {z : Int} (hv : lgt L i = some (vI z)) (d : decode b pc = .ok (.iload_n q, 1))
    (kk : WA G E k n (pc + 1) L (vI z :: st) m) : WA G E k n pc L st m := by
  intro H locs ls hW hS hl
  exact lv_iload_n ok.x ok.b d hq (lgt_at hl hv) (kk H locs ls hW hS hl)
theorem ga_iload (ok : OK0 G E own b) {i : Nat} {z : Int} (hv : lgt L i = some (vI z)) (d : decode b pc = .ok (.iload i, 2))
    (kk : WA G E k n (pc + 2) L (vI z :: st) m) : WA G E k n pc L st m := by
  intro H locs ls hW hS hl
  exact lv_iload ok.x ok.b d (lgt_at hl hv) (kk H locs ls hW hS hl)
theorem ga_aload_n (ok : OK0 G E own b) {q : Fin 4} (i : Nat) (hq : (q : Nat) = i) {z : Nat} (hv : lgt L i = some (.ref z)) (d : decode b pc = .ok (.aload_n q, 1))
    (kk : WA G E k n (pc + 1) L (.ref z :: st) m) : WA G E k n pc L st m := by
  intro H locs ls hW hS hl
  exact lv_aload_n ok.x ok.b d hq (lgt_at hl hv) (kk H locs ls hW hS hl)
theorem ga_aload (ok : OK0 G E own b) {i : Nat} {z : Nat} (hv : lgt L i = some (.ref z)) (d : decode b pc = .ok (.aload i, 2))
    (kk : WA G E k n (pc + 2) L (.ref z :: st) m) : WA G E k n pc L st m := by
  intro H locs ls hW hS hl
  exact lv_aload ok.x ok.b d (lgt_at hl hv) (kk H locs ls hW hS hl)
theorem ga_fload_n (ok : OK0 G E own b) {q : Fin 4} (i : Nat) (hq : (q : Nat) = i) {z : UInt32} (hv : lgt L i = some (.float z)) (d : decode b pc = .ok (.fload_n q, 1))
    (kk : WA G E k n (pc + 1) L (.float z :: st) m) : WA G E k n pc L st m := by
  intro H locs ls hW hS hl
  exact lv_fload_n ok.x ok.b d hq (lgt_at hl hv) (kk H locs ls hW hS hl)
theorem ga_fload (ok : OK0 G E own b) {i : Nat} {z : UInt32} (hv : lgt L i = some (.float z)) (d : decode b pc = .ok (.fload i, 2))
    (kk : WA G E k n (pc + 2) L (.float z :: st) m) : WA G E k n pc L st m := by
  intro H locs ls hW hS hl
  exact lv_fload ok.x ok.b d (lgt_at hl hv) (kk H locs ls hW hS hl)
theorem ga_dload_n (ok : OK0 G E own b) {q : Fin 4} (i : Nat) (hq : (q : Nat) = i) {z : UInt64} (hv : lgt L i = some (.double z)) (d : decode b pc = .ok (.dload_n q, 1))
    (kk : WA G E k n (pc + 1) L (.double z :: st) m) : WA G E k n pc L st m := by
  intro H locs ls hW hS hl
  exact lv_dload_n ok.x ok.b d hq (lgt_at hl hv) (kk H locs ls hW hS hl)
theorem ga_dload (ok : OK0 G E own b) {i : Nat} {z : UInt64} (hv : lgt L i = some (.double z)) (d : decode b pc = .ok (.dload i, 2))
    (kk : WA G E k n (pc + 2) L (.double z :: st) m) : WA G E k n pc L st m := by
  intro H locs ls hW hS hl
  exact lv_dload ok.x ok.b d (lgt_at hl hv) (kk H locs ls hW hS hl)
theorem ga_istore_n (ok : OK0 G E own b) {q : Fin 4} (i : Nat) (hq : (q : Nat) = i) {z : Int} (hn : i < (e_c E).maxLocals) (d : decode b pc = .ok (.istore_n q, 1))
    (kk : WA G E k n (pc + 1) (lst L i (vI z)) st m) : WA G E k n pc L (vI z :: st) m := by
  intro H locs ls hW hS hl
  exact lv_istore_n ok.x ok.b d hq hl hn rfl (fun ls' hl' => kk H locs ls' hW hS (lst_has hl'))
theorem ga_istore (ok : OK0 G E own b) {i : Nat} {z : Int} (hn : i < (e_c E).maxLocals) (d : decode b pc = .ok (.istore i, 2))
    (kk : WA G E k n (pc + 2) (lst L i (vI z)) st m) : WA G E k n pc L (vI z :: st) m := by
  intro H locs ls hW hS hl
  exact lv_istore ok.x ok.b d hl hn rfl (fun ls' hl' => kk H locs ls' hW hS (lst_has hl'))
theorem ga_astore_n (ok : OK0 G E own b) {q : Fin 4} (i : Nat) (hq : (q : Nat) = i) {z : Nat} (hn : i < (e_c E).maxLocals) (d : decode b pc = .ok (.astore_n q, 1))
    (kk : WA G E k n (pc + 1) (lst L i (.ref z)) st m) : WA G E k n pc L (.ref z :: st) m := by
  intro H locs ls hW hS hl
  exact lv_astore_n ok.x ok.b d hq hl hn rfl (fun ls' hl' => kk H locs ls' hW hS (lst_has hl'))
theorem ga_astore (ok : OK0 G E own b) {i : Nat} {z : Nat} (hn : i < (e_c E).maxLocals) (d : decode b pc = .ok (.astore i, 2))
    (kk : WA G E k n (pc + 2) (lst L i (.ref z)) st m) : WA G E k n pc L (.ref z :: st) m := by
  intro H locs ls hW hS hl
  exact lv_astore ok.x ok.b d hl hn rfl (fun ls' hl' => kk H locs ls' hW hS (lst_has hl'))
theorem ga_fstore_n (ok : OK0 G E own b) {q : Fin 4} (i : Nat) (hq : (q : Nat) = i) {z : UInt32} (hn : i < (e_c E).maxLocals) (d : decode b pc = .ok (.fstore_n q, 1))
    (kk : WA G E k n (pc + 1) (lst L i (.float z)) st m) : WA G E k n pc L (.float z :: st) m := by
  intro H locs ls hW hS hl
  exact lv_fstore_n ok.x ok.b d hq hl hn rfl (fun ls' hl' => kk H locs ls' hW hS (lst_has hl'))
theorem ga_fstore (ok : OK0 G E own b) {i : Nat} {z : UInt32} (hn : i < (e_c E).maxLocals) (d : decode b pc = .ok (.fstore i, 2))
    (kk : WA G E k n (pc + 2) (lst L i (.float z)) st m) : WA G E k n pc L (.float z :: st) m := by
  intro H locs ls hW hS hl
  exact lv_fstore ok.x ok.b d hl hn rfl (fun ls' hl' => kk H locs ls' hW hS (lst_has hl'))
theorem ga_dstore (ok : OK0 G E own b) {i : Nat} {z : UInt64} (hn : i + 1 < (e_c E).maxLocals) (d : decode b pc = .ok (.dstore i, 2))
    (kk : WA G E k n (pc + 2) (lst (ldel L (i + 1)) i (.double z)) st m) : WA G E k n pc L (.double z :: st) m := by
  intro H locs ls hW hS hl
  exact lv_dstore ok.x ok.b d hl hn rfl (fun ls' hl' => kk H locs ls' hW hS (lst_has2 hl'))
theorem ga_iinc (ok : OK0 G E own b) {i : Nat} {z e : Int} (hv : lgt L i = some (vI z)) (hn : i < (e_c E).maxLocals) (d : decode b pc = .ok (.iinc i e, 3))
    (kk : WA G E k n (pc + 3) (lst L i (vI (z + e))) st m) : WA G E k n pc L st m := by
  intro H locs ls hW hS hl
  obtain ⟨j, hj⟩ := List.getElem?_of_mem (List.mem_map.mpr ⟨(i, vI z), lgt_mem hv, rfl⟩ : cvp G (i, vI z) ∈ L.map (cvp G))
  exact lv_iinc (x := Int32.ofInt z) (v := Int32.ofInt (z + e)) ok.x ok.b d hl hj (Int32.ofInt_add z e).symm hn rfl (fun ls' hl' => kk H locs ls' hW hS (lst_has (v := vI (z + e)) hl'))
theorem ga_iadd (ok : OK0 G E own b) {x y : Int} (d : decode b pc = .ok (.iadd, 1)) 
    (kk : WA G E k n (pc + 1) L (vI (x + y) :: st) m) : WA G E k n pc L (vI y :: vI x :: st) m := by
  intro H locs ls hW hS hl
  have h := kk H locs ls hW hS hl
  refine lv_iadd ok.x ok.b d ?_
  rw [show Int32.ofInt x + Int32.ofInt y = Int32.ofInt (x + y) from (Int32.ofInt_add x y).symm]
  exact h
theorem ga_isub (ok : OK0 G E own b) {x y : Int} (d : decode b pc = .ok (.isub, 1)) 
    (kk : WA G E k n (pc + 1) L (vI (x - y) :: st) m) : WA G E k n pc L (vI y :: vI x :: st) m := by
  intro H locs ls hW hS hl
  have h := kk H locs ls hW hS hl
  refine lv_isub ok.x ok.b d ?_
  rw [show Int32.ofInt x - Int32.ofInt y = Int32.ofInt (x - y) from (Int32.ofInt_sub x y).symm]
  exact h
theorem ga_imul (ok : OK0 G E own b) {x y : Int} (d : decode b pc = .ok (.imul, 1)) 
    (kk : WA G E k n (pc + 1) L (vI (x * y) :: st) m) : WA G E k n pc L (vI y :: vI x :: st) m := by
  intro H locs ls hW hS hl
  have h := kk H locs ls hW hS hl
  refine lv_imul ok.x ok.b d ?_
  rw [show Int32.ofInt x * Int32.ofInt y = Int32.ofInt (x * y) from (Int32.ofInt_mul x y).symm]
  exact h
theorem ga_ineg (ok : OK0 G E own b) {x : Int} (d : decode b pc = .ok (.ineg, 1)) 
    (kk : WA G E k n (pc + 1) L (vI (-x) :: st) m) : WA G E k n pc L (vI x :: st) m := by
  intro H locs ls hW hS hl
  have h := kk H locs ls hW hS hl
  refine lv_ineg ok.x ok.b d ?_
  rw [show - Int32.ofInt x = Int32.ofInt (-x) from oi_neg]
  exact h
theorem ga_idiv (ok : OK0 G E own b) {x y : Int} (d : decode b pc = .ok (.idiv, 1)) (hx : 0 ≤ x ∧ x ≤ 2147483647) (hy : 0 < y ∧ y ≤ 2147483647)
    (kk : WA G E k n (pc + 1) L (vI (x / y) :: st) m) : WA G E k n pc L (vI y :: vI x :: st) m := by
  intro H locs ls hW hS hl
  have h := kk H locs ls hW hS hl
  refine lv_idiv ok.x ok.b d (oi_ne0 hy) ?_
  rw [show Int32.ofInt x / Int32.ofInt y = Int32.ofInt (x / y) from oi_div hx hy]
  exact h
theorem ga_irem (ok : OK0 G E own b) {x y : Int} (d : decode b pc = .ok (.irem, 1)) (hx : 0 ≤ x ∧ x ≤ 2147483647) (hy : 0 < y ∧ y ≤ 2147483647)
    (kk : WA G E k n (pc + 1) L (vI (x % y) :: st) m) : WA G E k n pc L (vI y :: vI x :: st) m := by
  intro H locs ls hW hS hl
  have h := kk H locs ls hW hS hl
  refine lv_irem ok.x ok.b d (oi_ne0 hy) ?_
  rw [show Int32.ofInt x - Int32.ofInt x / Int32.ofInt y * Int32.ofInt y = Int32.ofInt (x % y) from oi_rem hx hy]
  exact h
theorem ga_ishr (ok : OK0 G E own b) {x y : Int} (d : decode b pc = .ok (.ishr, 1)) (hx : 0 ≤ x ∧ x ≤ 2147483647) (hy : 0 ≤ y ∧ y < 32)
    (kk : WA G E k n (pc + 1) L (vI (x / 2 ^ y.toNat) :: st) m) : WA G E k n pc L (vI y :: vI x :: st) m := by
  intro H locs ls hW hS hl
  have h := kk H locs ls hW hS hl
  refine lv_ishr ok.x ok.b d ?_
  rw [show Int32.ofInt x >>> (Int32.ofInt y &&& 31) = Int32.ofInt (x / 2 ^ y.toNat) from oi_shr hx hy]
  exact h
theorem ga_ishl (ok : OK0 G E own b) {x y : Int} (d : decode b pc = .ok (.ishl, 1)) (hx : 0 ≤ x ∧ x ≤ 2147483647) (hy : 0 ≤ y ∧ y < 32) (hz : x * 2 ^ y.toNat < 4294967296)
    (kk : WA G E k n (pc + 1) L (vI (x * 2 ^ y.toNat) :: st) m) : WA G E k n pc L (vI y :: vI x :: st) m := by
  intro H locs ls hW hS hl
  have h := kk H locs ls hW hS hl
  refine lv_ishl ok.x ok.b d ?_
  rw [show Int32.ofInt x <<< (Int32.ofInt y &&& 31) = Int32.ofInt (x * 2 ^ y.toNat) from oi_shl hx hy hz]
  exact h
theorem ga_iand (ok : OK0 G E own b) {x y : Int} (j : Nat) (d : decode b pc = .ok (.iand, 1)) (hy : y = 2 ^ j - 1) (hj : j ≤ 31)
    (kk : WA G E k n (pc + 1) L (vI (x % 2 ^ j) :: st) m) : WA G E k n pc L (vI y :: vI x :: st) m := by
  intro H locs ls hW hS hl
  have h := kk H locs ls hW hS hl
  refine lv_iand ok.x ok.b d ?_
  rw [show Int32.ofInt x &&& Int32.ofInt y = Int32.ofInt (x % 2 ^ j) from oi_and hy hj]
  exact h
theorem ga_ior (ok : OK0 G E own b) {x y : Int} (d : decode b pc = .ok (.ior, 1)) (hx : 0 ≤ x) (hy : 0 ≤ y)
    (kk : WA G E k n (pc + 1) L (vI (((x.toNat ||| y.toNat : Nat) : Int)) :: st) m) : WA G E k n pc L (vI y :: vI x :: st) m := by
  intro H locs ls hW hS hl
  have h := kk H locs ls hW hS hl
  refine lv_ior ok.x ok.b d ?_
  rw [show Int32.ofInt x ||| Int32.ofInt y = Int32.ofInt ((x.toNat ||| y.toNat : Nat) : Int) from oi_or hx hy]
  exact h
theorem ga_i2f (ok : OK0 G E own b) {x : Int} (d : decode b pc = .ok (.i2f, 1)) 
    (kk : WA G E k n (pc + 1) L (.float (FP.i2f (Int32.ofInt x)) :: st) m) : WA G E k n pc L (vI x :: st) m := by
  intro H locs ls hW hS hl
  have h := kk H locs ls hW hS hl
  exact lv_i2f ok.x ok.b d h
theorem ga_i2d (ok : OK0 G E own b) {x : Int} (d : decode b pc = .ok (.i2d, 1)) 
    (kk : WA G E k n (pc + 1) L (.double (FP.i2d (Int32.ofInt x)) :: st) m) : WA G E k n pc L (vI x :: st) m := by
  intro H locs ls hW hS hl
  have h := kk H locs ls hW hS hl
  exact lv_i2d ok.x ok.b d h
theorem ga_i2l (ok : OK0 G E own b) {x : Int} (d : decode b pc = .ok (.i2l, 1)) (hx : -2147483648 ≤ x ∧ x ≤ 2147483647)
    (kk : WA G E k n (pc + 1) L (vJ x :: st) m) : WA G E k n pc L (vI x :: st) m := by
  intro H locs ls hW hS hl
  have h := kk H locs ls hW hS hl
  exact lv_i2l ok.x ok.b d (oi_l hx) h
theorem ga_i2c (ok : OK0 G E own b) {x : Int} (d : decode b pc = .ok (.i2c, 1)) 
    (kk : WA G E k n (pc + 1) L (vI (x % 65536) :: st) m) : WA G E k n pc L (vI x :: st) m := by
  intro H locs ls hW hS hl
  have h := kk H locs ls hW hS hl
  exact lv_i2c ok.x ok.b d oi_c h
theorem ga_fadd (ok : OK0 G E own b) {x y : UInt32} (d : decode b pc = .ok (.fadd, 1)) (hne : vf_n32 (FP.fadd x y))
    (kk : WA G E k n (pc + 1) L (.float (FP.fadd x y) :: st) m) : WA G E k n pc L (.float y :: .float x :: st) m := by
  intro H locs ls hW hS hl
  have h := kk H locs ls hW hS hl
  exact lv_fadd ok.x ok.b d hne h
theorem ga_fsub (ok : OK0 G E own b) {x y : UInt32} (d : decode b pc = .ok (.fsub, 1)) (hne : vf_n32 (FP.fsub x y))
    (kk : WA G E k n (pc + 1) L (.float (FP.fsub x y) :: st) m) : WA G E k n pc L (.float y :: .float x :: st) m := by
  intro H locs ls hW hS hl
  have h := kk H locs ls hW hS hl
  exact lv_fsub ok.x ok.b d hne h
theorem ga_fmul (ok : OK0 G E own b) {x y : UInt32} (d : decode b pc = .ok (.fmul, 1)) (hne : vf_n32 (FP.fmul x y))
    (kk : WA G E k n (pc + 1) L (.float (FP.fmul x y) :: st) m) : WA G E k n pc L (.float y :: .float x :: st) m := by
  intro H locs ls hW hS hl
  have h := kk H locs ls hW hS hl
  exact lv_fmul ok.x ok.b d hne h
theorem ga_fdiv (ok : OK0 G E own b) {x y : UInt32} (d : decode b pc = .ok (.fdiv, 1)) (hne : vf_n32 (FP.fdiv x y))
    (kk : WA G E k n (pc + 1) L (.float (FP.fdiv x y) :: st) m) : WA G E k n pc L (.float y :: .float x :: st) m := by
  intro H locs ls hW hS hl
  have h := kk H locs ls hW hS hl
  exact lv_fdiv ok.x ok.b d hne h
theorem ga_ddiv (ok : OK0 G E own b) {x y : UInt64} (d : decode b pc = .ok (.ddiv, 1)) (hne : vf_n64 (FP.ddiv x y))
    (kk : WA G E k n (pc + 1) L (.double (FP.ddiv x y) :: st) m) : WA G E k n pc L (.double y :: .double x :: st) m := by
  intro H locs ls hW hS hl
  have h := kk H locs ls hW hS hl
  exact lv_ddiv ok.x ok.b d hne h
theorem ga_fneg (ok : OK0 G E own b) {x : UInt32} (d : decode b pc = .ok (.fneg, 1)) 
    (kk : WA G E k n (pc + 1) L (.float (FP.fneg x) :: st) m) : WA G E k n pc L (.float x :: st) m := by
  intro H locs ls hW hS hl
  have h := kk H locs ls hW hS hl
  exact lv_fneg ok.x ok.b d h
theorem ga_f2d (ok : OK0 G E own b) {x : UInt32} (d : decode b pc = .ok (.f2d, 1)) (hne : vf_n64 (FP.f2d x))
    (kk : WA G E k n (pc + 1) L (.double (FP.f2d x) :: st) m) : WA G E k n pc L (.float x :: st) m := by
  intro H locs ls hW hS hl
  have h := kk H locs ls hW hS hl
  exact lv_f2d ok.x ok.b d hne h
theorem ga_f2i (ok : OK0 G E own b) {x : UInt32} {z : Int} (d : decode b pc = .ok (.f2i, 1)) (hz : FP.f2i x = Int32.ofInt z)
    (kk : WA G E k n (pc + 1) L (vI z :: st) m) : WA G E k n pc L (.float x :: st) m := by
  intro H locs ls hW hS hl
  have h := kk H locs ls hW hS hl
  refine lv_f2i ok.x ok.b d ?_
  rw [hz]
  exact h
theorem ga_fcmp (ok : OK0 G E own b) {x y : UInt32} {op : CmpOp} {z : Int} (d : decode b pc = .ok (.fcmp op, 1)) (hz : Op.cmpValue (FP.fcmp x y) op = Int32.ofInt z)
    (kk : WA G E k n (pc + 1) L (vI z :: st) m) : WA G E k n pc L (.float y :: .float x :: st) m := by
  intro H locs ls hW hS hl
  have h := kk H locs ls hW hS hl
  refine lv_fcmp ok.x ok.b d ?_
  rw [hz]
  exact h
theorem ga_dcmp (ok : OK0 G E own b) {x y : UInt64} {op : CmpOp} {z : Int} (d : decode b pc = .ok (.dcmp op, 1)) (hz : Op.cmpValue (FP.dcmp x y) op = Int32.ofInt z)
    (kk : WA G E k n (pc + 1) L (vI z :: st) m) : WA G E k n pc L (.double y :: .double x :: st) m := by
  intro H locs ls hW hS hl
  have h := kk H locs ls hW hS hl
  refine lv_dcmp ok.x ok.b d ?_
  rw [hz]
  exact h
theorem ga_lcmp (ok : OK0 G E own b) {x y z : Int} (d : decode b pc = .ok (.lcmp, 1)) (hz : lg_cmp (Int64.ofInt x) (Int64.ofInt y) = Int32.ofInt z)
    (kk : WA G E k n (pc + 1) L (vI z :: st) m) : WA G E k n pc L (vJ y :: vJ x :: st) m := by
  intro H locs ls hW hS hl
  have h := kk H locs ls hW hS hl
  refine W.lcmp ok.x ok.b d ?_
  rw [hz]
  exact h
theorem ga_dup (ok : OK0 G E own b) {v : Value} (d : decode b pc = .ok (.dup, 1)) (hv : v.category = 1)
    (kk : WA G E k n (pc + 1) L (v :: v :: st) m) : WA G E k n pc L (v :: st) m := by
  intro H locs ls hW hS hl
  have h := kk H locs ls hW hS hl
  exact lv_dup ok.x ok.b d ((cv_cat _ v).trans hv) h
theorem ga_pop (ok : OK0 G E own b) {v : Value} (d : decode b pc = .ok (.pop, 1)) (hv : v.category = 1)
    (kk : WA G E k n (pc + 1) L (st) m) : WA G E k n pc L (v :: st) m := by
  intro H locs ls hW hS hl
  have h := kk H locs ls hW hS hl
  exact lv_pop ok.x ok.b d ((cv_cat _ v).trans hv) h
theorem ga_dup2 (ok : OK0 G E own b) {v w : Value} (d : decode b pc = .ok (.dup2, 1)) (hv : v.category = 1) (hw : w.category = 1)
    (kk : WA G E k n (pc + 1) L (v :: w :: v :: w :: st) m) : WA G E k n pc L (v :: w :: st) m := by
  intro H locs ls hW hS hl
  have h := kk H locs ls hW hS hl
  exact lv_dup2_11 ok.x ok.b d ((cv_cat _ v).trans hv) ((cv_cat _ w).trans hw) h
theorem ga_goto (ok : OK0 G E own b) {off : Int} (tgt : Nat) (ht : (pc : Int) + off = (tgt : Int)) (d : decode b pc = .ok (.goto off, 3))
    (kk : WA G E k n tgt L st m) : WA G E k n pc L st m := by
  intro H locs ls hW hS hl
  exact lv_goto ok.x ok.b d ht (kk H locs ls hW hS hl)
theorem ga_icmp_eq (ok : OK0 G E own b) {x y : Int} {off : Int} (tgt : Nat) (ht : (pc : Int) + off = (tgt : Int)) (hx : -2147483648 ≤ x ∧ x ≤ 2147483647) (hy : -2147483648 ≤ y ∧ y ≤ 2147483647) (d : decode b pc = .ok (.if_icmp .eq off, 3))
    (kt : x = y → WA G E k n tgt L st m) (kf : x ≠ y → WA G E k n (pc + 3) L st m) : WA G E k n pc L (vI y :: vI x :: st) m := by
  intro H locs ls hW hS hl
  exact lv_icmp_eq ok.x ok.b d ht (fun q => kt ((oi_eq hx hy).mp q) H locs ls hW hS hl) (fun q => kf (fun e => q ((oi_eq hx hy).mpr e)) H locs ls hW hS hl)
theorem ga_if_eq (ok : OK0 G E own b) {x : Int} {off : Int} (tgt : Nat) (ht : (pc : Int) + off = (tgt : Int)) (hx : -2147483648 ≤ x ∧ x ≤ 2147483647) (d : decode b pc = .ok (.ifCond .eq off, 3))
    (kt : x = 0 → WA G E k n tgt L st m) (kf : x ≠ 0 → WA G E k n (pc + 3) L st m) : WA G E k n pc L (vI x :: st) m := by
  intro H locs ls hW hS hl
  exact lv_if_eq ok.x ok.b d ht (fun q => kt ((oi_eq hx oi_b0).mp q) H locs ls hW hS hl) (fun q => kf (fun e => q ((oi_eq hx oi_b0).mpr e)) H locs ls hW hS hl)
theorem ga_icmp_ne (ok : OK0 G E own b) {x y : Int} {off : Int} (tgt : Nat) (ht : (pc : Int) + off = (tgt : Int)) (hx : -2147483648 ≤ x ∧ x ≤ 2147483647) (hy : -2147483648 ≤ y ∧ y ≤ 2147483647) (d : decode b pc = .ok (.if_icmp .ne off, 3))
    (kt : x ≠ y → WA G E k n tgt L st m) (kf : x = y → WA G E k n (pc + 3) L st m) : WA G E k n pc L (vI y :: vI x :: st) m := by
  intro H locs ls hW hS hl
  exact lv_icmp_ne ok.x ok.b d ht (fun q => kt (fun e => q ((oi_eq hx hy).mpr e)) H locs ls hW hS hl) (fun q => kf ((oi_eq hx hy).mp q) H locs ls hW hS hl)
theorem ga_if_ne (ok : OK0 G E own b) {x : Int} {off : Int} (tgt : Nat) (ht : (pc : Int) + off = (tgt : Int)) (hx : -2147483648 ≤ x ∧ x ≤ 2147483647) (d : decode b pc = .ok (.ifCond .ne off, 3))
    (kt : x ≠ 0 → WA G E k n tgt L st m) (kf : x = 0 → WA G E k n (pc + 3) L st m) : WA G E k n pc L (vI x :: st) m := by
  intro H locs ls hW hS hl
  exact lv_if_ne ok.x ok.b d ht (fun q => kt (fun e => q ((oi_eq hx oi_b0).mpr e)) H locs ls hW hS hl) (fun q => kf ((oi_eq hx oi_b0).mp q) H locs ls hW hS hl)
theorem ga_icmp_lt (ok : OK0 G E own b) {x y : Int} {off : Int} (tgt : Nat) (ht : (pc : Int) + off = (tgt : Int)) (hx : -2147483648 ≤ x ∧ x ≤ 2147483647) (hy : -2147483648 ≤ y ∧ y ≤ 2147483647) (d : decode b pc = .ok (.if_icmp .lt off, 3))
    (kt : x < y → WA G E k n tgt L st m) (kf : y ≤ x → WA G E k n (pc + 3) L st m) : WA G E k n pc L (vI y :: vI x :: st) m := by
  intro H locs ls hW hS hl
  exact lv_icmp_lt ok.x ok.b d ht (fun q => kt ((oi_lt hx hy).mp q) H locs ls hW hS hl) (fun q => kf (Int.not_lt.mp (fun e => q ((oi_lt hx hy).mpr e))) H locs ls hW hS hl)
theorem ga_if_lt (ok : OK0 G E own b) {x : Int} {off : Int} (tgt : Nat) (ht : (pc : Int) + off = (tgt : Int)) (hx : -2147483648 ≤ x ∧ x ≤ 2147483647) (d : decode b pc = .ok (.ifCond .lt off, 3))
    (kt : x < 0 → WA G E k n tgt L st m) (kf : 0 ≤ x → WA G E k n (pc + 3) L st m) : WA G E k n pc L (vI x :: st) m := by
  intro H locs ls hW hS hl
  exact lv_if_lt ok.x ok.b d ht (fun q => kt ((oi_lt hx oi_b0).mp q) H locs ls hW hS hl) (fun q => kf (Int.not_lt.mp (fun e => q ((oi_lt hx oi_b0).mpr e))) H locs ls hW hS hl)
theorem ga_icmp_ge (ok : OK0 G E own b) {x y : Int} {off : Int} (tgt : Nat) (ht : (pc : Int) + off = (tgt : Int)) (hx : -2147483648 ≤ x ∧ x ≤ 2147483647) (hy : -2147483648 ≤ y ∧ y ≤ 2147483647) (d : decode b pc = .ok (.if_icmp .ge off, 3))
    (kt : y ≤ x → WA G E k n tgt L st m) (kf : x < y → WA G E k n (pc + 3) L st m) : WA G E k n pc L (vI y :: vI x :: st) m := by
  intro H locs ls hW hS hl
  exact lv_icmp_ge ok.x ok.b d ht (fun q => kt ((oi_le hy hx).mp q) H locs ls hW hS hl) (fun q => kf (Int.not_le.mp (fun e => q ((oi_le hy hx).mpr e))) H locs ls hW hS hl)
theorem ga_if_ge (ok : OK0 G E own b) {x : Int} {off : Int} (tgt : Nat) (ht : (pc : Int) + off = (tgt : Int)) (hx : -2147483648 ≤ x ∧ x ≤ 2147483647) (d : decode b pc = .ok (.ifCond .ge off, 3))
    (kt : 0 ≤ x → WA G E k n tgt L st m) (kf : x < 0 → WA G E k n (pc + 3) L st m) : WA G E k n pc L (vI x :: st) m := by
  intro H locs ls hW hS hl
  exact lv_if_ge ok.x ok.b d ht (fun q => kt ((oi_le oi_b0 hx).mp q) H locs ls hW hS hl) (fun q => kf (Int.not_le.mp (fun e => q ((oi_le oi_b0 hx).mpr e))) H locs ls hW hS hl)
theorem ga_icmp_gt (ok : OK0 G E own b) {x y : Int} {off : Int} (tgt : Nat) (ht : (pc : Int) + off = (tgt : Int)) (hx : -2147483648 ≤ x ∧ x ≤ 2147483647) (hy : -2147483648 ≤ y ∧ y ≤ 2147483647) (d : decode b pc = .ok (.if_icmp .gt off, 3))
    (kt : y < x → WA G E k n tgt L st m) (kf : x ≤ y → WA G E k n (pc + 3) L st m) : WA G E k n pc L (vI y :: vI x :: st) m := by
  intro H locs ls hW hS hl
  exact lv_icmp_gt ok.x ok.b d ht (fun q => kt ((oi_lt hy hx).mp q) H locs ls hW hS hl) (fun q => kf (Int.not_lt.mp (fun e => q ((oi_lt hy hx).mpr e))) H locs ls hW hS hl)
theorem ga_if_gt (ok : OK0 G E own b) {x : Int} {off : Int} (tgt : Nat) (ht : (pc : Int) + off = (tgt : Int)) (hx : -2147483648 ≤ x ∧ x ≤ 2147483647) (d : decode b pc = .ok (.ifCond .gt off, 3))
    (kt : 0 < x → WA G E k n tgt L st m) (kf : x ≤ 0 → WA G E k n (pc + 3) L st m) : WA G E k n pc L (vI x :: st) m := by
  intro H locs ls hW hS hl
  exact lv_if_gt ok.x ok.b d ht (fun q => kt ((oi_lt oi_b0 hx).mp q) H locs ls hW hS hl) (fun q => kf (Int.not_lt.mp (fun e => q ((oi_lt oi_b0 hx).mpr e))) H locs ls hW hS hl)
theorem ga_icmp_le (ok : OK0 G E own b) {x y : Int} {off : Int} (tgt : Nat) (ht : (pc : Int) + off = (tgt : Int)) (hx : -2147483648 ≤ x ∧ x ≤ 2147483647) (hy : -2147483648 ≤ y ∧ y ≤ 2147483647) (d : decode b pc = .ok (.if_icmp .le off, 3))
    (kt : x ≤ y → WA G E k n tgt L st m) (kf : y < x → WA G E k n (pc + 3) L st m) : WA G E k n pc L (vI y :: vI x :: st) m := by
  intro H locs ls hW hS hl
  exact lv_icmp_le ok.x ok.b d ht (fun q => kt ((oi_le hx hy).mp q) H locs ls hW hS hl) (fun q => kf (Int.not_le.mp (fun e => q ((oi_le hx hy).mpr e))) H locs ls hW hS hl)
theorem ga_if_le (ok : OK0 G E own b) {x : Int} {off : Int} (tgt : Nat) (ht : (pc : Int) + off = (tgt : Int)) (hx : -2147483648 ≤ x ∧ x ≤ 2147483647) (d : decode b pc = .ok (.ifCond .le off, 3))
    (kt : x ≤ 0 → WA G E k n tgt L st m) (kf : 0 < x → WA G E k n (pc + 3) L st m) : WA G E k n pc L (vI x :: st) m := by
  intro H locs ls hW hS hl
  exact lv_if_le ok.x ok.b d ht (fun q => kt ((oi_le hx oi_b0).mp q) H locs ls hW hS hl) (fun q => kf (Int.not_le.mp (fun e => q ((oi_le hx oi_b0).mpr e))) H locs ls hW hS hl)
theorem ga_tableIn (ok : OK0 G E own b) {dflt lo hi : Int} {offs : Array Int} {len : Nat} {x off : Int} (tgt : Nat) (hx : -2147483648 ≤ x ∧ x ≤ 2147483647) (h1 : lo ≤ x ∧ x ≤ hi) (ho : offs[(x - lo).toNat]? = some off) (ht : (pc : Int) + off = (tgt : Int)) (d : decode b pc = .ok (.tableswitch dflt lo hi offs, len))
    (kk : WA G E k n tgt L st m) : WA G E k n pc L (vI x :: st) m := by
  intro H locs ls hW hS hl
  exact lv_tableIn ok.x ok.b d (by rw [oi_T hx]; omega) (by rw [oi_T hx]; omega) (by rw [oi_T hx]; exact ho) ht (kk H locs ls hW hS hl)
theorem ga_tableOut (ok : OK0 G E own b) {dflt lo hi : Int} {offs : Array Int} {len : Nat} {x : Int} (tgt : Nat) (hx : -2147483648 ≤ x ∧ x ≤ 2147483647) (h1 : x < lo ∨ hi < x) (ht : (pc : Int) + dflt = (tgt : Int)) (d : decode b pc = .ok (.tableswitch dflt lo hi offs, len))
    (kk : WA G E k n tgt L st m) : WA G E k n pc L (vI x :: st) m := by
  intro H locs ls hW hS hl
  exact lv_tableOut ok.x ok.b d (by rw [oi_T hx]; exact h1) ht (kk H locs ls hW hS hl)
theorem ga_lookup (ok : OK0 G E own b) {dflt : Int} {ps : Array (Int × Int)} {len : Nat} {x off : Int} (tgt : Nat) (hx : -2147483648 ≤ x ∧ x ≤ 2147483647) (hp : (ps.toList.zip (ps.toList.drop 1)).all (fun (a, next) => a.1 < next.1) = true) (ho : Op.lookupswitch.offset ps.toList dflt x = off) (ht : (pc : Int) + off = (tgt : Int)) (d : decode b pc = .ok (.lookupswitch dflt ps, len))
    (kk : WA G E k n tgt L st m) : WA G E k n pc L (vI x :: st) m := by
  intro H locs ls hW hS hl
  exact lv_lookup ok.x ok.b d hp (by rw [oi_T hx]; exact ho) ht (kk H locs ls hW hS hl)
end ROWS
