/-! MAKING OBJECTS: the heap grows cell by cell -/
def m00 (z : Int) : Mm := (fun n j => if (n = 0 ∧ j = 10) ∨ (n = 1024 ∧ j = 17) then -1 else if n = 960 ∧ j = 2 then z else if n = 960 ∧ j = 3 then 16 else 0, fun _ _ => 0)
def AO2 (U : State) : Prop := va_AO "GateGuards$Guard" U ∧ va_AO "GateGuards$Gate" U
theorem AO2.moved {u U : State} (hvm : u.vm.Alike U.vm) (h : AO2 u) : AO2 U := ⟨va_AO.moved hvm h.1, va_AO.moved hvm h.2⟩
/-- N: the heap's size; U: what is under way; S: what is done; fq: the one old cell that changes -/
def WB (G : GG) (E : EE) (z : Int) (N : Nat) (U : List (Nat × va_E)) (S : Nat → Prop) (fq k n pc : Nat) (L : List (Nat × Value)) (st : List Value) : Prop :=
  ∀ (H : Heap) (locs : List Loc) (ls : Array Slot), H.size = N → (∀ x ∈ U, va_at (g_D G) vcl (g_ad G x.1, x.2) H) → (∀ n, S n → va_at (g_D G) vcl (g_ad G n, g_cell G (m00 z) n) H) → (∀ a, a < (e_s E).heap.size → a ≠ fq → H[a]? = (e_s E).heap[a]?) → va_S (g_A G) (e_s E).heap H locs → lv_has ls (e_c E).maxLocals (L.map (cvp G)) → gW E k n H locs (F0 (e_m E) pc ls (st.map (cv (g_ad G))))
theorem RA_nm {U : State} {cA : ClassId} {ty : FieldType} (h : va_RA U cA ty) : U.vm.findClass ("[" ++ ty.toString) = some cA := by
  cases ty with
  | object C => obtain ⟨_, _, _, _, _, h4⟩ := h; exact h4
  | _ => exact h
section MAKE
variable {G : GG} {E : EE} {own : String} {b : ByteArray} {k n pc : Nat} {L : List (Nat × Value)} {st : List Value} {z : Int} {N : Nat} {U : List (Nat × va_E)} {S : Nat → Prop} {fq : Nat}
theorem wb_iconst (ok : OK0 G E own b) {y0 : Int} (d : decode b pc = .ok (.iconst y0, 1)) 
    (kk : WB G E z N U S fq k n (pc + 1) L (vI y0 :: st)) : WB G E z N U S fq k n pc L (st) := by
  intro H locs ls hN hU hS9 hF hS hl
  have h := kk H locs ls hN hU hS9 hF hS hl
  exact lv_iconst ok.x ok.b d rfl h
theorem wb_bipush (ok : OK0 G E own b) {y0 : Int} (d : decode b pc = .ok (.bipush y0, 2)) (hz : (Int8.ofInt y0).toInt32 = Int32.ofInt y0)
    (kk : WB G E z N U S fq k n (pc + 2) L (vI y0 :: st)) : WB G E z N U S fq k n pc L (st) := by
  intro H locs ls hN hU hS9 hF hS hl
  have h := kk H locs ls hN hU hS9 hF hS hl
  exact lv_bipush ok.x ok.b d hz h
theorem wb_sipush (ok : OK0 G E own b) {y0 : Int} (d : decode b pc = .ok (.sipush y0, 3)) (hz : (Int16.ofInt y0).toInt32 = Int32.ofInt y0)
    (kk : WB G E z N U S fq k n (pc + 3) L (vI y0 :: st)) : WB G E z N U S fq k n pc L (st) := by
  intro H locs ls hN hU hS9 hF hS hl
  have h := kk H locs ls hN hU hS9 hF hS hl
  exact lv_sipush ok.x ok.b d hz h
theorem wb_iload_n (ok : OK0 G E own b) {q : Fin 4} (i : Nat) (hq : (q : Nat) = i) {y0 : Int} (hv : lgt L i = some (vI y0)) (d : decode b pc = .ok (.iload_n q, 1))
    (kk : WB G E z N U S fq k n (pc + 1) L (vI y0 :: st)) : WB G E z N U S fq k n pc L st := by
  intro H locs ls hN hU hS9 hF hS hl
  exact lv_iload_n ok.x ok.b d hq (lgt_at hl hv) (kk H locs ls hN hU hS9 hF hS hl)
theorem wb_istore_n (ok : OK0 G E own b) {q : Fin 4} (i : Nat) (hq : (q : Nat) = i) {y0 : Int} (hn : i < (e_c E).maxLocals) (d : decode b pc = .ok (.istore_n q, 1))
    (kk : WB G E z N U S fq k n (pc + 1) (lst L i (vI y0)) st) : WB G E z N U S fq k n pc L (vI y0 :: st) := by
  intro H locs ls hN hU hS9 hF hS hl
  exact lv_istore_n ok.x ok.b d hq hl hn rfl (fun ls' hl' => kk H locs ls' hN hU hS9 hF hS (lst_has hl'))
theorem wb_aload_n (ok : OK0 G E own b) {q : Fin 4} (i : Nat) (hq : (q : Nat) = i) {y0 : Nat} (hv : lgt L i = some (.ref y0)) (d : decode b pc = .ok (.aload_n q, 1))
    (kk : WB G E z N U S fq k n (pc + 1) L (.ref y0 :: st)) : WB G E z N U S fq k n pc L st := by
  intro H locs ls hN hU hS9 hF hS hl
  exact lv_aload_n ok.x ok.b d hq (lgt_at hl hv) (kk H locs ls hN hU hS9 hF hS hl)
theorem wb_icmp_ge (ok : OK0 G E own b) {x y : Int} {off : Int} (tgt : Nat) (ht : (pc : Int) + off = (tgt : Int)) (hx : -2147483648 ≤ x ∧ x ≤ 2147483647) (hy : -2147483648 ≤ y ∧ y ≤ 2147483647) (d : decode b pc = .ok (.if_icmp .ge off, 3))
    (kt : y ≤ x → WB G E z N U S fq k n tgt L st) (kf : x < y → WB G E z N U S fq k n (pc + 3) L st) : WB G E z N U S fq k n pc L (vI y :: vI x :: st) := by
  intro H locs ls hN hU hS9 hF hS hl
  exact lv_icmp_ge ok.x ok.b d ht (fun q => kt ((oi_le hy hx).mp q) H locs ls hN hU hS9 hF hS hl) (fun q => kf (Int.not_le.mp (fun e => q ((oi_le hy hx).mpr e))) H locs ls hN hU hS9 hF hS hl)
theorem wb_iinc (ok : OK0 G E own b) {i : Nat} {y0 e : Int} (hv : lgt L i = some (vI y0)) (hn : i < (e_c E).maxLocals) (d : decode b pc = .ok (.iinc i e, 3))
    (kk : WB G E z N U S fq k n (pc + 3) (lst L i (vI (y0 + e))) st) : WB G E z N U S fq k n pc L st := by
  intro H locs ls hN hU hS9 hF hS hl
  obtain ⟨j, hj⟩ := List.getElem?_of_mem (List.mem_map.mpr ⟨(i, vI y0), lgt_mem hv, rfl⟩ : cvp G (i, vI y0) ∈ L.map (cvp G))
  exact lv_iinc (x := Int32.ofInt y0) (v := Int32.ofInt (y0 + e)) ok.x ok.b d hl hj (Int32.ofInt_add y0 e).symm hn rfl (fun ls' hl' => kk H locs ls' hN hU hS9 hF hS (lst_has (v := vI (y0 + e)) hl'))
theorem wb_goto (ok : OK0 G E own b) {off : Int} (tgt : Nat) (ht : (pc : Int) + off = (tgt : Int)) (d : decode b pc = .ok (.goto off, 3))
    (kk : WB G E z N U S fq k n tgt L st) : WB G E z N U S fq k n pc L st := by
  intro H locs ls hN hU hS9 hF hS hl
  exact lv_goto ok.x ok.b d ht (kk H locs ls hN hU hS9 hF hS hl)
theorem wb_dup (ok : OK0 G E own b) {v : Value} (d : decode b pc = .ok (.dup, 1)) (hv : v.category = 1)
    (kk : WB G E z N U S fq k n (pc + 1) L (v :: v :: st)) : WB G E z N U S fq k n pc L (v :: st) := by
  intro H locs ls hN hU hS9 hF hS hl
  have h := kk H locs ls hN hU hS9 hF hS hl
  exact lv_dup ok.x ok.b d ((cv_cat _ v).trans hv) h
theorem wb_astore_n (ok : OK0 G E own b) {q : Fin 4} (i : Nat) (hq : (q : Nat) = i) {y0 : Nat} (hn : i < (e_c E).maxLocals) (d : decode b pc = .ok (.astore_n q, 1))
    (kk : WB G E z N U S fq k n (pc + 1) (lst L i (.ref y0)) st) : WB G E z N U S fq k n pc L (.ref y0 :: st) := by
  intro H locs ls hN hU hS9 hF hS hl
  exact lv_astore_n ok.x ok.b d hq hl hn rfl (fun ls' hl' => kk H locs ls' hN hU hS9 hF hS (lst_has hl'))
theorem wb_astore (ok : OK0 G E own b) {i : Nat} {y0 : Nat} (hn : i < (e_c E).maxLocals) (d : decode b pc = .ok (.astore i, 2))
    (kk : WB G E z N U S fq k n (pc + 2) (lst L i (.ref y0)) st) : WB G E z N U S fq k n pc L (.ref y0 :: st) := by
  intro H locs ls hN hU hS9 hF hS hl
  exact lv_astore ok.x ok.b d hl hn rfl (fun ls' hl' => kk H locs ls' hN hU hS9 hF hS (lst_has hl'))
theorem wb_istore (ok : OK0 G E own b) {i : Nat} {y0 : Int} (hn : i < (e_c E).maxLocals) (d : decode b pc = .ok (.istore i, 2))
    (kk : WB G E z N U S fq k n (pc + 2) (lst L i (vI y0)) st) : WB G E z N U S fq k n pc L (vI y0 :: st) := by
  intro H locs ls hN hU hS9 hF hS hl
  exact lv_istore ok.x ok.b d hl hn rfl (fun ls' hl' => kk H locs ls' hN hU hS9 hF hS (lst_has hl'))
theorem wb_iload (ok : OK0 G E own b) {i : Nat} {y0 : Int} (hv : lgt L i = some (vI y0)) (d : decode b pc = .ok (.iload i, 2))
    (kk : WB G E z N U S fq k n (pc + 2) L (vI y0 :: st)) : WB G E z N U S fq k n pc L st := by
  intro H locs ls hN hU hS9 hF hS hl
  exact lv_iload ok.x ok.b d (lgt_at hl hv) (kk H locs ls hN hU hS9 hF hS hl)
theorem wb_if_eq (ok : OK0 G E own b) {x : Int} {off : Int} (tgt : Nat) (ht : (pc : Int) + off = (tgt : Int)) (hx : -2147483648 ≤ x ∧ x ≤ 2147483647) (d : decode b pc = .ok (.ifCond .eq off, 3))
    (kt : x = 0 → WB G E z N U S fq k n tgt L st) (kf : x ≠ 0 → WB G E z N U S fq k n (pc + 3) L st) : WB G E z N U S fq k n pc L (vI x :: st) := by
  intro H locs ls hN hU hS9 hF hS hl
  exact lv_if_eq ok.x ok.b d ht (fun q => kt ((oi_eq hx oi_b0).mp q) H locs ls hN hU hS9 hF hS hl) (fun q => kf (fun e => q ((oi_eq hx oi_b0).mpr e)) H locs ls hN hU hS9 hF hS hl)
theorem wb_aload (ok : OK0 G E own b) {i : Nat} {y0 : Nat} (hv : lgt L i = some (.ref y0)) (d : decode b pc = .ok (.aload i, 2))
    (kk : WB G E z N U S fq k n (pc + 2) L (.ref y0 :: st)) : WB G E z N U S fq k n pc L st := by
  intro H locs ls hN hU hS9 hF hS hl
  exact lv_aload ok.x ok.b d (lgt_at hl hv) (kk H locs ls hN hU hS9 hF hS hl)
theorem WB.re {L' : List (Nat × Value)} (h : lall L' L) (w : WB G E z N U S fq k n pc L' st) : WB G E z N U S fq k n pc L st := by
  intro H locs ls hN hU hS9 hF hS hl
  refine w H locs ls hN hU hS9 hF hS ⟨hl.1, hl.2.1, fun q hq => ?_⟩
  obtain ⟨q0, h0, rfl⟩ := List.mem_map.mp hq
  exact hl.2.2 _ (List.mem_map.mpr ⟨q0, lall_mem h q0 h0, rfl⟩)
/-- the same, said otherwise -/
theorem WB.to {N' : Nat} {U' : List (Nat × va_E)} {S' : Nat → Prop} (hN : N' = N) (hU : ∀ x ∈ U', x ∈ U ∨ (S x.1 ∧ x.2 = g_cell G (m00 z) x.1)) (hS9 : ∀ n, S' n → S n ∨ (n, g_cell G (m00 z) n) ∈ U) (w : WB G E z N' U' S' fq k n pc L st) : WB G E z N U S fq k n pc L st := by
  intro H locs ls h1 h2 h3 h4 h5 h6
  refine w H locs ls (by rw [hN]; exact h1) (fun x hx => ?_) (fun n hn => ?_) h4 h5 h6
  · rcases hU x hx with h | ⟨h, e⟩
    · exact h2 x h
    · rw [e]; exact h3 _ h
  · rcases hS9 n hn with h | h
    · exact h3 n h
    · exact h2 _ h
theorem WB.wd {k2 n2 : Nat} (hk : k ≤ k2) (hn : n ≤ n2) (w : WB G E z N U S fq k2 n2 pc L st) : WB G E z N U S fq k n pc L st := by
  intro H locs ls h1 h2 h3 h4 h5 h6
  exact W.widen hk hn (w H locs ls h1 h2 h3 h4 h5 h6)
theorem wb_obj (ok : OK0 G E own b) {idx a : Nat} (hlink : Cond.methodLink own idx Lib.objectInit ∈ BIG) (hinst : Cond.instanceMethod Lib.objectInit ∈ BIG) (hcode : Cond.code Lib.objectInit ⟨#[0xb1]⟩ 1 none ∈ BIG) (hframes : 1 ≤ (e_R E).frames) (hlocals : (st.map fun v => v.category).sum + 12 ≤ (e_R E).locals) (d : decode b pc = .ok (.invokespecial idx, 3)) (kk : WB G E z N U S fq k n (pc + 3) L st) : WB G E z N U S fq k n pc L (.ref a :: st) := by
  intro H locs ls h1 h2 h3 h4 h5 h6
  refine W.objInit ok.x ok.b ok.o (ok.w _ hlink) (ok.w _ hinst) (ok.w _ hcode) rfl h6.1 rfl d hframes (by have := sum_cv (g_ad G) st; show 2 * 0 + _ + 12 ≤ _; omega) ?_
  exact kk H locs ls h1 h2 h3 h4 h5 h6
theorem hS_new {A : Nat → Prop} {H0 H H1 : Heap} {locs : List Loc} (hS : va_S A H0 H locs) (z1 : H1.size = H.size + 1) (o1 : ∀ q, q < H.size → H1[q]? = H[q]?) : va_S A H0 H1 locs :=
  ⟨Nat.le_trans hS.1 (by omega), fun x h1 h2 => (o1 x (Nat.lt_of_lt_of_le h1 hS.1)).trans (hS.2.1 x h1 h2), hS.2.2⟩
theorem wb_newa (ok : OK0 G E own b) {atype : ArrayType} {ty : FieldType} {t N' n' : Nat} {e : (Nat → Int32) ⊕ (Nat → Int64) ⊕ (Nat → UInt32) ⊕ (Nat → UInt64) ⊕ (Nat → Option Nat)} {zz : Int} (hty : newarray.typeOf atype = ty) (ht : (vty (g_cA G))[t]? = some (g_cA G t, ty)) (hw : Cond.arrayClass ty ∈ BIG) (hz : 0 ≤ zz ∧ zz ≤ 100000) (hN' : zz.toNat = N') (hb : N' * componentBytes ty ≤ 536870912) (had : g_ad G n' = N)
    (hc : g_cell G (m00 z) n' = .inl (g_cA G t, N', e)) (he : vp_cell (g_cA G t) (N', e) = arrV (g_cA G t) N' (fun _ => defaultValue ty)) (hcell : k + 1 ≤ (e_R E).cells) (hslot : n + N' ≤ (e_R E).slots) (d : decode b pc = .ok (.newarray atype, 2))
    (kk : WB G E z (N + 1) U (fun x => S x ∨ x = n') fq (k + 1) (n + N') (pc + 2) L (.ref n' :: st)) : WB G E z N U S fq k n pc L (vI zz :: st) := by
  subst hty
  intro H locs ls hN hU hS9 hF hS hl
  have hcl : (Int32.ofInt zz).toNatClampNeg = N' := by rw [oi_z hz.1, ← hN']; exact nI_clamp (by omega)
  refine va_newaK (atype := atype) ok.x ok.b (ok.w _ hw) rfl d rfl (n := Int32.ofInt zz) (N := N') (by rw [oi_z hz.1]; exact nI_pos (by omega)) hcl hb hcell hslot rfl fun H1 cA e1 z1 o1 hAr hNm => ?_
  have hcA : cA = g_cA G t := by
    have h8 := RA_nm (ok.f.1.2 t _ ht).2
    exact Option.some.inj (hNm.symm.trans h8)
  subst hcA
  have h := kk H1 locs ls (by rw [z1, hN]) (fun x hx => (hU x hx).kept (o1 _ (hU x hx).lt)) (fun x hx => by
    rcases hx with hx | rfl
    · exact (hS9 x hx).kept (o1 _ (hS9 x hx).lt)
    · rw [hc]
      show H1[g_ad G x]? = some (vp_cell _ _)
      rw [had, ← hN, e1, he]) (fun a ha1 ha2 => (o1 a (Nat.lt_of_lt_of_le ha1 hS.1)).trans (hF a ha1 ha2)) (hS_new hS z1 o1) hl
  have e9 : (Value.ref n' :: st).map (cv (g_ad G)) = .ref H.size :: st.map (cv (g_ad G)) := by
    show Value.ref (g_ad G n') :: _ = _
    rw [had, hN]
  rw [e9] at h
  exact h
theorem wb_anew (ok : OK0 G E own b) {C : String} {index t N' n' : Nat} {zz : Int} (hover : va_AO C (e_s E)) (hcl : Cond.classLink own index C ∈ BIG) (ht : (vty (g_cA G))[t]? = some (g_cA G t, .object C)) (hz : 0 ≤ zz ∧ zz ≤ 1000) (hN' : zz.toNat = N') (had : g_ad G n' = N)
    (hcell : k + 1 ≤ (e_R E).cells) (hslot : n + N' ≤ (e_R E).slots) (d : decode b pc = .ok (.anewarray index, 3))
    (kk : WB G E z (N + 1) (U ++ [(n', .inl (g_cA G t, N', .inr (.inr (.inr (.inr (fun _ => none))))))]) S fq (k + 1) (n + N') (pc + 3) L (.ref n' :: st)) : WB G E z N U S fq k n pc L (vI zz :: st) := by
  intro H locs ls hN hU hS9 hF hS hl
  have hclm : (Int32.ofInt zz).toNatClampNeg = N' := by rw [oi_z hz.1, ← hN']; exact nI_clamp (by omega)
  refine W.anew ok.x ok.b ok.o (ok.w _ hcl) (va_AO.use hover) rfl d rfl (n := Int32.ofInt zz) (by rw [oi_z hz.1]; exact nI_pos (by omega)) (by rw [hclm]; omega) hcell (by rw [hclm]; exact hslot) fun cA kA comp f1 f2 f3 f4 => ?_
  rw [hclm]
  generalize hH1 : H.push ({ cls := cA, slots := Array.replicate N' .null, vm := .none } : Cell) = H1
  have z1 : H1.size = H.size + 1 := by rw [← hH1, Array.size_push]
  have e1 : H1[H.size]? = some (arrV cA N' (fun _ => .null)) := by rw [← hH1, Array.getElem?_push_size, ← arrV_new]
  have o1 : ∀ q : Nat, q < H.size → H1[q]? = H[q]? := fun q hq => by rw [← hH1, Array.getElem?_push, if_neg (Nat.ne_of_lt hq)]
  have hcA : cA = g_cA G t := by
    have h8 := RA_nm (ok.f.1.2 t _ ht).2
    exact Option.some.inj (f1.symm.trans h8)
  subst hcA
  have h := kk H1 locs ls (by rw [z1, hN]) (fun x hx => by
    rcases List.mem_append.mp hx with hx | hx
    · exact (hU x hx).kept (o1 _ (hU x hx).lt)
    · rw [List.mem_singleton.mp hx]
      show H1[g_ad G n']? = some (vp_cell _ _)
      rw [had, ← hN, e1]
      rfl) (fun x hx => (hS9 x hx).kept (o1 _ (hS9 x hx).lt)) (fun a ha1 ha2 => (o1 a (Nat.lt_of_lt_of_le ha1 hS.1)).trans (hF a ha1 ha2)) (hS_new hS z1 o1) hl
  have e9 : (Value.ref n' :: st).map (cv (g_ad G)) = .ref H.size :: st.map (cv (g_ad G)) := by
    show Value.ref (g_ad G n') :: _ = _
    rw [had, hN]
  rw [e9] at h
  exact h
theorem wb_new (ok : OK0 G E own b) {C : String} {T : u_T} {Nf ci index a : Nat} {fs : List Value} (hcl : vcl[ci]? = some (C, T, Nf)) (hlink : Cond.classLink own index C ∈ BIG) (hinst : Cond.instantiable C Nf ∈ BIG) (hini : Cond.initialized C ∈ BIG) (hin : ∀ w ∈ u_ws C T Nf, w ∈ BIG) (ty : Nat → FieldType) (hty : ∀ k, k < Nf → parseFieldDescriptor (T k).2.2.1 = some (ty k)) (hfs : ∀ j, j < Nf → defaultValue (ty j) = vp_V fs j) (had : g_ad G a = N)
    (hcell : k + 1 ≤ (e_R E).cells) (hslot : n + Nf ≤ (e_R E).slots) (d : decode b pc = .ok (.new index, 3)) (kk : (∀ n, S n → g_ad G n < N) → (∀ x ∈ U, g_ad G x.1 < N) → WB G E z (N + 1) (U ++ [(a, .inr (ci, fs))]) S fq (k + 1) (n + Nf) (pc + 3) L (.ref a :: st)) : WB G E z N U S fq k n pc L st := by
  intro H locs ls hN hU hS9 hF hS hl
  have hKn := ok.f.1.1 ci _ hcl
  refine W.newcK ok.x ok.b ok.o (ok.w _ hlink) (ok.w _ hinst) (ok.w _ hini) rfl d hcell hslot hKn.2.1 rfl fun H1 kC hkC e1 z1 o1 => ?_
  have h := kk (fun n hn => by rw [← hN]; exact (hS9 n hn).lt) (fun x hx => by rw [← hN]; exact (hU x hx).lt) H1 locs ls (by rw [z1, hN]) (fun x hx => by
    rcases List.mem_append.mp hx with hx | hx
    · exact (hU x hx).kept (o1 _ (hU x hx).lt)
    · rw [List.mem_singleton.mp hx]
      refine ⟨_, hcl, ?_⟩
      show t_OB (g_ad G a) _ _ _ H1 _
      rw [had, ← hN]
      exact (u_born (H := H1) ty ok.w hin hKn hkC e1 hty).to hfs) (fun x hx => (hS9 x hx).kept (o1 _ (hS9 x hx).lt)) (fun a ha1 ha2 => (o1 a (Nat.lt_of_lt_of_le ha1 hS.1)).trans (hF a ha1 ha2)) (hS_new hS z1 o1) hl
  have e9 : (Value.ref a :: st).map (cv (g_ad G)) = .ref H.size :: st.map (cv (g_ad G)) := by
    show Value.ref (g_ad G a) :: _ = _
    rw [had, hN]
  rw [e9] at h
  exact h
theorem wb_putX (ok : OK0 G E own b) {C : String} {T : u_T} {Nf ci index kf q : Nat} {fs : List Value} {v : Value} {ty : Nat → FieldType} (hcl : vcl[ci]? = some (C, T, Nf)) (hin : ∀ w ∈ u_ws C T Nf, w ∈ BIG) (hty : ∀ k, k < Nf → parseFieldDescriptor (T k).2.2.1 = some (ty k)) (hnm : ∀ a, a < Nf → ∀ b, b < Nf → a ≠ b → (T a).2.1 ≠ (T b).2.1) (hk : kf < Nf) (hlen : kf < fs.length) (hlink : Cond.fieldLink own index (T kf).1 (T kf).2.1 (T kf).2.2.1 ∈ BIG)
    (hfin : (T kf).2.2.2 = true → (T kf).1 = own ∧ (e_t E).name = "<init>") (hn : narrow (ty kf) (cv (g_ad G) v) = cv (g_ad G) v) (hfit : fits (ty kf) (cv (g_ad G) v) = true) (hqU : ∀ x ∈ U, g_ad G x.1 ≠ g_ad G q) (hqS : ∀ n, S n → g_ad G n ≠ g_ad G q) (hq : g_ad G q = fq) (hbs : g_bs G ≤ fq)
    (d : decode b pc = .ok (.putfield index, 3)) (kk : WB G E z N ((q, .inr (ci, fs.set kf (cv (g_ad G) v))) :: U) S fq k n (pc + 3) L st) : WB G E z N ((q, .inr (ci, fs)) :: U) S fq k n pc L (v :: .ref q :: st) := by
  intro H locs ls hN hU hS9 hF hS hl
  have hat := hU _ List.mem_cons_self
  have hK := ok.f.1
  have hap := va_apart (own := own) (s := e_s E) (args := e_a E) ok.w hin ty hty hnm hK hcl
  obtain ⟨r, h1, cell, q1, q2, q3, q4⟩ := hat
  have hr : r = (C, T, Nf) := Option.some.inj (h1.symm.trans hcl)
  subst hr
  obtain ⟨hS0, hfc, kC, hkC, hkind⟩ := hK.1 ci (C, T, Nf) hcl
  obtain ⟨cf, kf2, fi, f, hi, hsl⟩ := hS0 kf hk
  have hgo : ∀ H' : Heap, H'[g_ad G q]? = some (cell.setSlot f.slot (cv (g_ad G) v)) → H'.size = H.size → (∀ x, x ≠ g_ad G q → H'[x]? = H[x]?) → gW E k n H' (locs ++ [⟨g_ad G q, f.slot⟩]) (F0 (e_m E) (pc + 3) ls (st.map (cv (g_ad G)))) := fun H' e1 e2 e3 => by
    refine kk H' _ ls (by rw [e2, hN]) (fun x hx => ?_) (fun x hx => (hS9 x hx).kept (e3 _ (hqS x hx))) (fun a ha1 ha2 => (e3 a (by rw [hq]; exact ha2)).trans (hF a ha1 ha2)) (hS.put e2 e3 (Or.inl (by rw [hq]; exact hbs))) hl
    rcases List.mem_cons.mp hx with rfl | hx
    · rw [hsl] at e1
      exact ⟨_, hcl, t_OB.to (V := updV (vp_V fs) kf (cv (g_ad G) v)) ⟨_, e1, q2, q3, t_set q4 hap hk _⟩ (fun j _ => vp_updV_set hlen _ j)⟩
    · exact (hU x (List.mem_cons_of_mem _ hx)).kept (e3 _ (hqU x hx))
  have hlay := ok.w _ (hin _ (u_in_lay hk))
  have hst := (u_facts hfc hkC (u_lays ok.w hin hk) hi).1
  cases hfb : (T kf).2.2.2 with
  | false =>
    unfold u_lay at hlay
    rw [if_neg (by rw [hfb]; decide)] at hlay
    have h6 := u_store hfc hkC hkind hlay hi (hty kf hk) hn hfit
    exact W.putK ok.x ok.b (f := f) ⟨ok.o, ok.w _ hlink, ⟨_, _, _, hi⟩, hst⟩ (by rw [q2]; exact h6) q1 q3 (by rw [hsl]; exact k2_hasslot (q4 kf hk)) rfl rfl d hgo
  | true =>
    unfold u_lay at hlay
    rw [if_pos hfb] at hlay
    obtain ⟨hdecl, hin2⟩ := hfin hfb
    have hcf : (e_m E).cls = cf := by
      obtain ⟨_, _, c', _, _, _, -, -, hf', -, -, -, hown2, -⟩ := Cond.laysFinal_spec hlay
      have e1 : c' = cf := by have := hi.symm.trans hf'; simp at this; exact this.1.symm
      rw [hdecl] at hown2
      rw [← e1]; exact Option.some.inj (ok.o.symm.trans hown2)
    have h6 := u_fits hfc hkC hkind (Or.inr hlay) hi (hty kf hk) hn hfit
    exact W.putFinK ok.x ok.b ok.o (ok.w _ hlink) hi hst hcf hin2 (by rw [q2]; exact h6) q1 q3 (by rw [hsl]; exact k2_hasslot (q4 kf hk)) rfl rfl d hgo
theorem wb_getr (ok : OK0 G E own b) {C : String} {T : u_T} {Nf ci index kf q r : Nat} {fs : List Value} (hcl : vcl[ci]? = some (C, T, Nf)) (hin : ∀ w ∈ u_ws C T Nf, w ∈ BIG) (hk : kf < Nf) (hlink : Cond.fieldLink own index (T kf).1 (T kf).2.1 (T kf).2.2.1 ∈ BIG) (hv : fs[kf]? = some (.ref (g_ad G r)))
    (d : decode b pc = .ok (.getfield index, 3)) (kk : WB G E z N ((q, .inr (ci, fs)) :: U) S fq k n (pc + 3) L (.ref r :: st)) : WB G E z N ((q, .inr (ci, fs)) :: U) S fq k n pc L (.ref q :: st) := by
  intro H locs ls hN hU hS9 hF hS hl
  exact va_get (D := g_D G) (ci := ci) (v := .ref (g_ad G r)) (C := C) (T := T) (N := Nf) ok.x ok.b ok.w hin ok.o ok.f.1 (one_P (hU _ List.mem_cons_self)) 0 rfl hcl kf hk (ok.w _ hlink) (fun _ h => h) hv d (kk H locs ls hN hU hS9 hF hS hl)
theorem wb_aast (ok : OK0 G E own b) {x0 : Nat × va_E} {U1 : List (Nat × va_E)} {ci t rq v len : Nat} (hU1 : ∀ x ∈ U1, g_ad G x.1 ≠ g_ad G rq) {r : vw_C} {f : Nat → Option Nat} {vs : List Value} {i : Int} (hcl : vcl[ci]? = some r) (ht : (vty (g_cA G))[t]? = some (g_cA G t, .object r.1)) (hi : 0 ≤ i ∧ i < len) (hlen : len ≤ 1000) (hvS : S v) (hvc : g_cell G (m00 z) v = .inr (ci, vs)) (hqU : g_ad G x0.1 ≠ g_ad G rq) (hqS : ∀ n, S n → g_ad G n ≠ g_ad G rq) (hrq : ¬ g_ad G rq < (e_s E).heap.size) (hbs : g_bs G ≤ g_ad G rq)
    (d : decode b pc = .ok (.aastore, 1)) (kk : WB G E z N (x0 :: (rq, .inl (g_cA G t, len, .inr (.inr (.inr (.inr (va_up f i.toNat (some (g_ad G v)))))))) :: U1) S fq k n (pc + 1) L st) : WB G E z N (x0 :: (rq, .inl (g_cA G t, len, .inr (.inr (.inr (.inr f))))) :: U1) S fq k n pc L (.ref v :: vI i :: .ref rq :: st) := by
  intro H locs ls hN hU hS9 hF hS hl
  have hrow : H[g_ad G rq]? = some (arrV (g_cA G t) len (fun j => va_rf (f j))) := hU (rq, .inl (g_cA G t, len, .inr (.inr (.inr (.inr f))))) (List.mem_cons_of_mem _ List.mem_cons_self)
  have hcell := hS9 v hvS
  rw [hvc] at hcell
  obtain ⟨r', hr', cellV, g1, g2, g3, -⟩ := hcell
  have g1 : H[g_ad G v]? = some cellV := g1
  have hcls := (ok.f.1.1 ci r hcl).2
  obtain ⟨kA, comp, k1, k2, k3, -⟩ := (ok.f.1.2 t _ ht).2
  have hrr : r' = r := Option.some.inj (hr'.symm.trans hcl)
  subst hrr
  have hcomp : comp = (g_D G).1 ci := Option.some.inj (k3.symm.trans hcls.1)
  subst hcomp
  obtain ⟨kC, hkC, -⟩ := hcls.2
  have hlt := oi_in (N := len) hi (by omega)
  have hcli := oi_cl (N := len) hi (by omega)
  have e9 : (Value.ref v :: vI i :: Value.ref rq :: st).map (cv (g_ad G)) = .ref (g_ad G v) :: .int (Int32.ofInt i) :: .ref (g_ad G rq) :: st.map (cv (g_ad G)) := rfl
  rw [e9]
  refine W.aast ok.x ok.b hrow (fun q h => by cases h) (fun h => by cases h) k1 k2 rfl hkC ⟨fun h => hlt (Or.inl h), by rw [arrV_size, hcli]; omega⟩ g1 (fun q h => by rw [g3] at h; cases h) (by rw [g2]; exact hkC) (by rw [g2]; exact va_assign hcls) rfl rfl d fun H1 e zz oq => ?_
  refine kk H1 _ ls (by rw [zz, hN]) (fun x hx => ?_) (fun x hx => (hS9 x hx).kept (oq _ (hqS x hx))) (fun a ha1 ha2 => (oq a (fun e => hrq (by rw [← e]; exact ha1))).trans (hF a ha1 ha2)) (hS.put zz oq (Or.inl hbs)) hl
  rcases List.mem_cons.mp hx with rfl | hx
  · exact (hU _ List.mem_cons_self).kept (oq _ hqU)
  rcases List.mem_cons.mp hx with rfl | hx
  rotate_left
  · exact (hU x (List.mem_cons_of_mem _ (List.mem_cons_of_mem _ hx))).kept (oq _ (hU1 x hx))
  · show H1[g_ad G rq]? = some (vp_cell _ _)
    rw [e, hcli, vp_cell_q, arrV_store]
    congr 2
    funext q
    by_cases hq : q = i.toNat
    · subst hq
      simp [updV, va_up, va_rf]
    · simp [updV, va_up, hq]
end MAKE
