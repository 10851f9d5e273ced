/-! THE LAW'S OWN CELLS: at addresses, beside the class's world -/
abbrev XS : Type := List (Nat × va_E)
def XOK (G : GG) (m : Mm) (Xs : XS) (H : Heap) : Prop :=
  (∀ x ∈ Xs, va_at (g_D G) vcl x H) ∧ (Xs.map Prod.fst).Nodup ∧ (∀ x ∈ Xs, g_A G x.1 ∧ (∀ n, g_dm G n → g_ad G n ≠ x.1) ∧ x.1 ≠ g_ad G 960 ∧ x.1 ≠ (m.1 960 2).toNat ∧ (m.1 960 4 = 1 → x.1 ≠ (m.1 960 5).toNat))
def GX (G : GG) (Xs : XS) : GG := (g_ad G, g_D G, g_cA G, (g_bs G, g_xa G), g_dm G, g_cf G, fun ad D m H => g_ex G ad D m H ∧ XOK G m Xs H, g_st G)
theorem SF.gx {G : GG} {Xs : XS} {s : State} (h : SF G s) : SF (GX G Xs) s := by
  obtain ⟨h1, h2, h3, h4, h5, h6, h7⟩ := h
  refine ⟨h1, h2, h3, h4, fun m H H' hx hk => ?_, fun m m' H e0 e1 hx => ?_, h7⟩
  · obtain ⟨q1, q2, q3, q4⟩ := hx
    exact ⟨h5 m H H' q1 hk, fun x hx => (q2 x hx).kept (hk x.1 (q2 x hx).lt (q4 x hx).2.1), q3, q4⟩
  · obtain ⟨q1, q2, q3, q4⟩ := hx
    exact ⟨h6 m m' H e0 e1 q1, q2, q3, fun x hx => by rw [← e0]; exact q4 x hx⟩
theorem OK0.gx {G : GG} {E : EE} {own : String} {b : ByteArray} {Xs : XS} (ok : OK0 G E own b) : OK0 (GX G Xs) E own b := ⟨ok.1, ok.2.1, ok.2.2.1, ok.2.2.2.1, ok.2.2.2.2.1.gx, ok.2.2.2.2.2⟩
theorem HW.gx {G : GG} {m : Mm} {Xs : XS} {H : Heap} (h : HW (GX G Xs) m H) : HW G m H ∧ XOK G m Xs H := ⟨⟨h.1, h.2.1⟩, h.2.2⟩
theorem HW.xg {G : GG} {m : Mm} {Xs : XS} {H : Heap} (h : HW G m H) (hx : XOK G m Xs H) : HW (GX G Xs) m H := ⟨h.1, h.2, hx⟩
def iA (G : GG) (N : Nat) (f : Nat → Int) : va_E := .inl (g_cA G 0, N, .inl (fun j => Int32.ofInt (f j)))
def bA (G : GG) (N : Nat) (f : Nat → Int) : va_E := .inl (g_cA G 8, N, .inl (fun j => Int32.ofInt (f j)))
def lA (G : GG) (N : Nat) (f : Nat → Int) : va_E := .inl (g_cA G 6, N, .inr (.inl (fun j => Int64.ofInt (f j))))
theorem XOK.sub {G : GG} {m : Mm} {Xs Xs' : XS} {H : Heap} (h : XOK G m Xs' H) (h1 : ∀ x ∈ Xs, x ∈ Xs') (h2 : (Xs'.map Prod.fst).Nodup → (Xs.map Prod.fst).Nodup) : XOK G m Xs H :=
  ⟨fun x hx => h.1 x (h1 x hx), h2 h.2.1, fun x hx => h.2.2 x (h1 x hx)⟩
theorem XOK.nil {G : GG} {m : Mm} {H : Heap} : XOK G m [] H := ⟨fun _ h => absurd h List.not_mem_nil, List.nodup_nil, fun _ h => absurd h List.not_mem_nil⟩
/-- a new cell -/
theorem XOK.new {G : GG} {m : Mm} {Xs : XS} {H H1 : Heap} {e : va_E} (hS : SBW G) (hW : HW G m H) (hX : XOK G m Xs H) (hA : g_A G H.size) (hat : va_at (g_D G) vcl (H.size, e) H1) (o1 : ∀ q, q < H.size → H1[q]? = H[q]?) : XOK G m ((H.size, e) :: Xs) H1 := by
  have hx := sb_ex hS hW
  refine ⟨fun x hx9 => ?_, ?_, fun x hx9 => ?_⟩
  · rcases List.mem_cons.mp hx9 with rfl | h
    · exact hat
    · exact (hX.1 x h).kept (o1 _ (hX.1 x h).lt)
  · refine List.nodup_cons.mpr ⟨fun h => ?_, hX.2.1⟩
    obtain ⟨x, h1, h2⟩ := List.mem_map.mp h
    have h3 := (hX.1 x h1).lt
    have h2 : x.1 = H.size := h2
    omega
  · rcases List.mem_cons.mp hx9 with rfl | h
    · have l0 := hx.1.lt
      have l1 := hx.2.1.lt
      have l0 : g_ad G 960 < H.size := l0
      have l1 : (m.1 960 2).toNat < H.size := l1
      refine ⟨hA, fun n hn => ?_, by show H.size ≠ _; omega, by show H.size ≠ _; omega, fun h4 => ?_⟩
      · have h := (hW.1 n hn).lt
        have h : g_ad G n < H.size := h
        show g_ad G n ≠ H.size
        omega
      · have l2 := (hx.2.2.2 h4).1.lt
        have l2 : (m.1 960 5).toNat < H.size := l2
        show H.size ≠ _
        omega
    · exact hX.2.2 x h
/-- one cell has changed -/
theorem XOK.set {G : GG} {m : Mm} {Xs : XS} {H H1 : Heap} {q : Nat} {e e' : va_E} (hX : XOK G m ((q, e) :: Xs) H) (hat : va_at (g_D G) vcl (q, e') H1) (oq : ∀ x, x ≠ q → H1[x]? = H[x]?) : XOK G m ((q, e') :: Xs) H1 := by
  have hnd := List.nodup_cons.mp hX.2.1
  refine ⟨fun x hx => ?_, List.nodup_cons.mpr hnd, fun x hx => ?_⟩
  · rcases List.mem_cons.mp hx with rfl | h
    · exact hat
    · exact (hX.1 x (List.mem_cons_of_mem _ h)).kept (oq _ (fun e => hnd.1 (by rw [← e]; exact List.mem_map.mpr ⟨x, h, rfl⟩)))
  · rcases List.mem_cons.mp hx with rfl | h
    · exact hX.2.2 (q, e) List.mem_cons_self
    · exact hX.2.2 x (List.mem_cons_of_mem _ h)
/-- the class's world stands when a cell of the law's changes -/
theorem HW.other {G : GG} {m : Mm} {Xs : XS} {H H1 : Heap} {q : Nat} {e : va_E} (hS : SBW G) (hW : HW G m H) (hX : XOK G m ((q, e) :: Xs) H) (oq : ∀ x, x ≠ q → H1[x]? = H[x]?) : HW G m H1 := by
  obtain ⟨-, h2, h3, h4, h5⟩ := hX.2.2 (q, e) List.mem_cons_self
  have h2 : ∀ n, g_dm G n → g_ad G n ≠ q := h2
  have h3 : q ≠ g_ad G 960 := h3
  have h4 : q ≠ (m.1 960 2).toNat := h4
  have h5 : m.1 960 4 = 1 → q ≠ (m.1 960 5).toNat := h5
  obtain ⟨a1, a2, a3, a4⟩ := sb_ex hS hW
  refine ⟨fun n hn => (hW.1 n hn).kept (oq _ (h2 n hn)), ?_⟩
  rw [hS.2.1]
  refine ⟨a1.kept (oq _ h3.symm), a2.kept (oq _ h4.symm), a3, fun h => ?_⟩
  obtain ⟨b1, b2⟩ := a4 h
  exact ⟨b1.kept (oq _ (h5 h).symm), b2⟩
section XR
variable {G : GG} {E : EE} {own : String} {b : ByteArray} {k n pc : Nat} {L : List (Nat × Value)} {st : List Value} {m : Mm} {Xs : XS}
theorem WA.sub {Xs' : XS} (h1 : ∀ x ∈ Xs, x ∈ Xs') (h2 : (Xs'.map Prod.fst).Nodup → (Xs.map Prod.fst).Nodup) (w : WA (GX G Xs) E k n pc L st m) : WA (GX G Xs') E k n pc L st m := by
  intro H locs ls hW hS hl
  exact w H locs ls (hW.gx.1.xg (hW.gx.2.sub h1 h2)) hS hl
theorem WA.drop {Xs' : XS} (w : WA (GX G Xs) E k n pc L st m) : WA (GX G (Xs' ++ Xs)) E k n pc L st m :=
  WA.sub (fun x hx => List.mem_append_right _ hx) (fun h => by rw [List.map_append] at h; exact (List.nodup_append.mp h).2.1) w
theorem gx_raw (hS : SBW G) (a : Nat) (st : List Value) : (Value.ref (RAW + a) :: st).map (cv (g_ad (GX G Xs))) = .ref a :: st.map (cv (g_ad (GX G Xs))) := by
  show Value.ref (g_ad G (RAW + a)) :: _ = _
  rw [hS.1]
/-! new rows -/
theorem gl_new0 (ok : OK0 G E own b) (hS : SBW G) {ty : FieldType} {t N : Nat} {z : Int} {e : (Nat → Int32) ⊕ (Nat → Int64) ⊕ (Nat → UInt32) ⊕ (Nat → UInt64) ⊕ (Nat → Option Nat)} {atype : ArrayType} (hty : newarray.typeOf atype = ty) (ht : (vty (g_cA G))[t]? = some (g_cA G t, ty)) (hw : Cond.arrayClass ty ∈ BIG) (hz : 0 ≤ z ∧ z ≤ 100000) (hN : z.toNat = N) (hb : N * componentBytes ty ≤ 536870912) (he : vp_cell (g_cA G t) (N, e) = arrV (g_cA G t) N (fun _ => defaultValue ty)) (hcell : k + 1 ≤ (e_R E).cells) (hslot : n + N ≤ (e_R E).slots) (d : decode b pc = .ok (.newarray atype, 2))
    (kk : ∀ q, WA (GX G ((q, .inl (g_cA G t, N, e)) :: Xs)) E (k + 1) (n + N) (pc + 2) L (.ref (RAW + q) :: st) m) : WA (GX G Xs) E k n pc L (vI z :: st) m := by
  subst hty
  intro H locs ls hW hS9 hl
  obtain ⟨hW0, hX⟩ := hW.gx
  have hcl : (Int32.ofInt z).toNatClampNeg = N := by rw [oi_z hz.1, ← hN]; exact nI_clamp (by omega)
  refine va_newaK (atype := atype) ok.x ok.b (ok.w _ hw) rfl d rfl (n := Int32.ofInt z) (N := N) (by rw [oi_z hz.1]; exact nI_pos (by omega)) hcl hb hcell hslot rfl fun H1 cA e1 z1 o1 hAr hNm => ?_
  have hcA : cA = g_cA G t := by
    have h8 := RA_nm (ok.f.1.2 t _ ht).2
    exact Option.some.inj (hNm.symm.trans h8)
  subst hcA
  have hA : g_A G H.size := Or.inl (Nat.le_trans ok.f.2.2.2.2.2.2.2.2.2.2.2.2.2 hS9.1)
  have k1 := kk H.size H1 locs ls (HW.xg ⟨fun q hq => (hW0.1 q hq).kept (o1 _ (hW0.1 q hq).lt), ok.f.2.2.2.2.1 m H H1 hW0.2 (fun q hq _ => o1 q hq)⟩ (XOK.new hS hW0 hX hA (by show H1[H.size]? = some (vp_cell _ _); rw [e1, he]) o1)) (hS_new hS9 z1 o1) hl
  rw [gx_raw hS] at k1
  exact k1
theorem gl_newi (ok : OK0 G E own b) (hS : SBW G) {N : Nat} {z : Int} (hw : Cond.arrayClass .int ∈ BIG) (hz : 0 ≤ z ∧ z ≤ 100000) (hN : z.toNat = N) (hcell : k + 1 ≤ (e_R E).cells) (hslot : n + N ≤ (e_R E).slots) (d : decode b pc = .ok (.newarray .int, 2))
    (kk : ∀ q, WA (GX G ((q, iA G N (fun _ => 0)) :: Xs)) E (k + 1) (n + N) (pc + 2) L (.ref (RAW + q) :: st) m) : WA (GX G Xs) E k n pc L (vI z :: st) m :=
  gl_new0 ok hS (t := 0) (ty := .int) rfl rfl hw hz hN (by show N * 4 ≤ 536870912; omega) rfl hcell hslot d kk
theorem gl_newl (ok : OK0 G E own b) (hS : SBW G) {N : Nat} {z : Int} (hw : Cond.arrayClass .long ∈ BIG) (hz : 0 ≤ z ∧ z ≤ 100000) (hN : z.toNat = N) (hcell : k + 1 ≤ (e_R E).cells) (hslot : n + N ≤ (e_R E).slots) (d : decode b pc = .ok (.newarray .long, 2))
    (kk : ∀ q, WA (GX G ((q, lA G N (fun _ => 0)) :: Xs)) E (k + 1) (n + N) (pc + 2) L (.ref (RAW + q) :: st) m) : WA (GX G Xs) E k n pc L (vI z :: st) m :=
  gl_new0 ok hS (t := 6) (ty := .long) rfl rfl hw hz hN (by show N * 8 ≤ 536870912; omega) rfl hcell hslot d kk
theorem gl_newb (ok : OK0 G E own b) (hS : SBW G) {N : Nat} {z : Int} (hw : Cond.arrayClass .byte ∈ BIG) (hz : 0 ≤ z ∧ z ≤ 100000) (hN : z.toNat = N) (hcell : k + 1 ≤ (e_R E).cells) (hslot : n + N ≤ (e_R E).slots) (d : decode b pc = .ok (.newarray .byte, 2))
    (kk : ∀ q, WA (GX G ((q, bA G N (fun _ => 0)) :: Xs)) E (k + 1) (n + N) (pc + 2) L (.ref (RAW + q) :: st) m) : WA (GX G Xs) E k n pc L (vI z :: st) m :=
  gl_new0 ok hS (t := 8) (ty := .byte) rfl rfl hw hz hN (by show N * 1 ≤ 536870912; omega) rfl hcell hslot d kk
theorem gl_new (ok : OK0 G E own b) (hS : SBW G) {C : String} {T : u_T} {Nf ci index : Nat} {fs : List Value} (hcl : vcl[ci]? = some (C, T, Nf)) (hlink : Cond.classLink own index C ∈ BIG) (hinst : Cond.instantiable C Nf ∈ BIG) (hini : Cond.initialized C ∈ BIG) (hin : ∀ w ∈ u_ws C T Nf, w ∈ BIG) (ty : Nat → FieldType) (hty : ∀ k, k < Nf → parseFieldDescriptor (T k).2.2.1 = some (ty k)) (hfs : ∀ j, j < Nf → defaultValue (ty j) = vp_V fs j)
    (hcell : k + 1 ≤ (e_R E).cells) (hslot : n + Nf ≤ (e_R E).slots) (d : decode b pc = .ok (.new index, 3)) (kk : ∀ q, WA (GX G ((q, .inr (ci, fs)) :: Xs)) E (k + 1) (n + Nf) (pc + 3) L (.ref (RAW + q) :: st) m) : WA (GX G Xs) E k n pc L st m := by
  intro H locs ls hW hS9 hl
  obtain ⟨hW0, hX⟩ := hW.gx
  have hKn := ok.f.1.1 ci _ hcl
  refine W.newcK ok.x ok.b ok.o (ok.w _ hlink) (ok.w _ hinst) (ok.w _ hini) rfl d hcell hslot hKn.2.1 rfl fun H1 kC hkC e1 z1 o1 => ?_
  have hA : g_A G H.size := Or.inl (Nat.le_trans ok.f.2.2.2.2.2.2.2.2.2.2.2.2.2 hS9.1)
  have k1 := kk H.size H1 locs ls (HW.xg ⟨fun q hq => (hW0.1 q hq).kept (o1 _ (hW0.1 q hq).lt), ok.f.2.2.2.2.1 m H H1 hW0.2 (fun q hq _ => o1 q hq)⟩ (XOK.new hS hW0 hX hA ⟨_, hcl, (u_born (H := H1) ty ok.w hin hKn hkC e1 hty).to hfs⟩ o1)) (hS_new hS9 z1 o1) hl
  rw [gx_raw hS] at k1
  exact k1
/-! rows of the law's own arrays -/
theorem gl_iald (ok : OK0 G E own b) (hS : SBW G) {q N : Nat} {f : Nat → Int} (hq : (q, iA G N f) ∈ Xs) (hN : N ≤ 65536) {i : Int} (hi : 0 ≤ i ∧ i < N) (d : decode b pc = .ok (.iaload, 1)) (kk : WA (GX G Xs) E k n (pc + 1) L (vI (f i.toNat) :: st) m) : WA (GX G Xs) E k n pc L (vI i :: .ref (RAW + q) :: st) m := by
  intro H locs ls hW hS9 hl
  have hat := hW.gx.2.1 _ hq
  have e9 : (vI i :: Value.ref (RAW + q) :: st).map (cv (g_ad (GX G Xs))) = vI i :: .ref q :: st.map (cv (g_ad (GX G Xs))) := by
    show vI i :: Value.ref (g_ad G (RAW + q)) :: _ = _
    rw [hS.1]
  rw [e9]
  refine va_iald (D := g_D G) ok.x ok.b ok.f.1 (one_P hat) 0 0 rfl rfl (oi_in hi (by omega)) d ?_
  rw [oi_cl hi (by omega)]
  exact kk H locs ls hW hS9 hl
theorem gl_iast (ok : OK0 G E own b) (hS : SBW G) {q N : Nat} {f : Nat → Int} (hN : N ≤ 65536) {i x : Int} (hi : 0 ≤ i ∧ i < N) (d : decode b pc = .ok (.iastore, 1)) (kk : WA (GX G ((q, iA G N (fun j => if j = i.toNat then x else f j)) :: Xs)) E k n (pc + 1) L st m) : WA (GX G ((q, iA G N f) :: Xs)) E k n pc L (vI x :: vI i :: .ref (RAW + q) :: st) m := by
  intro H locs ls hW hS9 hl
  obtain ⟨hW0, hX⟩ := hW.gx
  have hat := hX.1 _ List.mem_cons_self
  have hl0 : lv_has ls (e_c E).maxLocals (L.map (cvp G)) := hl
  have hSA : va_S (g_A G) (e_s E).heap H locs := hS9
  show gW E k n H locs (F0 (e_m E) pc ls (vI x :: vI i :: .ref (g_ad G (RAW + q)) :: st.map (cv (g_ad G))))
  rw [hS.1]
  obtain ⟨F, hF⟩ : ∃ F : Nat → Int, F = fun j => if j = i.toNat then x else f j := ⟨_, rfl⟩
  rw [← hF] at kk
  have hin := oi_in (N := N) hi (by omega)
  have hcl := oi_cl (N := N) hi (by omega)
  refine W.iast ok.x ok.b hat ((ok.f.1.2 0 _ rfl).1 N _) (fun q => by cases q) (by show ¬ (Int32.ofInt i < 0 ∨ (arrV _ _ _).slots.size ≤ _); rw [arrV_size]; exact hin) rfl rfl d fun H1 e z oq => ?_
  refine kk H1 _ ls ((HW.other hS hW0 hX oq).xg (hX.set ?_ oq)) (hSA.put z oq (hX.2.2 _ List.mem_cons_self).1) hl0
  show H1[q]? = some (vp_cell _ _)
  rw [e]
  dsimp only
  rw [vp_cell_i, vp_cell_i, hcl, arrV_store]
  congr 2
  funext j
  rw [hF]
  by_cases hj : j = i.toNat
  · subst hj
    simp [updV]
  · simp [updV, hj]
theorem gl_lald (ok : OK0 G E own b) (hS : SBW G) {q N : Nat} {f : Nat → Int} (hq : (q, lA G N f) ∈ Xs) (hN : N ≤ 65536) {i : Int} (hi : 0 ≤ i ∧ i < N) (d : decode b pc = .ok (.laload, 1)) (kk : WA (GX G Xs) E k n (pc + 1) L (vJ (f i.toNat) :: st) m) : WA (GX G Xs) E k n pc L (vI i :: .ref (RAW + q) :: st) m := by
  intro H locs ls hW hS9 hl
  have hat := hW.gx.2.1 _ hq
  have e9 : (vI i :: Value.ref (RAW + q) :: st).map (cv (g_ad (GX G Xs))) = vI i :: .ref q :: st.map (cv (g_ad (GX G Xs))) := by
    show vI i :: Value.ref (g_ad G (RAW + q)) :: _ = _
    rw [hS.1]
  rw [e9]
  refine va_lald (D := g_D G) ok.x ok.b ok.f.1 (one_P hat) 0 6 rfl rfl (oi_in hi (by omega)) d ?_
  rw [oi_cl hi (by omega)]
  exact kk H locs ls hW hS9 hl
theorem gl_last (ok : OK0 G E own b) (hS : SBW G) {q N : Nat} {f : Nat → Int} (hN : N ≤ 65536) {i x : Int} (hi : 0 ≤ i ∧ i < N) (d : decode b pc = .ok (.lastore, 1)) (kk : WA (GX G ((q, lA G N (fun j => if j = i.toNat then x else f j)) :: Xs)) E k n (pc + 1) L st m) : WA (GX G ((q, lA G N f) :: Xs)) E k n pc L (vJ x :: vI i :: .ref (RAW + q) :: st) m := by
  intro H locs ls hW hS9 hl
  obtain ⟨hW0, hX⟩ := hW.gx
  have hat := hX.1 _ List.mem_cons_self
  have hl0 : lv_has ls (e_c E).maxLocals (L.map (cvp G)) := hl
  have hSA : va_S (g_A G) (e_s E).heap H locs := hS9
  show gW E k n H locs (F0 (e_m E) pc ls (vJ x :: vI i :: .ref (g_ad G (RAW + q)) :: st.map (cv (g_ad G))))
  rw [hS.1]
  obtain ⟨F, hF⟩ : ∃ F : Nat → Int, F = fun j => if j = i.toNat then x else f j := ⟨_, rfl⟩
  rw [← hF] at kk
  have hin := oi_in (N := N) hi (by omega)
  have hcl := oi_cl (N := N) hi (by omega)
  refine W.last ok.x ok.b hat ((ok.f.1.2 6 _ rfl).1 N _) (fun q => by cases q) (by show ¬ (Int32.ofInt i < 0 ∨ (arrV _ _ _).slots.size ≤ _); rw [arrV_size]; exact hin) rfl rfl d fun H1 e z oq => ?_
  refine kk H1 _ ls ((HW.other hS hW0 hX oq).xg (hX.set ?_ oq)) (hSA.put z oq (hX.2.2 _ List.mem_cons_self).1) hl0
  show H1[q]? = some (vp_cell _ _)
  rw [e]
  dsimp only
  rw [vp_cell_l, vp_cell_l, hcl, arrV_store]
  congr 2
  funext j
  rw [hF]
  by_cases hj : j = i.toNat
  · subst hj
    simp [updV]
  · simp [updV, hj]
theorem gl_putf (ok : OK0 G E own b) (hS : SBW G) {C : String} {T : u_T} {Nf ci index kf q : Nat} {fs : List Value} {v : Value} {ty : Nat → FieldType} (hcl : vcl[ci]? = some (C, T, Nf)) (hin : ∀ w ∈ u_ws C T Nf, w ∈ BIG) (hty : ∀ k, k < Nf → parseFieldDescriptor (T k).2.2.1 = some (ty k)) (hnm : ∀ a, a < Nf → ∀ b, b < Nf → a ≠ b → (T a).2.1 ≠ (T b).2.1) (hk : kf < Nf) (hlen : kf < fs.length) (hlink : Cond.fieldLink own index (T kf).1 (T kf).2.1 (T kf).2.2.1 ∈ BIG)
    (hfin : (T kf).2.2.2 = true → (T kf).1 = own ∧ (e_t E).name = "<init>") (hn : narrow (ty kf) (cv (g_ad G) v) = cv (g_ad G) v) (hfit : fits (ty kf) (cv (g_ad G) v) = true)
    (d : decode b pc = .ok (.putfield index, 3)) (kk : WA (GX G ((q, .inr (ci, fs.set kf (cv (g_ad G) v))) :: Xs)) E k n (pc + 3) L st m) : WA (GX G ((q, .inr (ci, fs)) :: Xs)) E k n pc L (v :: .ref (RAW + q) :: st) m := by
  intro H locs ls hW hS9 hl
  obtain ⟨hW0, hX⟩ := hW.gx
  have hat := hX.1 _ List.mem_cons_self
  have hl0 : lv_has ls (e_c E).maxLocals (L.map (cvp G)) := hl
  have hSA : va_S (g_A G) (e_s E).heap H locs := hS9
  show gW E k n H locs (F0 (e_m E) pc ls (cv (g_ad G) v :: .ref (g_ad G (RAW + q)) :: st.map (cv (g_ad G))))
  rw [hS.1]
  have hK := ok.f.1
  have hap := va_apart (own := own) (s := e_s E) (args := e_a E) ok.w hin ty hty hnm hK hcl
  obtain ⟨r, h1, cell, q1, q2, q3, q4⟩ := hat
  have hr : r = (C, T, Nf) := Option.some.inj (h1.symm.trans hcl)
  subst hr
  obtain ⟨hS0, hfc, kC, hkC, hkind⟩ := hK.1 ci (C, T, Nf) hcl
  obtain ⟨cf, kf2, fi, f, hi, hsl⟩ := hS0 kf hk
  have hgo : ∀ H' : Heap, H'[q]? = some (cell.setSlot f.slot (cv (g_ad G) v)) → H'.size = H.size → (∀ x, x ≠ q → H'[x]? = H[x]?) → gW E k n H' (locs ++ [⟨q, f.slot⟩]) (F0 (e_m E) (pc + 3) ls (st.map (cv (g_ad G)))) := fun H' e1 e2 e3 => by
    refine kk H' _ ls ((HW.other hS hW0 hX e3).xg (hX.set ?_ e3)) (hSA.put e2 e3 (hX.2.2 _ List.mem_cons_self).1) hl0
    rw [hsl] at e1
    exact ⟨_, hcl, t_OB.to (V := updV (vp_V fs) kf (cv (g_ad G) v)) ⟨_, e1, q2, q3, t_set q4 hap hk _⟩ (fun j _ => vp_updV_set hlen _ j)⟩
  have hlay := ok.w _ (hin _ (u_in_lay hk))
  have hst := (u_facts hfc hkC (u_lays ok.w hin hk) hi).1
  cases hfb : (T kf).2.2.2 with
  | false =>
    unfold u_lay at hlay
    rw [if_neg (by rw [hfb]; decide)] at hlay
    have h6 := u_store hfc hkC hkind hlay hi (hty kf hk) hn hfit
    exact W.putK ok.x ok.b (f := f) ⟨ok.o, ok.w _ hlink, ⟨_, _, _, hi⟩, hst⟩ (by rw [q2]; exact h6) q1 q3 (by rw [hsl]; exact k2_hasslot (q4 kf hk)) rfl rfl d hgo
  | true =>
    unfold u_lay at hlay
    rw [if_pos hfb] at hlay
    obtain ⟨hdecl, hin2⟩ := hfin hfb
    have hcf : (e_m E).cls = cf := by
      obtain ⟨_, _, c', _, _, _, -, -, hf', -, -, -, hown2, -⟩ := Cond.laysFinal_spec hlay
      have e1 : c' = cf := by have := hi.symm.trans hf'; simp at this; exact this.1.symm
      rw [hdecl] at hown2
      rw [← e1]; exact Option.some.inj (ok.o.symm.trans hown2)
    have h6 := u_fits hfc hkC hkind (Or.inr hlay) hi (hty kf hk) hn hfit
    exact W.putFinK ok.x ok.b ok.o (ok.w _ hlink) hi hst hcf hin2 (by rw [q2]; exact h6) q1 q3 (by rw [hsl]; exact k2_hasslot (q4 kf hk)) rfl rfl d hgo
theorem gl_obj (ok : OK0 G E own b) {idx a : Nat} (hlink : Cond.methodLink own idx Lib.objectInit ∈ BIG) (hinst : Cond.instanceMethod Lib.objectInit ∈ BIG) (hcode : Cond.code Lib.objectInit ⟨#[0xb1]⟩ 1 none ∈ BIG) (hframes : 1 ≤ (e_R E).frames) (hlocals : (st.map fun v => v.category).sum + 12 ≤ (e_R E).locals) (d : decode b pc = .ok (.invokespecial idx, 3)) (kk : WA G E k n (pc + 3) L st m) : WA G E k n pc L (.ref a :: st) m := by
  intro H locs ls hW hS9 hl
  refine W.objInit ok.x ok.b ok.o (ok.w _ hlink) (ok.w _ hinst) (ok.w _ hcode) rfl hl.1 rfl d hframes (by have := sum_cv (g_ad G) st; show 2 * 0 + _ + 12 ≤ _; omega) ?_
  exact kk H locs ls hW hS9 hl
end XR
