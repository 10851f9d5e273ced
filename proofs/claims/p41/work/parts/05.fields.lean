/-! FIELDS AND ARRAYS over the abstract machine -/
theorem HW.put {G : GG} {s : State} {m m' : Mm} {a : Nat} {H H1 : Heap} (hf : SF G s) (hW : HW G m H) (hd : g_dm G a) (he : va_at (g_D G) vcl (g_ad G a, g_cell G m' a) H1) (oq : ∀ q : Nat, q ≠ g_ad G a → H1[q]? = H[q]?) (hm : ∀ j, j ≠ a → m.1 j = m'.1 j ∧ m.2 j = m'.2 j) : HW G m' H1 := by
  obtain ⟨h1, h2, h3, h4, h5, h6, -⟩ := hf
  refine ⟨fun j hj => ?_, ?_⟩
  · by_cases e : j = a
    · subst e; exact he
    · have hx := hW.1 j hj
      rw [h4 m m' j hj (hm j e).1 (hm j e).2] at hx
      exact hx.kept (oq _ (fun z => e (h2 j a hj hd z)))
  · have h960 := (h3 a hd).2
    exact h6 m m' H1 (hm 960 (fun e => h960.1 e.symm)).1 (hm 961 (fun e => h960.2 e.symm)).1 (h5 m H H1 hW.2 (fun q _ hq => oq q (fun e => hq a hd e.symm)))
theorem upI_ne {m : Mm} {a i : Nat} {v : Int} : ∀ j, j ≠ a → m.1 j = (upI m a i v).1 j ∧ m.2 j = (upI m a i v).2 j := by
  intro j hj
  refine ⟨?_, rfl⟩
  funext x
  simp [upI, up2, hj]
theorem upF_ne {m : Mm} {a i : Nat} {v : UInt32} : ∀ j, j ≠ a → m.1 j = (upF m a i v).1 j ∧ m.2 j = (upF m a i v).2 j := by
  intro j hj
  refine ⟨rfl, ?_⟩
  funext x
  simp [upF, up2, hj]
theorem one_P {D : va_G} {cl : List vw_C} {q : Nat × va_E} {H : Heap} (h : va_at D cl q H) : va_P D cl [q] H := by
  intro k q' hk
  match k, hk with
  | 0, hk => cases hk; exact h
section FLD
variable {G : GG} {E : EE} {own : String} {b : ByteArray} {k n pc : Nat} {L : List (Nat × Value)} {st : List Value} {m : Mm}
theorem ga_getf (ok : OK0 G E own b) {C : String} {T : u_T} {N ci index a kf : Nat} {fs : List Value} {v : Value} (hin : ∀ w ∈ u_ws C T N, w ∈ BIG) (hc : vcl[ci]? = some (C, T, N)) (hkN : kf < N) (hlink : Cond.fieldLink own index (T kf).1 (T kf).2.1 (T kf).2.2.1 ∈ BIG)
    (hd : g_dm G a) (he : g_cell G m a = .inr (ci, fs)) (hv : fs[kf]? = some (cv (g_ad G) v)) (d : decode b pc = .ok (.getfield index, 3)) (kk : WA G E k n (pc + 3) L (v :: st) m) : WA G E k n pc L (.ref a :: st) m := by
  intro H locs ls hW hS hl
  have hat := hW.1 a hd
  rw [he] at hat
  exact va_get (D := g_D G) (ci := ci) (v := cv (g_ad G) v) (C := C) (T := T) (N := N) ok.x ok.b ok.w hin ok.o ok.f.1 (one_P hat) 0 rfl hc kf hkN (ok.w _ hlink) (fun _ h => h) hv d (kk H locs ls hW hS hl)
theorem ga_putf (ok : OK0 G E own b) {C : String} {T : u_T} {N ci index a kf : Nat} {fs : List Value} {v : Value} (m' : Mm) {ty0 : Nat → FieldType} (hin : ∀ w ∈ u_ws C T N, w ∈ BIG) (hty : ∀ k, k < N → parseFieldDescriptor (T k).2.2.1 = some (ty0 k)) (hnm : ∀ a, a < N → ∀ b, b < N → a ≠ b → (T a).2.1 ≠ (T b).2.1) (hc : vcl[ci]? = some (C, T, N)) (hkN : kf < N) (hlink : Cond.fieldLink own index (T kf).1 (T kf).2.1 (T kf).2.2.1 ∈ BIG) (hfin : (T kf).2.2.2 = false)
    (hd : g_dm G a) (he : g_cell G m a = .inr (ci, fs)) (he' : g_cell G m' a = .inr (ci, fs.set kf (cv (g_ad G) v))) (hl9 : kf < fs.length) (hm : ∀ j, j ≠ a → m.1 j = m'.1 j ∧ m.2 j = m'.2 j) (hn : narrow (ty0 kf) (cv (g_ad G) v) = cv (g_ad G) v) (hfit : fits (ty0 kf) (cv (g_ad G) v) = true) (d : decode b pc = .ok (.putfield index, 3)) (kk : WA G E k n (pc + 3) L st m') : WA G E k n pc L (v :: .ref a :: st) m := by
  intro H locs ls hW hS hl
  have hat := hW.1 a hd
  rw [he] at hat
  have hK := ok.f.1
  have hap := va_apart (own := own) (s := e_s E) (args := e_a E) ok.w hin ty0 hty hnm hK hc
  obtain ⟨r, h1, cell, q1, q2, q3, q4⟩ := hat
  have hr : r = (C, T, N) := Option.some.inj (h1.symm.trans hc)
  subst hr
  obtain ⟨hS2, hfc, kC, hkC, hkind⟩ := hK.1 ci _ hc
  obtain ⟨cf, kf2, fi, f, hi, hsl⟩ := hS2 kf hkN
  have hlay := ok.w _ (hin _ (u_in_lay hkN))
  unfold u_lay at hlay
  rw [if_neg (by rw [hfin]; decide)] at hlay
  have hst := (u_facts hfc hkC (u_lays ok.w hin hkN) hi).1
  have h6 := u_store hfc hkC hkind hlay hi (hty kf hkN) hn hfit
  refine W.putK ok.x ok.b (f := f) ⟨ok.o, ok.w _ hlink, ⟨_, _, _, hi⟩, hst⟩ (by rw [q2]; exact h6) q1 q3 (by rw [hsl]; exact k2_hasslot (q4 kf hkN)) rfl rfl d fun H' e1 e2 e3 => ?_
  rw [hsl] at e1 ⊢
  refine kk H' _ ls (HW.put ok.f hW hd ?_ e3 hm) (hS.put e2 e3 (ok.f.2.2.1 a hd).1) hl
  rw [he']
  exact ⟨_, hc, t_OB.to (V := updV (vp_V fs) kf (cv (g_ad G) v)) ⟨_, e1, q2, q3, t_set q4 hap hkN _⟩ (fun j _ => vp_updV_set hl9 _ j)⟩

/-- the array of int at a, of N places -/
def arr_ia (G : GG) (a N : Nat) : Prop := g_dm G a ∧ N < 2147483648 ∧ ∀ m : Mm, g_cell G m a = .inl (g_cA G 0, N, .inl (fun j => Int32.ofInt (m.1 a j)))
theorem ga_iaload_ia (ok : OK0 G E own b) {a N : Nat} {i : Int} (ha : arr_ia G a N) (hi : 0 ≤ i ∧ i < N) (d : decode b pc = .ok (.iaload, 1)) (kk : WA G E k n (pc + 1) L (vI (m.1 a i.toNat) :: st) m) : WA G E k n pc L (vI i :: .ref a :: st) m := by
  intro H locs ls hW hS hl
  have hat := hW.1 a ha.1
  rw [ha.2.2 m] at hat
  refine va_iald (D := g_D G) ok.x ok.b ok.f.1 (one_P hat) 0 0 rfl rfl (oi_in hi ha.2.1) d ?_
  rw [oi_cl hi ha.2.1]
  exact kk H locs ls hW hS hl
theorem ga_iastore_ia (ok : OK0 G E own b) {a N : Nat} {i : Int} {x : Int} (ha : arr_ia G a N) (hi : 0 ≤ i ∧ i < N) (d : decode b pc = .ok (.iastore, 1)) (kk : WA G E k n (pc + 1) L st (upI m a i.toNat x)) : WA G E k n pc L (vI x :: vI i :: .ref a :: st) m := by
  intro H locs ls hW hS hl
  have hat := hW.1 a ha.1
  rw [ha.2.2 m] at hat
  have hin := oi_in hi ha.2.1
  have hcl := oi_cl hi ha.2.1
  refine W.iast ok.x ok.b hat ((ok.f.1.2 0 _ rfl).1 N _) (fun q => by cases q) (by show ¬ (Int32.ofInt i < 0 ∨ (arrV _ _ _).slots.size ≤ _); rw [arrV_size]; exact hin) rfl rfl d fun H1 e z oq => ?_
  refine kk H1 _ ls (HW.put ok.f hW ha.1 ?_ oq upI_ne) (hS.put z oq (ok.f.2.2.1 a ha.1).1) hl
  rw [ha.2.2 (upI m a i.toNat x)]
  show H1[g_ad G a]? = some (vp_cell _ _)
  rw [e]
  dsimp only
  rw [vp_cell_i, vp_cell_i, hcl, arrV_store]
  congr 2
  funext q
  by_cases hq : q = i.toNat
  · subst hq
    simp [updV, upI, upF, up2]
  · simp [updV, upI, upF, up2, hq]
/-- the array of boolean at a, of N places -/
def arr_za (G : GG) (a N : Nat) : Prop := g_dm G a ∧ N < 2147483648 ∧ ∀ m : Mm, g_cell G m a = .inl (g_cA G 2, N, .inl (fun j => Int32.ofInt (m.1 a j)))
theorem ga_baload_za (ok : OK0 G E own b) {a N : Nat} {i : Int} (ha : arr_za G a N) (hi : 0 ≤ i ∧ i < N) (d : decode b pc = .ok (.baload, 1)) (kk : WA G E k n (pc + 1) L (vI (m.1 a i.toNat) :: st) m) : WA G E k n pc L (vI i :: .ref a :: st) m := by
  intro H locs ls hW hS hl
  have hat := hW.1 a ha.1
  rw [ha.2.2 m] at hat
  refine va_zald (D := g_D G) ok.x ok.b ok.f.1 (one_P hat) 0 2 rfl rfl (oi_in hi ha.2.1) d ?_
  rw [oi_cl hi ha.2.1]
  exact kk H locs ls hW hS hl
theorem ga_bastore_za (ok : OK0 G E own b) {a N : Nat} {i : Int} {x : Int} (ha : arr_za G a N) (hi : 0 ≤ i ∧ i < N) (hx : narrow .boolean (.int (Int32.ofInt x)) = .int (Int32.ofInt x)) (d : decode b pc = .ok (.bastore, 1)) (kk : WA G E k n (pc + 1) L st (upI m a i.toNat x)) : WA G E k n pc L (vI x :: vI i :: .ref a :: st) m := by
  intro H locs ls hW hS hl
  have hat := hW.1 a ha.1
  rw [ha.2.2 m] at hat
  have hin := oi_in hi ha.2.1
  have hcl := oi_cl hi ha.2.1
  refine W.zast ok.x ok.b hat ((ok.f.1.2 2 _ rfl).1 N _) (fun q => by cases q) (by show ¬ (Int32.ofInt i < 0 ∨ (arrV _ _ _).slots.size ≤ _); rw [arrV_size]; exact hin) rfl rfl d fun H1 e z oq => ?_
  refine kk H1 _ ls (HW.put ok.f hW ha.1 ?_ oq upI_ne) (hS.put z oq (ok.f.2.2.1 a ha.1).1) hl
  rw [ha.2.2 (upI m a i.toNat x)]
  show H1[g_ad G a]? = some (vp_cell _ _)
  rw [e]
  rw [hx]
  dsimp only
  rw [vp_cell_i, vp_cell_i, hcl, arrV_store]
  congr 2
  funext q
  by_cases hq : q = i.toNat
  · subst hq
    simp [updV, upI, upF, up2]
  · simp [updV, upI, upF, up2, hq]
/-- the array of char at a, of N places -/
def arr_ca (G : GG) (a N : Nat) : Prop := g_dm G a ∧ N < 2147483648 ∧ ∀ m : Mm, g_cell G m a = .inl (g_cA G 3, N, .inl (fun j => Int32.ofInt (m.1 a j)))
theorem ga_caload_ca (ok : OK0 G E own b) {a N : Nat} {i : Int} (ha : arr_ca G a N) (hi : 0 ≤ i ∧ i < N) (d : decode b pc = .ok (.caload, 1)) (kk : WA G E k n (pc + 1) L (vI (m.1 a i.toNat) :: st) m) : WA G E k n pc L (vI i :: .ref a :: st) m := by
  intro H locs ls hW hS hl
  have hat := hW.1 a ha.1
  rw [ha.2.2 m] at hat
  refine va_cald (D := g_D G) ok.x ok.b ok.f.1 (one_P hat) 0 3 rfl rfl (oi_in hi ha.2.1) d ?_
  rw [oi_cl hi ha.2.1]
  exact kk H locs ls hW hS hl
theorem ga_castore_ca (ok : OK0 G E own b) {a N : Nat} {i : Int} {x : Int} (ha : arr_ca G a N) (hi : 0 ≤ i ∧ i < N) (hx : narrow .char (.int (Int32.ofInt x)) = .int (Int32.ofInt x)) (d : decode b pc = .ok (.castore, 1)) (kk : WA G E k n (pc + 1) L st (upI m a i.toNat x)) : WA G E k n pc L (vI x :: vI i :: .ref a :: st) m := by
  intro H locs ls hW hS hl
  have hat := hW.1 a ha.1
  rw [ha.2.2 m] at hat
  have hin := oi_in hi ha.2.1
  have hcl := oi_cl hi ha.2.1
  refine W.cast ok.x ok.b hat ((ok.f.1.2 3 _ rfl).1 N _) (fun q => by cases q) (by show ¬ (Int32.ofInt i < 0 ∨ (arrV _ _ _).slots.size ≤ _); rw [arrV_size]; exact hin) rfl rfl d fun H1 e z oq => ?_
  refine kk H1 _ ls (HW.put ok.f hW ha.1 ?_ oq upI_ne) (hS.put z oq (ok.f.2.2.1 a ha.1).1) hl
  rw [ha.2.2 (upI m a i.toNat x)]
  show H1[g_ad G a]? = some (vp_cell _ _)
  rw [e]
  rw [hx]
  dsimp only
  rw [vp_cell_i, vp_cell_i, hcl, arrV_store]
  congr 2
  funext q
  by_cases hq : q = i.toNat
  · subst hq
    simp [updV, upI, upF, up2]
  · simp [updV, upI, upF, up2, hq]
/-- the array of byte at a, of N places -/
def arr_ba (G : GG) (a N : Nat) : Prop := g_dm G a ∧ N < 2147483648 ∧ ∀ m : Mm, g_cell G m a = .inl (g_cA G 8, N, .inl (fun j => Int32.ofInt (m.1 a j)))
theorem ga_baload_ba (ok : OK0 G E own b) {a N : Nat} {i : Int} (ha : arr_ba G a N) (hi : 0 ≤ i ∧ i < N) (d : decode b pc = .ok (.baload, 1)) (kk : WA G E k n (pc + 1) L (vI (m.1 a i.toNat) :: st) m) : WA G E k n pc L (vI i :: .ref a :: st) m := by
  intro H locs ls hW hS hl
  have hat := hW.1 a ha.1
  rw [ha.2.2 m] at hat
  refine va_bald (D := g_D G) ok.x ok.b ok.f.1 (one_P hat) 0 8 rfl rfl (oi_in hi ha.2.1) d ?_
  rw [oi_cl hi ha.2.1]
  exact kk H locs ls hW hS hl
theorem ga_bastore_ba (ok : OK0 G E own b) {a N : Nat} {i : Int} {x : Int} (ha : arr_ba G a N) (hi : 0 ≤ i ∧ i < N) (hx : narrow .byte (.int (Int32.ofInt x)) = .int (Int32.ofInt x)) (d : decode b pc = .ok (.bastore, 1)) (kk : WA G E k n (pc + 1) L st (upI m a i.toNat x)) : WA G E k n pc L (vI x :: vI i :: .ref a :: st) m := by
  intro H locs ls hW hS hl
  have hat := hW.1 a ha.1
  rw [ha.2.2 m] at hat
  have hin := oi_in hi ha.2.1
  have hcl := oi_cl hi ha.2.1
  refine W.bast ok.x ok.b hat ((ok.f.1.2 8 _ rfl).1 N _) (fun q => by cases q) (by show ¬ (Int32.ofInt i < 0 ∨ (arrV _ _ _).slots.size ≤ _); rw [arrV_size]; exact hin) rfl rfl d fun H1 e z oq => ?_
  refine kk H1 _ ls (HW.put ok.f hW ha.1 ?_ oq upI_ne) (hS.put z oq (ok.f.2.2.1 a ha.1).1) hl
  rw [ha.2.2 (upI m a i.toNat x)]
  show H1[g_ad G a]? = some (vp_cell _ _)
  rw [e]
  rw [hx]
  dsimp only
  rw [vp_cell_i, vp_cell_i, hcl, arrV_store]
  congr 2
  funext q
  by_cases hq : q = i.toNat
  · subst hq
    simp [updV, upI, upF, up2]
  · simp [updV, upI, upF, up2, hq]
/-- the array of long at a, of N places -/
def arr_la (G : GG) (a N : Nat) : Prop := g_dm G a ∧ N < 2147483648 ∧ ∀ m : Mm, g_cell G m a = .inl (g_cA G 6, N, .inr (.inl (fun j => Int64.ofInt (m.1 a j))))
theorem ga_laload_la (ok : OK0 G E own b) {a N : Nat} {i : Int} (ha : arr_la G a N) (hi : 0 ≤ i ∧ i < N) (d : decode b pc = .ok (.laload, 1)) (kk : WA G E k n (pc + 1) L (vJ (m.1 a i.toNat) :: st) m) : WA G E k n pc L (vI i :: .ref a :: st) m := by
  intro H locs ls hW hS hl
  have hat := hW.1 a ha.1
  rw [ha.2.2 m] at hat
  refine va_lald (D := g_D G) ok.x ok.b ok.f.1 (one_P hat) 0 6 rfl rfl (oi_in hi ha.2.1) d ?_
  rw [oi_cl hi ha.2.1]
  exact kk H locs ls hW hS hl
theorem ga_lastore_la (ok : OK0 G E own b) {a N : Nat} {i : Int} {x : Int} (ha : arr_la G a N) (hi : 0 ≤ i ∧ i < N) (d : decode b pc = .ok (.lastore, 1)) (kk : WA G E k n (pc + 1) L st (upI m a i.toNat x)) : WA G E k n pc L (vJ x :: vI i :: .ref a :: st) m := by
  intro H locs ls hW hS hl
  have hat := hW.1 a ha.1
  rw [ha.2.2 m] at hat
  have hin := oi_in hi ha.2.1
  have hcl := oi_cl hi ha.2.1
  refine W.last ok.x ok.b hat ((ok.f.1.2 6 _ rfl).1 N _) (fun q => by cases q) (by show ¬ (Int32.ofInt i < 0 ∨ (arrV _ _ _).slots.size ≤ _); rw [arrV_size]; exact hin) rfl rfl d fun H1 e z oq => ?_
  refine kk H1 _ ls (HW.put ok.f hW ha.1 ?_ oq upI_ne) (hS.put z oq (ok.f.2.2.1 a ha.1).1) hl
  rw [ha.2.2 (upI m a i.toNat x)]
  show H1[g_ad G a]? = some (vp_cell _ _)
  rw [e]
  dsimp only
  rw [vp_cell_l, vp_cell_l, hcl, arrV_store]
  congr 2
  funext q
  by_cases hq : q = i.toNat
  · subst hq
    simp [updV, upI, upF, up2]
  · simp [updV, upI, upF, up2, hq]
/-- the array of float at a, of N places -/
def arr_fa (G : GG) (a N : Nat) : Prop := g_dm G a ∧ N < 2147483648 ∧ ∀ m : Mm, g_cell G m a = .inl (g_cA G 1, N, .inr (.inr (.inl (fun j => m.2 a j))))
theorem ga_faload_fa (ok : OK0 G E own b) {a N : Nat} {i : Int} (ha : arr_fa G a N) (hi : 0 ≤ i ∧ i < N) (d : decode b pc = .ok (.faload, 1)) (kk : WA G E k n (pc + 1) L (.float (m.2 a i.toNat) :: st) m) : WA G E k n pc L (vI i :: .ref a :: st) m := by
  intro H locs ls hW hS hl
  have hat := hW.1 a ha.1
  rw [ha.2.2 m] at hat
  refine va_fald (D := g_D G) ok.x ok.b ok.f.1 (one_P hat) 0 1 rfl rfl (oi_in hi ha.2.1) d ?_
  rw [oi_cl hi ha.2.1]
  exact kk H locs ls hW hS hl
theorem ga_fastore_fa (ok : OK0 G E own b) {a N : Nat} {i : Int} {x : UInt32} (ha : arr_fa G a N) (hi : 0 ≤ i ∧ i < N) (d : decode b pc = .ok (.fastore, 1)) (kk : WA G E k n (pc + 1) L st (upF m a i.toNat x)) : WA G E k n pc L (.float x :: vI i :: .ref a :: st) m := by
  intro H locs ls hW hS hl
  have hat := hW.1 a ha.1
  rw [ha.2.2 m] at hat
  have hin := oi_in hi ha.2.1
  have hcl := oi_cl hi ha.2.1
  refine W.fast ok.x ok.b hat ((ok.f.1.2 1 _ rfl).1 N _) (fun q => by cases q) (by show ¬ (Int32.ofInt i < 0 ∨ (arrV _ _ _).slots.size ≤ _); rw [arrV_size]; exact hin) rfl rfl d fun H1 e z oq => ?_
  refine kk H1 _ ls (HW.put ok.f hW ha.1 ?_ oq upF_ne) (hS.put z oq (ok.f.2.2.1 a ha.1).1) hl
  rw [ha.2.2 (upF m a i.toNat x)]
  show H1[g_ad G a]? = some (vp_cell _ _)
  rw [e]
  dsimp only
  rw [vp_cell_f, vp_cell_f, hcl, arrV_store]
  congr 2
  funext q
  by_cases hq : q = i.toNat
  · subst hq
    simp [updV, upI, upF, up2]
  · simp [updV, upI, upF, up2, hq]
def arr_qa (G : GG) (a N ix : Nat) (f : Nat → Nat) : Prop := g_dm G a ∧ N < 2147483648 ∧ (∃ C, (vty (g_cA G))[ix]? = some (g_cA G ix, .object C)) ∧ ∀ m : Mm, g_cell G m a = .inl (g_cA G ix, N, .inr (.inr (.inr (.inr (fun j => some (g_ad G (f j)))))))
theorem ga_aaload_qa (ok : OK0 G E own b) {a N ix : Nat} {f : Nat → Nat} {i : Int} (ha : arr_qa G a N ix f) (hi : 0 ≤ i ∧ i < N) (d : decode b pc = .ok (.aaload, 1)) (kk : WA G E k n (pc + 1) L (.ref (f i.toNat) :: st) m) : WA G E k n pc L (vI i :: .ref a :: st) m := by
  intro H locs ls hW hS hl
  have hat := hW.1 a ha.1
  obtain ⟨C, hC⟩ := ha.2.2.1
  rw [ha.2.2.2 m] at hat
  refine va_aldq (D := g_D G) ok.x ok.b ok.f.1 (one_P hat) 0 ix rfl hC (oi_in hi ha.2.1) d ?_
  rw [oi_cl hi ha.2.1]
  exact kk H locs ls hW hS hl
end FLD
