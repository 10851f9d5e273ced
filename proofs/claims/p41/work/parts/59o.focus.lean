/-! CALLS OVER A BUILDER OF THE LAW'S -/
abbrev SSL : Type := List (Nat × Nat × (Nat → Int) × Nat)
def FSA (a v : Nat) : Nat → Prop := fun q => q = a ∨ q = v
/-- a builder's own world alone: her cell at a, her bytes at v, and texts that nothing writes to -/
def FS (G : GG) (a v N : Nat) (SS : SSL) : GG := (fun n => if n = 960 then a else g_ad G n, g_D G, g_cA G, (N, FSA a v), fun _ => False, g_cf G, sbX (fun q => N ≤ q ∨ FSA a v q) (g_cA G) (fun _ => False), fun u => SST (fun q => N ≤ q ∨ FSA a v q) u ∧ ∀ x ∈ SS, STv (fun q => N ≤ q ∨ FSA a v q) u x.1 x.2.1 x.2.2.1 x.2.2.2)
theorem FS.raw {G : GG} {a v N : Nat} {SS : SSL} (h : SBW G) (x : Nat) : g_ad (FS G a v N SS) (RAW + x) = x := by
  show (if RAW + x = 960 then a else g_ad G (RAW + x)) = x
  rw [if_neg (by unfold RAW; omega)]
  exact h.1 x
theorem FS.sb {G : GG} {a v N : Nat} {SS : SSL} (h : SBW G) : SBW (FS G a v N SS) := ⟨FS.raw h, rfl, fun _ h => h.1⟩
theorem FS.dm {G : GG} {a v N : Nat} {SS : SSL} : ∀ q, ¬ g_dm (FS G a v N SS) q := fun _ h => h
theorem FS.ss {G : GG} {a v N : Nat} {SS : SSL} : ∀ x ∈ SS, ∀ u, g_st (FS G a v N SS) u → STv (g_A (FS G a v N SS)) u x.1 x.2.1 x.2.2.1 x.2.2.2 := fun x hx _ h => h.2 x hx
theorem FS.sf {G : GG} {U : State} {a v N : Nat} {SS : SSL} (hf : SF G U) (hS : SBW G) (hl : ∀ q, g_A (FS G a v N SS) q → g_A G q) (hN : N ≤ U.heap.size) (hSS : ∀ x ∈ SS, STv (g_A (FS G a v N SS)) U x.1 x.2.1 x.2.2.1 x.2.2.2) : SF (FS G a v N SS) U := by
  obtain ⟨h1, h2, h3, h4, h5, h6, h7, h8, h9, h12, h13, h10, h11, h14⟩ := hf
  exact ⟨h1, fun n n' hn => hn.elim, fun n hn => hn.elim, fun m m' n hn => hn.elim, fun m0 H H' (hx : sbX (g_A (FS G a v N SS)) (g_cA G) (fun _ => False) (g_ad (FS G a v N SS)) (g_D G) m0 H) hk => sbX_5 hx hk, fun m0 m' H e0 e1 (hx : sbX (g_A (FS G a v N SS)) (g_cA G) (fun _ => False) (g_ad (FS G a v N SS)) (g_D G) m0 H) => sbX_6 e0 e1 hx, h7.narrow hl, h8.narrow hl, h9, h12, h13, ⟨(hS.2.2 U h10).narrow hl, hSS⟩, fun u U' hWm hk hs => ⟨SST.moved hWm hk hs.1, fun x hx => (hs.2 x hx).moved hWm hk⟩, hN⟩
theorem FS.less {G : GG} {m : Mm} {H : Heap} {a v N : Nat} {SS : SSL} {e1 e2 : va_E} {Xs : XS} (hX : XOK G m ((a, e1) :: (v, e2) :: Xs) H) (hN : g_bs G ≤ N) : ∀ q, g_A (FS G a v N SS) q → g_A G q := by
  intro q h
  rcases h with h | rfl | rfl
  · exact Or.inl (Nat.le_trans hN h)
  · exact (hX.2.2 _ List.mem_cons_self).1
  · exact (hX.2.2 _ (List.mem_cons_of_mem _ List.mem_cons_self)).1
theorem FS.hw {G : GG} {m M : Mm} {H : Heap} {a N : Nat} {SS : SSL} {Xs : XS} (hS : SBW G) (h40 : M.1 960 4 = 0) (hX : XOK G m (SBX G a M ++ Xs) H) : HW (FS G a (M.1 960 2).toNat N SS) M H := by
  have c1 := hX.1 (a, .inr (5, sbF M)) (List.mem_append_left _ List.mem_cons_self)
  have c2 := hX.1 ((M.1 960 2).toNat, .inl (g_cA G 8, (M.1 960 3).toNat, .inl (fun j => Int32.ofInt (M.1 961 j)))) (List.mem_append_left _ (List.mem_cons_of_mem _ List.mem_cons_self))
  have hne : (M.1 960 2).toNat ≠ a := fun e => (List.nodup_cons.mp hX.2.1).1 (by rw [← e]; exact List.mem_cons_self)
  exact ⟨fun q hq => hq.elim, c1, c2, ⟨Or.inr (Or.inl rfl), Or.inr (Or.inr rfl), hne, fun n hn => hn.elim⟩, fun h => by rw [h40] at h; exact absurd h (by decide)⟩
/-- the rest of the world, when a builder's call is over -/
theorem FS.rest {G : GG} {m : Mm} {H H' : Heap} {a v N : Nat} {SS : SSL} {e1 e2 : va_E} {Xs : XS} (hS : SBW G) (hW : HW G m H) (hX : XOK G m ((a, e1) :: (v, e2) :: Xs) H) (hN : N = H.size) (hk : ∀ q : Nat, q < H.size → ¬ g_A (FS G a v N SS) q → H'[q]? = H[q]?) : HW G m H' ∧ (∀ x ∈ Xs, va_at (g_D G) vcl x H') ∧ (∀ q, q < H.size → (∀ x ∈ Xs, x.1 ≠ q) → True) := by
  subst hN
  obtain ⟨p1, p2, p3, p4, p5⟩ := hX.2.2 (a, e1) List.mem_cons_self
  obtain ⟨r1, r2, r3, r4, r5⟩ := hX.2.2 (v, e2) (List.mem_cons_of_mem _ List.mem_cons_self)
  have hnd := List.nodup_cons.mp hX.2.1
  have hnd2 := List.nodup_cons.mp hnd.2
  have out : ∀ q, q < H.size → q ≠ a → q ≠ v → H'[q]? = H[q]? := fun q h1 h2 h3 => hk q h1 (fun h => by
    rcases h with h | h | h
    · have h : H.size ≤ q := h
      omega
    · exact h2 h
    · exact h3 h)
  obtain ⟨a1, a2, a3, a4⟩ := sb_ex hS hW
  refine ⟨⟨fun n hn => (hW.1 n hn).kept (out _ (hW.1 n hn).lt (p2 n hn) (r2 n hn)), ?_⟩, fun x hx => ?_, fun _ _ _ => trivial⟩
  · rw [hS.2.1]
    refine ⟨a1.kept (out _ a1.lt (fun e => p3 e.symm) (fun e => r3 e.symm)), a2.kept (out _ a2.lt (fun e => p4 e.symm) (fun e => r4 e.symm)), a3, fun h => ?_⟩
    obtain ⟨b1, b2⟩ := a4 h
    exact ⟨b1.kept (out _ b1.lt (fun e => p5 h e.symm) (fun e => r5 h e.symm)), b2⟩
  · have h := hX.1 x (List.mem_cons_of_mem _ (List.mem_cons_of_mem _ hx))
    exact h.kept (out _ h.lt (fun e => hnd.1 (List.mem_cons_of_mem _ (by rw [← e]; exact List.mem_map.mpr ⟨x, hx, rfl⟩))) (fun e => hnd2.1 (by rw [← e]; exact List.mem_map.mpr ⟨x, hx, rfl⟩)))
theorem FS.back {G : GG} {m M' : Mm} {H H' : Heap} {a v N : Nat} {SS : SSL} {e1 e2 : va_E} {Xs : XS} (hS : SBW G) (hW : HW G m H) (hX : XOK G m ((a, e1) :: (v, e2) :: Xs) H) (hN : N = H.size) (hl : ∀ q, g_A (FS G a v N SS) q → g_A G q) (hb : HW (FS G a v N SS) M' H') (hk : ∀ q : Nat, q < H.size → ¬ g_A (FS G a v N SS) q → H'[q]? = H[q]?) : HW (GX G (SBX G a M' ++ Xs)) m H' := by
  obtain ⟨g1, g2, -⟩ := FS.rest hS hW hX hN hk
  obtain ⟨b1, b2, b3, -⟩ := hb.2
  have b1 : va_at (g_D G) vcl (a, .inr (5, sbF M')) H' := b1
  have b4 : g_A (FS G a v N SS) (M'.1 960 2).toNat := b3.2.1
  have b5 : (M'.1 960 2).toNat ≠ a := b3.2.2.1
  have hnd := List.nodup_cons.mp hX.2.1
  have hnd2 := List.nodup_cons.mp hnd.2
  have ca := hX.2.2 (a, e1) List.mem_cons_self
  have cv9 := hX.2.2 (v, e2) (List.mem_cons_of_mem _ List.mem_cons_self)
  have hx := sb_ex hS hW
  -- what is older and not the builder's is not her bytes
  have key : ∀ q, q < H.size → q ≠ a → q ≠ v → q ≠ (M'.1 960 2).toNat := fun q h1 h2 h3 e => by
    rcases b4 with h | h | h
    · have h : N ≤ (M'.1 960 2).toNat := h
      omega
    · exact h2 (e.trans h)
    · exact h3 (e.trans h)
  have kx : ∀ x ∈ Xs, x.1 < H.size ∧ x.1 ≠ a ∧ x.1 ≠ v := fun x hx => ⟨(hX.1 x (List.mem_cons_of_mem _ (List.mem_cons_of_mem _ hx))).lt, fun e => hnd.1 (List.mem_cons_of_mem _ (by rw [← e]; exact List.mem_map.mpr ⟨x, hx, rfl⟩)), fun e => hnd2.1 (by rw [← e]; exact List.mem_map.mpr ⟨x, hx, rfl⟩)⟩
  refine HW.xg g1 ⟨fun x hx => ?_, ?_, fun x hx => ?_⟩
  · rcases List.mem_cons.mp hx with rfl | hx
    · exact b1
    · rcases List.mem_cons.mp hx with rfl | hx
      · exact b2
      · exact g2 x hx
  · refine List.nodup_cons.mpr ⟨fun hm => ?_, List.nodup_cons.mpr ⟨fun hm => ?_, hnd2.2⟩⟩
    · rcases List.mem_cons.mp hm with h | h
      · exact b5 h.symm
      · exact hnd.1 (List.mem_cons_of_mem _ h)
    · obtain ⟨x, hx, e⟩ := List.mem_map.mp hm
      obtain ⟨k1, k2, k3⟩ := kx x hx
      exact key x.1 k1 k2 k3 e
  · rcases List.mem_cons.mp hx with rfl | hx
    · exact ca
    · rcases List.mem_cons.mp hx with rfl | hx9
      · refine ⟨hl _ b4, fun n hn e => ?_, fun e => ?_, fun e => ?_, fun h e => ?_⟩
        · exact key (g_ad G n) (hW.1 n hn).lt (ca.2.1 n hn) (cv9.2.1 n hn) e
        · exact key (g_ad G 960) (sb_ex hS hW).1.lt (fun e => ca.2.2.1 e.symm) (fun e => cv9.2.2.1 e.symm) e.symm
        · exact key (m.1 960 2).toNat (sb_ex hS hW).2.1.lt (fun e => ca.2.2.2.1 e.symm) (fun e => cv9.2.2.2.1 e.symm) e.symm
        · exact key (m.1 960 5).toNat ((sb_ex hS hW).2.2.2 h).1.lt (fun e => ca.2.2.2.2 h e.symm) (fun e => cv9.2.2.2.2 h e.symm) e.symm
      · exact hX.2.2 x (List.mem_cons_of_mem _ (List.mem_cons_of_mem _ hx9))
/-- a text at hand: a constant, or one of the law's -/
def SIN (G : GG) (Xs : XS) (s v : Nat) (t : Nat → Int) (n : Nat) : Prop := (n ≤ 100 ∧ ∀ j, j < n → 0 ≤ t j ∧ t j ≤ 127) ∧ ((∀ x ∈ STX G s v t n, x ∈ Xs) ∨ (∀ u, g_st G u → STv (g_A G) u s v t n))
theorem big_J0 : ∀ w ∈ wsJ00, w ∈ BIG := by
  intro w hw
  obtain ⟨k, hk, rfl⟩ := List.mem_map.mp hw
  have hk := List.mem_range.mp hk
  match k, hk with
  | 0, _ => exact tb_in 389 (by decide +kernel) (by decide +kernel)
  | 1, _ => exact tb_in 391 (by decide +kernel) (by decide +kernel)
  | 2, _ => exact tb_in 801 (by decide +kernel) (by decide +kernel)
  | 3, _ => exact tb_in 803 (by decide +kernel) (by decide +kernel)
  | k + 4, hk => exact absurd hk (by omega)
theorem SIN.at {G : GG} {E : EE} {own : String} {b : ByteArray} {Xs : XS} {m : Mm} {H : Heap} {locs : List Loc} {s v n : Nat} {t : Nat → Int} {A : Nat → Prop} (ok : OK0 G E own b) (h : SIN G Xs s v t n) (hX : XOK G m Xs H) (hSA : va_S (g_A G) (e_s E).heap H locs) (hl : ∀ q, A q → g_A G q) (ho : ∀ x ∈ Xs, x.1 = s ∨ x.1 = v → ¬ A x.1) :
    va_O "java/lang/String" s A (e_s E) H ∧ va_OF "java/lang/String" "coder" "B" (.int 0) s A (e_s E) H ∧ va_OF "java/lang/String" "value" "[B" (.ref v) s A (e_s E) H ∧ va_T .byte v n (fun j => .int (Int32.ofInt (t j))) A (e_s E) H := by
  obtain ⟨hr, hc | hc⟩ := h
  · have m1 := hc _ List.mem_cons_self
    have m2 := hc _ (List.mem_cons_of_mem _ List.mem_cons_self)
    have c1 := hX.1 _ m1
    have c2 := hX.1 _ m2
    have o1 : ¬ A s := ho _ m1 (Or.inl rfl)
    have o2 : ¬ A v := ho _ m2 (Or.inr rfl)
    obtain ⟨r, h1, cell, q1, q2, q3, q4⟩ := c1
    have hr9 : r = (RJ0, TJ0, 4) := Option.some.inj (h1.symm.trans rfl)
    subst hr9
    obtain ⟨hS0, hfc, kC, hkC, hkind⟩ := ok.f.1.1 4 (RJ0, TJ0, 4) rfl
    have fld : ∀ kf, kf < 4 → ∀ w, vp_V [.ref v, .int 0, .int 0, .int 0] kf = w → va_OF (TJ0 kf).1 (TJ0 kf).2.1 (TJ0 kf).2.2.1 w s A (e_s E) H := fun kf hk w hw => by
      obtain ⟨cf, kf2, fi, f, hi, hsl⟩ := hS0 kf hk
      have hst := (u_facts hfc hkC (u_lays ok.w big_J0 hk) hi).1
      exact ⟨cf, kf2, fi, f, cell, hi, hst, q1, (by rw [q3]; exact fun h => VmData.noConfusion h), (by rw [hsl, ← hw]; exact q4 kf hk), o1⟩
    refine ⟨⟨cell, q1, by rw [q3]; rfl, by rw [q2]; exact hfc, o1⟩, fld 1 (by decide) _ rfl, fld 0 (by decide) _ rfl, ?_⟩
    have c2 : H[v]? = some (arrV (g_cA G 8) n (fun j => .int (Int32.ofInt (t j)))) := c2
    refine ⟨_, c2, ((ok.f.1.2 8 _ rfl).1 n _), (fun h => VmData.noConfusion h), (by rw [arrV_size]; exact Nat.le_refl _), (by rw [arrV_size]), (fun j hj => by rw [arrV_read _ _ hj]), o2⟩
  · have hh := hc _ ok.f.2.2.2.2.2.2.2.2.2.2.2.1
    exact ⟨(hh.1.kept hSA.2.1).narrow hl, (hh.2.1.kept hSA.2.1).narrow hl, (hh.2.2.1.kept hSA.2.1).narrow hl, (hh.2.2.2.1.kept hSA.2.1).narrow hl⟩
theorem rawargs {ad ad' : Nat → Nat} (h1 : ∀ x, ad (RAW + x) = x) (h2 : ∀ x, ad' (RAW + x) = x) : ∀ {as : List Value}, (∀ x ∈ as, (∃ z, x = vI z) ∨ ∃ s, x = .ref (RAW + s)) → as.map (cv ad') = as.map (cv ad)
  | [], _ => rfl
  | x :: as, h => by
    rw [List.map_cons, List.map_cons, rawargs h1 h2 (fun y hy => h y (List.mem_cons_of_mem _ hy))]
    congr 1
    rcases h x List.mem_cons_self with ⟨z, rfl⟩ | ⟨s, rfl⟩
    · rfl
    · show Value.ref (ad' (RAW + s)) = Value.ref (ad (RAW + s))
      rw [h1, h2]
section XB9
variable {G : GG} {E : EE} {own : String} {b : ByteArray} {k n pc : Nat} {L : List (Nat × Value)} {st : List Value} {m : Mm} {Xs : XS}
/-- a method of the builder's that answers herself -/
theorem gl_callSB (ok : OK0 G E own b) (hS : SBW G) {a : Nat} {M : Mm} {P : Mm → Prop} {y : MethodName} {bytes : ByteArray} {maxL index na : Nat} {ret : Option FieldType} {rm : Room} (as : List Value) (SS : SSL)
    (lk : LinkV own index y bytes maxL ret na) (hy : y.cls = RJ4) (h40 : M.1 960 4 = 0) (has : ∀ x ∈ as, (∃ z, x = vI z) ∨ ∃ s, x = .ref (RAW + s)) (hSS : ∀ x ∈ SS, SIN G Xs x.1 x.2.1 x.2.2.1 x.2.2.2)
    (hC : ∀ G' : GG, SBW G' → (∀ q, ¬ g_dm G' q) → (∀ x ∈ SS, ∀ u, g_st G' u → STv (g_A G') u x.1 x.2.1 x.2.2.1 x.2.2.2) → CT G' (e_l E) y bytes maxL ret rm (.ref 960 :: as) M (fun r m' => r = some (.ref 960) ∧ P m') (fun _ _ => False)) (hn : as.length = na) (hf : Fits (e_R E) rm maxL k n) (hw : (st.map fun v => v.category).sum ≤ 8)
    (d : decode b pc = .ok (.invokevirtual index, 3))
    (kr : ∀ M', P M' → WA (GX G (SBX G a M' ++ Xs)) E (k + rm.cells) (n + rm.slots) (pc + 3) L (.ref (RAW + a) :: st) m) : WA (GX G (SBX G a M ++ Xs)) E k n pc L (as.reverse ++ .ref (RAW + a) :: st) m := by
  obtain ⟨f1, f2, f3, f4⟩ := hf
  intro H locs ls hW hS9 hl T hT X
  have hSA : va_S (g_A G) (e_s E).heap H locs := hS9
  have hl0 : lv_has ls (e_c E).maxLocals (L.map (cvp G)) := hl
  obtain ⟨hW0, hX⟩ := hW.gx
  have hbs := Nat.le_trans ok.f.2.2.2.2.2.2.2.2.2.2.2.2.2 hSA.1
  have hle := FS.less (SS := SS) (N := H.size) hX hbs
  have hnd := List.nodup_cons.mp hX.2.1
  have hnd2 := List.nodup_cons.mp hnd.2
  have cw := cwV (R := e_R E) (s := e_s E) (args := e_a E) (own := own) (C := y.cls) (index := index) (y := y) (bytes := bytes) (maxL := maxL) (ret := ret) (Ts := BIG) (ws := Cond.code y bytes maxL ret :: BIG) (ws' := BIG) (rm := rm) (mc := rm.cells) (ms := rm.slots) na ok.w (big_in (fun w hw => by
    rcases List.mem_append.mp hw with h | h
    · exact lk.1 w h
    · rcases List.mem_cons.mp h with h | h
      · rw [h]; exact lk.2.1
      · exact h)) rfl rfl rfl ⟨rfl, lk.2.2⟩ ⟨f1, f2⟩
  have hcl : ∃ cell : Cell, H[a]? = some cell ∧ cell.vm.isStatics = false ∧ (e_s E).vm.findClass y.cls = some cell.cls := by
    obtain ⟨q', g0, cell, g1, g2, g3, -⟩ := hX.1 (a, .inr (5, sbF M)) (List.mem_append_left _ List.mem_cons_self)
    have hqq : q' = (RJ4, TJ4, 4) := Option.some.inj (g0.symm.trans rfl)
    subst hqq
    exact ⟨cell, g1, by rw [g3]; rfl, by rw [hy, g2]; exact (ok.f.1.1 5 (RJ4, TJ4, 4) rfl).2.1⟩
  have hadr := FS.raw (a := a) (v := (M.1 960 2).toNat) (N := H.size) (SS := SS) hS
  have harg : as.map (cv (g_ad (FS G a (M.1 960 2).toNat H.size SS))) = as.map (cv (g_ad G)) := rawargs hS.1 hadr has
  have hgo := vx_runV (p := e_p E) (l := e_l E) (e := e_e E) (R := e_R E) (s := e_s E) (m := e_m E) (args := e_a E) (below := e_b E) (meth := e_t E) (c := e_c E) (H := H) (locs := locs) (cells := k) (slots := n) (b := a) (As := as.map (cv (g_ad G))) (rest := st.map (cv (g_ad G))) (g := F0 (e_m E) pc ls (as.reverse.map (cv (g_ad G)) ++ .ref a :: st.map (cv (g_ad G)))) ⟨ok.x, ok.b, rfl, ok.o, ok.w⟩ (hC (FS G a (M.1 960 2).toNat H.size SS) (FS.sb hS) FS.dm FS.ss) cw ⟨blind_CT (FS G a (M.1 960 2).toNat H.size SS) (.ref 960 :: as) M, hcl, fun U hU hWm => ⟨by
      show (Value.ref a :: as.map (cv (g_ad G))).toArray = (Value.ref (if 960 = 960 then a else g_ad G 960) :: as.map (cv (g_ad (FS G a (M.1 960 2).toNat H.size SS)))).toArray
      rw [harg, if_pos rfl], ?_, by rw [hU]; exact FS.hw hS h40 hX⟩⟩ rfl (by rw [List.length_map]; exact hn) hl0.1 (by show _ = _; simp) (by have := sum_cv (g_ad G) st; exact lv_room (by omega)) d ⟨f3, f4⟩
  rotate_left
  · have hUf : SF G U := SF.moved hWm (by rw [hU]; exact hSA.1) (fun q h1 h2 => by rw [hU]; exact hSA.2.1 q h1 h2) ok.f
    refine FS.sf hUf hS hle (by rw [hU]; exact Nat.le_refl _) (fun x hx => ?_)
    have hsin := hSS x hx
    have hxs : XOK G m Xs H := hX.sub (fun y hy => List.mem_append_right _ hy) (fun _ => hnd2.2)
    have h := hsin.at ok hxs hSA hle (fun y hy _ h => by
      have hlt := (hxs.1 y hy).lt
      rcases h with h | h | h
      · have h : H.size ≤ y.1 := h
        omega
      · exact hnd.1 (List.mem_cons_of_mem _ (by rw [← h]; exact List.mem_map.mpr ⟨y, hy, rfl⟩))
      · exact hnd2.1 (by rw [← h]; exact List.mem_map.mpr ⟨y, hy, rfl⟩))
    exact ⟨by rw [hU]; exact h.1.moved hWm.alike, by rw [hU]; exact h.2.1.moved hWm.alike, by rw [hU]; exact h.2.2.1.moved hWm.alike, by rw [hU]; exact h.2.2.2.moved hWm.alike, hsin.1⟩
  have hst9 : ((as.reverse ++ Value.ref (RAW + a) :: st).map (cv (g_ad (GX G (SBX G a M ++ Xs))))) = as.reverse.map (cv (g_ad G)) ++ .ref a :: st.map (cv (g_ad G)) := by
    rw [List.map_append]
    show as.reverse.map (cv (g_ad G)) ++ (Value.ref (g_ad G (RAW + a)) :: st.map (cv (g_ad G))) = _
    rw [hS.1]
  rw [hst9]
  rcases hgo T hT X with ⟨v, st₀, t, T', Lc, h0, X', hL, e1, e2, ⟨⟨r, m', hv, hp, hb⟩, hF⟩, hst⟩ | ⟨q, st₀, t, T', Lc, X0, ce, h0, X', hL, e1, e2, ⟨⟨m', hp, hb⟩, hF⟩, hce, hcv, hcl9, hst⟩
  · obtain ⟨k1, k2, k3⟩ := vx_keep h0 e1 hSA (fun q _ h => hle q h) (fun q h => hle q h) hL hF
    obtain ⟨rfl, hp⟩ := hp
    have hv' : v = some (.ref a) := by
      injection hv
    subst hv'
    obtain ⟨t2, a1, b1⟩ := kr m' hp T'.heap (locs ++ Lc) ls (FS.back hS hW0 hX rfl hle (by rw [e1]; exact hb) k2) k3 hl0 T' rfl X'
    rw [gx_raw hS] at a1
    exact ⟨t2, hst t2 a1, b1⟩
  · exact hp.elim
end XB9
