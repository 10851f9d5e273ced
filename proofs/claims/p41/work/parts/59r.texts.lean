/-! TEXTS OF THE LAW'S: taken, asked, constants; whole numbers of 64 bits -/
section XT
variable {G : GG} {E : EE} {own : String} {b : ByteArray} {k n pc : Nat} {L : List (Nat × Value)} {st : List Value} {m : Mm} {Xs : XS}
theorem gl_takeSB (ok : OK0 G E own b) (hS : SBW G) {a : Nat} {M : Mm} {q : (Nat → Int) × Int} (hq : BLs M q) {N index : Nat} (hN : q.2 = N) (hN9 : N ≤ 200)
    (lk : LinkV own index yJ4_toString_0e30d cJ4_toString_0e30d 1 (some (.object "java/lang/String")) 0) (hf : Fits (e_R E) (RM 5 2 204) 1 k n) (hw : (st.map fun v => v.category).sum ≤ 8)
    (d : decode b pc = .ok (.invokevirtual index, 3))
    (kr : ∀ (s v : Nat) (t : Nat → Int), (∀ j, j < N → t j = q.1 j) → WA (GX G (STX G s v t N ++ Xs)) E (k + 2) (n + 204) (pc + 3) L (.ref (RAW + s) :: st) m) : WA (GX G (SBX G a M ++ Xs)) E k n pc L (.ref (RAW + a) :: st) m := by
  obtain ⟨f1, f2, f3, f4⟩ := hf
  intro H locs ls hW hS9 hl T hT X
  have hSA : va_S (g_A G) (e_s E).heap H locs := hS9
  have hl0 : lv_has ls (e_c E).maxLocals (L.map (cvp G)) := hl
  obtain ⟨hW0, hX⟩ := hW.gx
  have hbs := Nat.le_trans ok.f.2.2.2.2.2.2.2.2.2.2.2.2.2 hSA.1
  have hle := FS.less (SS := []) (N := H.size) hX hbs
  have hnd := List.nodup_cons.mp hX.2.1
  have hnd2 := List.nodup_cons.mp hnd.2
  have cw := cwV (R := e_R E) (s := e_s E) (args := e_a E) (own := own) (C := yJ4_toString_0e30d.cls) (index := index) (y := yJ4_toString_0e30d) (bytes := cJ4_toString_0e30d) (maxL := 1) (ret := (some (.object "java/lang/String"))) (Ts := BIG) (ws := Cond.code yJ4_toString_0e30d cJ4_toString_0e30d 1 (some (.object "java/lang/String")) :: BIG) (ws' := BIG) (rm := RM 5 2 204) (mc := (RM 5 2 204).cells) (ms := (RM 5 2 204).slots) 0 ok.w (big_in (fun w hw => by
    rcases List.mem_append.mp hw with h | h
    · exact lk.1 w h
    · rcases List.mem_cons.mp h with h | h
      · rw [h]; exact lk.2.1
      · exact h)) rfl rfl rfl ⟨rfl, lk.2.2⟩ ⟨f1, f2⟩
  have hcl : ∃ cell : Cell, H[a]? = some cell ∧ cell.vm.isStatics = false ∧ (e_s E).vm.findClass yJ4_toString_0e30d.cls = some cell.cls := by
    obtain ⟨q', g0, cell, g1, g2, g3, -⟩ := hX.1 (a, .inr (5, sbF M)) (List.mem_append_left _ List.mem_cons_self)
    have hqq : q' = (RJ4, TJ4, 4) := Option.some.inj (g0.symm.trans rfl)
    subst hqq
    exact ⟨cell, g1, by rw [g3]; rfl, by rw [g2]; exact (ok.f.1.1 5 (RJ4, TJ4, 4) rfl).2.1⟩
  have hfw : HW (FS G a (M.1 960 2).toNat H.size []) M H := FS.hw hS hq.2.1 hX
  have hgo := va_runV (p := e_p E) (l := e_l E) (e := e_e E) (R := e_R E) (s := e_s E) (m := e_m E) (args := e_a E) (below := e_b E) (meth := e_t E) (c := e_c E) (H := H) (locs := locs) (cells := k) (slots := n) (b := a) (As := []) (rest := st.map (cv (g_ad G))) (g := F0 (e_m E) pc ls (.ref a :: st.map (cv (g_ad G)))) ⟨ok.x, ok.b, rfl, ok.o, ok.w⟩ (c_J4_toString (G := FS G a (M.1 960 2).toNat H.size []) (Xs := []) ok.fl (FS.sb hS) hq FS.dm hN hN9) cw ⟨blind_CL (FS G a (M.1 960 2).toNat H.size []) [.ref 960] M [], hcl, fun U hU hWm => ⟨by
      show [Value.ref a].toArray = [Value.ref (if 960 = 960 then a else g_ad G 960)].toArray
      rw [if_pos rfl], FS.sf (SF.moved hWm (by rw [hU]; exact hSA.1) (fun q h1 h2 => by rw [hU]; exact hSA.2.1 q h1 h2) ok.f) hS hle (by rw [hU]; exact Nat.le_refl _) (fun _ h => absurd h List.not_mem_nil), by rw [hU]; exact hfw.xg XOK.nil⟩⟩ rfl rfl hl0.1 rfl (by have := sum_cv (g_ad G) st; exact lv_room (by omega)) d ⟨f3, f4⟩
  show ∃ t, _
  have hst9 : ((Value.ref (RAW + a) :: st).map (cv (g_ad (GX G (SBX G a M ++ Xs))))) = .ref a :: st.map (cv (g_ad G)) := by
    show Value.ref (g_ad G (RAW + a)) :: st.map (cv (g_ad G)) = _
    rw [hS.1]
  rw [hst9]
  obtain ⟨v, st₀, t, T', Lc, h0, X', hL, e1, e2, ⟨⟨r, m', Xs', hv, hp, hb⟩, hF⟩, hst⟩ := hgo T hT X
  obtain ⟨k1, k2, k3⟩ := vx_keep h0 e1 hSA (fun q _ h => hle q h) (fun q h => hle q h) hL hF
  obtain ⟨rfl, s, w, t9, rfl, rfl, ht9⟩ := hp
  have hv' : v = some (.ref s) := by
    have hv : Outcome.returned v = Outcome.returned (some (Value.ref (g_ad (FS G a (m'.1 960 2).toNat H.size []) (RAW + s)))) := hv
    rw [FS.raw hS] at hv
    injection hv
  subst hv'
  rw [← e1, List.append_nil] at hb
  have hbx : XOK (FS G a (m'.1 960 2).toNat H.size []) m' (STX G s w t9 N) T'.heap := hb.gx.2
  obtain ⟨g1, g2, -⟩ := FS.rest hS hW0 hX rfl k2
  have hx := sb_ex hS hW0
  -- the new cells are new
  have key : ∀ x ∈ STX G s w t9 N, H.size ≤ x.1 := fun x hx9 => by
    obtain ⟨b1, -, b3, b4, -⟩ := hbx.2.2 x hx9
    have b3 : x.1 ≠ (if 960 = 960 then a else g_ad G 960) := b3
    rw [if_pos rfl] at b3
    rcases b1 with h | h | h
    · exact h
    · exact absurd h b3
    · exact absurd h b4
  have hxs : ∀ x ∈ Xs, x.1 < H.size := fun x hx9 => (hX.1 x (List.mem_cons_of_mem _ (List.mem_cons_of_mem _ hx9))).lt
  have hnew : XOK G m (STX G s w t9 N ++ Xs) T'.heap := by
    refine ⟨fun x hx9 => ?_, ?_, fun x hx9 => ?_⟩
    · rcases List.mem_append.mp hx9 with h | h
      · exact hbx.1 x h
      · exact g2 x h
    · rw [List.map_append]
      refine List.nodup_append.mpr ⟨hbx.2.1, hnd2.2, fun y hy z hz e => ?_⟩
      obtain ⟨x1, hx1, rfl⟩ := List.mem_map.mp hy
      obtain ⟨x2, hx2, rfl⟩ := List.mem_map.mp hz
      have := key x1 hx1
      have := hxs x2 hx2
      omega
    · rcases List.mem_append.mp hx9 with h | h
      · have hk := key x h
        have l0 : g_ad G 960 < H.size := hx.1.lt
        have l1 : (m.1 960 2).toNat < H.size := hx.2.1.lt
        refine ⟨Or.inl (Nat.le_trans hbs hk), fun n hn e => ?_, fun e => by omega, fun e => by omega, fun h4 e => ?_⟩
        · have h : g_ad G n < H.size := (hW0.1 n hn).lt
          omega
        · have l2 : (m.1 960 5).toNat < H.size := (hx.2.2.2 h4).1.lt
          omega
      · exact hX.2.2 x (List.mem_cons_of_mem _ (List.mem_cons_of_mem _ h))
  obtain ⟨t2, a1, b1⟩ := kr s w t9 ht9 T'.heap (locs ++ Lc) ls (g1.xg hnew) k3 hl0 T' rfl X'
  rw [gx_raw hS] at a1
  exact ⟨t2, hst t2 a1, b1⟩
/-- a text is asked -/
theorem gl_callStr (ok : OK0 G E own b) (hS : SBW G) (h40 : m.1 960 4 = 0) {s v N : Nat} {t : Nat → Int} (hsin : SIN G Xs s v t N) {y : MethodName} {bytes : ByteArray} {maxL index na : Nat} {ret : Option FieldType} {rm : Room} {z : Int} (as : List Value)
    (lk : LinkV own index y bytes maxL ret na) (hy : y.cls = RJ0) (has : ∀ x ∈ as, (∃ z, x = vI z) ∨ ∃ s, x = .ref (RAW + s))
    (hC : ∀ G' : GG, SBW G' → (∀ u, g_st G' u → STv (g_A G') u s v t N) → CT G' (e_l E) y bytes maxL ret rm (.ref (RAW + s) :: as) m (fun r m' => r = some (vI z) ∧ m' = m) (fun _ _ => False)) (hn : as.length = na) (hf : Fits (e_R E) rm maxL k n) (hw : (st.map fun v => v.category).sum ≤ 8)
    (d : decode b pc = .ok (.invokevirtual index, 3))
    (kr : WA (GX G Xs) E (k + rm.cells) (n + rm.slots) (pc + 3) L (vI z :: st) m) : WA (GX G Xs) E k n pc L (as.reverse ++ .ref (RAW + s) :: st) m := by
  obtain ⟨f1, f2, f3, f4⟩ := hf
  intro H locs ls hW hS9 hl T hT X
  have hSA : va_S (g_A G) (e_s E).heap H locs := hS9
  have hl0 : lv_has ls (e_c E).maxLocals (L.map (cvp G)) := hl
  obtain ⟨hW0, hX⟩ := hW.gx
  have hbs := Nat.le_trans ok.f.2.2.2.2.2.2.2.2.2.2.2.2.2 hSA.1
  have hx := sb_ex hS hW0
  obtain ⟨SS, hSSe⟩ : ∃ SS : SSL, SS = [(s, v, t, N)] := ⟨_, rfl⟩
  have hle : ∀ q, g_A (FS G (g_ad G 960) (m.1 960 2).toNat H.size SS) q → g_A G q := fun q h => by
    rcases h with h | rfl | rfl
    · exact Or.inl (Nat.le_trans hbs h)
    · exact hx.2.2.1.1
    · exact hx.2.2.1.2.1
  have cw := cwV (R := e_R E) (s := e_s E) (args := e_a E) (own := own) (C := y.cls) (index := index) (y := y) (bytes := bytes) (maxL := maxL) (ret := ret) (Ts := BIG) (ws := Cond.code y bytes maxL ret :: BIG) (ws' := BIG) (rm := rm) (mc := rm.cells) (ms := rm.slots) na ok.w (big_in (fun w hw => by
    rcases List.mem_append.mp hw with h | h
    · exact lk.1 w h
    · rcases List.mem_cons.mp h with h | h
      · rw [h]; exact lk.2.1
      · exact h)) rfl rfl rfl ⟨rfl, lk.2.2⟩ ⟨f1, f2⟩
  have hat := hsin.at ok hX hSA hle (fun x hx9 _ h => by
    obtain ⟨-, -, c3, c4, -⟩ := hX.2.2 x hx9
    have hlt := (hX.1 x hx9).lt
    rcases h with h | h | h
    · have h : H.size ≤ x.1 := h
      omega
    · exact c3 h
    · exact c4 h)
  have hcl : ∃ cell : Cell, H[s]? = some cell ∧ cell.vm.isStatics = false ∧ (e_s E).vm.findClass y.cls = some cell.cls := by
    obtain ⟨cell, c1, c2, c3, -⟩ := hat.1
    exact ⟨cell, c1, c2, by rw [hy]; exact c3⟩
  have hadr := FS.raw (a := g_ad G 960) (v := (m.1 960 2).toNat) (N := H.size) (SS := SS) hS
  have harg : as.map (cv (g_ad (FS G (g_ad G 960) (m.1 960 2).toNat H.size SS))) = as.map (cv (g_ad G)) := rawargs hS.1 hadr has
  have hfw : HW (FS G (g_ad G 960) (m.1 960 2).toNat H.size SS) m H := ⟨fun q hq => hq.elim, hx.1, hx.2.1, ⟨Or.inr (Or.inl rfl), Or.inr (Or.inr rfl), hx.2.2.1.2.2.1, fun n hn => hn.elim⟩, fun h => by rw [h40] at h; exact absurd h (by decide)⟩
  have hgo := vx_runV (p := e_p E) (l := e_l E) (e := e_e E) (R := e_R E) (s := e_s E) (m := e_m E) (args := e_a E) (below := e_b E) (meth := e_t E) (c := e_c E) (H := H) (locs := locs) (cells := k) (slots := n) (b := s) (As := as.map (cv (g_ad G))) (rest := st.map (cv (g_ad G))) (g := F0 (e_m E) pc ls (as.reverse.map (cv (g_ad G)) ++ .ref s :: st.map (cv (g_ad G)))) ⟨ok.x, ok.b, rfl, ok.o, ok.w⟩ (hC (FS G (g_ad G 960) (m.1 960 2).toNat H.size SS) (FS.sb hS) (FS.ss (s, v, t, N) (by rw [hSSe]; exact List.mem_cons_self))) cw ⟨blind_CT (FS G (g_ad G 960) (m.1 960 2).toNat H.size SS) (.ref (RAW + s) :: as) m, hcl, fun U hU hWm => ⟨by
      show (Value.ref s :: as.map (cv (g_ad G))).toArray = (Value.ref (g_ad (FS G (g_ad G 960) (m.1 960 2).toNat H.size SS) (RAW + s)) :: as.map (cv (g_ad (FS G (g_ad G 960) (m.1 960 2).toNat H.size SS)))).toArray
      rw [harg, hadr], ?_, by rw [hU]; exact hfw⟩⟩ rfl (by rw [List.length_map]; exact hn) hl0.1 (by show _ = _; simp) (by have := sum_cv (g_ad G) st; exact lv_room (by omega)) d ⟨f3, f4⟩
  rotate_left
  · have hUf : SF G U := SF.moved hWm (by rw [hU]; exact hSA.1) (fun q h1 h2 => by rw [hU]; exact hSA.2.1 q h1 h2) ok.f
    refine FS.sf hUf hS hle (by rw [hU]; exact Nat.le_refl _) (fun x hx9 => ?_)
    rw [hSSe] at hx9
    rw [List.mem_singleton.mp hx9]
    exact ⟨by rw [hU]; exact hat.1.moved hWm.alike, by rw [hU]; exact hat.2.1.moved hWm.alike, by rw [hU]; exact hat.2.2.1.moved hWm.alike, by rw [hU]; exact hat.2.2.2.moved hWm.alike, hsin.1⟩
  have hst9 : ((as.reverse ++ Value.ref (RAW + s) :: st).map (cv (g_ad (GX G Xs)))) = as.reverse.map (cv (g_ad G)) ++ .ref s :: st.map (cv (g_ad G)) := by
    rw [List.map_append]
    show as.reverse.map (cv (g_ad G)) ++ (Value.ref (g_ad G (RAW + s)) :: st.map (cv (g_ad G))) = _
    rw [hS.1]
  rw [hst9]
  rcases hgo T hT X with ⟨w, st₀, t1, T', Lc, h0, X', hL, e1, e2, ⟨⟨r, m', hv, hp, hb⟩, hF⟩, hst⟩ | ⟨q, st₀, t1, T', Lc, X0, ce, h0, X', hL, e1, e2, ⟨⟨m', hp, hb⟩, hF⟩, hce, hcv, hcl9, hst⟩
  · obtain ⟨k1, k2, k3⟩ := vx_keep h0 e1 hSA (fun q _ h => hle q h) (fun q h => hle q h) hL hF
    obtain ⟨rfl, rfl⟩ := hp
    have hv' : w = some (vI z) := by injection hv
    subst hv'
    rw [← e1] at hb
    obtain ⟨b1, b2, -, -⟩ := hb.2
    have out : ∀ q, q < H.size → q ≠ g_ad G 960 → q ≠ (m'.1 960 2).toNat → T'.heap[q]? = H[q]? := fun q h1 h2 h3 => k2 q h1 (fun h => by
      rcases h with h | h | h
      · have h : H.size ≤ q := h
        omega
      · exact h2 h
      · exact h3 h)
    have hWn : HW G m' T'.heap := by
      refine ⟨fun n hn => (hW0.1 n hn).kept (out _ (hW0.1 n hn).lt (hx.2.2.1.2.2.2 n hn).1 (hx.2.2.1.2.2.2 n hn).2), ?_⟩
      rw [hS.2.1]
      exact ⟨b1, b2, hx.2.2.1, fun h => by rw [h40] at h; exact absurd h (by decide)⟩
    obtain ⟨t2, a1, b9⟩ := kr T'.heap (locs ++ Lc) ls (hWn.xg ⟨fun x hx9 => (hX.1 x hx9).kept (out _ (hX.1 x hx9).lt (hX.2.2 x hx9).2.2.1 (hX.2.2 x hx9).2.2.2.1), hX.2⟩) k3 hl0 T' rfl X'
    exact ⟨t2, hst t2 a1, b9⟩
  · exact hp.elim
/-! constants -/
def litL : List (Nat × String × List Int) := [(214, "", []), (226, " ", [32]), (276, "+", [43]), (278, "-", [45]), (309, "g", [103]), (311, ";+", [59, 43]), (313, "j;t0:0;d0", [106, 59, 116, 48, 58, 48, 59, 100, 48]), (315, ";x", [59, 120])]
def lch (l : List Int) : Nat → Int := fun j => l.getD j 0
/-- the law's texts stand at la i, their bytes at lv i -/
def LIT (G : GG) (la lv : Nat → Nat) : Prop := ∀ u, g_st G u → ∀ i q, litL[i]? = some q → vk_R RL q.1 q.2.1 (la i) u ∧ STv (g_A G) u (la i) (lv i) (lch q.2.2) q.2.2.length
theorem lit_ok : ∀ q ∈ litL, q.2.2.length ≤ 100 ∧ ∀ j, j < q.2.2.length → 0 ≤ lch q.2.2 j ∧ lch q.2.2 j ≤ 127 := by decide +kernel
theorem LIT.sin {la lv : Nat → Nat} (h : LIT G la lv) {i : Nat} {q : Nat × String × List Int} (hi : litL[i]? = some q) : SIN G Xs (la i) (lv i) (lch q.2.2) q.2.2.length :=
  ⟨lit_ok q (List.mem_of_getElem? hi), Or.inr (fun u hu => (h u hu i q hi).2)⟩
theorem gl_ldcS {la lv : Nat → Nat} (ok : OK0 G E own b) (hS : SBW G) (hown : own = RL) (hL : LIT G la lv) (i : Nat) {q : Nat × String × List Int} (hi : litL[i]? = some q) (d : decode b pc = .ok (.ldc q.1, 2)) (kk : WA (GX G Xs) E k n (pc + 2) L (.ref (RAW + la i) :: st) m) : WA (GX G Xs) E k n pc L st m := by
  subst hown
  intro H locs ls hW hS9 hl
  have h := kk H locs ls hW hS9 hl
  rw [gx_raw hS] at h
  exact va_ldcS ok.x ok.b ok.o (hL _ ok.f.2.2.2.2.2.2.2.2.2.2.2.1 i q hi).1 d h
theorem gl_ldcSW {la lv : Nat → Nat} (ok : OK0 G E own b) (hS : SBW G) (hown : own = RL) (hL : LIT G la lv) (i : Nat) {q : Nat × String × List Int} (hi : litL[i]? = some q) (d : decode b pc = .ok (.ldc_w q.1, 3)) (kk : WA (GX G Xs) E k n (pc + 3) L (.ref (RAW + la i) :: st) m) : WA (GX G Xs) E k n pc L st m := by
  subst hown
  intro H locs ls hW hS9 hl T hT X
  have h := kk H locs ls hW hS9 hl
  rw [gx_raw hS] at h
  have hZ := (hL _ ok.f.2.2.2.2.2.2.2.2.2.2.2.1 i q hi).1
  obtain ⟨t, a1, b1⟩ := h T hT X
  exact ⟨t, X.ldcStringW ok.x ok.o (text := q.2.1) (a := la i) hZ.1 hZ.2 (g := F0 (e_m E) pc ls (st.map (cv (g_ad G)))) rfl (by rw [ok.b]; exact d) t a1, b1⟩
/-! 64 bits -/
theorem ga_ldc2 (ok : OK0 G E own b) {index : Nat} {z : Int} (hw : Jvm.Cond.constantLong own index (Int64.ofInt z) ∈ BIG) (d : decode b pc = .ok (.ldc2_w index, 3)) (kk : WA G E k n (pc + 3) L (vJ z :: st) m) : WA G E k n pc L st m := by
  intro H locs ls hW hS hl
  exact lv_ldc2 ok.x ok.b ok.o (ok.w _ hw) d (kk H locs ls hW hS hl)
theorem ga_ladd (ok : OK0 G E own b) {x y : Int} (d : decode b pc = .ok (.ladd, 1)) (kk : WA G E k n (pc + 1) L (vJ (x + y) :: st) m) : WA G E k n pc L (vJ y :: vJ x :: st) m := by
  intro H locs ls hW hS hl
  have h := kk H locs ls hW hS hl
  refine lv_ladd ok.x ok.b d ?_
  rw [show Int64.ofInt x + Int64.ofInt y = Int64.ofInt (x + y) from (Int64.ofInt_add x y).symm]
  exact h
theorem ga_lmul (ok : OK0 G E own b) {x y : Int} (d : decode b pc = .ok (.lmul, 1)) (kk : WA G E k n (pc + 1) L (vJ (x * y) :: st) m) : WA G E k n pc L (vJ y :: vJ x :: st) m := by
  intro H locs ls hW hS hl
  have h := kk H locs ls hW hS hl
  refine lv_lmul ok.x ok.b d ?_
  rw [show Int64.ofInt x * Int64.ofInt y = Int64.ofInt (x * y) from (Int64.ofInt_mul x y).symm]
  exact h
theorem ga_lload_n (ok : OK0 G E own b) {q : Fin 4} (i : Nat) (hq : (q : Nat) = i) {z : Int} (hv : lgt L i = some (vJ z)) (d : decode b pc = .ok (.lload_n q, 1)) (kk : WA G E k n (pc + 1) L (vJ z :: st) m) : WA G E k n pc L st m := by
  intro H locs ls hW hS hl
  exact lv_lload_n ok.x ok.b d hq (lgt_at hl hv) (kk H locs ls hW hS hl)
theorem ga_lstore_n (ok : OK0 G E own b) {q : Fin 4} (i : Nat) (hq : (q : Nat) = i) {z : Int} (hn : i + 1 < (e_c E).maxLocals) (d : decode b pc = .ok (.lstore_n q, 1)) (kk : WA G E k n (pc + 1) (lst (ldel L (i + 1)) i (vJ z)) st m) : WA G E k n pc L (vJ z :: st) m := by
  intro H locs ls hW hS hl
  exact lv_lstore_n ok.x ok.b d hq hl hn rfl (fun ls' hl' => kk H locs ls' hW hS (lst_has2 hl'))
theorem ga_ifnullR (ok : OK0 G E own b) {a : Nat} {off : Int} (d : decode b pc = .ok (.ifnull off, 3)) (kk : WA G E k n (pc + 3) L st m) : WA G E k n pc L (.ref a :: st) m := by
  intro H locs ls hW hS hl
  exact lv_ifnull ok.x ok.b d (kk H locs ls hW hS hl)
end XT
