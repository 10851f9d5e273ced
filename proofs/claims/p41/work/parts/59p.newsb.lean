/-! A BUILDER IS MADE; HER TEXT IS TAKEN -/
section XP
variable {G : GG} {E : EE} {own : String} {b : ByteArray} {k n pc : Nat} {L : List (Nat × Value)} {st : List Value} {m : Mm} {Xs : XS}
theorem gl_backCM (ok : OK0 G E own b) (hS : SBW G) {Qr : Option Value → Mm → Prop} {mc ms : Nat} {g0 : List Value} {a : Array Value}
    (hr : ∀ (H : Heap) (locs : List Loc) (ls : Array Slot), HW (GX G Xs) m H → va_S (g_A G) (e_s E).heap H locs → ls.size = (e_c E).maxLocals → va_Run (e_p E) (e_l E) (e_e E) (e_R E) (e_s E) (e_m E) (e_a E) (e_b E) (e_t E) (e_c E) H locs k n mc ms (F0 (e_m E) pc ls (g0.map (cv (g_ad G)))) (st.map (cv (g_ad G))) (qR (FC G m H.size) Qr a) (g_A (FC G m H.size)))
    (kr : ∀ (r : Option Value) (m' : Mm), Qr r m' → WA (GX G Xs) E (k + mc) (n + ms) (pc + 3) L (r.toList ++ st) m') : WA (GX G Xs) E k n pc L g0 m := by
  intro H locs ls hW hS9 hl T hT X
  have hSA : va_S (g_A G) (e_s E).heap H locs := hS9
  have hl0 : lv_has ls (e_c E).maxLocals (L.map (cvp G)) := hl
  obtain ⟨hW0, hX⟩ := hW.gx
  have hle := FC.less (N := H.size) ok.f hS hW0 (Nat.le_trans ok.f.2.2.2.2.2.2.2.2.2.2.2.2.2 hSA.1)
  obtain ⟨v, st₀, t, T', Lc, h0, X', hL, e1, e2, ⟨⟨r, m', hv, hp, hb⟩, hF⟩, hst⟩ := hr H locs ls hW hSA hl0.1 T hT X
  obtain ⟨k1, k2, k3⟩ := vx_keep h0 e1 hSA (fun q _ h => hle q h) (fun q h => hle q h) hL hF
  have hv' : v = r.map (cv (g_ad G)) := by injection hv
  subst hv'
  obtain ⟨t2, a1, b1⟩ := kr r m' hp T'.heap (locs ++ Lc) ls (FC.back hS hX hle (by rw [e1]; exact hb) k2) k3 hl0 T' rfl X'
  refine ⟨t2, hst t2 ?_, b1⟩
  have e9 : (r.map (cv (g_ad G))).toList ++ st.map (cv (g_ad G)) = (r.toList ++ st).map (cv (g_ad G)) := by cases r <;> rfl
  rw [e9]
  exact a1
/-- a method of the builder's by her superclass's reference -/
theorem gl_callVUC (ok : OK0 G E own b) (hS : SBW G) {x y : MethodName} {bytes xb : ByteArray} {maxL xm index : Nat} {ret xret : Option FieldType} {rm : Room} {Qr : Option Value → Mm → Prop}
    (lk : Cond.methodLink own index x ∈ BIG ∧ Cond.sameMethod x.cls x.cls x.name x.desc ∈ BIG ∧ Cond.instanceMethod x ∈ BIG ∧ Cond.code x xb xm xret ∈ BIG ∧ Cond.instanceMethod y ∈ BIG ∧ Cond.initialized y.cls ∈ BIG ∧ Cond.code y bytes maxL ret ∈ BIG)
    (hx : x.cls ≠ "java/lang/invoke/MethodHandle" ∧ x.cls ≠ "java/lang/invoke/VarHandle" ∧ (parseMethodDescriptor x.desc).map (fun d => d.parameters.length) = some 0) (hsel : Cond.selects RJ4 x y ∈ BIG) (h40 : m.1 960 4 = 0)
    (hC : ∀ G' : GG, SBW G' → CT G' (e_l E) y bytes maxL ret rm [.ref 960] m Qr (fun _ _ => False)) (hf : Fits (e_R E) rm maxL k n) (hw : (st.map fun v => v.category).sum ≤ 8)
    (d : decode b pc = .ok (.invokevirtual index, 3))
    (kr : ∀ (r : Option Value) (m' : Mm), Qr r m' → WA (GX G Xs) E (k + rm.cells) (n + rm.slots) (pc + 3) L (r.toList ++ st) m') : WA (GX G Xs) E k n pc L (.ref 960 :: st) m := by
  obtain ⟨f1, f2, f3, f4⟩ := hf
  refine gl_backCM ok hS (a := [Value.ref (g_ad G 960)].toArray) (fun H locs ls hW hS9 hsz => ?_) kr
  have hcb := ok.w _ lk.2.2.2.2.2.2
  have hws : ∀ w ∈ (Cond.code y bytes maxL ret :: BIG), ∀ (a' : Array Value) (U : State), (e_s E).WarmedH U.vm → w.before a' U = true := pay_in ok.w (big_in (fun w hw => by
    rcases List.mem_cons.mp hw with h | h
    · rw [h]; exact lk.2.2.2.2.2.2
    · exact h))
  have cw : va_CU (e_R E) (e_s E) (e_a E) own RJ4 x.cls index x y bytes maxL ret (Cond.code y bytes maxL ret :: BIG) rm rm.cells rm.slots 0 := by
    refine ⟨⟨rfl, rfl, f1, f2, hws, List.mem_cons_self⟩, hcb, ok.w _ lk.2.2.2.2.2.1, ⟨hx.1, hx.2.1⟩, fun sig h => ?_, ok.w _ lk.1, ok.w _ lk.2.1, va_Decl.of (x := x) (ok.w _ lk.2.2.1) (ok.w _ lk.2.2.2.1), ok.w _ hsel, ok.w _ lk.2.2.2.2.1⟩
    have h2 := hx.2.2
    rw [h] at h2
    exact (Option.some.inj h2).symm
  have hCm : Met (e_l E) y (Cond.code y bytes maxL ret :: BIG) rm _ _ _ _ _ := (hC (FC G m H.size) (FC.sb hS)).met
  refine va_runU (As := []) (rest := st.map (cv (g_ad G))) ⟨ok.x, ok.b, rfl, ok.o, ok.w⟩ hCm cw ⟨blind_CT (FC G m H.size) [.ref 960] m, sb_cls ok hS hW.gx.1, fun U hU hWm => ⟨rfl, ?_, by rw [hU]; exact FC.hw hS h40 hW.gx.1⟩⟩ rfl rfl hsz rfl ?_ d ⟨f3, f4⟩
  · have hUf : SF G U := SF.moved hWm (by rw [hU]; exact hS9.1) (fun q h1 h2 => by rw [hU]; exact hS9.2.1 q h1 h2) ok.f
    have h := FC.sf (m := m) hUf hS (by rw [hU]; exact hW.gx.1)
    rw [hU] at h
    exact h
  · have := sum_cv (g_ad G) st
    exact lv_room (by omega)
theorem m00_bls (z : Int) (hz : 0 ≤ z) : BLs (m00 z) ln0 := by
  refine ⟨⟨?_, ?_, ?_, ?_, fun i hi => ?_⟩, ?_, ?_, fun i hi => absurd hi (by show ¬ (i : Int) < 0; omega)⟩ <;> simp [m00, ln0]
  exact hz
/-- new StringBuilder() -/
theorem gl_newSB (ok : OK0 G E own b) (hS : SBW G) (ao : AO2 (e_s E)) {i1 i2 : Nat} (hlink : Cond.classLink own i1 RJ4 ∈ BIG) (hinst : Cond.instantiable RJ4 4 ∈ BIG) (hini : Cond.initialized RJ4 ∈ BIG) (lk : LinkI own i2 yJ4_init_da8c8 cJ4_init_da8c8 1 0)
    (hcell : k + 2 ≤ (e_R E).cells) (hslot : n + 20 ≤ (e_R E).slots) (hfr : (RM 2 1 16).frames + 1 ≤ (e_R E).frames ∧ 8 + (1 + 11) + (RM 2 1 16).locals ≤ (e_R E).locals) (hw : (st.map fun v => v.category).sum ≤ 6)
    (d0 : decode b pc = .ok (.new i1, 3)) (d3 : decode b (pc + 3) = .ok (.dup, 1)) (d4 : decode b (pc + 4) = .ok (.invokespecial i2, 3))
    (kk : ∀ a, WA (GX G (SBX G a (m00 (a + 1 : Nat)) ++ Xs)) E (k + 2) (n + 20) (pc + 7) L (.ref (RAW + a) :: st) m) : WA (GX G Xs) E k n pc L st m := by
  intro H locs ls hW hS9 hl
  have hSA : va_S (g_A G) (e_s E).heap H locs := hS9
  have hl0 : lv_has ls (e_c E).maxLocals (L.map (cvp G)) := hl
  obtain ⟨hW0, hX⟩ := hW.gx
  have hbs : g_bs G ≤ H.size := Nat.le_trans ok.f.2.2.2.2.2.2.2.2.2.2.2.2.2 hSA.1
  have hKn := ok.f.1.1 5 (RJ4, TJ4, 4) rfl
  show gW E k n H locs (F0 (e_m E) pc ls (st.map (cv (g_ad G))))
  refine W.newcK ok.x ok.b ok.o (ok.w _ hlink) (ok.w _ hinst) (ok.w _ hini) rfl d0 (by omega) (by omega) hKn.2.1 rfl fun H1 kC hkC e1 z1 o1 => ?_
  have hat : va_at (g_D G) vcl (H.size, .inr (5, [.null, .int 0, .int 0, .int 0])) H1 := ⟨_, rfl, (u_born (H := H1) tyJ4 ok.w big_J4 hKn hkC e1 tyJ4_ok).to (fun j hj => by
    match j, hj with
    | 0, _ => rfl
    | 1, _ => rfl
    | 2, _ => rfl
    | 3, _ => rfl
    | j + 4, hj => exact absurd hj (by show ¬ j + 4 < 4; omega))⟩
  refine lv_dup ok.x ok.b d3 rfl ?_
  have hSA1 := hS_new hSA z1 o1
  obtain ⟨lk1, lk2, lk3, lk4⟩ := lk
  have w1 := lk1 _ List.mem_cons_self
  have w2 := lk1 _ (List.mem_cons_of_mem _ List.mem_cons_self)
  have w3 := lk1 _ (List.mem_cons_of_mem _ (List.mem_cons_of_mem _ List.mem_cons_self))
  have cw := cwI (R := e_R E) (s := e_s E) (args := e_a E) (own := own) (index := i2) (y := yJ4_init_da8c8) (bytes := cJ4_init_da8c8) (maxL := 1) (Ts := BIG) (ws := Cond.code yJ4_init_da8c8 cJ4_init_da8c8 1 none :: BIG) (ws' := BIG) (rm := RM 2 1 16) (mc := (RM 2 1 16).cells) (ms := (RM 2 1 16).slots) 0 ok.w (big_in (fun w hw => by
    rcases List.mem_cons.mp hw with h | h
    · rw [h]; exact lk2
    · exact h)) rfl rfl rfl (ok.w _ w3) (ok.w _ w1) (ok.w _ w2) lk3 lk4 hfr
  have hle : ∀ q, g_A (FS G H.size H.size H.size []) q → g_A G q := fun q h => by
    rcases h with h | rfl | rfl
    · exact Or.inl (Nat.le_trans hbs h)
    · exact Or.inl hbs
    · exact Or.inl hbs
  have had : g_ad (FS G H.size H.size H.size []) 960 = H.size := by
    show (if 960 = 960 then H.size else g_ad G 960) = H.size
    rw [if_pos rfl]
  intro T hT X
  have hr := va_runI (p := e_p E) (l := e_l E) (e := e_e E) (R := e_R E) (s := e_s E) (m := e_m E) (args := e_a E) (below := e_b E) (meth := e_t E) (c := e_c E) (H := H1) (locs := locs) (cells := k + 1) (slots := n + 4) (b := H.size) (As := []) (rest := .ref H.size :: st.map (cv (g_ad G))) (g := F0 (e_m E) (pc + 4) ls (.ref H.size :: .ref H.size :: st.map (cv (g_ad G)))) ⟨ok.x, ok.b, rfl, ok.o, ok.w⟩ (i_J4 ok.fl (G := FS G H.size H.size H.size []) (by rw [had]; exact Nat.le_refl _) (FS.sb hS)) cw ⟨blind_PI (FS G H.size H.size H.size []) 960 5 [.null, .int 0, .int 0, .int 0] [], fun U hU hWm => ⟨by
      show [Value.ref H.size].toArray = [Value.ref (if 960 = 960 then H.size else g_ad G 960)].toArray
      rw [if_pos rfl], FS.sf (SF.moved hWm (by rw [hU]; exact hSA1.1) (fun q h1 h2 => by rw [hU]; exact hSA1.2.1 q h1 h2) ok.f) hS hle (by rw [hU, z1]; omega) (fun _ h => absurd h List.not_mem_nil), AO2.moved hWm.alike ao, by rw [hU, z1, had], by rw [hU, had]; exact hat⟩⟩ rfl rfl hl0.1 rfl (by
      have := sum_cv (g_ad G) st
      exact lv_room (by show 1 + (List.map _ _).sum ≤ 8; omega)) d4 ⟨by show k + 1 + 1 ≤ _; omega, by show n + 4 + 16 ≤ _; omega⟩
  obtain ⟨v, st₀, t, T', Lc, h0, X', hL, e1', e2', ⟨hv, ⟨q1, q2, q3, q4⟩, hF⟩, hst⟩ := hr T hT X
  obtain ⟨k1, k2, k3⟩ := vx_keep h0 e1' hSA1 (fun q _ h => hle q h) (fun q h => hle q h) hL hF
  have hv' : v = none := by injection hv
  subst hv'
  have old : ∀ q, q < H.size → T'.heap[q]? = H[q]? := fun q hq => by
    rw [e1', q4 q (by rw [h0, z1]; omega) (by rw [had]; omega), h0]
    exact o1 q hq
  have c1 : va_at (g_D G) vcl (H.size, .inr (5, sbF (m00 (H.size + 1 : Nat)))) T'.heap := by
    have h := q3 _ List.mem_cons_self
    rw [e1']
    have h : va_at (g_D G) vcl (g_ad (FS G H.size H.size H.size []) 960, .inr (5, [.ref (g_ad (FS G H.size H.size H.size []) (RAW + (g_ad (FS G H.size H.size H.size []) 960 + 1))), vI 0, .int 0, .int 0])) t.heap := h
    rw [FS.raw hS, had] at h
    have e : sbF (m00 (H.size + 1 : Nat)) = [.ref (H.size + 1), vI 0, .int 0, .int 0] := by
      simp [sbF, m00]
      rfl
    rw [e]
    exact h
  have c2 : va_at (g_D G) vcl (H.size + 1, .inl (g_cA G 8, 16, .inl (fun j => Int32.ofInt ((m00 (H.size + 1 : Nat)).1 961 j)))) T'.heap := by
    have h := q3 _ (List.mem_cons_of_mem _ List.mem_cons_self)
    rw [e1']
    have h : va_at (g_D G) vcl (g_ad (FS G H.size H.size H.size []) (RAW + (g_ad (FS G H.size H.size H.size []) 960 + 1)), .inl (g_cA G 8, 16, .inl (fun j => Int32.ofInt ((m00 (g_ad (FS G H.size H.size H.size []) 960 + 1 : Nat)).1 961 j)))) t.heap := h
    rw [FS.raw hS, had] at h
    exact h
  have e2 : ((m00 (H.size + 1 : Nat)).1 960 2).toNat = H.size + 1 := by
    simp [m00]
  have e3 : ((m00 (H.size + 1 : Nat)).1 960 3).toNat = 16 := by simp [m00]
  have hx := sb_ex hS hW0
  have hxs : ∀ x ∈ Xs, x.1 < H.size := fun x hx => (hX.1 x hx).lt
  have hnew : XOK G m (SBX G H.size (m00 (H.size + 1 : Nat)) ++ Xs) T'.heap := by
    unfold SBX
    rw [e2, e3]
    refine ⟨fun x hx9 => ?_, ?_, fun x hx9 => ?_⟩
    · rcases List.mem_cons.mp hx9 with rfl | hx9
      · exact c1
      · rcases List.mem_cons.mp hx9 with rfl | hx9
        · exact c2
        · exact (hX.1 x hx9).kept (old _ (hxs x hx9))
    · refine List.nodup_cons.mpr ⟨fun hm => ?_, List.nodup_cons.mpr ⟨fun hm => ?_, hX.2.1⟩⟩
      · rcases List.mem_cons.mp hm with h | h
        · have h : H.size = H.size + 1 := h
          omega
        · obtain ⟨x, hx9, e⟩ := List.mem_map.mp h
          have := hxs x hx9
          have e : x.1 = H.size := e
          omega
      · obtain ⟨x, hx9, e⟩ := List.mem_map.mp hm
        have := hxs x hx9
        have e : x.1 = H.size + 1 := e
        omega
    · have big : ∀ q, H.size ≤ q → g_A G q ∧ (∀ n, g_dm G n → g_ad G n ≠ q) ∧ q ≠ g_ad G 960 ∧ q ≠ (m.1 960 2).toNat ∧ (m.1 960 4 = 1 → q ≠ (m.1 960 5).toNat) := fun q hq => by
        have l0 : g_ad G 960 < H.size := hx.1.lt
        have l1 : (m.1 960 2).toNat < H.size := hx.2.1.lt
        refine ⟨Or.inl (Nat.le_trans hbs hq), fun n hn => ?_, by omega, by omega, fun h4 => ?_⟩
        · have h : g_ad G n < H.size := (hW0.1 n hn).lt
          omega
        · have l2 : (m.1 960 5).toNat < H.size := (hx.2.2.2 h4).1.lt
          omega
      rcases List.mem_cons.mp hx9 with rfl | hx9
      · exact big _ (Nat.le_refl _)
      · rcases List.mem_cons.mp hx9 with rfl | hx9
        · exact big _ (Nat.le_succ _)
        · exact hX.2.2 x hx9
  have hWn : HW G m T'.heap := ⟨fun n hn => (hW0.1 n hn).kept (old _ (hW0.1 n hn).lt), ok.f.2.2.2.2.1 m H T'.heap hW0.2 (fun q hq _ => old q hq)⟩
  obtain ⟨t2, a1, b1⟩ := kk H.size T'.heap (locs ++ Lc) ls (hWn.xg hnew) k3 hl0 T' rfl X'
  rw [gx_raw hS] at a1
  exact ⟨t2, hst t2 a1, b1⟩
end XP
