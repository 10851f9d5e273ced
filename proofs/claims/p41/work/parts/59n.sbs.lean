/-! BUILDERS AND TEXTS OF THE LAW'S -/
theorem nodup_D {A : Nat → Prop} : ∀ {ws : XS}, va_D A ws → (ws.map Prod.fst).Nodup
  | [], _ => List.nodup_nil
  | x :: t, h => by
    refine List.nodup_cons.mpr ⟨fun hm => ?_, nodup_D (ws := t) ⟨fun i j p q hi hj e => ?_, fun k q hk => h.2 (k + 1) q hk⟩⟩
    · obtain ⟨y, hy, e⟩ := List.mem_map.mp hm
      obtain ⟨i, hi⟩ := List.getElem?_of_mem hy
      have := h.1 0 (i + 1) x y rfl hi e.symm
      omega
    · have := h.1 (i + 1) (j + 1) p q hi hj e
      omega
theorem D_nodup {A : Nat → Prop} : ∀ {ws : XS}, (ws.map Prod.fst).Nodup → (∀ x ∈ ws, A x.1) → va_D A ws
  | [], _, _ => ⟨fun i j p q hi _ _ => absurd hi (by simp), fun k q hk => absurd hk (by simp)⟩
  | x :: t, h, h2 => by
    have hn := List.nodup_cons.mp h
    have ih := D_nodup (ws := t) hn.2 (fun y hy => h2 y (List.mem_cons_of_mem _ hy))
    have key : ∀ (i : Nat) (q : Nat × va_E), t[i]? = some q → q.1 ≠ x.1 := fun i q hq e => hn.1 (List.mem_map.mpr ⟨q, List.mem_of_getElem? hq, e⟩)
    refine ⟨fun i j p q hi hj e => ?_, fun k q hk => h2 q (List.mem_of_getElem? hk)⟩
    match i, j, hi, hj with
    | 0, 0, _, _ => rfl
    | 0, j + 1, hi, hj => cases hi; exact absurd e.symm (key j q hj)
    | i + 1, 0, hi, hj => cases hj; exact absurd e (key i p hi)
    | i + 1, j + 1, hi, hj => rw [ih.1 i j p q hi hj e]
def SBX (G : GG) (a : Nat) (M : Mm) : XS := [(a, .inr (5, sbF M)), ((M.1 960 2).toNat, .inl (g_cA G 8, (M.1 960 3).toNat, .inl (fun j => Int32.ofInt (M.1 961 j))))]
def STX (G : GG) (s v : Nat) (t : Nat → Int) (n : Nat) : XS := [(s, .inr (4, [.ref v, .int 0, .int 0, .int 0])), (v, bA G n t)]
section CLN
variable {G : GG} {E : EE} {own : String} {b : ByteArray} {k n pc : Nat} {L : List (Nat × Value)} {st : List Value} {m : Mm} {Xs : XS}
theorem gl_clone (ok : OK0 G E own b) (hS : SBW G) (hdm : ∀ q, ¬ g_dm G q) (hB : SBk m) (h40 : m.1 960 4 = 0) {index N : Nat} (hN : m.1 960 3 = N)
    (lk : Cond.methodLink own index ⟨"[B", "clone", "()Ljava/lang/Object;"⟩ ∈ BIG ∧ Cond.sameMethod "[B" "java/lang/Object" "clone" "()Ljava/lang/Object;" ∈ BIG ∧ Cond.native ⟨"java/lang/Object", "clone", "()Ljava/lang/Object;"⟩ ∈ BIG ∧ Cond.instanceMethod ⟨"java/lang/Object", "clone", "()Ljava/lang/Object;"⟩ ∈ BIG ∧ Cond.selects "[B" ⟨"[B", "clone", "()Ljava/lang/Object;"⟩ ⟨"java/lang/Object", "clone", "()Ljava/lang/Object;"⟩ ∈ BIG ∧ Cond.castable "[B" "java/lang/Cloneable" ∈ SPW)
    (hframes : 1 ≤ (e_R E).frames) (hlocals : (st.map fun v => v.category).sum + 14 ≤ (e_R E).locals) (hcells : k + 1 ≤ (e_R E).cells) (hslots : n + N ≤ (e_R E).slots) (d : decode b pc = .ok (.invokevirtual index, 3))
    (kk : ∀ q, WA (GX G ((q, bA G N (m.1 961)) :: Xs)) E (k + 1) (n + N) (pc + 3) L (.ref (RAW + q) :: st) m) : WA (GX G Xs) E k n pc L (raw (m.1 960 2) :: st) m := by
  intro H locs ls hW hS9 hl
  obtain ⟨hW0, hX⟩ := hW.gx
  obtain ⟨a1, a2, a3, -⟩ := sb_ex hS hW0
  have hSA : va_S (g_A G) (e_s E).heap H locs := hS9
  have hl0 : lv_has ls (e_c E).maxLocals (L.map (cvp G)) := hl
  show gW E k n H locs (F0 (e_m E) pc ls (cv (g_ad G) (raw (m.1 960 2)) :: st.map (cv (g_ad G))))
  rw [hS.raw]
  have hNN : (m.1 960 3).toNat = N := by omega
  rw [hNN] at a2
  obtain ⟨ws, hws⟩ : ∃ ws : XS, ws = (g_ad G 960, .inr (5, sbF m)) :: ((m.1 960 2).toNat, .inl (g_cA G 8, N, .inl (fun j => Int32.ofInt (m.1 961 j)))) :: Xs := ⟨_, rfl⟩
  have hin : ∀ x ∈ ws, va_at (g_D G) vcl x H := fun x hx => by
    rw [hws] at hx
    rcases List.mem_cons.mp hx with rfl | hx
    · exact a1
    · rcases List.mem_cons.mp hx with rfl | hx
      · exact a2
      · exact hX.1 x hx
  have hP : va_P (g_D G) vcl ws H := fun i q hi => hin q (List.mem_of_getElem? hi)
  have hD : va_D (g_A G) ws := by
    refine D_nodup ?_ (fun x hx => ?_)
    · rw [hws]
      refine List.nodup_cons.mpr ⟨fun hm => ?_, List.nodup_cons.mpr ⟨fun hm => ?_, hX.2.1⟩⟩
      · rcases List.mem_cons.mp hm with h | h
        · exact a3.2.2.1 h.symm
        · obtain ⟨x, hx, e⟩ := List.mem_map.mp h
          exact (hX.2.2 x hx).2.2.1 e
      · obtain ⟨x, hx, e⟩ := List.mem_map.mp hm
        exact (hX.2.2 x hx).2.2.2.1 e
    · rw [hws] at hx
      rcases List.mem_cons.mp hx with rfl | hx
      · exact a3.1
      · rcases List.mem_cons.mp hx with rfl | hx
        · exact a3.2.1
        · exact (hX.2.2 x hx).1
  have hbs : ∀ q, (e_s E).heap.size ≤ q → g_A G q := fun q hq => Or.inl (Nat.le_trans ok.f.2.2.2.2.2.2.2.2.2.2.2.2.2 hq)
  have hnm := RA_nm (ok.f.1.2 8 _ rfl).2
  refine va_clone ok.x ok.b hl0.1.symm ok.o (ok.w _ lk.1) (ok.w _ lk.2.1) (ok.w _ lk.2.2.1) (ok.w _ lk.2.2.2.1) (ok.w _ lk.2.2.2.2.1) (ok.f.2.2.2.2.2.2.2.2.2.1 _ lk.2.2.2.2.2) ok.f.1 hP hD hSA hbs 1 8 (by rw [hws]; rfl) rfl hnm (fun i v hv => ?_) hframes (by have := sum_cv (g_ad G) st; omega) hcells hslots d (fun q H1 hK1 hP1 hD1 hS1 => ?_)
  · have hsz : i < N := by
      have h := (Array.getElem?_eq_some_iff.mp hv).1
      rw [vp_cell_i, arrV_size] at h
      exact h
    rw [vp_cell_i, arrV_read _ _ hsz] at hv
    have hv := Option.some.inj hv
    rw [← hv]
    exact fitB (hB.2.2.2.2 i (by omega))
  · have hnd := nodup_D hD1
    have hat : ∀ x ∈ ws ++ [(q, .inl (g_cA G 8, N, .inl (fun j => Int32.ofInt (m.1 961 j))))], va_at (g_D G) vcl x H1 := fun x hx => by
      obtain ⟨i, hi⟩ := List.getElem?_of_mem hx
      exact hP1 i x hi
    rw [hws] at hnd hat hD1
    have b1 := hat _ (List.mem_append_left _ List.mem_cons_self)
    have b2 := hat _ (List.mem_append_left _ (List.mem_cons_of_mem _ List.mem_cons_self))
    have b3 := hat _ (List.mem_append_right _ List.mem_cons_self)
    have hq : ∀ x ∈ (g_ad G 960, (.inr (5, sbF m) : va_E)) :: ((m.1 960 2).toNat, .inl (g_cA G 8, N, .inl (fun j => Int32.ofInt (m.1 961 j)))) :: Xs, x.1 ≠ q := fun x hx e => by
      rw [List.map_append] at hnd
      exact (List.nodup_append.mp hnd).2.2 x.1 (List.mem_map.mpr ⟨x, hx, rfl⟩) q (List.mem_map.mpr ⟨_, List.mem_cons_self, rfl⟩) e
    have hqA : g_A G q := by
      obtain ⟨i, hi⟩ := List.getElem?_of_mem (List.mem_append_right ((g_ad G 960, (.inr (5, sbF m) : va_E)) :: ((m.1 960 2).toNat, .inl (g_cA G 8, N, .inl (fun j => Int32.ofInt (m.1 961 j)))) :: Xs) (List.mem_cons_self (a := (q, (.inl (g_cA G 8, N, .inl (fun j => Int32.ofInt (m.1 961 j))) : va_E))) (l := [])))
      exact hD1.2 i _ hi
    have k1 := kk q H1 locs ls (HW.xg (hid_only hS hdm ⟨b1, by rw [hNN]; exact b2, a3, fun h => by rw [h40] at h; exact absurd h (by decide)⟩) ⟨fun x hx => ?_, ?_, fun x hx => ?_⟩) hS1 hl0
    · rw [gx_raw hS] at k1
      exact k1
    · rcases List.mem_cons.mp hx with rfl | hx
      · exact b3
      · exact hat x (List.mem_append_left _ (List.mem_cons_of_mem _ (List.mem_cons_of_mem _ hx)))
    · refine List.nodup_cons.mpr ⟨fun hm => ?_, hX.2.1⟩
      obtain ⟨x, hx, e⟩ := List.mem_map.mp hm
      exact hq x (List.mem_cons_of_mem _ (List.mem_cons_of_mem _ hx)) e
    · rcases List.mem_cons.mp hx with rfl | hx
      · exact ⟨hqA, fun n hn => absurd hn (hdm n), fun e => hq _ List.mem_cons_self e.symm, fun e => hq _ (List.mem_cons_of_mem _ List.mem_cons_self) e.symm, fun h => by rw [h40] at h; exact absurd h (by decide)⟩
      · exact hX.2.2 x hx
theorem gl_castB (ok : OK0 G E own b) (hS : SBW G) {index q N : Nat} {f : Nat → Int} (hq : (q, bA G N f) ∈ Xs) (hlink : Cond.classLink own index "[B" ∈ BIG) (d : decode b pc = .ok (.checkcast index, 3)) (kk : WA (GX G Xs) E k n (pc + 3) L (.ref (RAW + q) :: st) m) : WA (GX G Xs) E k n pc L (.ref (RAW + q) :: st) m := by
  intro H locs ls hW hS9 hl
  have h := kk H locs ls hW hS9 hl
  rw [gx_raw hS] at h ⊢
  exact va_castA ok.x ok.b ok.o (ok.w _ hlink) (one_P (hW.gx.2.1 _ hq)) 0 rfl (RA_nm (ok.f.1.2 8 _ rfl).2) d h
/-- the builder's bytes go into a new row -/
theorem gl_copyX (ok : OK0 G E own b) (hS : SBW G) (hB : SBk m) {index q N : Nat} {f : Nat → Int} (lk : LinkC own index) (hN : (N : Int) ≤ m.1 960 3) (hframes : 1 ≤ (e_R E).frames) (hlocals : (st.map fun v => v.category).sum + 40 ≤ (e_R E).locals) (d : decode b pc = .ok (.invokestatic index, 3))
    (kk : WA (GX G ((q, bA G N (fun j => if j < N then m.1 961 j else f j)) :: Xs)) E k n (pc + 3) L st m) : WA (GX G ((q, bA G N f) :: Xs)) E k n pc L (vI (N : Int) :: vI 0 :: .ref (RAW + q) :: vI 0 :: raw (m.1 960 2) :: st) m := by
  intro H locs ls hW hS9 hl T hT X
  obtain ⟨hW0, hX⟩ := hW.gx
  have hSA : va_S (g_A G) (e_s E).heap H locs := hS9
  have hl0 : lv_has ls (e_c E).maxLocals (L.map (cvp G)) := hl
  obtain ⟨F, hF⟩ : ∃ F : Nat → Int, F = fun j => if j < N then m.1 961 j else f j := ⟨_, rfl⟩
  rw [← hF] at kk
  have hx := sb_ex hS hW0
  have h65 := hB.2.1
  have hqA := (hX.2.2 _ List.mem_cons_self).1
  have cl0 : (Int32.ofInt (0 : Int)).toNatClampNeg = 0 := by decide
  have cl2 : (Int32.ofInt (N : Int)).toNatClampNeg = N := by rw [oi_n]; exact nI_clamp (by omega)
  have ti0 := oi_T (z := (0 : Int)) (by omega)
  have ti2 := oi_T (z := (N : Int)) (by omega)
  have ng : ∀ z : Nat, z < 2147483648 → ¬ Int32.ofInt (z : Int) < 0 := fun z hz => by rw [oi_n]; exact nI_pos hz
  have hc0 : H[(m.1 960 2).toNat]? = some (vp_cell (g_cA G 8) ((m.1 960 3).toNat, .inl (fun j => Int32.ofInt (m.1 961 j)))) := hx.2.1
  have hc1 : H[q]? = some (vp_cell (g_cA G 8) (N, .inl (fun j => Int32.ofInt (f j)))) := hX.1 _ List.mem_cons_self
  have hR := (ok.f.1.2 8 _ rfl).1
  obtain ⟨-, k0, hk0, cm0, hkk0⟩ := hR (m.1 960 3).toNat (fun j => .int ((fun j => Int32.ofInt (m.1 961 j)) j))
  obtain ⟨-, k1, hk1, cm1, hkk1⟩ := hR N (fun j => .int ((fun j => Int32.ofInt (f j)) j))
  have hcc : N ≤ (m.1 960 3).toNat := by omega
  have hn9 : nativeFrameWords "java/lang/System" "arraycopy" 5 + 11 ≤ 40 := by decide
  have hmap : (vI (N : Int) :: vI 0 :: Value.ref (RAW + q) :: vI 0 :: raw (m.1 960 2) :: st).map (cv (g_ad G)) = vI (N : Int) :: vI 0 :: .ref q :: vI 0 :: .ref (m.1 960 2).toNat :: st.map (cv (g_ad G)) := by
    show cv (g_ad G) (vI (N : Int)) :: cv (g_ad G) (vI 0) :: Value.ref (g_ad G (RAW + q)) :: cv (g_ad G) (vI 0) :: cv (g_ad G) (raw (m.1 960 2)) :: st.map (cv (g_ad G)) = _
    rw [hS.raw, hS.1]
    rfl
  show ∃ t, _
  have hgoal : ∀ g9 : JFrame, g9 = F0 (e_m E) pc ls ((vI (N : Int) :: vI 0 :: Value.ref (RAW + q) :: vI 0 :: raw (m.1 960 2) :: st).map (cv (g_ad (GX G ((q, bA G N f) :: Xs))))) → g9 = F0 (e_m E) pc ls (vI (N : Int) :: vI 0 :: .ref q :: vI 0 :: .ref (m.1 960 2).toNat :: st.map (cv (g_ad G))) := fun g9 h => h.trans (congrArg (F0 (e_m E) pc ls) hmap)
  rw [hgoal _ rfl]
  obtain ⟨vm', X', step⟩ := X.arraycopy ok.x ok.o (ok.w _ lk.1) (ok.w _ lk.2.1) (ok.w _ lk.2.2.1) (ok.w _ lk.2.2.2) (src := (m.1 960 2).toNat) (dst := q) (cs := vp_cell (g_cA G 8) ((m.1 960 3).toNat, .inl (fun j => Int32.ofInt (m.1 961 j)))) (cd := vp_cell (g_cA G 8) (N, .inl (fun j => Int32.ofInt (f j)))) (srcPos := Int32.ofInt 0) (destPos := Int32.ofInt 0) (n := Int32.ofInt (N : Int)) (by rw [hT]; exact hc0) (by rw [hT]; exact hc1)
    (fun _ h => by cases h) (fun _ h => by cases h) (fun h => by cases h) (fun h => by cases h) hk0 hk1 hkk0 hkk1 (by simp [refKind]) (ng 0 (by omega)) (ng 0 (by omega)) (ng N (by omega))
    (by rw [ti0, ti2]; show ¬ _ > ((arrV (g_cA G 8) (m.1 960 3).toNat (fun j => .int ((fun j => Int32.ofInt (m.1 961 j)) j))).slots.size : Int); rw [arrV_size]; omega)
    (by rw [ti0, ti2]; show ¬ _ > ((arrV (g_cA G 8) N (fun j => .int ((fun j => Int32.ofInt (f j)) j))).slots.size : Int); rw [arrV_size]; omega)
    (fun vm₁ _ i hi => by
      rw [cl2] at hi
      have e : (vp_cell (g_cA G 8) ((m.1 960 3).toNat, .inl (fun j => Int32.ofInt (m.1 961 j)))).slots.getD ((Int32.ofInt 0).toNatClampNeg + i) .null = .int ((fun j => Int32.ofInt (m.1 961 j)) (0 + i)) := by
        rw [cl0]
        show (arrV (g_cA G 8) (m.1 960 3).toNat (fun j => .int ((fun j => Int32.ofInt (m.1 961 j)) j))).slots.getD _ _ = _
        rw [Array.getD_eq_getD_getElem?, arrV_read _ _ (by omega)]
        rfl
      refine ⟨?_, ?_⟩
      · rw [e]
        have hbb := hB.2.2.2.2 i (by omega)
        show fits .byte (.int (Int32.ofInt (m.1 961 (0 + i)))) = true
        rw [Nat.zero_add]
        exact fitB hbb
      · rw [e]
        exact trivial)
    (g := F0 (e_m E) pc ls (vI (N : Int) :: vI 0 :: .ref q :: vI 0 :: .ref (m.1 960 2).toNat :: st.map (cv (g_ad G)))) rfl (by rw [hl0.1]) (rest := st.map (cv (g_ad G))) rfl (by rw [ok.b]; exact d) hframes (by have := sum_cv (g_ad G) st; show 2 * 0 + _ + _ ≤ _; omega)
  have e1 : copied (vp_cell (g_cA G 8) ((m.1 960 3).toNat, .inl (fun j => Int32.ofInt (m.1 961 j)))) (vp_cell (g_cA G 8) (N, .inl (fun j => Int32.ofInt (f j)))) (Int32.ofInt 0) (Int32.ofInt 0) (Int32.ofInt (N : Int)) = vp_cell (g_cA G 8) (N, .inl (va_cpy (fun j => Int32.ofInt (m.1 961 j)) (fun j => Int32.ofInt (f j)) 0 0 N)) := by
    have h := va_copied (fun z => Value.int z) (g_cA G 8) (g_cA G 8) (n1 := N) (dp := 0) (sp := 0) (fun j => Int32.ofInt (m.1 961 j)) (fun j => Int32.ofInt (f j)) (show 0 + N ≤ (m.1 960 3).toNat by omega)
    unfold copied
    rw [cl0, cl2]
    exact h
  rw [e1] at X' step
  have hlt : q < H.size := (Array.getElem?_eq_some_iff.mp hc1).1
  have hheap : ((T.setVm vm').setCell q (vp_cell (g_cA G 8) (N, .inl (va_cpy (fun j => Int32.ofInt (m.1 961 j)) (fun j => Int32.ofInt (f j)) 0 0 N)))).heap = H.setIfInBounds q (vp_cell (g_cA G 8) (N, .inl (va_cpy (fun j => Int32.ofInt (m.1 961 j)) (fun j => Int32.ofInt (f j)) 0 0 N))) := by rw [← hT]; rfl
  obtain ⟨H1, hH1⟩ : ∃ H1, H1 = H.setIfInBounds q (vp_cell (g_cA G 8) (N, .inl (va_cpy (fun j => Int32.ofInt (m.1 961 j)) (fun j => Int32.ofInt (f j)) 0 0 N))) := ⟨_, rfl⟩
  rw [← hH1] at hheap
  have oq : ∀ x : Nat, x ≠ q → H1[x]? = H[x]? := fun x hq => by rw [hH1]; simp [Array.getElem?_setIfInBounds, Ne.symm hq]
  have hz : H1.size = H.size := by rw [hH1]; simp
  have eat : H1[q]? = some (vp_cell (g_cA G 8) (N, .inl (va_cpy (fun j => Int32.ofInt (m.1 961 j)) (fun j => Int32.ofInt (f j)) 0 0 N))) := by
    rw [hH1, Array.getElem?_setIfInBounds]
    simp only [hlt, if_true]
  obtain ⟨t, a1, b1⟩ := kk H1 _ ls ((HW.other hS hW0 hX oq).xg (hX.set (by
      show H1[q]? = some (vp_cell _ _)
      rw [eat]
      congr 4
      funext j
      rw [hF]
      simp only [va_cpy]
      by_cases hj : j < N
      · rw [if_pos ⟨by omega, by omega⟩, if_pos hj, show 0 + (j - 0) = j by omega]
      · rw [if_neg (by omega), if_neg hj]) oq)) ⟨by rw [hz]; exact hSA.1, fun x g1 g2 => by
      rw [oq x (fun e => g2 (by rw [e]; exact hqA))]
      exact hSA.2.1 x g1 g2, fun x hx => by
      rcases List.mem_append.mp hx with h | h
      · exact hSA.2.2 x h
      · obtain ⟨z, -, hz⟩ := List.mem_map.mp h
        rw [← hz]
        exact hqA⟩ hl0 _ hheap X'
  exact ⟨t, step t a1, b1⟩
end CLN
