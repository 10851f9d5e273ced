/-! THE MODEL: A RUN -/
theorem exO_T {g : Gm} {c a b T : Int} (h : gtOk T g.r) (hT : 0 ≤ T) (hv : c ≠ 103 → c ≠ 120 → c ≠ 116 → c ≠ 100 → 1 ≤ a ∧ a ≤ 1023) : gtOk (T + 13) (exO g c a b).2.r := by
  obtain ⟨b0, b1, hvb, hgb⟩ := id h
  have h13 := h.mono (T' := T + 13) (by omega)
  unfold exO
  split
  · split
    · exact h13
    · split
      · exact h13
      · exact (gtOk_adG h hT (by omega) (by omega)).mono (by omega)
  · split
    · split
      · exact h13
      · exact (gtOk_rmV h (by omega)).mono (by omega)
    · split
      · split
        · exact h13
        · split
          · rename_i ht
            exact (gtOk_stG (h.mono (T' := T + 1) (by omega)) (gOk_tS (hgb a.toNat (by omega)) ht)).mono (by omega)
          · exact h13
      · split
        · split
          · exact h13
          · split
            · exact h13
            · split
              · rename_i d S e
                exact gtOk_stG h13 ((gOk_dRun (by omega) 1 _ 0 T (hgb a.toNat (by omega)) d S e).1.mono (by omega))
              · exact h13
        · split
          · exact h13
          · split
            · exact h13
            · exact (gtOk_adV h (by omega) (b2i_or _) (by omega)).mono (by omega)
def ORd (t : Nat → Int) (n : Int) (O : Nat → Int) (j : Nat) : Prop := O (3 * j) = sgn t n (pS t n j) ∧ O (3 * j + 1) = (rOrd t n (pS t n j)).1 ∧ (sgn t n (pS t n j) = 116 → O (3 * j + 2) = (rOrd t n (pS t n j)).2.1) ∧ okO (rOrd t n (pS t n j)) ∧ (pS t n j : Int) ≤ n
def LI (t : Nat → Int) (n : Int) (m M : Mm) (k : Nat) : Prop := (∀ x, x ≠ 1024 → x ≠ 1536 → M.1 x = m.1 x) ∧ M.2 = m.2 ∧ (∀ j, j ≠ 15 → j ≠ 16 → j ≠ 19 → M.1 1024 j = m.1 1024 j) ∧ ∀ j, j < k → ORd t n (M.1 1536) j
theorem LI.at {t : Nat → Int} {n : Int} {m M : Mm} {k : Nat} {z : Int} (h : LI t n m M k) : LI t n m (upI M 1024 15 z) k := by
  obtain ⟨h1, h0, h2, h3⟩ := h
  exact ⟨fun x a b => by rw [upI_r a]; exact h1 x a b, h0, fun j a b c => by rw [upI_no (by omega)]; exact h2 j a b c, fun j hj => by rw [upI_r (by omega)]; exact h3 j hj⟩
theorem LI.ro {t : Nat → Int} {n : Int} {m M M' : Mm} {p k : Nat} (h : LI t n m M k) (hR : RO M M' t n p k) : LI t n m M' k := by
  obtain ⟨h1, h0, h2, h3⟩ := h
  obtain ⟨r1, r0, r2, r3, -⟩ := hR
  refine ⟨fun x a b => (r1 x a b).trans (h1 x a b), r0.trans h0, fun j a b c => (r2 j a b c).trans (h2 j a b c), fun j hj => ?_⟩
  obtain ⟨a1, a2, a3, a4, a5⟩ := h3 j hj
  exact ⟨by rw [r3 _ (by omega)]; exact a1, by rw [r3 _ (by omega)]; exact a2, fun q => by rw [r3 _ (by omega)]; exact a3 q, a4, a5⟩
theorem LI.y {t : Nat → Int} {n : Int} {m M : Mm} {k : Nat} {g : Gm} (h : LI t n m M k) (hY : YIs m g) : YIs M g := by
  obtain ⟨h1, h0, h2, -⟩ := h
  refine ⟨fun k hk => by rw [h1 1088 (by omega) (by omega)]; exact hY.1 k hk, ?_⟩
  obtain ⟨⟨a1, a2, a3⟩, ⟨b1, b2, b3⟩, ⟨c1, c2, c3⟩, ⟨d1, d2, d3⟩, ⟨e1, e2, e3⟩⟩ := hY.2
  exact ⟨⟨by rw [h2 3 (by omega) (by omega) (by omega)]; exact a1, a2, by rw [h1 1216 (by omega) (by omega)]; exact a3⟩, ⟨by rw [h2 5 (by omega) (by omega) (by omega)]; exact b1, b2, by rw [h1 1280 (by omega) (by omega)]; exact b3⟩, ⟨by rw [h2 7 (by omega) (by omega) (by omega)]; exact c1, by rw [h2 8 (by omega) (by omega) (by omega)]; exact c2, by rw [h2 17 (by omega) (by omega) (by omega)]; exact c3⟩, ⟨by rw [h2 14 (by omega) (by omega) (by omega)]; exact d1, d2, by rw [h1 1472 (by omega) (by omega)]; exact d3⟩, ⟨by rw [h2 12 (by omega) (by omega) (by omega)]; exact e1, e2, by rw [h1 1408 (by omega) (by omega)]; exact e3⟩⟩
theorem LI.f {t : Nat → Int} {n : Int} {m M : Mm} {k : Nat} (h : LI t n m M k) : YFr m M := fun x hx => ⟨h.1 x (by omega) (by omega), by rw [h.2.1]⟩
theorem YIs.rn {M : Mm} {g : Gm} {z e : Int} (h : YIs M g) : YIs (upI (upI (upI M 1024 16 z) 1024 17 e) 1024 14 0) (rnG g e) := by
  refine ⟨fun k hk => by rw [upI_r (by omega), upI_r (by omega), upI_r (by omega)]; exact h.1 k hk, ?_⟩
  obtain ⟨⟨a1, a2, a3⟩, ⟨b1, b2, b3⟩, ⟨c1, c2, c3⟩, ⟨d1, d2, d3⟩, ⟨e1, e2, e3⟩⟩ := h.2
  have w : ∀ j, j ≠ 16 → j ≠ 17 → j ≠ 14 → (upI (upI (upI M 1024 16 z) 1024 17 e) 1024 14 0).1 1024 j = M.1 1024 j := fun j h1 h2 h3 => by rw [upI_no (Or.inr h3), upI_no (Or.inr h2), upI_no (Or.inr h1)]
  have q : ∀ x, x ≠ 1024 → (upI (upI (upI M 1024 16 z) 1024 17 e) 1024 14 0).1 x = M.1 x := fun x hx => by rw [upI_r hx, upI_r hx, upI_r hx]
  exact ⟨⟨by rw [w 3 (by omega) (by omega) (by omega)]; exact a1, a2, by rw [q 1216 (by omega)]; exact a3⟩, ⟨by rw [w 5 (by omega) (by omega) (by omega)]; exact b1, b2, by rw [q 1280 (by omega)]; exact b3⟩, ⟨by rw [w 7 (by omega) (by omega) (by omega)]; exact c1, by rw [w 8 (by omega) (by omega) (by omega)]; exact c2, by rw [upI_no (by omega), upI_at]; rfl⟩, ⟨by rw [upI_at]; rfl, by show (0 : Int) ≤ 0 ∧ (0 : Int) ≤ 60; omega, fun i hi => by have hi : (i : Int) < 0 := hi; omega⟩, ⟨by rw [w 12 (by omega) (by omega) (by omega)]; exact e1, e2, by rw [q 1408 (by omega)]; exact e3⟩⟩
theorem pR_no {t : Nat → Int} {n : Int} {f k : Nat} (h : ¬ okO (rOrd t n (pS t n k))) : pRes t n (f + 1) k = (false, (rOrd t n (pS t n k)).2.2, k) := by
  simp only [pRes]
  rw [if_neg h]
theorem pR_end {t : Nat → Int} {n : Int} {f k : Nat} (h : okO (rOrd t n (pS t n k))) (he : ((rOrd t n (pS t n k)).2.2 : Int) = n) : pRes t n (f + 1) k = (true, (rOrd t n (pS t n k)).2.2, k + 1) := by
  simp only [pRes]
  rw [if_pos h, if_pos he]
theorem pR_bad {t : Nat → Int} {n : Int} {f k : Nat} (h : okO (rOrd t n (pS t n k))) (he : ¬ ((rOrd t n (pS t n k)).2.2 : Int) = n) (hs : ¬ sgn t n (rOrd t n (pS t n k)).2.2 = 59) : pRes t n (f + 1) k = (false, (rOrd t n (pS t n k)).2.2, k + 1) := by
  simp only [pRes]
  rw [if_pos h, if_neg he, if_neg hs]
theorem pR_go {t : Nat → Int} {n : Int} {f k : Nat} (h : okO (rOrd t n (pS t n k))) (he : ¬ ((rOrd t n (pS t n k)).2.2 : Int) = n) (hs : sgn t n (rOrd t n (pS t n k)).2.2 = 59) : pRes t n (f + 1) k = pRes t n f (k + 1) := by
  simp only [pRes]
  rw [if_pos h, if_neg he, if_pos hs]
theorem okO_cc {t : Nat → Int} {n : Int} {p : Nat} (h : okO (rOrd t n p)) : sgn t n p = 43 ∨ sgn t n p = 45 ∨ sgn t n p = 120 ∨ sgn t n p = 103 ∨ sgn t n p = 116 ∨ sgn t n p = 100 := by
  by_cases e : sgn t n p = 43 ∨ sgn t n p = 45 ∨ sgn t n p = 120 ∨ sgn t n p = 103 ∨ sgn t n p = 116 ∨ sgn t n p = 100
  · exact e
  · rw [rOrd_o e] at h
    exact absurd rfl h.1
theorem okO_v {t : Nat → Int} {n : Int} {p : Nat} (hp : (p : Int) ≤ n) (h : okO (rOrd t n p)) (hc : sgn t n p = 43 ∨ sgn t n p = 45) : 1 ≤ (rOrd t n p).1 := by
  have hlt := sgn_lt (t := t) (n := n) (p := p) (by omega)
  rw [rOrd_v hc] at h ⊢
  have hb := badV_rng (t := t) (n := n) (p := p + 1) (by omega)
  have h1 : badV t n (p + 1) ≠ -1 := h.1
  show 1 ≤ badV t n (p + 1)
  omega
theorem exA_0 {t : Nat → Int} {n : Int} {k : Nat} {g : Gm} : exA t n 0 k g = (0, g) := rfl
theorem exA_s {t : Nat → Int} {n : Int} {f k : Nat} {g : Gm} : exA t n (f + 1) k g = if (exO g (sgn t n (pS t n k)) (rOrd t n (pS t n k)).1 (rOrd t n (pS t n k)).2.1).1 = 0 then exA t n f (k + 1) (exO g (sgn t n (pS t n k)) (rOrd t n (pS t n k)).1 (rOrd t n (pS t n k)).2.1).2 else exO g (sgn t n (pS t n k)) (rOrd t n (pS t n k)).1 (rOrd t n (pS t n k)).2.1 := rfl
theorem Kx_0 {z : Int} (h : z = 0 ∨ z = -1 ∨ z = -2) : (Kx z = 0 ↔ z = 0) ∧ 0 ≤ Kx z ∧ Kx z ≤ 2 ∧ (z ≠ 0 → Kx z = if z = -2 then 1 else 2) := by
  rcases h with rfl | rfl | rfl <;> decide
set_option maxHeartbeats 4000000 in
set_option maxRecDepth 100000 in
theorem c_X4_run {G : GG} {l : Launch} (hfl : l.stackTraces = false) (hG : MW G) {m : Mm} {g : Gm} {T : Int} (hY : YIs m g) (hT : gtOk T g.r) (hT0 : 0 ≤ T) (htx : ∀ i : Nat, (i : Int) < g.tn → 0 ≤ g.tx i ∧ g.tx i ≤ 65535)  : CT G l yX4_run cX4_run 2 (some .int) (RM 13 0 0) [.ref 1024] m (fun r' m' => ∃ v9, r' = some (vI v9) ∧ ((sp_run g).1 = 0 → v9 = (sp_run g).2.1) ∧ YIs m' (sp_run g).2.2 ∧ m'.1 1024 6 = (sp_run g).1 ∧ YFr m m') (fun _ _ => False) := by
  refine CT.of RX4 [(0, .ref 1024)] hfl (by decide +kernel) rfl rfl (Nat.le_of_ble_eq_true rfl) ?_
  intro E ok en hml hEl htab
  have hR : e_R E = RM 13 0 0 := en.2.2.2
  have hn0 : 0 < (e_c E).maxLocals := by rw [hml]; decide
  have hn1 : 1 < (e_c E).maxLocals := by rw [hml]; decide
  obtain ⟨t, ht⟩ : ∃ t, t = g.tx := ⟨_, rfl⟩
  obtain ⟨n, hn⟩ : ∃ n, n = g.tn := ⟨_, rfl⟩
  rw [← ht, ← hn] at htx
  have hn60 : 0 ≤ n ∧ n ≤ 60 := by rw [hn]; exact hY.2.2.2.2.1.2.1
  have bad71 : ∀ (M : Mm) (k q : Nat) (v : Int), LI t n m M k → TY M t n q v → (pRes t n 60 0).1 = false → (pRes t n 60 0).2.1 = q → WA G E 0 0 71 [(0, .ref 1024)] [vI 1, .ref 1024] M := by
    intro M k q v hL hTY hp1 hp2
    refine gp_X4_210 ok hG rfl (Or.inr rfl) dX4_run_71 ?_
    refine ga_aload_n ok 0 rfl rfl dX4_run_74 ?_
    refine ga_aload_n ok 0 rfl rfl dX4_run_75 ?_
    refine gf_X4_210 ok hG rfl dX4_run_76 ?_
    first | rw [upI_at] | rw [upI_no (by omega), upI_no (by omega), upI_at]
    refine ga_if_eq ok 89 (by decide) (by omega) dX4_run_79 (fun c_79 => ?_) (fun c_79 => ?_)
    · exact absurd c_79 (by decide)
    · refine ga_aload_n ok 0 rfl rfl dX4_run_82 ?_
      refine gf_X4_213 ok hG rfl dX4_run_83 ?_
      rw [upI_no (by omega), hTY.2.1]
      refine ga_goto ok 90 (by decide) dX4_run_86 ?_
      refine gp_X4_32 ok hG rfl dX4_run_90 ?_
      refine ga_aload_n ok 0 rfl rfl dX4_run_93 ?_
      refine ga_iconst ok dX4_run_94 ?_
      refine gp_X4_207 ok hG rfl dX4_run_95 ?_
      refine ga_aload_n ok 0 rfl rfl dX4_run_98 ?_
      refine gf_X4_210 ok hG rfl dX4_run_99 ?_
      first | rw [upI_at] | rw [upI_no (by omega), upI_no (by omega), upI_at]
      refine ga_if_eq ok 111 (by decide) (by omega) dX4_run_102 (fun c_102 => ?_) (fun c_102 => ?_)
      · exact absurd c_102 (by decide)
      · refine ga_aload_n ok 0 rfl rfl dX4_run_105 ?_
        refine ga_iconst ok dX4_run_106 ?_
        refine gd_X4_1 ok hG rfl lk_X4_65 rfl (c_X4_fails ok.fl hG) (by rw [hR]; exact ⟨by decide, by decide, by decide, by decide⟩) (Nat.le_of_ble_eq_true rfl) dX4_run_107 ?_
        exact ga_ireturn ok en rfl rfl (by decide) (by decide) dX4_run_110 (by
    have hd : sp_run g = (1, 0, rnG g q) := by
      unfold sp_run
      rw [← ht, ← hn, if_pos hp1, hp2]
    rw [hd]
    have hy := (LI.y hL hY).rn (z := 1) (e := (q : Int))
    exact ⟨0, rfl, fun h => absurd (show (1 : Int) = 0 from h) (by decide), ⟨hy.1.u (by omega), hy.2.u (by omega)⟩, thM_at, (((hL.f.uI (by omega)).uI (by omega)).uI (by omega)).uI (by omega)⟩)
  have good71 : ∀ (M : Mm) (cnt q : Nat), LI t n m M cnt → TY M t n q 0 → M.1 1024 19 = (cnt : Int) → cnt ≤ 21 → (pRes t n 60 0).1 = true → (pRes t n 60 0).2.2 = cnt → WA G E 0 0 71 [(0, .ref 1024)] [vI 0, .ref 1024] M := by
    intro M cnt q hL hTY h19 hc21 hp1 hp2
    obtain ⟨O, hOe⟩ : ∃ O, O = M.1 1536 := ⟨_, rfl⟩
    have hOR : ∀ j, j < cnt → ORd t n O j := by rw [hOe]; exact hL.2.2.2
    have loop2 : ∀ (i : Nat) (M : Mm) (h : Gm), (i ≤ cnt ∧ exA t n cnt 0 (rnG g (-1)) = exA t n (cnt - i) i h ∧ YIs M h ∧ M.1 1024 6 = 0 ∧ (∀ z, z < 134 → M.1 1152 z = g.r z) ∧ M.1 1536 = O ∧ M.1 1024 19 = (cnt : Int) ∧ YFr m M ∧ gtOk (T + 13 * i) h.r) → WA G E 0 0 117 [(1, vI (i : Int)), (0, .ref 1024)] [] M := by
      refine wl3 _ (fun i _ _ => cnt - i) _ ?_
      intro i M h hi ih
      obtain ⟨hic, hex, hYh, h6, hrow, hMO, h19, hMF, hTT⟩ := hi
      refine ga_iload_n ok 1 rfl rfl dX4_run_117 ?_
      refine ga_aload_n ok 0 rfl rfl dX4_run_118 ?_
      refine gf_X4_223 ok hG rfl dX4_run_119 ?_
      rw [h19]
      refine ga_icmp_ge ok 170 (by decide) (by omega) (by omega) dX4_run_122 (fun c_122 => ?_) (fun c_122 => ?_)
      · refine ga_aload_n ok 0 rfl rfl dX4_run_170 ?_
        refine ga_aload_n ok 0 rfl rfl dX4_run_171 ?_
        refine gf_X4_223 ok hG rfl dX4_run_172 ?_
        rw [h19]
        refine gc_X4_1 ok hG rfl lk_X4_83 rfl (c_X4_ends ok.fl hG (g := h) (r0 := g.r) (k := 0) hYh.2 h6 (by omega) hrow) (by rw [hR]; exact ⟨by decide, by decide, by decide, by decide⟩) (Nat.le_of_ble_eq_true rfl) dX4_run_175 (fun r9 m3 hq => ?_) (fun _ _ h => h.elim)
        obtain ⟨hr9, e2, e3, e4, e5⟩ := hq
        subst hr9
        simp only [Option.toList_some, List.singleton_append]
        exact ga_ireturn ok en rfl rfl (by decide) (by decide) dX4_run_178 (by
      rw [show cnt - i = 0 by omega, exA_0] at hex
      have hd : sp_run g = (0, (cnt : Int), kpG h g.r) := by
        unfold sp_run
        rw [← ht, ← hn, if_neg (by rw [hp1]; decide), hp2, hex, if_pos rfl]
      rw [hd]
      exact ⟨_, rfl, fun _ => (if_neg (by omega)), e5 rfl hYh.1, e3, hMF.tr e2⟩)
      · have hO := hOR i (by omega)
        have hcs := okO_cc hO.2.2.2.1
        have hrr := rOrd_rng (t := t) (n := n) (p := pS t n i) hO.2.2.2.2
        have hra : 0 ≤ (rOrd t n (pS t n i)).1 ∧ (rOrd t n (pS t n i)).1 ≤ 1023 := ⟨by have := hO.2.2.2.1.1; omega, by omega⟩
        have hrb : 0 ≤ (rOrd t n (pS t n i)).2.1 ∧ (rOrd t n (pS t n i)).2.1 ≤ 1023 := ⟨by have := hO.2.2.2.1.2; omega, by omega⟩
        refine ga_aload_n ok 0 rfl rfl dX4_run_125 ?_
        refine ga_iconst ok dX4_run_126 ?_
        refine gp_X4_51 ok hG rfl (Or.inl rfl) dX4_run_127 ?_
        have hY9 : YIs (upI M 1024 9 0) h := ⟨hYh.1.u (by omega), hYh.2.u (by omega)⟩
        have h69 : (upI M 1024 9 0).1 1024 6 = 0 := by rw [upI_no (by omega)]; exact h6
        refine ga_aload_n ok 0 rfl rfl dX4_run_130 ?_
        refine ga_iload_n ok 1 rfl rfl dX4_run_131 ?_
        refine gc_X4_1 ok hG rfl lk_X4_236 rfl (c_X4_does ok.fl hG (hY9) hTT h69 (k := i) (by omega) (b := (rOrd t n (pS t n i)).2.1) (by rw [upI_r (by omega), hMO]; exact hO.1) (by rw [upI_r (by omega), hMO]; exact hO.2.1) (fun hc => by rw [upI_r (by omega), hMO]; exact hO.2.2.1 hc) hcs hra hrb (fun hc => okO_v hO.2.2.2.2 hO.2.2.2.1 hc)) (by rw [hR]; exact ⟨by decide, by decide, by decide, by decide⟩) (Nat.le_of_ble_eq_true rfl) dX4_run_132 (fun r9 m2 hq => ?_) (fun _ _ h => h.elim)
        obtain ⟨rfl, hD, hF⟩ := hq
        simp only [Option.toList_none, List.nil_append]
        have hout := exO_out (g := h) (c := sgn t n (pS t n i)) (a := (rOrd t n (pS t n i)).1) (b := (rOrd t n (pS t n i)).2.1)
        have hKx := Kx_0 hout
        have hTn := exO_T (c := sgn t n (pS t n i)) (a := (rOrd t n (pS t n i)).1) (b := (rOrd t n (pS t n i)).2.1) hTT (by omega) (fun e1 e2 e3 e4 => ⟨okO_v hO.2.2.2.2 hO.2.2.2.1 (by omega), hra.2⟩)
        rw [show cnt - i = (cnt - i - 1) + 1 by omega, exA_s] at hex
        generalize hq9 : exO h (sgn t n (pS t n i)) (rOrd t n (pS t n i)).1 (rOrd t n (pS t n i)).2.1 = Q at hD hF hout hKx hTn hex
        obtain ⟨q1, q2, q3, q4, q5, q6⟩ := hD
        refine ga_aload_n ok 0 rfl rfl dX4_run_135 ?_
        refine gf_X4_39 ok hG rfl dX4_run_136 ?_
        rw [q4]
        refine ga_if_le ok 164 (by decide) (by omega) dX4_run_139 (fun c_139 => ?_) (fun c_139 => ?_)
        · have hz9 : Q.1 = 0 := hKx.1.mp (by omega)
          refine ga_iinc ok rfl hn1 dX4_run_164 ?_
          refine ga_goto ok 117 (by decide) dX4_run_167 ?_
          refine WA.re (by exact ⟨rfl, rfl, trivial⟩) (ih (i + 1) m2 Q.2 ⟨by omega, ?_, ?_, ?_, ?_, ?_, ?_, ?_, ?_⟩ (by omega))
          · rw [if_pos hz9, show cnt - i - 1 = cnt - (i + 1) by omega] at hex; exact hex
          · exact ⟨q6 (by omega), q5⟩
          · omega
          · intro z hz; rw [q1, upI_r (by omega)]; exact hrow z hz
          · rw [q2.1, upI_r (by omega)]; exact hMO
          · rw [q2.2 19 (by omega), upI_no (by omega)]; exact h19
          · exact (hMF.uI (by omega)).tr q3
          · exact hTn.mono (by omega)
        · have hz9 : Q.1 ≠ 0 := fun e => by have := hKx.1.mpr e; omega
          have hkv := hKx.2.2.2 hz9
          have h9 : (Kx Q.1 = 1 ∧ m2.1 1024 9 = 0) ∨ (Kx Q.1 = 2 ∧ m2.1 1024 9 = 1) := by
            rcases (show Kx Q.1 = 1 ∨ Kx Q.1 = 2 by omega) with e | e
            · exact Or.inl ⟨e, (hF.1 e).trans upI_at⟩
            · exact Or.inr ⟨e, hF.2 e⟩
          refine ga_aload_n ok 0 rfl rfl dX4_run_142 ?_
          refine ga_aload_n ok 0 rfl rfl dX4_run_143 ?_
          refine gf_X4_51 ok hG rfl dX4_run_144 ?_
          skip
          refine ga_if_eq ok 154 (by decide) (by omega) dX4_run_147 (fun c_147 => ?_) (fun c_147 => ?_)
          · refine ga_iconst ok dX4_run_154 ?_
            refine gp_X4_39 ok hG rfl dX4_run_155 ?_
            have hkE : (upI m2 1024 6 1).1 1024 6 = Kx Q.1 := by rw [upI_at]; omega
            have hyE : YI0 (upI m2 1024 6 1) Q.2 := q5.u (by omega)
            refine ga_aload_n ok 0 rfl rfl dX4_run_158 ?_
            refine ga_iconst ok dX4_run_159 ?_
            refine gc_X4_1 ok hG rfl lk_X4_83 rfl (c_X4_ends ok.fl hG (g := Q.2) (r0 := g.r) (k := Kx Q.1) hyE hkE (by omega) (fun z hz => by rw [upI_r (by omega), q1, upI_r (by omega)]; exact hrow z hz)) (by rw [hR]; exact ⟨by decide, by decide, by decide, by decide⟩) (Nat.le_of_ble_eq_true rfl) dX4_run_160 (fun r9 m3 hq => ?_) (fun _ _ h => h.elim)
            obtain ⟨hr9, e2, e3, e4, e5⟩ := hq
            subst hr9
            simp only [Option.toList_some, List.singleton_append]
            exact ga_ireturn ok en rfl rfl (by decide) (by decide) dX4_run_163 (by
      have hd : sp_run g = (Kx Q.1, 0, nwG Q.2 g.r) := by
        unfold sp_run
        rw [← ht, ← hn, if_neg (by rw [hp1]; decide), hp2, hex, if_neg hz9, if_neg hz9, hkv]
      rw [hd]
      refine ⟨_, rfl, fun e => absurd (show Kx Q.1 = 0 from e) (by omega), e4 (by omega), e3, ?_⟩
      exact ((hMF.uI (by omega)).tr q3).tr ((YFr.rf.uI (by omega)).tr e2))
          · refine ga_iconst ok dX4_run_150 ?_
            refine ga_goto ok 155 (by decide) dX4_run_151 ?_
            refine gp_X4_39 ok hG rfl dX4_run_155 ?_
            have hkE : (upI m2 1024 6 2).1 1024 6 = Kx Q.1 := by rw [upI_at]; omega
            have hyE : YI0 (upI m2 1024 6 2) Q.2 := q5.u (by omega)
            refine ga_aload_n ok 0 rfl rfl dX4_run_158 ?_
            refine ga_iconst ok dX4_run_159 ?_
            refine gc_X4_1 ok hG rfl lk_X4_83 rfl (c_X4_ends ok.fl hG (g := Q.2) (r0 := g.r) (k := Kx Q.1) hyE hkE (by omega) (fun z hz => by rw [upI_r (by omega), q1, upI_r (by omega)]; exact hrow z hz)) (by rw [hR]; exact ⟨by decide, by decide, by decide, by decide⟩) (Nat.le_of_ble_eq_true rfl) dX4_run_160 (fun r9 m3 hq => ?_) (fun _ _ h => h.elim)
            obtain ⟨hr9, e2, e3, e4, e5⟩ := hq
            subst hr9
            simp only [Option.toList_some, List.singleton_append]
            exact ga_ireturn ok en rfl rfl (by decide) (by decide) dX4_run_163 (by
      have hd : sp_run g = (Kx Q.1, 0, nwG Q.2 g.r) := by
        unfold sp_run
        rw [← ht, ← hn, if_neg (by rw [hp1]; decide), hp2, hex, if_neg hz9, if_neg hz9, hkv]
      rw [hd]
      refine ⟨_, rfl, fun e => absurd (show Kx Q.1 = 0 from e) (by omega), e4 (by omega), e3, ?_⟩
      exact ((hMF.uI (by omega)).tr q3).tr ((YFr.rf.uI (by omega)).tr e2))
    rw [hOe] at loop2
    refine gp_X4_210 ok hG rfl (Or.inl rfl) dX4_run_71 ?_
    refine ga_aload_n ok 0 rfl rfl dX4_run_74 ?_
    refine ga_aload_n ok 0 rfl rfl dX4_run_75 ?_
    refine gf_X4_210 ok hG rfl dX4_run_76 ?_
    first | rw [upI_at] | rw [upI_no (by omega), upI_no (by omega), upI_at]
    refine ga_if_eq ok 89 (by decide) (by omega) dX4_run_79 (fun c_79 => ?_) (fun c_79 => ?_)
    · refine ga_iconst ok dX4_run_89 ?_
      refine gp_X4_32 ok hG rfl dX4_run_90 ?_
      refine ga_aload_n ok 0 rfl rfl dX4_run_93 ?_
      refine ga_iconst ok dX4_run_94 ?_
      refine gp_X4_207 ok hG rfl dX4_run_95 ?_
      refine ga_aload_n ok 0 rfl rfl dX4_run_98 ?_
      refine gf_X4_210 ok hG rfl dX4_run_99 ?_
      first | rw [upI_at] | rw [upI_no (by omega), upI_no (by omega), upI_at]
      refine ga_if_eq ok 111 (by decide) (by omega) dX4_run_102 (fun c_102 => ?_) (fun c_102 => ?_)
      · refine ga_aload_n ok 0 rfl rfl dX4_run_111 ?_
        have hy := (LI.y hL hY).rn (z := 0) (e := -1)
        obtain ⟨y1, y2, y3, y4⟩ := keepY hy
        refine gv_X4_0 ok hG rfl lk_X4_77 rfl (c_X4_keep ok.fl hG) (by rw [hR]; exact ⟨by decide, by decide, by decide, by decide⟩) (Nat.le_of_ble_eq_true rfl) dX4_run_112 ?_
        refine ga_iconst ok dX4_run_115 ?_
        refine ga_istore_n ok 1 rfl hn1 dX4_run_116 ?_
        exact WA.re (by exact ⟨rfl, rfl, trivial⟩) (loop2 0 _ (rnG g (-1)) ⟨by omega, rfl, y1, y2, y3, by rw [cpI_r (by omega)]; unfold thM; rw [upI_r (by omega), upI_r (by omega), upI_r (by omega), upI_r (by omega)], by rw [cpI_r (by omega)]; unfold thM; rw [upI_no (by omega), upI_no (by omega), upI_no (by omega), upI_no (by omega)]; exact h19, (((hL.f.uI (by omega)).uI (by omega)).uI (by omega)).tr y4, hT.mono (by omega)⟩)
      · exact absurd rfl c_102
    · exact absurd rfl c_79
  have loop : ∀ (k : Nat) (M : Mm), (LI t n m M k ∧ (if okO (rOrd t n (pS t n k)) then TY M t n (rOrd t n (pS t n k)).2.2 0 ∧ M.1 1024 19 = ((k + 1 : Nat) : Int) ∧ M.1 1536 (3 * k) = sgn t n (pS t n k) ∧ M.1 1536 (3 * k + 1) = (rOrd t n (pS t n k)).1 ∧ (sgn t n (pS t n k) = 116 → M.1 1536 (3 * k + 2) = (rOrd t n (pS t n k)).2.1) else TY M t n (rOrd t n (pS t n k)).2.2 1) ∧ pRes t n 60 0 = pRes t n (60 - k) k ∧ 3 * k ≤ pS t n k ∧ (pS t n k : Int) ≤ n) → WA G E 0 0 19 [(0, .ref 1024)] [] M := by
    refine wl2 _ (fun k _ => 60 - k) _ ?_
    intro k M hi ih
    obtain ⟨hL, hlast, hpr, h3k, hpn⟩ := hi
    by_cases ho : okO (rOrd t n (pS t n k))
    · rw [if_pos ho] at hlast
      obtain ⟨hTY, hl19, hl0, hl1, hl2⟩ := hlast
      refine ga_aload_n ok 0 rfl rfl dX4_run_19 ?_
      refine ga_bipush ok dX4_run_20 (by decide) ?_
      refine ga_bipush ok dX4_run_22 (by decide) ?_
      refine gd_X4_2 ok hG rfl lk_X4_215 rfl (c_X4_isHere ok.fl hG hTY (lo := 59) (hi := 59) (by omega) (by omega)) (by rw [hR]; exact ⟨by decide, by decide, by decide, by decide⟩) (Nat.le_of_ble_eq_true rfl) dX4_run_24 ?_
      refine ga_if_eq ok 47 (by decide) (b2i_rng _) dX4_run_27 (fun c_27 => ?_) (fun c_27 => ?_)
      · have f_27 := b2i_0.mp c_27
        refine ga_aload_n ok 0 rfl rfl dX4_run_47 ?_
        refine ga_aload_n ok 0 rfl rfl dX4_run_48 ?_
        refine gf_X4_210 ok hG rfl dX4_run_49 ?_
        rw [hTY.2.2.1]
        refine ga_if_ne ok 66 (by decide) (by omega) dX4_run_52 (fun c_52 => ?_) (fun c_52 => ?_)
        · exact absurd rfl c_52
        · refine ga_aload_n ok 0 rfl rfl dX4_run_55 ?_
          refine gf_X4_213 ok hG rfl dX4_run_56 ?_
          first | rw [hTY.2.1] | rw [upI_no (by omega), hTY.2.1]
          refine ga_aload_n ok 0 rfl rfl dX4_run_59 ?_
          refine gf_X4_207 ok hG rfl dX4_run_60 ?_
          rw [hTY.1]
          refine ga_icmp_ge ok 70 (by decide) (by have := hTY.2.2.2.2.2.1; omega) (by have := hTY.2.2.2.2.2.1; omega) dX4_run_63 (fun c_63 => ?_) (fun c_63 => ?_)
          · refine ga_iconst ok dX4_run_70 ?_
            have hb := hre_no.mp f_27
            have hqn : ((rOrd t n (pS t n k)).2.2 : Int) = n := by have := hTY.2.2.2.2.2.1; omega
            have hpe := pR_end (f := 59 - k) ho hqn
            rw [show 59 - k + 1 = 60 - k by omega, ← hpr] at hpe
            have hL2 : LI t n m M (k + 1) := ⟨hL.1, hL.2.1, hL.2.2.1, fun j hj => by
              by_cases e : j = k
              · subst e; exact ⟨hl0, hl1, hl2, ho, hpn⟩
              · exact hL.2.2.2 j (by omega)⟩
            exact WA.re (by exact ⟨rfl, trivial⟩) (good71 M (k + 1) _ hL2 hTY hl19 (by omega) (by rw [hpe]) (by rw [hpe]))
          · refine ga_iconst ok dX4_run_66 ?_
            refine ga_goto ok 71 (by decide) dX4_run_67 ?_
            have hb := hre_no.mp f_27
            have hpe := pR_bad (f := 59 - k) ho (by omega) (fun e => hb ⟨rfl, by omega, by omega⟩)
            rw [show 59 - k + 1 = 60 - k by omega, ← hpr] at hpe
            exact WA.re (by exact ⟨rfl, trivial⟩) (bad71 M k _ 0 hL hTY (by rw [hpe]) (by rw [hpe]))
      · have f_27 := b2i_n0.mp c_27
        have hb := hre_iff.mp f_27
        have hlt := hre_lt f_27 (by omega)
        have hpS : pS t n (k + 1) = (rOrd t n (pS t n k)).2.2 + 1 := rfl
        have h2p := (rOrd_pos (t := t) hpn).2 ho
        have hL2 : LI t n m M (k + 1) := ⟨hL.1, hL.2.1, hL.2.2.1, fun j hj => by
          by_cases e : j = k
          · subst e; exact ⟨hl0, hl1, hl2, ho, hpn⟩
          · exact hL.2.2.2 j (by omega)⟩
        have hTY2 : TY (upI M 1024 15 (((rOrd t n (pS t n k)).2.2 : Int) + 1)) t n (pS t n (k + 1)) 0 := by
          rw [← tyM_id (m := M) hTY.2.1 hTY.2.2.1, show (((rOrd t n (pS t n k)).2.2 : Int) + 1) = (((rOrd t n (pS t n k)).2.2 + 1 : Nat) : Int) by omega, up15]
          exact hTY.to (by omega) (Or.inl rfl)
        refine ga_aload_n ok 0 rfl rfl dX4_run_30 ?_
        refine ga_dup ok dX4_run_31 rfl ?_
        refine gf_X4_213 ok hG rfl dX4_run_32 ?_
        first | rw [hTY.2.1] | rw [upI_no (by omega), hTY.2.1]
        refine ga_iconst ok dX4_run_35 ?_
        refine ga_iadd ok dX4_run_36 ?_
        refine gp_X4_213 ok hG rfl dX4_run_37 ?_
        refine ga_aload_n ok 0 rfl rfl dX4_run_40 ?_
        refine gc_X4_0 ok hG rfl lk_X4_233 rfl (c_X4_readOrder ok.fl hG hTY2 (k := k + 1) (by rw [upI_no (by omega)]; exact hl19) (by omega)) (by rw [hR]; exact ⟨by decide, by decide, by decide, by decide⟩) (Nat.le_of_ble_eq_true rfl) dX4_run_41 (fun r9 m1 hq => ?_) (fun _ _ h => h.elim)
        obtain ⟨rfl, hRO⟩ := hq
        simp only [Option.toList_none, List.nil_append]
        refine ga_goto ok 19 (by decide) dX4_run_44 ?_
        refine WA.re (by exact ⟨rfl, trivial⟩) (ih (k + 1) m1 ⟨hL2.at.ro hRO, ?_, ?_, by omega, by omega⟩ (by omega))
        · exact hRO.2.2.2.2
        · have hpe := pR_go (f := 59 - k) ho (by omega) (by omega)
          rw [show 59 - k + 1 = 60 - k by omega, ← hpr] at hpe
          rw [hpe, show 59 - k = 60 - (k + 1) by omega]
    · rw [if_neg ho] at hlast
      have hTY := hlast
      refine ga_aload_n ok 0 rfl rfl dX4_run_19 ?_
      refine ga_bipush ok dX4_run_20 (by decide) ?_
      refine ga_bipush ok dX4_run_22 (by decide) ?_
      refine gd_X4_2 ok hG rfl lk_X4_215 rfl (c_X4_isHere ok.fl hG hTY (lo := 59) (hi := 59) (by omega) (by omega)) (by rw [hR]; exact ⟨by decide, by decide, by decide, by decide⟩) (Nat.le_of_ble_eq_true rfl) dX4_run_24 ?_
      refine ga_if_eq ok 47 (by decide) (b2i_rng _) dX4_run_27 (fun c_27 => ?_) (fun c_27 => ?_)
      · have f_27 := b2i_0.mp c_27
        refine ga_aload_n ok 0 rfl rfl dX4_run_47 ?_
        refine ga_aload_n ok 0 rfl rfl dX4_run_48 ?_
        refine gf_X4_210 ok hG rfl dX4_run_49 ?_
        rw [hTY.2.2.1]
        refine ga_if_ne ok 66 (by decide) (by omega) dX4_run_52 (fun c_52 => ?_) (fun c_52 => ?_)
        · refine ga_iconst ok dX4_run_66 ?_
          refine ga_goto ok 71 (by decide) dX4_run_67 ?_
          have hpe := pR_no (f := 59 - k) ho
          rw [show 59 - k + 1 = 60 - k by omega, ← hpr] at hpe
          exact WA.re (by exact ⟨rfl, trivial⟩) (bad71 M k _ 1 hL hTY (by rw [hpe]) (by rw [hpe]))
        · exact absurd c_52 (by decide)
      · have f_27 := b2i_n0.mp c_27
        exact absurd (hre_iff.mp f_27).1 (by decide)
  refine ga_aload_n ok 0 rfl rfl dX4_run_0 ?_
  refine ga_iconst ok dX4_run_1 ?_
  refine gp_X4_213 ok hG rfl dX4_run_2 ?_
  refine ga_aload_n ok 0 rfl rfl dX4_run_5 ?_
  refine ga_iconst ok dX4_run_6 ?_
  refine gp_X4_210 ok hG rfl (Or.inl rfl) dX4_run_7 ?_
  refine ga_aload_n ok 0 rfl rfl dX4_run_10 ?_
  refine ga_iconst ok dX4_run_11 ?_
  refine gp_X4_223 ok hG rfl dX4_run_12 ?_
  have hTY0 : TY (upI (upI (upI m 1024 15 0) 1024 16 0) 1024 19 0) t n 0 0 := by
    obtain ⟨a1, a2, a3⟩ := hY.2.2.2.2.1
    exact ⟨by rw [upI_no (by omega), upI_no (by omega), upI_no (by omega), hn]; exact a1, by rw [upI_no (by omega), upI_no (by omega), upI_at]; rfl, by rw [upI_no (by omega), upI_at], Or.inl rfl, hn60, by show (0 : Int) ≤ n; omega, fun i hi => by rw [upI_r (by omega), upI_r (by omega), upI_r (by omega), ht]; exact ⟨a3 i (by rw [← hn]; exact hi), by rw [← ht]; exact htx i hi⟩⟩
  have hL0 : LI t n m (upI (upI (upI m 1024 15 0) 1024 16 0) 1024 19 0) 0 := ⟨fun x a b => by rw [upI_r a, upI_r a, upI_r a], rfl, fun j a b c => by rw [upI_no (by omega), upI_no (by omega), upI_no (by omega)], fun j hj => absurd hj (Nat.not_lt_zero j)⟩
  refine ga_aload_n ok 0 rfl rfl dX4_run_15 ?_
  refine gc_X4_0 ok hG rfl lk_X4_233 rfl (c_X4_readOrder ok.fl hG hTY0 (k := 0) (by rw [upI_at]; rfl) (by omega)) (by rw [hR]; exact ⟨by decide, by decide, by decide, by decide⟩) (Nat.le_of_ble_eq_true rfl) dX4_run_16 (fun r9 m1 hq => ?_) (fun _ _ h => h.elim)
  obtain ⟨rfl, hRO⟩ := hq
  simp only [Option.toList_none, List.nil_append]
  exact WA.re (by exact ⟨rfl, trivial⟩) (loop 0 m1 ⟨hL0.ro hRO, hRO.2.2.2.2, rfl, by show 3 * 0 ≤ 0; omega, by show (0 : Int) ≤ n; omega⟩)
