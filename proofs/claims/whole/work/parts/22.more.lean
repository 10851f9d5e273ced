/-! THE MODEL: MORE ANSWERS -/
theorem sn_of {z : Int} (h : FP.Core.val32 (fbits z) ≠ .nan) : vn_sni2f (Int32.ofInt z) = false := by
  have h1 := n32_of h
  unfold vf_n32 fbits at h1
  unfold vn_sni2f
  rw [show decide ((Int32.ofInt z).toUInt32 &&& 0x7fffffff > 0x7f800000) = false from decide_eq_false (UInt32.not_lt.mpr h1)]
  rfl
/-- the last of n where f is p, or 0 -/
def lfd (f : Nat → Int) (p : Int) : Nat → Int
  | 0 => 0
  | n + 1 => if f n = p then n else lfd f p n
theorem ask_rng {r : Nat → Int} {g : Int} {b : Bool} : 0 ≤ ask r g b ∧ ask r g b ≤ 2 := by
  unfold ask
  split
  · split <;> omega
  · omega
set_option maxHeartbeats 4000000 in
set_option maxRecDepth 100000 in
theorem c_X4_mean {G : GG} {l : Launch} (hfl : l.stackTraces = false) (hG : MW G) {m : Mm} {r : Nat → Int} {T : Int} (hs : SR m r) (hT : gtOk T r) (hTT : T ≤ 1000000000) {g : Int} (hgR : -2147483648 ≤ g ∧ g ≤ 2147483647) {b : Int} (hbR : -2147483648 ≤ b ∧ b ≤ 2147483647) : CT G l yX4_mean cX4_mean 3 (some .float) (RM 8 0 0) [.ref 1024, vI g, vI b] m (fun r' m' => ∃ v9, r' = some (.float v9) ∧ ((if ask r g (decide (0 ≤ b ∧ b ≤ 9)) = 0 then (if rg r g.toNat 2 = 0 then (3 : Int) else 0) else ask r g (decide (0 ≤ b ∧ b ≤ 9))) = 0 → v9 = FP.fdiv (fbits (rg r g.toNat (17 + b.toNat))) (FP.i2f (Int32.ofInt (rg r g.toNat 2)))) ∧ m' = thM m ((if ask r g (decide (0 ≤ b ∧ b ≤ 9)) = 0 then (if rg r g.toNat 2 = 0 then (3 : Int) else 0) else ask r g (decide (0 ≤ b ∧ b ≤ 9))))) (fun _ _ => False) := by
  refine CT.of RX4 [(0, .ref 1024), (1, vI g), (2, vI b)] hfl (by decide +kernel) rfl rfl (Nat.le_of_ble_eq_true rfl) ?_
  intro E ok en hml hEl htab
  have hR : e_R E = RM 8 0 0 := en.2.2.2
  have hn0 : 0 < (e_c E).maxLocals := by rw [hml]; decide
  have hn1 : 1 < (e_c E).maxLocals := by rw [hml]; decide
  have hn2 : 2 < (e_c E).maxLocals := by rw [hml]; decide
  obtain ⟨b0, b1, hvb, hgb⟩ := id hT
  have s0 := hs 0 (by omega)
  have s1 := hs 1 (by omega)
  refine ga_aload_n ok 0 rfl rfl dX4_mean_0 ?_
  refine ga_iload_n ok 1 rfl rfl dX4_mean_1 ?_
  refine ga_iload_n ok 2 rfl rfl dX4_mean_2 ?_
  refine ga_iconst ok dX4_mean_3 ?_
  refine ga_bipush ok dX4_mean_4 (by decide) ?_
  refine gd_S_3 ok lk_X4_61 (c_X4_in ok.fl hG (a := 0) (b := 9) hbR (by omega) (by omega)) (by rw [hR]; exact ⟨by decide, by decide, by decide, by decide⟩) (Nat.le_of_ble_eq_true rfl) dX4_mean_6 ?_
  refine gd_X4_2 ok hG rfl lk_X4_146 rfl (c_X4_isAsked ok.fl hG hs hT hgR (b := (decide (0 ≤ b ∧ b ≤ 9)))) (by rw [hR]; exact ⟨by decide, by decide, by decide, by decide⟩) (Nat.le_of_ble_eq_true rfl) dX4_mean_9 ?_
  refine ga_if_eq ok 28 (by decide) (b2i_rng _) dX4_mean_12 (fun c_12 => ?_) (fun c_12 => ?_)
  · have hz9 : ask r g (decide (0 ≤ b ∧ b ≤ 9)) ≠ 0 := of_decide_eq_false (b2i_0.mp c_12)
    have hr9 := ask_rng (r := r) (g := g) (b := (decide (0 ≤ b ∧ b ≤ 9)))
    refine ga_aload_n ok 0 rfl rfl dX4_mean_28 ?_
    refine ga_aload_n ok 0 rfl rfl dX4_mean_29 ?_
    refine gf_X4_39 ok hG rfl dX4_mean_30 ?_
    rw [thM_at]
    refine ga_if_le ok 43 (by decide) (by have := ask_rng (r := r) (g := g) (b := (decide (0 ≤ b ∧ b ≤ 9))); omega) dX4_mean_33 (fun c_33 => ?_) (fun c_33 => ?_)
    · exact absurd c_33 (by omega)
    · refine ga_aload_n ok 0 rfl rfl dX4_mean_36 ?_
      refine gf_X4_39 ok hG rfl dX4_mean_37 ?_
      rw [thM_at]
      refine ga_goto ok 44 (by decide) dX4_mean_40 ?_
      refine gp_X4_39 ok hG rfl dX4_mean_44 ?_
      refine ga_fconst0 ok dX4_mean_47 ?_
      exact ga_freturn ok en rfl (by decide) (by decide) dX4_mean_48 (by
  have hk : (if ask r g (decide (0 ≤ b ∧ b ≤ 9)) = 0 then (if rg r g.toNat 2 = 0 then (3 : Int) else 0) else ask r g (decide (0 ≤ b ∧ b ≤ 9))) = ask r g (decide (0 ≤ b ∧ b ≤ 9)) := if_neg hz9
  rw [hk]
  exact ⟨_, rfl, fun h => absurd h hz9, thM_thM⟩)
  · have hz9 := of_decide_eq_true (b2i_n0.mp c_12)
    have ha9 := ask_0.mp hz9
    have qg : 0 ≤ g ∧ g < r 0 := of_decide_eq_true ha9.1
    have qb : 0 ≤ b ∧ b ≤ 9 := of_decide_eq_true ha9.2
    have hn9 := (hgb g.toNat (by omega)).2.2.2.2 b.toNat (by omega)
    have hd9 := (hgb g.toNat (by omega)).2.2.1 2 (by omega) (by omega)
    refine ga_aload_n ok 0 rfl rfl dX4_mean_15 ?_
    refine gf_X4_9 ok hG rfl dX4_mean_16 ?_
    refine ga_iload_n ok 1 rfl rfl dX4_mean_19 ?_
    refine ga_iconst ok dX4_mean_20 ?_
    refine gd_S_2 ok lk_X4_73 (c_X4_at ok.fl hG (g := g) (k := 2) (by omega) (by omega)) (by rw [hR]; exact ⟨by decide, by decide, by decide, by decide⟩) (Nat.le_of_ble_eq_true rfl) dX4_mean_21 ?_
    refine ga_iaload_ia ok (ar_ms hG rfl) (by omega) dX4_mean_24 ?_
    rw [show (26 + 27 * g + 2).toNat = 26 + 27 * g.toNat + 2 by omega, (hs.t (k := ask r g (decide (0 ≤ b ∧ b ≤ 9)))).g (by omega) (by omega)]
    refine ga_if_ne ok 49 (by decide) (by omega) dX4_mean_25 (fun c_25 => ?_) (fun c_25 => ?_)
    · refine ga_aload_n ok 0 rfl rfl dX4_mean_49 ?_
      refine gf_X4_9 ok hG rfl dX4_mean_50 ?_
      refine ga_iload_n ok 1 rfl rfl dX4_mean_53 ?_
      refine ga_bipush ok dX4_mean_54 (by decide) ?_
      refine ga_iload_n ok 2 rfl rfl dX4_mean_56 ?_
      refine ga_iadd ok dX4_mean_57 ?_
      refine gd_S_2 ok lk_X4_73 (c_X4_at ok.fl hG (g := g) (k := 17 + b) (by omega) (by omega)) (by rw [hR]; exact ⟨by decide, by decide, by decide, by decide⟩) (Nat.le_of_ble_eq_true rfl) dX4_mean_58 ?_
      refine ga_iaload_ia ok (ar_ms hG rfl) (by omega) dX4_mean_61 ?_
      rw [show (26 + 27 * g + (17 + b)).toNat = 26 + 27 * g.toNat + (17 + b.toNat) by omega, (hs.t (k := ask r g (decide (0 ≤ b ∧ b ≤ 9)))).g (by omega) (by omega)]
      refine ga_bitsToFloat ok lf_X4_156 (sn_of hn9.1) (by rw [hR]; exact (by decide)) (by rw [hR]; exact Nat.le_of_ble_eq_true rfl) dX4_mean_62 ?_
      refine ga_aload_n ok 0 rfl rfl dX4_mean_65 ?_
      refine gf_X4_9 ok hG rfl dX4_mean_66 ?_
      refine ga_iload_n ok 1 rfl rfl dX4_mean_69 ?_
      refine ga_iconst ok dX4_mean_70 ?_
      refine gd_S_2 ok lk_X4_73 (c_X4_at ok.fl hG (g := g) (k := 2) (by omega) (by omega)) (by rw [hR]; exact ⟨by decide, by decide, by decide, by decide⟩) (Nat.le_of_ble_eq_true rfl) dX4_mean_71 ?_
      refine ga_iaload_ia ok (ar_ms hG rfl) (by omega) dX4_mean_74 ?_
      rw [show (26 + 27 * g + 2).toNat = 26 + 27 * g.toNat + 2 by omega, (hs.t (k := ask r g (decide (0 ≤ b ∧ b ≤ 9)))).g (by omega) (by omega)]
      refine ga_i2f ok dX4_mean_75 ?_
      refine ga_fdiv ok dX4_mean_76 (n32_div hn9.1 (by omega)) ?_
      exact ga_freturn ok en rfl (by decide) (by decide) dX4_mean_77 (by
  have hk : (if ask r g (decide (0 ≤ b ∧ b ≤ 9)) = 0 then (if rg r g.toNat 2 = 0 then (3 : Int) else 0) else ask r g (decide (0 ≤ b ∧ b ≤ 9))) = 0 := by rw [if_pos hz9]; exact if_neg (by first | exact c_25 | omega)
  rw [hk]
  exact ⟨_, rfl, fun _ => rfl, by rw [hz9]⟩)
    · refine ga_aload_n ok 0 rfl rfl dX4_mean_28 ?_
      refine ga_aload_n ok 0 rfl rfl dX4_mean_29 ?_
      refine gf_X4_39 ok hG rfl dX4_mean_30 ?_
      rw [thM_at]
      refine ga_if_le ok 43 (by decide) (by have := ask_rng (r := r) (g := g) (b := (decide (0 ≤ b ∧ b ≤ 9))); omega) dX4_mean_33 (fun c_33 => ?_) (fun c_33 => ?_)
      · refine ga_iconst ok dX4_mean_43 ?_
        refine gp_X4_39 ok hG rfl dX4_mean_44 ?_
        refine ga_fconst0 ok dX4_mean_47 ?_
        exact ga_freturn ok en rfl (by decide) (by decide) dX4_mean_48 (by
  have hk : (if ask r g (decide (0 ≤ b ∧ b ≤ 9)) = 0 then (if rg r g.toNat 2 = 0 then (3 : Int) else 0) else ask r g (decide (0 ≤ b ∧ b ≤ 9))) = 3 := by rw [if_pos hz9]; exact if_pos (by first | exact c_25 | omega)
  rw [hk]
  exact ⟨_, rfl, fun h => absurd h (by decide), thM_thM⟩)
      · exact absurd c_33 (by omega)
set_option maxHeartbeats 4000000 in
set_option maxRecDepth 100000 in
theorem c_X4_knowsOf {G : GG} {l : Launch} (hfl : l.stackTraces = false) (hG : MW G) {m : Mm} {r : Nat → Int} {T : Int} (hs : SR m r) (hT : gtOk T r) {g : Int} (qg : 0 ≤ g ∧ g < r 0) {v : Int} (qv : 0 ≤ v ∧ v < r 1) : CT G l yX4_knowsOf cX4_knowsOf 4 (some .float) (RM 5 0 0) [.ref 1024, vI g, vI v] m (fun r' m' => r' = some (.float (fq (kno r g.toNat v.toNat))) ∧ m' = m) (fun _ _ => False) := by
  refine CT.of RX4 [(0, .ref 1024), (1, vI g), (2, vI v)] hfl (by decide +kernel) rfl rfl (Nat.le_of_ble_eq_true rfl) ?_
  intro E ok en hml hEl htab
  have hR : e_R E = RM 5 0 0 := en.2.2.2
  have hn0 : 0 < (e_c E).maxLocals := by rw [hml]; decide
  have hn1 : 1 < (e_c E).maxLocals := by rw [hml]; decide
  have hn2 : 2 < (e_c E).maxLocals := by rw [hml]; decide
  have hn3 : 3 < (e_c E).maxLocals := by rw [hml]; decide
  obtain ⟨b0, b1, hvb, hgb⟩ := id hT
  have s0 := hs 0 (by omega)
  have s1 := hs 1 (by omega)
  refine ga_aload_n ok 0 rfl rfl dX4_knowsOf_0 ?_
  refine ga_iload_n ok 1 rfl rfl dX4_knowsOf_1 ?_
  refine ga_aload_n ok 0 rfl rfl dX4_knowsOf_2 ?_
  refine ga_iload_n ok 2 rfl rfl dX4_knowsOf_3 ?_
  refine gd_X4_1 ok hG rfl lk_X4_97 rfl (c_X4_badges ok.fl hG hs hT qv) (by rw [hR]; exact ⟨by decide, by decide, by decide, by decide⟩) (Nat.le_of_ble_eq_true rfl) dX4_knowsOf_4 ?_
  have hq9 := hvb v.toNat (by omega)
  refine gd_X4_2 ok hG rfl lk_X4_122 rfl (c_X4_marginOf ok.fl hG hs hT qg (x := vX r v.toNat) (by omega)) (by rw [hR]; exact ⟨by decide, by decide, by decide, by decide⟩) (Nat.le_of_ble_eq_true rfl) dX4_knowsOf_7 ?_
  refine ga_fstore_n ok 3 rfl hn3 dX4_knowsOf_10 ?_
  refine ga_aload_n ok 0 rfl rfl dX4_knowsOf_11 ?_
  refine ga_iload_n ok 2 rfl rfl dX4_knowsOf_12 ?_
  refine gd_X4_1 ok hG rfl lk_X4_128 rfl (c_X4_isFriend ok.fl hG hs hT qv) (by rw [hR]; exact ⟨by decide, by decide, by decide, by decide⟩) (Nat.le_of_ble_eq_true rfl) dX4_knowsOf_13 ?_
  rw [vF_b hq9.2]
  have hb := mg_bd (c := gcn (rg r g.toNat)) (hgb g.toNat (by omega)).2.2.2.1 (vX r v.toNat)
  refine ga_if_eq ok 23 (by decide) (by omega) dX4_knowsOf_16 (fun c_16 => ?_) (fun c_16 => ?_)
  · refine ga_fconst0 ok dX4_knowsOf_23 ?_
    refine ga_fload_n ok 3 rfl rfl dX4_knowsOf_24 ?_
    have hs9 : FP.fsub FP.fconst0 (fq (mg (gcn (rg r g.toNat)) (vX r v.toNat))) = fq (- mg (gcn (rg r g.toNat)) (vX r v.toNat)) := by rw [← fq_0, fq_sub (by omega) hb (by omega)]; congr 1; omega
    refine ga_fsub ok dX4_knowsOf_25 (by rw [hs9]; exact fq_n32 (by omega)) ?_
    try rw [hs9]
    exact ga_freturn ok en rfl (by decide) (by decide) dX4_knowsOf_26 ⟨by unfold kno; (first | rw [if_pos (by omega)] | rw [if_neg (by omega)]), rfl⟩
  · refine ga_fload_n ok 3 rfl rfl dX4_knowsOf_19 ?_
    refine ga_goto ok 26 (by decide) dX4_knowsOf_20 ?_
    try rw [hs9]
    exact ga_freturn ok en rfl (by decide) (by decide) dX4_knowsOf_26 ⟨by unfold kno; (first | rw [if_pos (by omega)] | rw [if_neg (by omega)]), rfl⟩
theorem er_iff {r : Nat → Int} {g v : Nat} {f : Int} (hf : f = 0 ∨ f = 1) (he : vF r v = f) : erB r g v = true ↔ ¬ (0 < mg (gcn (rg r g)) (vX r v) ↔ f = 1) := by
  unfold erB adm
  rw [decide_eq_true_iff, he]
  by_cases h0 : 0 < mg (gcn (rg r g)) (vX r v)
  · rw [decide_eq_true h0]
    show (1 : Int) ≠ f ↔ _
    omega
  · rw [decide_eq_false h0]
    show (0 : Int) ≠ f ↔ _
    omega
theorem ps_iff {r : Nat → Int} {g v : Nat} (hf : vF r v = 0 ∨ vF r v = 1) : psS (rg r g) (vX r v) (vF r v) = true ↔ (erB r g v = true ∨ (if mg (gcn (rg r g)) (vX r v) < 0 then -mg (gcn (rg r g)) (vX r v) else mg (gcn (rg r g)) (vX r v)) < rg r g 1) := by
  unfold psS
  rw [pshd_t, er_iff hf rfl]
theorem ps_err {r : Nat → Int} {g v : Nat} (he : erB r g v = true) (hf : vF r v = 0 ∨ vF r v = 1) : psS (rg r g) (vX r v) (vF r v) = true := (ps_iff hf).mpr (Or.inl he)
theorem ps_far {r : Nat → Int} {g v : Nat} (_he : erB r g v = false) (hf : vF r v = 0 ∨ vF r v = 1) (h : (0 ≤ mg (gcn (rg r g)) (vX r v) ∧ mg (gcn (rg r g)) (vX r v) < rg r g 1) ∨ (mg (gcn (rg r g)) (vX r v) < 0 ∧ -mg (gcn (rg r g)) (vX r v) < rg r g 1)) : psS (rg r g) (vX r v) (vF r v) = true := (ps_iff hf).mpr (Or.inr (by
  rcases h with h | h
  · rw [if_neg (by omega)]; exact h.2
  · rw [if_pos h.1]; exact h.2))
theorem ps_no {r : Nat → Int} {g v : Nat} (he : erB r g v = false) (hf : vF r v = 0 ∨ vF r v = 1) (h : ¬ (if mg (gcn (rg r g)) (vX r v) < 0 then -mg (gcn (rg r g)) (vX r v) else mg (gcn (rg r g)) (vX r v)) < rg r g 1) : psS (rg r g) (vX r v) (vF r v) = false := by
  rw [← Bool.not_eq_true, ps_iff hf]
  rintro (e | e)
  · rw [he] at e; exact absurd e Bool.false_ne_true
  · exact h e
set_option maxHeartbeats 4000000 in
set_option maxRecDepth 100000 in
theorem c_X4_pushes {G : GG} {l : Launch} (hfl : l.stackTraces = false) (hG : MW G) {m : Mm} {r : Nat → Int} {T : Int} (hs : SR m r) (hT : gtOk T r) {g : Int} (qg : 0 ≤ g ∧ g < r 0) {v : Int} (qv : 0 ≤ v ∧ v < r 1) : CT G l yX4_pushes cX4_pushes 5 (some .boolean) (RM 6 0 0) [.ref 1024, vI g, vI v] m (fun r' m' => r' = some (vI (b2i (psS (rg r g.toNat) (vX r v.toNat) (vF r v.toNat)))) ∧ m' = m) (fun _ _ => False) := by
  refine CT.of RX4 [(0, .ref 1024), (1, vI g), (2, vI v)] hfl (by decide +kernel) rfl rfl (Nat.le_of_ble_eq_true rfl) ?_
  intro E ok en hml hEl htab
  have hR : e_R E = RM 6 0 0 := en.2.2.2
  have hn0 : 0 < (e_c E).maxLocals := by rw [hml]; decide
  have hn1 : 1 < (e_c E).maxLocals := by rw [hml]; decide
  have hn2 : 2 < (e_c E).maxLocals := by rw [hml]; decide
  have hn3 : 3 < (e_c E).maxLocals := by rw [hml]; decide
  have hn4 : 4 < (e_c E).maxLocals := by rw [hml]; decide
  obtain ⟨b0, b1, hvb, hgb⟩ := id hT
  have s0 := hs 0 (by omega)
  have s1 := hs 1 (by omega)
  refine ga_aload_n ok 0 rfl rfl dX4_pushes_0 ?_
  refine ga_iload_n ok 1 rfl rfl dX4_pushes_1 ?_
  refine ga_aload_n ok 0 rfl rfl dX4_pushes_2 ?_
  refine ga_iload_n ok 2 rfl rfl dX4_pushes_3 ?_
  refine gd_X4_1 ok hG rfl lk_X4_97 rfl (c_X4_badges ok.fl hG hs hT qv) (by rw [hR]; exact ⟨by decide, by decide, by decide, by decide⟩) (Nat.le_of_ble_eq_true rfl) dX4_pushes_4 ?_
  have hq9 := hvb v.toNat (by omega)
  have hb := mg_bd (c := gcn (rg r g.toNat)) (hgb g.toNat (by omega)).2.2.2.1 (vX r v.toNat)
  have hca := (hgb g.toNat (by omega)).2.1
  refine gd_X4_2 ok hG rfl lk_X4_122 rfl (c_X4_marginOf ok.fl hG hs hT qg (x := vX r v.toNat) (by omega)) (by rw [hR]; exact ⟨by decide, by decide, by decide, by decide⟩) (Nat.le_of_ble_eq_true rfl) dX4_pushes_7 ?_
  refine ga_fstore_n ok 3 rfl hn3 dX4_pushes_10 ?_
  refine ga_fload_n ok 3 rfl rfl dX4_pushes_11 ?_
  refine ga_fconst0 ok dX4_pushes_12 ?_
  refine ga_fcmp ok dX4_pushes_13 (fq_cmpz0 hb) ?_
  refine ga_if_ge ok 22 (by decide) (cmpz_rng _ _) dX4_pushes_14 (fun c_14 => ?_) (fun c_14 => ?_)
  · have h14 := cmpz_ge.mp c_14
    refine ga_fload_n ok 3 rfl rfl dX4_pushes_22 ?_
    refine ga_fstore ok hn4 dX4_pushes_23 ?_
    refine ga_aload_n ok 0 rfl rfl dX4_pushes_25 ?_
    refine ga_iload_n ok 1 rfl rfl dX4_pushes_26 ?_
    refine ga_iload_n ok 2 rfl rfl dX4_pushes_27 ?_
    refine gd_X4_2 ok hG rfl lk_X4_131 rfl (c_X4_errs ok.fl hG hs hT qg qv) (by rw [hR]; exact ⟨by decide, by decide, by decide, by decide⟩) (Nat.le_of_ble_eq_true rfl) dX4_pushes_28 ?_
    refine ga_if_ne ok 54 (by decide) (b2i_rng _) dX4_pushes_31 (fun c_31 => ?_) (fun c_31 => ?_)
    · have f_31 := b2i_n0.mp c_31
      refine ga_iconst ok dX4_pushes_54 ?_
      refine ga_goto ok 59 (by decide) dX4_pushes_55 ?_
      exact ga_ireturn ok en rfl (by decide) (by decide) (by decide) dX4_pushes_59 ⟨by rw [ps_err f_31 hq9.2]; rfl, rfl⟩
    · have f_31 := b2i_0.mp c_31
      refine ga_fload ok rfl dX4_pushes_34 ?_
      refine ga_aload_n ok 0 rfl rfl dX4_pushes_36 ?_
      refine gf_X4_9 ok hG rfl dX4_pushes_37 ?_
      refine ga_iload_n ok 1 rfl rfl dX4_pushes_40 ?_
      refine ga_iconst ok dX4_pushes_41 ?_
      refine gd_S_2 ok lk_X4_73 (c_X4_at ok.fl hG (g := g) (k := 1) (by omega) (by omega)) (by rw [hR]; exact ⟨by decide, by decide, by decide, by decide⟩) (Nat.le_of_ble_eq_true rfl) dX4_pushes_42 ?_
      refine ga_iaload_ia ok (ar_ms hG rfl) (by omega) dX4_pushes_45 ?_
      rw [show (26 + 27 * g + 1).toNat = 26 + 27 * g.toNat + 1 by omega, hs.g (by omega) (by omega)]
      refine ga_i2f ok dX4_pushes_46 ?_
      refine ga_ldcf (z := 1115684864) ok dX4_pushes_47 (tb_in 1417 (by decide +kernel) (by decide +kernel)) ?_
      have he : FP.fdiv (FP.i2f (Int32.ofInt (rg r g.toNat 1))) 1115684864 = fq (rg r g.toNat 1) := rfl
      refine ga_fdiv ok dX4_pushes_49 (by rw [he]; exact fq_n32 (by omega)) ?_
      refine ga_fcmp ok dX4_pushes_50 (fq_cmpz (by omega) (by omega)) ?_
      refine ga_if_ge ok 58 (by decide) (cmpz_rng _ _) dX4_pushes_51 (fun c_51 => ?_) (fun c_51 => ?_)
      · have h51 := cmpz_ge.mp c_51
        refine ga_iconst ok dX4_pushes_58 ?_
        exact ga_ireturn ok en rfl (by decide) (by decide) (by decide) dX4_pushes_59 ⟨by rw [ps_no f_31 hq9.2 (by rw [if_neg (by omega)]; omega)]; rfl, rfl⟩
      · have h51 := cmpz_lt.mp c_51
        refine ga_iconst ok dX4_pushes_54 ?_
        refine ga_goto ok 59 (by decide) dX4_pushes_55 ?_
        exact ga_ireturn ok en rfl (by decide) (by decide) (by decide) dX4_pushes_59 ⟨by rw [ps_far f_31 hq9.2 (Or.inl ⟨by omega, by omega⟩)]; rfl, rfl⟩
  · have h14 := cmpz_lt.mp c_14
    refine ga_fload_n ok 3 rfl rfl dX4_pushes_17 ?_
    refine ga_fneg ok dX4_pushes_18 ?_
    rw [show FP.fneg (fq (mg (gcn (rg r g.toNat)) (vX r v.toNat))) = fq (-(mg (gcn (rg r g.toNat)) (vX r v.toNat))) from fq_neg hb (by omega)]
    refine ga_goto ok 23 (by decide) dX4_pushes_19 ?_
    refine ga_fstore ok hn4 dX4_pushes_23 ?_
    refine ga_aload_n ok 0 rfl rfl dX4_pushes_25 ?_
    refine ga_iload_n ok 1 rfl rfl dX4_pushes_26 ?_
    refine ga_iload_n ok 2 rfl rfl dX4_pushes_27 ?_
    refine gd_X4_2 ok hG rfl lk_X4_131 rfl (c_X4_errs ok.fl hG hs hT qg qv) (by rw [hR]; exact ⟨by decide, by decide, by decide, by decide⟩) (Nat.le_of_ble_eq_true rfl) dX4_pushes_28 ?_
    refine ga_if_ne ok 54 (by decide) (b2i_rng _) dX4_pushes_31 (fun c_31 => ?_) (fun c_31 => ?_)
    · have f_31 := b2i_n0.mp c_31
      refine ga_iconst ok dX4_pushes_54 ?_
      refine ga_goto ok 59 (by decide) dX4_pushes_55 ?_
      exact ga_ireturn ok en rfl (by decide) (by decide) (by decide) dX4_pushes_59 ⟨by rw [ps_err f_31 hq9.2]; rfl, rfl⟩
    · have f_31 := b2i_0.mp c_31
      refine ga_fload ok rfl dX4_pushes_34 ?_
      refine ga_aload_n ok 0 rfl rfl dX4_pushes_36 ?_
      refine gf_X4_9 ok hG rfl dX4_pushes_37 ?_
      refine ga_iload_n ok 1 rfl rfl dX4_pushes_40 ?_
      refine ga_iconst ok dX4_pushes_41 ?_
      refine gd_S_2 ok lk_X4_73 (c_X4_at ok.fl hG (g := g) (k := 1) (by omega) (by omega)) (by rw [hR]; exact ⟨by decide, by decide, by decide, by decide⟩) (Nat.le_of_ble_eq_true rfl) dX4_pushes_42 ?_
      refine ga_iaload_ia ok (ar_ms hG rfl) (by omega) dX4_pushes_45 ?_
      rw [show (26 + 27 * g + 1).toNat = 26 + 27 * g.toNat + 1 by omega, hs.g (by omega) (by omega)]
      refine ga_i2f ok dX4_pushes_46 ?_
      refine ga_ldcf (z := 1115684864) ok dX4_pushes_47 (tb_in 1417 (by decide +kernel) (by decide +kernel)) ?_
      have he : FP.fdiv (FP.i2f (Int32.ofInt (rg r g.toNat 1))) 1115684864 = fq (rg r g.toNat 1) := rfl
      refine ga_fdiv ok dX4_pushes_49 (by rw [he]; exact fq_n32 (by omega)) ?_
      refine ga_fcmp ok dX4_pushes_50 (fq_cmpz (by omega) (by omega)) ?_
      refine ga_if_ge ok 58 (by decide) (cmpz_rng _ _) dX4_pushes_51 (fun c_51 => ?_) (fun c_51 => ?_)
      · have h51 := cmpz_ge.mp c_51
        refine ga_iconst ok dX4_pushes_58 ?_
        exact ga_ireturn ok en rfl (by decide) (by decide) (by decide) dX4_pushes_59 ⟨by rw [ps_no f_31 hq9.2 (by rw [if_pos (by omega)]; omega)]; rfl, rfl⟩
      · have h51 := cmpz_lt.mp c_51
        refine ga_iconst ok dX4_pushes_54 ?_
        refine ga_goto ok 59 (by decide) dX4_pushes_55 ?_
        exact ga_ireturn ok en rfl (by decide) (by decide) (by decide) dX4_pushes_59 ⟨by rw [ps_far f_31 hq9.2 (Or.inr ⟨by omega, by omega⟩)]; rfl, rfl⟩
set_option maxHeartbeats 4000000 in
set_option maxRecDepth 100000 in
theorem c_X4_votesFor {G : GG} {l : Launch} (hfl : l.stackTraces = false) (hG : MW G) {m : Mm} {r : Nat → Int} {T : Int} (hs : SR m r) (hT : gtOk T r) {x : Int} (hx : 0 ≤ x ∧ x ≤ 1023) : CT G l yX4_votesFor cX4_votesFor 4 (some .int) (RM 6 0 0) [.ref 1024, vI x] m (fun r' m' => r' = some (vI (vts r x)) ∧ m' = m) (fun _ _ => False) := by
  refine CT.of RX4 [(0, .ref 1024), (1, vI x)] hfl (by decide +kernel) rfl rfl (Nat.le_of_ble_eq_true rfl) ?_
  intro E ok en hml hEl htab
  have hR : e_R E = RM 6 0 0 := en.2.2.2
  have hn0 : 0 < (e_c E).maxLocals := by rw [hml]; decide
  have hn1 : 1 < (e_c E).maxLocals := by rw [hml]; decide
  have hn2 : 2 < (e_c E).maxLocals := by rw [hml]; decide
  have hn3 : 3 < (e_c E).maxLocals := by rw [hml]; decide
  obtain ⟨b0, b1, hvb, hgb⟩ := id hT
  have s0 := hs 0 (by omega)
  have s1 := hs 1 (by omega)
  refine ga_iconst ok dX4_votesFor_0 ?_
  refine ga_istore_n ok 2 rfl hn2 dX4_votesFor_1 ?_
  refine ga_iconst ok dX4_votesFor_2 ?_
  refine ga_istore_n ok 3 rfl hn3 dX4_votesFor_3 ?_
  have loop : ∀ (i : Int), 0 ≤ i ∧ i ≤ r 0 → WA G E 0 0 4 [(3, vI i), (2, vI (zs (fun g => b2i (adm (gcn (rg r g)) x)) i.toNat)), (0, .ref 1024), (1, vI x)] [] m := by
    refine wl1 _ (fun i => (r 0 - i).toNat) _ ?_
    intro i hi ih
    have e9 := zs_n (f := fun g => b2i (adm (gcn (rg r g)) x)) hi.1
    refine ga_iload_n ok 3 rfl rfl dX4_votesFor_4 ?_
    refine ga_aload_n ok 0 rfl rfl dX4_votesFor_5 ?_
    refine gf_X4_9 ok hG rfl dX4_votesFor_6 ?_
    refine ga_iconst ok dX4_votesFor_9 ?_
    refine ga_iaload_ia ok (ar_ms hG rfl) (by omega) dX4_votesFor_10 ?_
    rw [show (m.1 1088 (0 : Int).toNat) = r 0 from s0]
    refine ga_icmp_ge ok 37 (by decide) (by omega) (by omega) dX4_votesFor_11 (fun c_11 => ?_) (fun c_11 => ?_)
    · refine ga_iload_n ok 2 rfl rfl dX4_votesFor_37 ?_
      exact ga_ireturn ok en rfl rfl (by decide) (by decide) dX4_votesFor_38 ⟨by rw [show i = r 0 by omega]; rfl, rfl⟩
    · refine ga_iload_n ok 2 rfl rfl dX4_votesFor_14 ?_
      refine ga_aload_n ok 0 rfl rfl dX4_votesFor_15 ?_
      refine ga_iload_n ok 3 rfl rfl dX4_votesFor_16 ?_
      refine ga_iload_n ok 1 rfl rfl dX4_votesFor_17 ?_
      refine gd_X4_2 ok hG rfl lk_X4_125 rfl (c_X4_isIn ok.fl hG hs hT (g := i) (by omega) hx) (by rw [hR]; exact ⟨by decide, by decide, by decide, by decide⟩) (Nat.le_of_ble_eq_true rfl) dX4_votesFor_18 ?_
      refine ga_if_eq ok 28 (by decide) (b2i_rng _) dX4_votesFor_21 (fun c_21 => ?_) (fun c_21 => ?_)
      · have hf : (fun g => b2i (adm (gcn (rg r g)) x)) i.toNat = 0 := b2i_0.mpr (b2i_0.mp c_21)
        try dsimp only at hf
        rw [hf] at e9
        refine ga_iconst ok dX4_votesFor_28 ?_
        refine ga_iadd ok dX4_votesFor_29 ?_
        refine ga_istore_n ok 2 rfl hn2 dX4_votesFor_30 ?_
        refine ga_iinc ok rfl hn3 dX4_votesFor_31 ?_
        refine ga_goto ok 4 (by decide) dX4_votesFor_34 ?_
        exact WA.re (by exact ⟨rfl, (by rw [e9]; rfl), rfl, rfl, trivial⟩) (ih (i + 1) (by omega) (by omega))
      · have hf : (fun g => b2i (adm (gcn (rg r g)) x)) i.toNat = 1 := b2i_1.mpr (b2i_n0.mp c_21)
        try dsimp only at hf
        rw [hf] at e9
        refine ga_iconst ok dX4_votesFor_24 ?_
        refine ga_goto ok 29 (by decide) dX4_votesFor_25 ?_
        refine ga_iadd ok dX4_votesFor_29 ?_
        refine ga_istore_n ok 2 rfl hn2 dX4_votesFor_30 ?_
        refine ga_iinc ok rfl hn3 dX4_votesFor_31 ?_
        refine ga_goto ok 4 (by decide) dX4_votesFor_34 ?_
        exact WA.re (by exact ⟨rfl, (by rw [e9]; rfl), rfl, rfl, trivial⟩) (ih (i + 1) (by omega) (by omega))
  exact WA.re (by exact ⟨rfl, rfl, rfl, rfl, trivial⟩) (loop 0 (by omega))
set_option maxHeartbeats 4000000 in
set_option maxRecDepth 100000 in
theorem c_X4_friends {G : GG} {l : Launch} (hfl : l.stackTraces = false) (hG : MW G) {m : Mm} {r : Nat → Int} {T : Int} (hs : SR m r) (hT : gtOk T r)  : CT G l yX4_friends cX4_friends 3 (some .int) (RM 1 0 0) [.ref 1024] m (fun r' m' => r' = some (vI (cof r 1)) ∧ m' = m) (fun _ _ => False) := by
  refine CT.of RX4 [(0, .ref 1024)] hfl (by decide +kernel) rfl rfl (Nat.le_of_ble_eq_true rfl) ?_
  intro E ok en hml hEl htab
  have hR : e_R E = RM 1 0 0 := en.2.2.2
  have hn0 : 0 < (e_c E).maxLocals := by rw [hml]; decide
  have hn1 : 1 < (e_c E).maxLocals := by rw [hml]; decide
  have hn2 : 2 < (e_c E).maxLocals := by rw [hml]; decide
  obtain ⟨b0, b1, hvb, hgb⟩ := id hT
  have s0 := hs 0 (by omega)
  have s1 := hs 1 (by omega)
  refine ga_iconst ok dX4_friends_0 ?_
  refine ga_istore_n ok 1 rfl hn1 dX4_friends_1 ?_
  refine ga_iconst ok dX4_friends_2 ?_
  refine ga_istore_n ok 2 rfl hn2 dX4_friends_3 ?_
  have loop : ∀ (i : Int), 0 ≤ i ∧ i ≤ r 1 → WA G E 0 0 4 [(2, vI i), (1, vI (zs (fun u => b2i (decide (vF r u = 1))) i.toNat)), (0, .ref 1024)] [] m := by
    refine wl1 _ (fun i => (r 1 - i).toNat) _ ?_
    intro i hi ih
    have e9 := zs_n (f := fun u => b2i (decide (vF r u = 1))) hi.1
    refine ga_iload_n ok 2 rfl rfl dX4_friends_4 ?_
    refine ga_aload_n ok 0 rfl rfl dX4_friends_5 ?_
    refine gf_X4_9 ok hG rfl dX4_friends_6 ?_
    refine ga_iconst ok dX4_friends_9 ?_
    refine ga_iaload_ia ok (ar_ms hG rfl) (by omega) dX4_friends_10 ?_
    rw [show (m.1 1088 (1 : Int).toNat) = r 1 from s1]
    refine ga_icmp_ge ok 36 (by decide) (by omega) (by omega) dX4_friends_11 (fun c_11 => ?_) (fun c_11 => ?_)
    · refine ga_iload_n ok 1 rfl rfl dX4_friends_36 ?_
      exact ga_ireturn ok en rfl rfl (by decide) (by decide) dX4_friends_37 ⟨by rw [show i = r 1 by omega]; rfl, rfl⟩
    · refine ga_iload_n ok 1 rfl rfl dX4_friends_14 ?_
      refine ga_aload_n ok 0 rfl rfl dX4_friends_15 ?_
      refine ga_iload_n ok 2 rfl rfl dX4_friends_16 ?_
      refine gd_X4_1 ok hG rfl lk_X4_128 rfl (c_X4_isFriend ok.fl hG hs hT (v := i) (by omega)) (by rw [hR]; exact ⟨by decide, by decide, by decide, by decide⟩) (Nat.le_of_ble_eq_true rfl) dX4_friends_17 ?_
      refine ga_if_eq ok 27 (by decide) (b2i_rng _) dX4_friends_20 (fun c_20 => ?_) (fun c_20 => ?_)
      · have hf : (fun u => b2i (decide (vF r u = 1))) i.toNat = 0 := b2i_0.mpr (b2i_0.mp c_20)
        try dsimp only at hf
        rw [hf] at e9
        refine ga_iconst ok dX4_friends_27 ?_
        refine ga_iadd ok dX4_friends_28 ?_
        refine ga_istore_n ok 1 rfl hn1 dX4_friends_29 ?_
        refine ga_iinc ok rfl hn2 dX4_friends_30 ?_
        refine ga_goto ok 4 (by decide) dX4_friends_33 ?_
        exact WA.re (by exact ⟨rfl, (by rw [e9]; rfl), rfl, trivial⟩) (ih (i + 1) (by omega) (by omega))
      · have hf : (fun u => b2i (decide (vF r u = 1))) i.toNat = 1 := b2i_1.mpr (b2i_n0.mp c_20)
        try dsimp only at hf
        rw [hf] at e9
        refine ga_iconst ok dX4_friends_23 ?_
        refine ga_goto ok 28 (by decide) dX4_friends_24 ?_
        refine ga_iadd ok dX4_friends_28 ?_
        refine ga_istore_n ok 1 rfl hn1 dX4_friends_29 ?_
        refine ga_iinc ok rfl hn2 dX4_friends_30 ?_
        refine ga_goto ok 4 (by decide) dX4_friends_33 ?_
        exact WA.re (by exact ⟨rfl, (by rw [e9]; rfl), rfl, trivial⟩) (ih (i + 1) (by omega) (by omega))
  exact WA.re (by exact ⟨rfl, rfl, rfl, trivial⟩) (loop 0 (by omega))
set_option maxHeartbeats 4000000 in
set_option maxRecDepth 100000 in
theorem c_X4_isVoted {G : GG} {l : Launch} (hfl : l.stackTraces = false) (hG : MW G) {m : Mm} {r : Nat → Int} {T : Int} (hs : SR m r) (hT : gtOk T r) {x : Int} (hx : 0 ≤ x ∧ x ≤ 1023) : CT G l yX4_isVoted cX4_isVoted 2 (some .boolean) (RM 7 0 0) [.ref 1024, vI x] m (fun r' m' => r' = some (vI (b2i (vin r x))) ∧ m' = m) (fun _ _ => False) := by
  refine CT.of RX4 [(0, .ref 1024), (1, vI x)] hfl (by decide +kernel) rfl rfl (Nat.le_of_ble_eq_true rfl) ?_
  intro E ok en hml hEl htab
  have hR : e_R E = RM 7 0 0 := en.2.2.2
  have hn0 : 0 < (e_c E).maxLocals := by rw [hml]; decide
  have hn1 : 1 < (e_c E).maxLocals := by rw [hml]; decide
  obtain ⟨b0, b1, hvb, hgb⟩ := id hT
  have s0 := hs 0 (by omega)
  have s1 := hs 1 (by omega)
  refine ga_iconst ok dX4_isVoted_0 ?_
  refine ga_aload_n ok 0 rfl rfl dX4_isVoted_1 ?_
  refine ga_iload_n ok 1 rfl rfl dX4_isVoted_2 ?_
  refine gd_X4_1 ok hG rfl lk_X4_187 rfl (c_X4_votesFor ok.fl hG hs hT hx) (by rw [hR]; exact ⟨by decide, by decide, by decide, by decide⟩) (Nat.le_of_ble_eq_true rfl) dX4_isVoted_3 ?_
  have hvt : 0 ≤ vts r x ∧ vts r x ≤ 4 := by
    have := zs_bd1 (f := fun g => adm (gcn (rg r g)) x) (r 0).toNat
    unfold vts
    omega
  refine ga_imul ok dX4_isVoted_6 ?_
  refine ga_aload_n ok 0 rfl rfl dX4_isVoted_7 ?_
  refine gf_X4_9 ok hG rfl dX4_isVoted_8 ?_
  refine ga_iconst ok dX4_isVoted_11 ?_
  refine ga_iaload_ia ok (ar_ms hG rfl) (by omega) dX4_isVoted_12 ?_
  rw [show (m.1 1088 (0 : Int).toNat) = r 0 from s0]
  refine ga_icmp_le ok 20 (by decide) (by omega) (by omega) dX4_isVoted_13 (fun c_13 => ?_) (fun c_13 => ?_)
  · refine ga_iconst ok dX4_isVoted_20 ?_
    exact ga_ireturn ok en rfl (by decide) (by decide) (by decide) dX4_isVoted_21 ⟨by unfold vin; (first | rw [decide_eq_true (by omega)] | rw [decide_eq_false (by omega)]); rfl, rfl⟩
  · refine ga_iconst ok dX4_isVoted_16 ?_
    refine ga_goto ok 21 (by decide) dX4_isVoted_17 ?_
    exact ga_ireturn ok en rfl (by decide) (by decide) (by decide) dX4_isVoted_21 ⟨by unfold vin; (first | rw [decide_eq_true (by omega)] | rw [decide_eq_false (by omega)]); rfl, rfl⟩
set_option maxHeartbeats 4000000 in
set_option maxRecDepth 100000 in
theorem c_X4_votes {G : GG} {l : Launch} (hfl : l.stackTraces = false) (hG : MW G) {m : Mm} {r : Nat → Int} {T : Int} (hs : SR m r) (hT : gtOk T r) {x : Int} (hxR : -2147483648 ≤ x ∧ x ≤ 2147483647) : CT G l yX4_votes cX4_votes 2 (some .int) (RM 8 0 0) [.ref 1024, vI x] m (fun r' m' => ∃ v9, r' = some (vI v9) ∧ ((if isS x = true then (0 : Int) else 1) = 0 → v9 = vts r x) ∧ m' = thM m ((if isS x = true then (0 : Int) else 1))) (fun _ _ => False) := by
  refine CT.of RX4 [(0, .ref 1024), (1, vI x)] hfl (by decide +kernel) rfl rfl (Nat.le_of_ble_eq_true rfl) ?_
  intro E ok en hml hEl htab
  have hR : e_R E = RM 8 0 0 := en.2.2.2
  have hn0 : 0 < (e_c E).maxLocals := by rw [hml]; decide
  have hn1 : 1 < (e_c E).maxLocals := by rw [hml]; decide
  obtain ⟨b0, b1, hvb, hgb⟩ := id hT
  have s0 := hs 0 (by omega)
  have s1 := hs 1 (by omega)
  refine ga_aload_n ok 0 rfl rfl dX4_votes_0 ?_
  refine ga_iload_n ok 1 rfl rfl dX4_votes_1 ?_
  refine gd_S_1 ok lk_X4_94 (c_X4_isSet ok.fl hG hxR) (by rw [hR]; exact ⟨by decide, by decide, by decide, by decide⟩) (Nat.le_of_ble_eq_true rfl) dX4_votes_2 ?_
  refine ga_if_eq ok 12 (by decide) (b2i_rng _) dX4_votes_5 (fun c_5 => ?_) (fun c_5 => ?_)
  · have f_5 := of_decide_eq_false (b2i_0.mp c_5)
    refine ga_iconst ok dX4_votes_12 ?_
    refine gp_X4_39 ok hG rfl dX4_votes_13 ?_
    refine ga_aload_n ok 0 rfl rfl dX4_votes_16 ?_
    refine gf_X4_39 ok hG rfl dX4_votes_17 ?_
    rw [upI_at]
    refine ga_if_le ok 27 (by decide) (by omega) dX4_votes_20 (fun c_20 => ?_) (fun c_20 => ?_)
    · exact absurd c_20 (by omega)
    · refine ga_iconst ok dX4_votes_23 ?_
      refine ga_goto ok 32 (by decide) dX4_votes_24 ?_
      exact ga_ireturn ok en rfl rfl (by decide) (by decide) dX4_votes_32 (by first | (exfalso; omega) | (have hk : (if isS x = true then (0 : Int) else 1) = 1 := (by unfold isS; simp only [decide_eq_true_eq]; first | (rw [if_pos (by omega)]; done) | (rw [if_neg (by omega)]; done)); rw [hk]; exact ⟨_, rfl, fun h => absurd h (by decide), rfl⟩))
  · have f_5 := of_decide_eq_true (b2i_n0.mp c_5)
    refine ga_iconst ok dX4_votes_8 ?_
    refine ga_goto ok 13 (by decide) dX4_votes_9 ?_
    refine gp_X4_39 ok hG rfl dX4_votes_13 ?_
    refine ga_aload_n ok 0 rfl rfl dX4_votes_16 ?_
    refine gf_X4_39 ok hG rfl dX4_votes_17 ?_
    rw [upI_at]
    refine ga_if_le ok 27 (by decide) (by omega) dX4_votes_20 (fun c_20 => ?_) (fun c_20 => ?_)
    · refine ga_aload_n ok 0 rfl rfl dX4_votes_27 ?_
      refine ga_iload_n ok 1 rfl rfl dX4_votes_28 ?_
      refine gd_X4_1 ok hG rfl lk_X4_187 rfl (c_X4_votesFor ok.fl hG hs.t hT (x := x) (by omega)) (by rw [hR]; exact ⟨by decide, by decide, by decide, by decide⟩) (Nat.le_of_ble_eq_true rfl) dX4_votes_29 ?_
      exact ga_ireturn ok en rfl rfl (by decide) (by decide) dX4_votes_32 (by first | (exfalso; omega) | (have hk : (if isS x = true then (0 : Int) else 1) = 0 := (by unfold isS; simp only [decide_eq_true_eq]; first | (rw [if_pos (by omega)]; done) | (rw [if_neg (by omega)]; done)); rw [hk]; exact ⟨_, rfl, fun _ => rfl, rfl⟩))
    · exact absurd c_20 (by omega)
set_option maxHeartbeats 4000000 in
set_option maxRecDepth 100000 in
theorem c_X4_isVotedIn {G : GG} {l : Launch} (hfl : l.stackTraces = false) (hG : MW G) {m : Mm} {r : Nat → Int} {T : Int} (hs : SR m r) (hT : gtOk T r) {x : Int} (hxR : -2147483648 ≤ x ∧ x ≤ 2147483647) : CT G l yX4_isVotedIn cX4_isVotedIn 2 (some .boolean) (RM 8 0 0) [.ref 1024, vI x] m (fun r' m' => ∃ v9, r' = some (vI v9) ∧ ((if isS x = true then (0 : Int) else 1) = 0 → v9 = b2i (vin r x)) ∧ m' = thM m ((if isS x = true then (0 : Int) else 1))) (fun _ _ => False) := by
  refine CT.of RX4 [(0, .ref 1024), (1, vI x)] hfl (by decide +kernel) rfl rfl (Nat.le_of_ble_eq_true rfl) ?_
  intro E ok en hml hEl htab
  have hR : e_R E = RM 8 0 0 := en.2.2.2
  have hn0 : 0 < (e_c E).maxLocals := by rw [hml]; decide
  have hn1 : 1 < (e_c E).maxLocals := by rw [hml]; decide
  obtain ⟨b0, b1, hvb, hgb⟩ := id hT
  have s0 := hs 0 (by omega)
  have s1 := hs 1 (by omega)
  refine ga_aload_n ok 0 rfl rfl dX4_isVotedIn_0 ?_
  refine ga_iload_n ok 1 rfl rfl dX4_isVotedIn_1 ?_
  refine gd_S_1 ok lk_X4_94 (c_X4_isSet ok.fl hG hxR) (by rw [hR]; exact ⟨by decide, by decide, by decide, by decide⟩) (Nat.le_of_ble_eq_true rfl) dX4_isVotedIn_2 ?_
  refine ga_if_eq ok 12 (by decide) (b2i_rng _) dX4_isVotedIn_5 (fun c_5 => ?_) (fun c_5 => ?_)
  · have f_5 := of_decide_eq_false (b2i_0.mp c_5)
    refine ga_iconst ok dX4_isVotedIn_12 ?_
    refine gp_X4_39 ok hG rfl dX4_isVotedIn_13 ?_
    refine ga_aload_n ok 0 rfl rfl dX4_isVotedIn_16 ?_
    refine gf_X4_39 ok hG rfl dX4_isVotedIn_17 ?_
    rw [upI_at]
    refine ga_if_ne ok 35 (by decide) (by omega) dX4_isVotedIn_20 (fun c_20 => ?_) (fun c_20 => ?_)
    · refine ga_iconst ok dX4_isVotedIn_35 ?_
      exact ga_ireturn ok en rfl (by decide) (by decide) (by decide) dX4_isVotedIn_36 (by first | (exfalso; omega) | (have hk : (if isS x = true then (0 : Int) else 1) = 1 := (by unfold isS; simp only [decide_eq_true_eq]; first | (rw [if_pos (by omega)]; done) | (rw [if_neg (by omega)]; done)); rw [hk]; exact ⟨_, rfl, fun h => absurd h (by decide), rfl⟩))
    · exact absurd c_20 (by omega)
  · have f_5 := of_decide_eq_true (b2i_n0.mp c_5)
    refine ga_iconst ok dX4_isVotedIn_8 ?_
    refine ga_goto ok 13 (by decide) dX4_isVotedIn_9 ?_
    refine gp_X4_39 ok hG rfl dX4_isVotedIn_13 ?_
    refine ga_aload_n ok 0 rfl rfl dX4_isVotedIn_16 ?_
    refine gf_X4_39 ok hG rfl dX4_isVotedIn_17 ?_
    rw [upI_at]
    refine ga_if_ne ok 35 (by decide) (by omega) dX4_isVotedIn_20 (fun c_20 => ?_) (fun c_20 => ?_)
    · exact absurd rfl c_20
    · refine ga_aload_n ok 0 rfl rfl dX4_isVotedIn_23 ?_
      refine ga_iload_n ok 1 rfl rfl dX4_isVotedIn_24 ?_
      refine gd_X4_1 ok hG rfl lk_X4_190 rfl (c_X4_isVoted ok.fl hG hs.t hT (x := x) (by omega)) (by rw [hR]; exact ⟨by decide, by decide, by decide, by decide⟩) (Nat.le_of_ble_eq_true rfl) dX4_isVotedIn_25 ?_
      refine ga_if_eq ok 35 (by decide) (b2i_rng _) dX4_isVotedIn_28 (fun c_28 => ?_) (fun c_28 => ?_)
      · have f_28 := b2i_0.mp c_28
        refine ga_iconst ok dX4_isVotedIn_35 ?_
        exact ga_ireturn ok en rfl (by decide) (by decide) (by decide) dX4_isVotedIn_36 (by first | (exfalso; omega) | (have hk : (if isS x = true then (0 : Int) else 1) = 0 := (by unfold isS; simp only [decide_eq_true_eq]; first | (rw [if_pos (by omega)]; done) | (rw [if_neg (by omega)]; done)); rw [hk]; exact ⟨_, rfl, fun _ => (b2i_0.mpr f_28).symm, rfl⟩))
      · have f_28 := b2i_n0.mp c_28
        refine ga_iconst ok dX4_isVotedIn_31 ?_
        refine ga_goto ok 36 (by decide) dX4_isVotedIn_32 ?_
        exact ga_ireturn ok en rfl (by decide) (by decide) (by decide) dX4_isVotedIn_36 (by first | (exfalso; omega) | (have hk : (if isS x = true then (0 : Int) else 1) = 0 := (by unfold isS; simp only [decide_eq_true_eq]; first | (rw [if_pos (by omega)]; done) | (rw [if_neg (by omega)]; done)); rw [hk]; exact ⟨_, rfl, fun _ => (b2i_1.mpr f_28).symm, rfl⟩))
set_option maxHeartbeats 4000000 in
set_option maxRecDepth 100000 in
theorem c_X4_knows {G : GG} {l : Launch} (hfl : l.stackTraces = false) (hG : MW G) {m : Mm} {r : Nat → Int} {T : Int} (hs : SR m r) (hT : gtOk T r) {g : Int} (hgR : -2147483648 ≤ g ∧ g ≤ 2147483647) {v : Int} (hvR : -2147483648 ≤ v ∧ v ≤ 2147483647) : CT G l yX4_knows cX4_knows 3 (some .float) (RM 8 0 0) [.ref 1024, vI g, vI v] m (fun r' m' => ∃ v9, r' = some (.float v9) ∧ ((if isG r g = true ∧ isV r v = true then (0 : Int) else 1) = 0 → v9 = fq (kno r g.toNat v.toNat)) ∧ m' = thM m ((if isG r g = true ∧ isV r v = true then (0 : Int) else 1))) (fun _ _ => False) := by
  refine CT.of RX4 [(0, .ref 1024), (1, vI g), (2, vI v)] hfl (by decide +kernel) rfl rfl (Nat.le_of_ble_eq_true rfl) ?_
  intro E ok en hml hEl htab
  have hR : e_R E = RM 8 0 0 := en.2.2.2
  have hn0 : 0 < (e_c E).maxLocals := by rw [hml]; decide
  have hn1 : 1 < (e_c E).maxLocals := by rw [hml]; decide
  have hn2 : 2 < (e_c E).maxLocals := by rw [hml]; decide
  obtain ⟨b0, b1, hvb, hgb⟩ := id hT
  have s0 := hs 0 (by omega)
  have s1 := hs 1 (by omega)
  refine ga_aload_n ok 0 rfl rfl dX4_knows_0 ?_
  refine ga_aload_n ok 0 rfl rfl dX4_knows_1 ?_
  refine ga_iload_n ok 1 rfl rfl dX4_knows_2 ?_
  refine gd_X4_1 ok hG rfl lk_X4_86 rfl (c_X4_isGuard ok.fl hG hs hT hgR) (by rw [hR]; exact ⟨by decide, by decide, by decide, by decide⟩) (Nat.le_of_ble_eq_true rfl) dX4_knows_3 ?_
  refine ga_if_eq ok 21 (by decide) (b2i_rng _) dX4_knows_6 (fun c_6 => ?_) (fun c_6 => ?_)
  · have f_6 := of_decide_eq_false (b2i_0.mp c_6)
    refine ga_iconst ok dX4_knows_21 ?_
    refine gp_X4_39 ok hG rfl dX4_knows_22 ?_
    refine ga_aload_n ok 0 rfl rfl dX4_knows_25 ?_
    refine gf_X4_39 ok hG rfl dX4_knows_26 ?_
    rw [upI_at]
    refine ga_if_le ok 36 (by decide) (by omega) dX4_knows_29 (fun c_29 => ?_) (fun c_29 => ?_)
    · exact absurd c_29 (by omega)
    · refine ga_fconst0 ok dX4_knows_32 ?_
      refine ga_goto ok 42 (by decide) dX4_knows_33 ?_
      exact ga_freturn ok en rfl (by decide) (by decide) dX4_knows_42 (by first | (exfalso; omega) | (have hk : (if isG r g = true ∧ isV r v = true then (0 : Int) else 1) = 1 := (by unfold isG isV; simp only [decide_eq_true_eq]; first | (rw [if_pos (by omega)]; done) | (rw [if_neg (by omega)]; done)); rw [hk]; exact ⟨_, rfl, fun h => absurd h (by decide), rfl⟩))
  · have f_6 := of_decide_eq_true (b2i_n0.mp c_6)
    refine ga_aload_n ok 0 rfl rfl dX4_knows_9 ?_
    refine ga_iload_n ok 2 rfl rfl dX4_knows_10 ?_
    refine gd_X4_1 ok hG rfl lk_X4_104 rfl (c_X4_isVisitor ok.fl hG hs hT hvR) (by rw [hR]; exact ⟨by decide, by decide, by decide, by decide⟩) (Nat.le_of_ble_eq_true rfl) dX4_knows_11 ?_
    refine ga_if_eq ok 21 (by decide) (b2i_rng _) dX4_knows_14 (fun c_14 => ?_) (fun c_14 => ?_)
    · have f_14 := of_decide_eq_false (b2i_0.mp c_14)
      refine ga_iconst ok dX4_knows_21 ?_
      refine gp_X4_39 ok hG rfl dX4_knows_22 ?_
      refine ga_aload_n ok 0 rfl rfl dX4_knows_25 ?_
      refine gf_X4_39 ok hG rfl dX4_knows_26 ?_
      rw [upI_at]
      refine ga_if_le ok 36 (by decide) (by omega) dX4_knows_29 (fun c_29 => ?_) (fun c_29 => ?_)
      · exact absurd c_29 (by omega)
      · refine ga_fconst0 ok dX4_knows_32 ?_
        refine ga_goto ok 42 (by decide) dX4_knows_33 ?_
        exact ga_freturn ok en rfl (by decide) (by decide) dX4_knows_42 (by first | (exfalso; omega) | (have hk : (if isG r g = true ∧ isV r v = true then (0 : Int) else 1) = 1 := (by unfold isG isV; simp only [decide_eq_true_eq]; first | (rw [if_pos (by omega)]; done) | (rw [if_neg (by omega)]; done)); rw [hk]; exact ⟨_, rfl, fun h => absurd h (by decide), rfl⟩))
    · have f_14 := of_decide_eq_true (b2i_n0.mp c_14)
      refine ga_iconst ok dX4_knows_17 ?_
      refine ga_goto ok 22 (by decide) dX4_knows_18 ?_
      refine gp_X4_39 ok hG rfl dX4_knows_22 ?_
      refine ga_aload_n ok 0 rfl rfl dX4_knows_25 ?_
      refine gf_X4_39 ok hG rfl dX4_knows_26 ?_
      rw [upI_at]
      refine ga_if_le ok 36 (by decide) (by omega) dX4_knows_29 (fun c_29 => ?_) (fun c_29 => ?_)
      · refine ga_aload_n ok 0 rfl rfl dX4_knows_36 ?_
        refine ga_iload_n ok 1 rfl rfl dX4_knows_37 ?_
        refine ga_iload_n ok 2 rfl rfl dX4_knows_38 ?_
        refine gd_X4_2 ok hG rfl lk_X4_160 rfl (c_X4_knowsOf ok.fl hG hs.t hT (g := g) (v := v) (by omega) (by omega)) (by rw [hR]; exact ⟨by decide, by decide, by decide, by decide⟩) (Nat.le_of_ble_eq_true rfl) dX4_knows_39 ?_
        exact ga_freturn ok en rfl (by decide) (by decide) dX4_knows_42 (by first | (exfalso; omega) | (have hk : (if isG r g = true ∧ isV r v = true then (0 : Int) else 1) = 0 := (by unfold isG isV; simp only [decide_eq_true_eq]; first | (rw [if_pos (by omega)]; done) | (rw [if_neg (by omega)]; done)); rw [hk]; exact ⟨_, rfl, fun _ => rfl, rfl⟩))
      · exact absurd c_29 (by omega)
set_option maxHeartbeats 4000000 in
set_option maxRecDepth 100000 in
theorem c_X4_wouldPush {G : GG} {l : Launch} (hfl : l.stackTraces = false) (hG : MW G) {m : Mm} {r : Nat → Int} {T : Int} (hs : SR m r) (hT : gtOk T r) {g : Int} (hgR : -2147483648 ≤ g ∧ g ≤ 2147483647) {v : Int} (hvR : -2147483648 ≤ v ∧ v ≤ 2147483647) : CT G l yX4_wouldPush cX4_wouldPush 3 (some .boolean) (RM 8 0 0) [.ref 1024, vI g, vI v] m (fun r' m' => ∃ v9, r' = some (vI v9) ∧ ((if isG r g = true ∧ isV r v = true then (0 : Int) else 1) = 0 → v9 = b2i (psS (rg r g.toNat) (vX r v.toNat) (vF r v.toNat))) ∧ m' = thM m ((if isG r g = true ∧ isV r v = true then (0 : Int) else 1))) (fun _ _ => False) := by
  refine CT.of RX4 [(0, .ref 1024), (1, vI g), (2, vI v)] hfl (by decide +kernel) rfl rfl (Nat.le_of_ble_eq_true rfl) ?_
  intro E ok en hml hEl htab
  have hR : e_R E = RM 8 0 0 := en.2.2.2
  have hn0 : 0 < (e_c E).maxLocals := by rw [hml]; decide
  have hn1 : 1 < (e_c E).maxLocals := by rw [hml]; decide
  have hn2 : 2 < (e_c E).maxLocals := by rw [hml]; decide
  obtain ⟨b0, b1, hvb, hgb⟩ := id hT
  have s0 := hs 0 (by omega)
  have s1 := hs 1 (by omega)
  refine ga_aload_n ok 0 rfl rfl dX4_wouldPush_0 ?_
  refine ga_aload_n ok 0 rfl rfl dX4_wouldPush_1 ?_
  refine ga_iload_n ok 1 rfl rfl dX4_wouldPush_2 ?_
  refine gd_X4_1 ok hG rfl lk_X4_86 rfl (c_X4_isGuard ok.fl hG hs hT hgR) (by rw [hR]; exact ⟨by decide, by decide, by decide, by decide⟩) (Nat.le_of_ble_eq_true rfl) dX4_wouldPush_3 ?_
  refine ga_if_eq ok 21 (by decide) (b2i_rng _) dX4_wouldPush_6 (fun c_6 => ?_) (fun c_6 => ?_)
  · have f_6 := of_decide_eq_false (b2i_0.mp c_6)
    refine ga_iconst ok dX4_wouldPush_21 ?_
    refine gp_X4_39 ok hG rfl dX4_wouldPush_22 ?_
    refine ga_aload_n ok 0 rfl rfl dX4_wouldPush_25 ?_
    refine gf_X4_39 ok hG rfl dX4_wouldPush_26 ?_
    rw [upI_at]
    refine ga_if_ne ok 45 (by decide) (by omega) dX4_wouldPush_29 (fun c_29 => ?_) (fun c_29 => ?_)
    · refine ga_iconst ok dX4_wouldPush_45 ?_
      exact ga_ireturn ok en rfl (by decide) (by decide) (by decide) dX4_wouldPush_46 (by first | (exfalso; omega) | (have hk : (if isG r g = true ∧ isV r v = true then (0 : Int) else 1) = 1 := (by unfold isG isV; simp only [decide_eq_true_eq]; first | (rw [if_pos (by omega)]; done) | (rw [if_neg (by omega)]; done)); rw [hk]; exact ⟨_, rfl, fun h => absurd h (by decide), rfl⟩))
    · exact absurd c_29 (by omega)
  · have f_6 := of_decide_eq_true (b2i_n0.mp c_6)
    refine ga_aload_n ok 0 rfl rfl dX4_wouldPush_9 ?_
    refine ga_iload_n ok 2 rfl rfl dX4_wouldPush_10 ?_
    refine gd_X4_1 ok hG rfl lk_X4_104 rfl (c_X4_isVisitor ok.fl hG hs hT hvR) (by rw [hR]; exact ⟨by decide, by decide, by decide, by decide⟩) (Nat.le_of_ble_eq_true rfl) dX4_wouldPush_11 ?_
    refine ga_if_eq ok 21 (by decide) (b2i_rng _) dX4_wouldPush_14 (fun c_14 => ?_) (fun c_14 => ?_)
    · have f_14 := of_decide_eq_false (b2i_0.mp c_14)
      refine ga_iconst ok dX4_wouldPush_21 ?_
      refine gp_X4_39 ok hG rfl dX4_wouldPush_22 ?_
      refine ga_aload_n ok 0 rfl rfl dX4_wouldPush_25 ?_
      refine gf_X4_39 ok hG rfl dX4_wouldPush_26 ?_
      rw [upI_at]
      refine ga_if_ne ok 45 (by decide) (by omega) dX4_wouldPush_29 (fun c_29 => ?_) (fun c_29 => ?_)
      · refine ga_iconst ok dX4_wouldPush_45 ?_
        exact ga_ireturn ok en rfl (by decide) (by decide) (by decide) dX4_wouldPush_46 (by first | (exfalso; omega) | (have hk : (if isG r g = true ∧ isV r v = true then (0 : Int) else 1) = 1 := (by unfold isG isV; simp only [decide_eq_true_eq]; first | (rw [if_pos (by omega)]; done) | (rw [if_neg (by omega)]; done)); rw [hk]; exact ⟨_, rfl, fun h => absurd h (by decide), rfl⟩))
      · exact absurd c_29 (by omega)
    · have f_14 := of_decide_eq_true (b2i_n0.mp c_14)
      refine ga_iconst ok dX4_wouldPush_17 ?_
      refine ga_goto ok 22 (by decide) dX4_wouldPush_18 ?_
      refine gp_X4_39 ok hG rfl dX4_wouldPush_22 ?_
      refine ga_aload_n ok 0 rfl rfl dX4_wouldPush_25 ?_
      refine gf_X4_39 ok hG rfl dX4_wouldPush_26 ?_
      rw [upI_at]
      refine ga_if_ne ok 45 (by decide) (by omega) dX4_wouldPush_29 (fun c_29 => ?_) (fun c_29 => ?_)
      · exact absurd rfl c_29
      · refine ga_aload_n ok 0 rfl rfl dX4_wouldPush_32 ?_
        refine ga_iload_n ok 1 rfl rfl dX4_wouldPush_33 ?_
        refine ga_iload_n ok 2 rfl rfl dX4_wouldPush_34 ?_
        refine gd_X4_2 ok hG rfl lk_X4_163 rfl (c_X4_pushes ok.fl hG hs.t hT (g := g) (v := v) (by omega) (by omega)) (by rw [hR]; exact ⟨by decide, by decide, by decide, by decide⟩) (Nat.le_of_ble_eq_true rfl) dX4_wouldPush_35 ?_
        refine ga_if_eq ok 45 (by decide) (b2i_rng _) dX4_wouldPush_38 (fun c_38 => ?_) (fun c_38 => ?_)
        · have f_38 := b2i_0.mp c_38
          refine ga_iconst ok dX4_wouldPush_45 ?_
          exact ga_ireturn ok en rfl (by decide) (by decide) (by decide) dX4_wouldPush_46 (by first | (exfalso; omega) | (have hk : (if isG r g = true ∧ isV r v = true then (0 : Int) else 1) = 0 := (by unfold isG isV; simp only [decide_eq_true_eq]; first | (rw [if_pos (by omega)]; done) | (rw [if_neg (by omega)]; done)); rw [hk]; exact ⟨_, rfl, fun _ => (b2i_0.mpr f_38).symm, rfl⟩))
        · have f_38 := b2i_n0.mp c_38
          refine ga_iconst ok dX4_wouldPush_41 ?_
          refine ga_goto ok 46 (by decide) dX4_wouldPush_42 ?_
          exact ga_ireturn ok en rfl (by decide) (by decide) (by decide) dX4_wouldPush_46 (by first | (exfalso; omega) | (have hk : (if isG r g = true ∧ isV r v = true then (0 : Int) else 1) = 0 := (by unfold isG isV; simp only [decide_eq_true_eq]; first | (rw [if_pos (by omega)]; done) | (rw [if_neg (by omega)]; done)); rw [hk]; exact ⟨_, rfl, fun _ => (b2i_1.mpr f_38).symm, rfl⟩))
