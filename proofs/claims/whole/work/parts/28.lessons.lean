/-! THE MODEL: LESSONS -/
theorem tch_sh {x : Int} (hx : 0 ≤ x) (n : Nat) : (2 * x + 1) / 2 ^ (n + 1) = x / 2 ^ n := by
  obtain ⟨j, rfl⟩ : ∃ j : Nat, x = j := ⟨x.toNat, by omega⟩
  have e1 : ((2 * (j : Int) + 1) / 2 ^ (n + 1)) = (((2 * j + 1) / 2 ^ (n + 1) : Nat) : Int) := by push_cast; rfl
  have e2 : ((j : Int) / 2 ^ n) = ((j / 2 ^ n : Nat) : Int) := by push_cast; rfl
  rw [e1, e2, Nat.pow_succ', ← Nat.div_div_eq_div_mul]
  congr 2
  omega
theorem tch_hs {x b : Int} (hx : 0 ≤ x) (hb : -1 ≤ b) : tch x (b + 1).toNat = hsb x b := by
  by_cases h : b < 0
  · rw [show (b + 1).toNat = 0 by omega, tch_0]
    unfold hsb
    rw [decide_eq_true (Or.inl h)]
  · unfold tch hsb
    rw [show (b + 1).toNat = b.toNat + 1 by omega, tch_sh hx]
    exact decide_eq_decide.mpr ⟨fun e => Or.inr e, fun e => e.elim (fun q => absurd q h) id⟩
theorem gOk_rt5 {T : Int} {S : Nat → Int} (h : gOk T S) : gOk (T + 1) (rtS S 5 (S 5 + 1)) := by
  obtain ⟨h0, h1, h2, h3, h4⟩ := h
  have h5 := h2 5 (by omega) (by omega)
  exact ⟨h0, h1, fun j a b => by
    unfold rtS
    by_cases e : j = 5
    · rw [if_pos e]; omega
    · rw [if_neg e]; have := h2 j a b; omega, fun i hi => by unfold rtS; rw [if_neg (by omega)]; exact h3 i hi, fun i hi => by unfold rtS; rw [if_neg (by omega)]; exact h4 i hi⟩
theorem psS_cong {S S' : Nat → Int} {x f : Int} (h : ∀ k, k < 27 → k ≠ 5 → S' k = S k) : psS S' x f = psS S x f := by
  unfold psS
  rw [h 1 (by omega) (by omega), show mg (gcn S') x = mg (gcn S) x from mgA_cong x 10 (by omega) (fun i hi => h (6 + i) (by omega) (by omega))]
/-- the row once the first i of bias and badges have been pushed -/
def tw (r : Nat → Int) (g : Nat) (dl x i : Int) : Nat → Int := fun k => if k = 26 + 27 * g + 5 then r k + 1 else if 26 + 27 * g + 6 ≤ k ∧ (k : Int) < 26 + 27 * g + 6 + i ∧ tch x (k - (26 + 27 * g + 6)) = true then r k + dl else r k
theorem tw_c {r : Nat → Int} {g j : Nat} {dl x i : Int} (hj : j < 11) (hi : i ≤ j) : tw r g dl x i (26 + 27 * g + 6 + j) = r (26 + 27 * g + 6 + j) := by
  unfold tw
  rw [if_neg (by omega), if_neg (fun h => by omega)]
theorem tw_s {r : Nat → Int} {g j k : Nat} {dl x : Int} (hj : j < 11) : tw r g dl x (j + 1) k = if k = 26 + 27 * g + 6 + j ∧ tch x j = true then r k + dl else tw r g dl x j k := by
  unfold tw
  by_cases e : k = 26 + 27 * g + 5
  · rw [if_pos e, if_neg (by omega), if_pos e]
  · rw [if_neg e, if_neg e]
    by_cases e2 : k = 26 + 27 * g + 6 + j
    · subst e2
      rw [show 26 + 27 * g + 6 + j - (26 + 27 * g + 6) = j by omega]
      by_cases ht : tch x j = true
      · rw [if_pos ⟨by omega, by omega, ht⟩, if_pos ⟨rfl, ht⟩]
      · rw [if_neg (fun h => ht h.2.2), if_neg (fun h => ht h.2), if_neg (fun h => ht h.2.2)]
    · refine Eq.trans ?_ (if_neg (fun h => e2 h.1)).symm
      by_cases e3 : 26 + 27 * g + 6 ≤ k ∧ (k : Int) < 26 + 27 * g + 6 + j ∧ tch x (k - (26 + 27 * g + 6)) = true
      · rw [if_pos e3, if_pos ⟨e3.1, by omega, e3.2.2⟩]
      · rw [if_neg e3, if_neg (fun h => e3 ⟨h.1, by omega, h.2.2⟩)]
theorem tw_0 {r : Nat → Int} {g k : Nat} {dl x : Int} : tw r g dl x 0 k = stG r g (rtS (rg r g) 5 (rg r g 5 + 1)) k := by
  unfold tw stG rtS rg
  by_cases e : k = 26 + 27 * g + 5
  · subst e
    rw [if_pos rfl, if_pos ⟨by omega, by omega⟩, if_pos (by omega)]
  · rw [if_neg e, if_neg (fun h => by omega)]
    by_cases e2 : 26 + 27 * g ≤ k ∧ k < 53 + 27 * g
    · rw [if_pos e2, if_neg (by omega), show 26 + 27 * g + (k - (26 + 27 * g)) = k by omega]
    · rw [if_neg e2]
theorem tw_end {r : Nat → Int} {g k : Nat} {x f : Int} (hp : psS (rg r g) x f = true) : (if k = 26 + 27 * g + 3 then r k + 1 else tw r g (dlt (rg r g) f) x 11 k) = stG r g (tS (rg r g) x f) k := by
  unfold stG
  by_cases e2 : 26 + 27 * g ≤ k ∧ k < 53 + 27 * g
  · rw [if_pos e2]
    have ek : rg r g (k - (26 + 27 * g)) = r k := by unfold rg; congr 1; omega
    unfold tS tw
    by_cases e5 : k = 26 + 27 * g + 5
    · rw [if_neg (by omega), if_pos e5, if_pos (by omega), ← ek, show k - (26 + 27 * g) = 5 by omega]
    · rw [if_neg e5, if_neg (by omega : ¬ k - (26 + 27 * g) = 5), if_pos hp]
      by_cases e3 : k = 26 + 27 * g + 3
      · rw [if_pos e3, if_pos (by omega), ← ek, show k - (26 + 27 * g) = 3 by omega]
      · rw [if_neg e3, if_neg (by omega : ¬ k - (26 + 27 * g) = 3), ek, show k - (26 + 27 * g + 6) = k - (26 + 27 * g) - 6 by omega]
        by_cases e6 : 26 + 27 * g + 6 ≤ k ∧ (k : Int) < 26 + 27 * g + 6 + 11 ∧ tch x (k - (26 + 27 * g) - 6) = true
        · rw [if_pos e6, if_pos ⟨by omega, by omega, e6.2.2⟩]
        · rw [if_neg e6, if_neg (fun h => e6 ⟨by omega, by omega, h.2.2⟩)]
  · rw [if_neg e2, if_neg (by omega)]
    unfold tw
    rw [if_neg (by omega), if_neg (fun h => by omega)]
theorem tw_no {r : Nat → Int} {g k : Nat} {x f dl : Int} (hp : psS (rg r g) x f = false) : tw r g dl x 0 k = stG r g (tS (rg r g) x f) k := by
  rw [tw_0]
  unfold stG
  by_cases e2 : 26 + 27 * g ≤ k ∧ k < 53 + 27 * g
  · rw [if_pos e2, if_pos e2]
    unfold rtS tS
    by_cases e5 : k - (26 + 27 * g) = 5
    · rw [if_pos e5, if_pos e5]
    · rw [if_neg e5, if_neg e5, hp]
      rfl
  · rw [if_neg e2, if_neg e2]
theorem gcn_r {r : Nat → Int} {g j : Nat} : gcn (rg r g) j = r (26 + 27 * g + 6 + j) := congrArg r (by omega)
set_option maxHeartbeats 4000000 in
set_option maxRecDepth 100000 in
theorem c2_X4_badges {G : GG} {l : Launch} (hfl : l.stackTraces = false) (hG : MW G) {m : Mm} {r : Nat → Int} (hs : SR m r) {v : Int} (qv : 0 ≤ v ∧ v < 12) : CT G l yX4_badges cX4_badges 2 (some .int) (RM 0 0 0) [.ref 1024, vI v] m (fun r' m' => r' = some (vI (vX r v.toNat)) ∧ m' = m) (fun _ _ => False) := by
  refine CT.of RX4 [(0, .ref 1024), (1, vI v)] hfl (by decide +kernel) rfl rfl (Nat.le_of_ble_eq_true rfl) ?_
  intro E ok en hml hEl htab
  have hR : e_R E = RM 0 0 0 := en.2.2.2
  have hn0 : 0 < (e_c E).maxLocals := by rw [hml]; decide
  have hn1 : 1 < (e_c E).maxLocals := by rw [hml]; decide
  refine ga_aload_n ok 0 rfl rfl dX4_badges_0 ?_
  refine gf_X4_9 ok hG rfl dX4_badges_1 ?_
  refine ga_iconst ok dX4_badges_4 ?_
  refine ga_iconst ok dX4_badges_5 ?_
  refine ga_iload_n ok 1 rfl rfl dX4_badges_6 ?_
  refine ga_imul ok dX4_badges_7 ?_
  refine ga_iadd ok dX4_badges_8 ?_
  refine ga_iaload_ia ok (ar_ms hG rfl) (by omega) dX4_badges_9 ?_
  rw [show (2 + 2 * v).toNat = 2 + 2 * v.toNat by omega, (hs.v (v := v.toNat) (by omega)).1]
  exact ga_ireturn ok en rfl rfl (by decide) (by decide) dX4_badges_10 ⟨rfl, rfl⟩
set_option maxHeartbeats 4000000 in
set_option maxRecDepth 100000 in
theorem c2_X4_countedOf {G : GG} {l : Launch} (hfl : l.stackTraces = false) (hG : MW G) {m : Mm} {r : Nat → Int} (hs : SR m r) {g b : Int} (qg : 0 ≤ g ∧ g < 4) (hb : -1 ≤ b ∧ b < 10) : CT G l yX4_countedOf cX4_countedOf 3 (some .int) (RM 1 0 0) [.ref 1024, vI g, vI b] m (fun r' m' => r' = some (vI (r (26 + 27 * g.toNat + 6 + (b + 1).toNat))) ∧ m' = m) (fun _ _ => False) := by
  refine CT.of RX4 [(0, .ref 1024), (1, vI g), (2, vI b)] hfl (by decide +kernel) rfl rfl (Nat.le_of_ble_eq_true rfl) ?_
  intro E ok en hml hEl htab
  have hR : e_R E = RM 1 0 0 := en.2.2.2
  have hn0 : 0 < (e_c E).maxLocals := by rw [hml]; decide
  have hn1 : 1 < (e_c E).maxLocals := by rw [hml]; decide
  have hn2 : 2 < (e_c E).maxLocals := by rw [hml]; decide
  refine ga_aload_n ok 0 rfl rfl dX4_countedOf_0 ?_
  refine gf_X4_9 ok hG rfl dX4_countedOf_1 ?_
  refine ga_iload_n ok 1 rfl rfl dX4_countedOf_4 ?_
  refine ga_bipush ok dX4_countedOf_5 (by decide) ?_
  refine ga_iload_n ok 2 rfl rfl dX4_countedOf_7 ?_
  refine ga_iadd ok dX4_countedOf_8 ?_
  refine gd_S_2 ok lk_X4_73 (c_X4_at ok.fl hG (g := g) (k := 7 + b) (by omega) (by omega)) (by rw [hR]; exact ⟨by decide, by decide, by decide, by decide⟩) (Nat.le_of_ble_eq_true rfl) dX4_countedOf_9 ?_
  refine ga_iaload_ia ok (ar_ms hG rfl) (by omega) dX4_countedOf_12 ?_
  rw [show (26 + 27 * g + (7 + b)).toNat = 26 + 27 * g.toNat + 6 + (b + 1).toNat by omega, hs _ (by omega)]
  exact ga_ireturn ok en rfl rfl (by decide) (by decide) dX4_countedOf_13 ⟨rfl, rfl⟩
set_option maxHeartbeats 4000000 in
set_option maxRecDepth 100000 in
theorem c_X4_taught {G : GG} {l : Launch} (hfl : l.stackTraces = false) (hG : MW G) {m : Mm} {r : Nat → Int} {T : Int} (hs : SR m r) (hT : gtOk T r) {g : Int} (qg : 0 ≤ g ∧ g < r 0) {v : Int} (qv : 0 ≤ v ∧ v < r 1) : CT G l yX4_taught cX4_taught 6 (some .int) (RM 8 0 0) [.ref 1024, vI g, vI v] m (fun r' m' => ∃ v9, r' = some (vI v9) ∧ OF m m' ∧ (tOK (rg r g.toNat) (vX r v.toNat) (vF r v.toNat) = true → v9 = b2i (psS (rg r g.toNat) (vX r v.toNat) (vF r v.toNat)) ∧ SR m' (stG r g.toNat (tS (rg r g.toNat) (vX r v.toNat) (vF r v.toNat)))) ∧ (tOK (rg r g.toNat) (vX r v.toNat) (vF r v.toNat) = false → v9 = -1)) (fun _ _ => False) := by
  refine CT.of RX4 [(0, .ref 1024), (1, vI g), (2, vI v)] hfl (by decide +kernel) rfl rfl (Nat.le_of_ble_eq_true rfl) ?_
  intro E ok en hml hEl htab
  have hR : e_R E = RM 8 0 0 := en.2.2.2
  have hn0 : 0 < (e_c E).maxLocals := by rw [hml]; decide
  have hn1 : 1 < (e_c E).maxLocals := by rw [hml]; decide
  have hn2 : 2 < (e_c E).maxLocals := by rw [hml]; decide
  have hn3 : 3 < (e_c E).maxLocals := by rw [hml]; decide
  have hn4 : 4 < (e_c E).maxLocals := by rw [hml]; decide
  have hn5 : 5 < (e_c E).maxLocals := by rw [hml]; decide
  obtain ⟨b0, b1, hvb, hgb⟩ := id hT
  have s0 := hs 0 (by omega)
  have s1 := hs 1 (by omega)
  refine ga_aload_n ok 0 rfl rfl dX4_taught_0 ?_
  refine gf_X4_9 ok hG rfl dX4_taught_1 ?_
  refine ga_iload_n ok 1 rfl rfl dX4_taught_4 ?_
  refine ga_iconst ok dX4_taught_5 ?_
  refine gd_S_2 ok lk_X4_73 (c_X4_at ok.fl hG (g := g) (k := 5) (by omega) (by omega)) (by rw [hR]; exact ⟨by decide, by decide, by decide, by decide⟩) (Nat.le_of_ble_eq_true rfl) dX4_taught_6 ?_
  refine ga_dup2 ok dX4_taught_9 rfl rfl ?_
  refine ga_iaload_ia ok (ar_ms hG rfl) (by omega) dX4_taught_10 ?_
  refine ga_iconst ok dX4_taught_11 ?_
  refine ga_iadd ok dX4_taught_12 ?_
  refine ga_iastore_ia ok (ar_ms hG rfl) (by omega) dX4_taught_13 ?_
  obtain ⟨m1, hm1⟩ : ∃ z, z = upI m 1088 (26 + 27 * g + 5).toNat (m.1 1088 (26 + 27 * g + 5).toNat + 1) := ⟨_, rfl⟩
  rw [← hm1]
  have ho1 : OF m m1 := by rw [hm1]; exact OF.rf.uI (by omega)
  have htw : ∀ dl x k, k < 134 → m1.1 1088 k = tw r g.toNat dl x 0 k := fun dl x k hk => by
    rw [hm1, show (26 + 27 * g + 5).toNat = 26 + 27 * g.toNat + 5 by omega]
    unfold tw
    by_cases e : k = 26 + 27 * g.toNat + 5
    · subst e; rw [upI_at, if_pos rfl, hs _ (by omega)]
    · rw [upI_no (Or.inr e), if_neg e, if_neg (fun h => by omega)]; exact hs k hk
  have hs1 : SR m1 (stG r g.toNat (rtS (rg r g.toNat) 5 (rg r g.toNat 5 + 1))) := fun k hk => by rw [htw 0 0 k hk]; exact tw_0
  have hT1 : gtOk (T + 1) (stG r g.toNat (rtS (rg r g.toNat) 5 (rg r g.toNat 5 + 1))) := gtOk_stG (hT.mono (by omega)) (gOk_rt5 (hgb g.toNat (by omega)))
  have hps : psS (rg (stG r g.toNat (rtS (rg r g.toNat) 5 (rg r g.toNat 5 + 1))) g.toNat) (vX (stG r g.toNat (rtS (rg r g.toNat) 5 (rg r g.toNat 5 + 1))) v.toNat) (vF (stG r g.toNat (rtS (rg r g.toNat) 5 (rg r g.toNat 5 + 1))) v.toNat) = psS (rg r g.toNat) (vX r v.toNat) (vF r v.toNat) := by
    rw [(v_stG (by omega)).1, (v_stG (by omega)).2]
    exact psS_cong (fun k hk h5 => by rw [rg_stG hk, if_pos rfl]; unfold rtS; rw [if_neg h5])
  have hvq := hvb v.toNat (by omega)
  refine ga_aload_n ok 0 rfl rfl dX4_taught_14 ?_
  refine ga_iload_n ok 1 rfl rfl dX4_taught_15 ?_
  refine ga_iload_n ok 2 rfl rfl dX4_taught_16 ?_
  refine gd_X4_2 ok hG rfl lk_X4_163 rfl (c_X4_pushes ok.fl hG hs1 hT1 (g := g) (v := v) (by rw [lo_stG (by omega)]; exact qg) (by rw [lo_stG (by omega)]; exact qv)) (by rw [hR]; exact ⟨by decide, by decide, by decide, by decide⟩) (Nat.le_of_ble_eq_true rfl) dX4_taught_17 ?_
  rw [hps]
  refine ga_if_ne ok 25 (by decide) (b2i_rng _) dX4_taught_20 (fun c_20 => ?_) (fun c_20 => ?_)
  · have f_20 := b2i_n0.mp c_20
    refine ga_aload_n ok 0 rfl rfl dX4_taught_25 ?_
    refine ga_iload_n ok 2 rfl rfl dX4_taught_26 ?_
    refine gd_X4_1 ok hG rfl lk_X4_128 rfl (c_X4_isFriend ok.fl hG hs1 hT1 (v := v) (by rw [lo_stG (by omega)]; exact qv)) (by rw [hR]; exact ⟨by decide, by decide, by decide, by decide⟩) (Nat.le_of_ble_eq_true rfl) dX4_taught_27 ?_
    rw [show vF (stG r g.toNat (rtS (rg r g.toNat) 5 (rg r g.toNat 5 + 1))) v.toNat = vF r v.toNat from (v_stG (by omega)).2]
    refine ga_if_eq ok 46 (by decide) (b2i_rng _) dX4_taught_30 (fun c_30 => ?_) (fun c_30 => ?_)
    · have f_30 := of_decide_eq_false (b2i_0.mp c_30)
      refine ga_aload_n ok 0 rfl rfl dX4_taught_46 ?_
      refine gf_X4_9 ok hG rfl dX4_taught_47 ?_
      refine ga_iload_n ok 1 rfl rfl dX4_taught_50 ?_
      refine ga_iconst ok dX4_taught_51 ?_
      refine gd_S_2 ok lk_X4_73 (c_X4_at ok.fl hG (g := g) (k := 0) (by omega) (by omega)) (by rw [hR]; exact ⟨by decide, by decide, by decide, by decide⟩) (Nat.le_of_ble_eq_true rfl) dX4_taught_52 ?_
      refine ga_iaload_ia ok (ar_ms hG rfl) (by omega) dX4_taught_55 ?_
      rw [show (26 + 27 * g + 0).toNat = 26 + 27 * g.toNat + 0 by omega, hs1.g (by omega) (by omega), rg_stG (by omega), if_pos rfl, show rtS (rg r g.toNat) 5 (rg r g.toNat 5 + 1) 0 = rg r g.toNat 0 from rfl]
      refine ga_ineg ok dX4_taught_56 ?_
      refine ga_istore_n ok 3 rfl hn3 dX4_taught_57 ?_
      refine ga_iconst ok dX4_taught_58 ?_
      refine ga_istore ok hn4 dX4_taught_59 ?_
      have hdl : (dlt (rg r g.toNat) (vF r v.toNat)) = -(rg r g.toNat 0) := by unfold dlt; rw [if_neg f_30]
      have hc : ∀ i, i < 11 → -60000 ≤ gcn (rg r g.toNat) i ∧ gcn (rg r g.toNat) i ≤ 60000 := (hgb g.toNat (by omega)).2.2.2.1
      have hra := (hgb g.toNat (by omega)).1
      have hdb : -64 ≤ (dlt (rg r g.toNat) (vF r v.toNat)) ∧ (dlt (rg r g.toNat) (vF r v.toNat)) ≤ 64 := by rw [hdl]; omega
      have loop : ∀ (b : Int) (M : Mm), (-1 ≤ b ∧ b ≤ 10 ∧ OF m M ∧ (∀ k, k < 134 → M.1 1088 k = tw r g.toNat (dlt (rg r g.toNat) (vF r v.toNat)) (vX r v.toNat) (b + 1) k) ∧ (∀ j : Nat, (j : Int) < b + 1 → j < 11 → tch (vX r v.toNat) j = true → -60000 ≤ gcn (rg r g.toNat) j + (dlt (rg r g.toNat) (vF r v.toNat)) ∧ gcn (rg r g.toNat) j + (dlt (rg r g.toNat) (vF r v.toNat)) ≤ 60000)) → WA G E 0 0 61 [(4, vI b), (3, vI (dlt (rg r g.toNat) (vF r v.toNat))), (0, .ref 1024), (1, vI g), (2, vI v)] [] M := by
        refine wl2 _ (fun b _ => (11 - b).toNat) _ ?_
        intro b M hi ih
        obtain ⟨b9, b8, ho, hall, hrk⟩ := hi
        have hM : SR M (tw r g.toNat (dlt (rg r g.toNat) (vF r v.toNat)) (vX r v.toNat) (b + 1)) := hall
        have hvx : vX (tw r g.toNat (dlt (rg r g.toNat) (vF r v.toNat)) (vX r v.toNat) (b + 1)) v.toNat = vX r v.toNat := by unfold vX tw; rw [if_neg (by omega), if_neg (fun h => by omega)]
        refine ga_iload ok rfl dX4_taught_61 ?_
        refine ga_bipush ok dX4_taught_63 (by decide) ?_
        refine ga_icmp_ge ok 126 (by decide) (by omega) (by omega) dX4_taught_65 (fun c_65 => ?_) (fun c_65 => ?_)
        · refine ga_aload_n ok 0 rfl rfl dX4_taught_126 ?_
          refine gf_X4_9 ok hG rfl dX4_taught_127 ?_
          refine ga_iload_n ok 1 rfl rfl dX4_taught_130 ?_
          refine ga_iconst ok dX4_taught_131 ?_
          refine gd_S_2 ok lk_X4_73 (c_X4_at ok.fl hG (g := g) (k := 3) (by omega) (by omega)) (by rw [hR]; exact ⟨by decide, by decide, by decide, by decide⟩) (Nat.le_of_ble_eq_true rfl) dX4_taught_132 ?_
          refine ga_dup2 ok dX4_taught_135 rfl rfl ?_
          refine ga_iaload_ia ok (ar_ms hG rfl) (by omega) dX4_taught_136 ?_
          refine ga_iconst ok dX4_taught_137 ?_
          refine ga_iadd ok dX4_taught_138 ?_
          refine ga_iastore_ia ok (ar_ms hG rfl) (by omega) dX4_taught_139 ?_
          refine ga_iconst ok dX4_taught_140 ?_
          exact ga_ireturn ok en rfl rfl (by decide) (by decide) dX4_taught_141 ⟨_, rfl, ho.uI (by omega), fun _ => ⟨by rw [f_20]; rfl, fun k hk => by
          rw [show (26 + 27 * g + 3).toNat = 26 + 27 * g.toNat + 3 by omega, ← tw_end f_20]
          by_cases e : k = 26 + 27 * g.toNat + 3
          · subst e
            rw [upI_at, if_pos rfl, hall _ (by omega)]
            unfold tw
            rw [if_neg (by omega), if_neg (fun h => by omega)]
          · rw [upI_no (Or.inr e), if_neg e, hall k hk, show b + 1 = 11 by omega]⟩, fun h => by
          unfold tOK at h
          rw [f_20, Bool.not_true, Bool.false_or] at h
          rw [rok_t.mpr (fun i hi ht => hrk i (by omega) hi ht)] at h
          exact absurd h (by decide)⟩
        · refine ga_aload_n ok 0 rfl rfl dX4_taught_68 ?_
          refine ga_iload_n ok 2 rfl rfl dX4_taught_69 ?_
          refine gd_X4_1 ok hG rfl lk_X4_97 rfl (c2_X4_badges ok.fl hG hM (v := v) (by omega)) (by rw [hR]; exact ⟨by decide, by decide, by decide, by decide⟩) (Nat.le_of_ble_eq_true rfl) dX4_taught_70 ?_
          rw [hvx]
          refine ga_iload ok rfl dX4_taught_73 ?_
          refine gd_S_2 ok lk_X4_118 (c_X4_has ok.fl hG (x := vX r v.toNat) (b := b) (by omega) (by omega)) (by rw [hR]; exact ⟨by decide, by decide, by decide, by decide⟩) (Nat.le_of_ble_eq_true rfl) dX4_taught_75 ?_
          rw [← tch_hs (x := vX r v.toNat) (by omega) (by omega)]
          refine ga_if_eq ok 120 (by decide) (b2i_rng _) dX4_taught_78 (fun c_78 => ?_) (fun c_78 => ?_)
          · have f_78 := b2i_0.mp c_78
            refine ga_iinc ok rfl hn4 dX4_taught_120 ?_
            refine ga_goto ok 61 (by decide) dX4_taught_123 ?_
            exact WA.re (by exact ⟨rfl, rfl, rfl, rfl, rfl, trivial⟩) (ih (b + 1) M ⟨by omega, by omega, ho, fun k hk => by
              have e := tw_s (r := r) (g := g.toNat) (j := (b + 1).toNat) (k := k) (dl := (dlt (rg r g.toNat) (vF r v.toNat))) (x := vX r v.toNat) (by omega)
              rw [show (((b + 1).toNat : Nat) : Int) = b + 1 by omega] at e
              rw [e, if_neg (fun h => by rw [f_78] at h; exact Bool.false_ne_true h.2)]
              exact hall k hk, fun j hj hj2 ht => by
              by_cases ej : j = (b + 1).toNat
              · subst ej; rw [f_78] at ht; exact absurd ht Bool.false_ne_true
              · exact hrk j (by omega) hj2 ht⟩ (by omega))
          · have f_78 := b2i_n0.mp c_78
            refine ga_aload_n ok 0 rfl rfl dX4_taught_81 ?_
            refine ga_iload_n ok 1 rfl rfl dX4_taught_82 ?_
            refine ga_iload ok rfl dX4_taught_83 ?_
            refine gd_X4_2 ok hG rfl lk_X4_110 rfl (c2_X4_countedOf ok.fl hG hM (g := g) (b := b) (by omega) (by omega)) (by rw [hR]; exact ⟨by decide, by decide, by decide, by decide⟩) (Nat.le_of_ble_eq_true rfl) dX4_taught_85 ?_
            rw [tw_c (j := (b + 1).toNat) (by omega) (by omega)]
            have hcb : -60000 ≤ r (26 + 27 * g.toNat + 6 + (b + 1).toNat) ∧ r (26 + 27 * g.toNat + 6 + (b + 1).toNat) ≤ 60000 := by have h9 := hc (b + 1).toNat (by omega); rw [gcn_r] at h9; exact h9
            refine ga_iload_n ok 3 rfl rfl dX4_taught_88 ?_
            refine ga_iadd ok dX4_taught_89 ?_
            refine ga_istore ok hn5 dX4_taught_90 ?_
            refine ga_aload_n ok 0 rfl rfl dX4_taught_92 ?_
            refine gf_X4_9 ok hG rfl dX4_taught_93 ?_
            refine ga_iload_n ok 1 rfl rfl dX4_taught_96 ?_
            refine ga_bipush ok dX4_taught_97 (by decide) ?_
            refine ga_iload ok rfl dX4_taught_99 ?_
            refine ga_iadd ok dX4_taught_101 ?_
            refine gd_S_2 ok lk_X4_73 (c_X4_at ok.fl hG (g := g) (k := 7 + b) (by omega) (by omega)) (by rw [hR]; exact ⟨by decide, by decide, by decide, by decide⟩) (Nat.le_of_ble_eq_true rfl) dX4_taught_102 ?_
            refine ga_iload ok rfl dX4_taught_105 ?_
            refine ga_iastore_ia ok (ar_ms hG rfl) (by omega) dX4_taught_107 ?_
            refine ga_iload ok rfl dX4_taught_108 ?_
            refine ga_mabs ok lj_X4_166 (by omega) (by rw [hR]; exact (by decide)) (by rw [hR]; exact Nat.le_of_ble_eq_true rfl) (by rw [hR]; exact Nat.le_of_ble_eq_true rfl) (by rw [hR]; exact Nat.le_of_ble_eq_true rfl) dX4_taught_110 ?_
            refine ga_ldc (z := 60000) ok dX4_taught_113 (tb_in 1502 (by decide +kernel) (by decide +kernel)) ?_
            refine ga_icmp_le ok 120 (by decide) (by split <;> omega) (by omega) dX4_taught_115 (fun c_115 => ?_) (fun c_115 => ?_)
            · refine ga_iinc ok rfl hn4 dX4_taught_120 ?_
              refine ga_goto ok 61 (by decide) dX4_taught_123 ?_
              exact WA.re (by exact ⟨rfl, rfl, rfl, rfl, rfl, trivial⟩) (ih (b + 1) _ ⟨by omega, by omega, ho.uI (by omega), fun k hk => by
                have e := tw_s (r := r) (g := g.toNat) (j := (b + 1).toNat) (k := k) (dl := (dlt (rg r g.toNat) (vF r v.toNat))) (x := vX r v.toNat) (by omega)
                rw [show (((b + 1).toNat : Nat) : Int) = b + 1 by omega] at e
                rw [e, show (26 + 27 * g + (7 + b)).toNat = 26 + 27 * g.toNat + 6 + (b + 1).toNat by omega]
                by_cases ek : k = 26 + 27 * g.toNat + 6 + (b + 1).toNat
                · subst ek; rw [upI_at, if_pos ⟨rfl, f_78⟩]
                · rw [upI_no (Or.inr ek), if_neg (fun h => ek h.1)]; exact hall k hk, fun j hj hj2 ht => by
                by_cases ej : j = (b + 1).toNat
                · subst ej
                  rw [gcn_r]
                  split at c_115 <;> omega
                · exact hrk j (by omega) hj2 ht⟩ (by omega))
            · refine ga_iconst ok dX4_taught_118 ?_
              exact ga_ireturn ok en rfl rfl (by decide) (by decide) dX4_taught_119 (by
        have hbad : ¬ (-60000 ≤ r (26 + 27 * g.toNat + 6 + (b + 1).toNat) + (dlt (rg r g.toNat) (vF r v.toNat)) ∧ r (26 + 27 * g.toNat + 6 + (b + 1).toNat) + (dlt (rg r g.toNat) (vF r v.toNat)) ≤ 60000) := by
          intro h9
          split at c_115 <;> omega
        refine ⟨_, rfl, ho.uI (by omega), fun h => ?_, fun _ => rfl⟩
        unfold tOK at h
        rw [f_20, Bool.not_true, Bool.false_or] at h
        have hb9 := rok_t.mp h (b + 1).toNat (by omega) f_78
        rw [gcn_r] at hb9
        exact absurd hb9 hbad)
      exact WA.re (by exact ⟨rfl, (by rw [hdl]; rfl), rfl, rfl, rfl, trivial⟩) (loop (-1) m1 ⟨by omega, by omega, ho1, fun k hk => by rw [show (-1 : Int) + 1 = 0 by decide]; exact htw _ _ k hk, fun j hj => by omega⟩)
    · have f_30 := of_decide_eq_true (b2i_n0.mp c_30)
      refine ga_aload_n ok 0 rfl rfl dX4_taught_33 ?_
      refine gf_X4_9 ok hG rfl dX4_taught_34 ?_
      refine ga_iload_n ok 1 rfl rfl dX4_taught_37 ?_
      refine ga_iconst ok dX4_taught_38 ?_
      refine gd_S_2 ok lk_X4_73 (c_X4_at ok.fl hG (g := g) (k := 0) (by omega) (by omega)) (by rw [hR]; exact ⟨by decide, by decide, by decide, by decide⟩) (Nat.le_of_ble_eq_true rfl) dX4_taught_39 ?_
      refine ga_iaload_ia ok (ar_ms hG rfl) (by omega) dX4_taught_42 ?_
      rw [show (26 + 27 * g + 0).toNat = 26 + 27 * g.toNat + 0 by omega, hs1.g (by omega) (by omega), rg_stG (by omega), if_pos rfl, show rtS (rg r g.toNat) 5 (rg r g.toNat 5 + 1) 0 = rg r g.toNat 0 from rfl]
      refine ga_goto ok 57 (by decide) dX4_taught_43 ?_
      refine ga_istore_n ok 3 rfl hn3 dX4_taught_57 ?_
      refine ga_iconst ok dX4_taught_58 ?_
      refine ga_istore ok hn4 dX4_taught_59 ?_
      have hdl : (dlt (rg r g.toNat) (vF r v.toNat)) = rg r g.toNat 0 := by unfold dlt; rw [if_pos f_30]
      have hc : ∀ i, i < 11 → -60000 ≤ gcn (rg r g.toNat) i ∧ gcn (rg r g.toNat) i ≤ 60000 := (hgb g.toNat (by omega)).2.2.2.1
      have hra := (hgb g.toNat (by omega)).1
      have hdb : -64 ≤ (dlt (rg r g.toNat) (vF r v.toNat)) ∧ (dlt (rg r g.toNat) (vF r v.toNat)) ≤ 64 := by rw [hdl]; omega
      have loop : ∀ (b : Int) (M : Mm), (-1 ≤ b ∧ b ≤ 10 ∧ OF m M ∧ (∀ k, k < 134 → M.1 1088 k = tw r g.toNat (dlt (rg r g.toNat) (vF r v.toNat)) (vX r v.toNat) (b + 1) k) ∧ (∀ j : Nat, (j : Int) < b + 1 → j < 11 → tch (vX r v.toNat) j = true → -60000 ≤ gcn (rg r g.toNat) j + (dlt (rg r g.toNat) (vF r v.toNat)) ∧ gcn (rg r g.toNat) j + (dlt (rg r g.toNat) (vF r v.toNat)) ≤ 60000)) → WA G E 0 0 61 [(4, vI b), (3, vI (dlt (rg r g.toNat) (vF r v.toNat))), (0, .ref 1024), (1, vI g), (2, vI v)] [] M := by
        refine wl2 _ (fun b _ => (11 - b).toNat) _ ?_
        intro b M hi ih
        obtain ⟨b9, b8, ho, hall, hrk⟩ := hi
        have hM : SR M (tw r g.toNat (dlt (rg r g.toNat) (vF r v.toNat)) (vX r v.toNat) (b + 1)) := hall
        have hvx : vX (tw r g.toNat (dlt (rg r g.toNat) (vF r v.toNat)) (vX r v.toNat) (b + 1)) v.toNat = vX r v.toNat := by unfold vX tw; rw [if_neg (by omega), if_neg (fun h => by omega)]
        refine ga_iload ok rfl dX4_taught_61 ?_
        refine ga_bipush ok dX4_taught_63 (by decide) ?_
        refine ga_icmp_ge ok 126 (by decide) (by omega) (by omega) dX4_taught_65 (fun c_65 => ?_) (fun c_65 => ?_)
        · refine ga_aload_n ok 0 rfl rfl dX4_taught_126 ?_
          refine gf_X4_9 ok hG rfl dX4_taught_127 ?_
          refine ga_iload_n ok 1 rfl rfl dX4_taught_130 ?_
          refine ga_iconst ok dX4_taught_131 ?_
          refine gd_S_2 ok lk_X4_73 (c_X4_at ok.fl hG (g := g) (k := 3) (by omega) (by omega)) (by rw [hR]; exact ⟨by decide, by decide, by decide, by decide⟩) (Nat.le_of_ble_eq_true rfl) dX4_taught_132 ?_
          refine ga_dup2 ok dX4_taught_135 rfl rfl ?_
          refine ga_iaload_ia ok (ar_ms hG rfl) (by omega) dX4_taught_136 ?_
          refine ga_iconst ok dX4_taught_137 ?_
          refine ga_iadd ok dX4_taught_138 ?_
          refine ga_iastore_ia ok (ar_ms hG rfl) (by omega) dX4_taught_139 ?_
          refine ga_iconst ok dX4_taught_140 ?_
          exact ga_ireturn ok en rfl rfl (by decide) (by decide) dX4_taught_141 ⟨_, rfl, ho.uI (by omega), fun _ => ⟨by rw [f_20]; rfl, fun k hk => by
          rw [show (26 + 27 * g + 3).toNat = 26 + 27 * g.toNat + 3 by omega, ← tw_end f_20]
          by_cases e : k = 26 + 27 * g.toNat + 3
          · subst e
            rw [upI_at, if_pos rfl, hall _ (by omega)]
            unfold tw
            rw [if_neg (by omega), if_neg (fun h => by omega)]
          · rw [upI_no (Or.inr e), if_neg e, hall k hk, show b + 1 = 11 by omega]⟩, fun h => by
          unfold tOK at h
          rw [f_20, Bool.not_true, Bool.false_or] at h
          rw [rok_t.mpr (fun i hi ht => hrk i (by omega) hi ht)] at h
          exact absurd h (by decide)⟩
        · refine ga_aload_n ok 0 rfl rfl dX4_taught_68 ?_
          refine ga_iload_n ok 2 rfl rfl dX4_taught_69 ?_
          refine gd_X4_1 ok hG rfl lk_X4_97 rfl (c2_X4_badges ok.fl hG hM (v := v) (by omega)) (by rw [hR]; exact ⟨by decide, by decide, by decide, by decide⟩) (Nat.le_of_ble_eq_true rfl) dX4_taught_70 ?_
          rw [hvx]
          refine ga_iload ok rfl dX4_taught_73 ?_
          refine gd_S_2 ok lk_X4_118 (c_X4_has ok.fl hG (x := vX r v.toNat) (b := b) (by omega) (by omega)) (by rw [hR]; exact ⟨by decide, by decide, by decide, by decide⟩) (Nat.le_of_ble_eq_true rfl) dX4_taught_75 ?_
          rw [← tch_hs (x := vX r v.toNat) (by omega) (by omega)]
          refine ga_if_eq ok 120 (by decide) (b2i_rng _) dX4_taught_78 (fun c_78 => ?_) (fun c_78 => ?_)
          · have f_78 := b2i_0.mp c_78
            refine ga_iinc ok rfl hn4 dX4_taught_120 ?_
            refine ga_goto ok 61 (by decide) dX4_taught_123 ?_
            exact WA.re (by exact ⟨rfl, rfl, rfl, rfl, rfl, trivial⟩) (ih (b + 1) M ⟨by omega, by omega, ho, fun k hk => by
              have e := tw_s (r := r) (g := g.toNat) (j := (b + 1).toNat) (k := k) (dl := (dlt (rg r g.toNat) (vF r v.toNat))) (x := vX r v.toNat) (by omega)
              rw [show (((b + 1).toNat : Nat) : Int) = b + 1 by omega] at e
              rw [e, if_neg (fun h => by rw [f_78] at h; exact Bool.false_ne_true h.2)]
              exact hall k hk, fun j hj hj2 ht => by
              by_cases ej : j = (b + 1).toNat
              · subst ej; rw [f_78] at ht; exact absurd ht Bool.false_ne_true
              · exact hrk j (by omega) hj2 ht⟩ (by omega))
          · have f_78 := b2i_n0.mp c_78
            refine ga_aload_n ok 0 rfl rfl dX4_taught_81 ?_
            refine ga_iload_n ok 1 rfl rfl dX4_taught_82 ?_
            refine ga_iload ok rfl dX4_taught_83 ?_
            refine gd_X4_2 ok hG rfl lk_X4_110 rfl (c2_X4_countedOf ok.fl hG hM (g := g) (b := b) (by omega) (by omega)) (by rw [hR]; exact ⟨by decide, by decide, by decide, by decide⟩) (Nat.le_of_ble_eq_true rfl) dX4_taught_85 ?_
            rw [tw_c (j := (b + 1).toNat) (by omega) (by omega)]
            have hcb : -60000 ≤ r (26 + 27 * g.toNat + 6 + (b + 1).toNat) ∧ r (26 + 27 * g.toNat + 6 + (b + 1).toNat) ≤ 60000 := by have h9 := hc (b + 1).toNat (by omega); rw [gcn_r] at h9; exact h9
            refine ga_iload_n ok 3 rfl rfl dX4_taught_88 ?_
            refine ga_iadd ok dX4_taught_89 ?_
            refine ga_istore ok hn5 dX4_taught_90 ?_
            refine ga_aload_n ok 0 rfl rfl dX4_taught_92 ?_
            refine gf_X4_9 ok hG rfl dX4_taught_93 ?_
            refine ga_iload_n ok 1 rfl rfl dX4_taught_96 ?_
            refine ga_bipush ok dX4_taught_97 (by decide) ?_
            refine ga_iload ok rfl dX4_taught_99 ?_
            refine ga_iadd ok dX4_taught_101 ?_
            refine gd_S_2 ok lk_X4_73 (c_X4_at ok.fl hG (g := g) (k := 7 + b) (by omega) (by omega)) (by rw [hR]; exact ⟨by decide, by decide, by decide, by decide⟩) (Nat.le_of_ble_eq_true rfl) dX4_taught_102 ?_
            refine ga_iload ok rfl dX4_taught_105 ?_
            refine ga_iastore_ia ok (ar_ms hG rfl) (by omega) dX4_taught_107 ?_
            refine ga_iload ok rfl dX4_taught_108 ?_
            refine ga_mabs ok lj_X4_166 (by omega) (by rw [hR]; exact (by decide)) (by rw [hR]; exact Nat.le_of_ble_eq_true rfl) (by rw [hR]; exact Nat.le_of_ble_eq_true rfl) (by rw [hR]; exact Nat.le_of_ble_eq_true rfl) dX4_taught_110 ?_
            refine ga_ldc (z := 60000) ok dX4_taught_113 (tb_in 1502 (by decide +kernel) (by decide +kernel)) ?_
            refine ga_icmp_le ok 120 (by decide) (by split <;> omega) (by omega) dX4_taught_115 (fun c_115 => ?_) (fun c_115 => ?_)
            · refine ga_iinc ok rfl hn4 dX4_taught_120 ?_
              refine ga_goto ok 61 (by decide) dX4_taught_123 ?_
              exact WA.re (by exact ⟨rfl, rfl, rfl, rfl, rfl, trivial⟩) (ih (b + 1) _ ⟨by omega, by omega, ho.uI (by omega), fun k hk => by
                have e := tw_s (r := r) (g := g.toNat) (j := (b + 1).toNat) (k := k) (dl := (dlt (rg r g.toNat) (vF r v.toNat))) (x := vX r v.toNat) (by omega)
                rw [show (((b + 1).toNat : Nat) : Int) = b + 1 by omega] at e
                rw [e, show (26 + 27 * g + (7 + b)).toNat = 26 + 27 * g.toNat + 6 + (b + 1).toNat by omega]
                by_cases ek : k = 26 + 27 * g.toNat + 6 + (b + 1).toNat
                · subst ek; rw [upI_at, if_pos ⟨rfl, f_78⟩]
                · rw [upI_no (Or.inr ek), if_neg (fun h => ek h.1)]; exact hall k hk, fun j hj hj2 ht => by
                by_cases ej : j = (b + 1).toNat
                · subst ej
                  rw [gcn_r]
                  split at c_115 <;> omega
                · exact hrk j (by omega) hj2 ht⟩ (by omega))
            · refine ga_iconst ok dX4_taught_118 ?_
              exact ga_ireturn ok en rfl rfl (by decide) (by decide) dX4_taught_119 (by
        have hbad : ¬ (-60000 ≤ r (26 + 27 * g.toNat + 6 + (b + 1).toNat) + (dlt (rg r g.toNat) (vF r v.toNat)) ∧ r (26 + 27 * g.toNat + 6 + (b + 1).toNat) + (dlt (rg r g.toNat) (vF r v.toNat)) ≤ 60000) := by
          intro h9
          split at c_115 <;> omega
        refine ⟨_, rfl, ho.uI (by omega), fun h => ?_, fun _ => rfl⟩
        unfold tOK at h
        rw [f_20, Bool.not_true, Bool.false_or] at h
        have hb9 := rok_t.mp h (b + 1).toNat (by omega) f_78
        rw [gcn_r] at hb9
        exact absurd hb9 hbad)
      exact WA.re (by exact ⟨rfl, (by rw [hdl]; rfl), rfl, rfl, rfl, trivial⟩) (loop (-1) m1 ⟨by omega, by omega, ho1, fun k hk => by rw [show (-1 : Int) + 1 = 0 by decide]; exact htw _ _ k hk, fun j hj => by omega⟩)
  · have f_20 := b2i_0.mp c_20
    refine ga_iconst ok dX4_taught_23 ?_
    exact ga_ireturn ok en rfl rfl (by decide) (by decide) dX4_taught_24 ⟨_, rfl, ho1, fun _ => ⟨by rw [f_20]; rfl, fun k hk => by rw [htw 0 (vX r v.toNat) k hk]; exact tw_no f_20⟩, fun h => by unfold tOK at h; rw [f_20, Bool.not_false, Bool.true_or] at h; exact absurd h.symm Bool.false_ne_true⟩
