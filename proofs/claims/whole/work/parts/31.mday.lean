/-! THE MODEL: A DAY -/
theorem gcn_cong {S S' : Nat → Int} (h : ∀ k, k < 27 → S' k = S k) : ∀ i, i < 11 → gcn S' i = gcn S i := fun i hi => h (6 + i) (by omega)
theorem psS_cg {S S' : Nat → Int} {x f : Int} (h : ∀ k, k < 27 → S' k = S k) : psS S' x f = psS S x f := psS_cong (fun k hk _ => h k hk)
theorem dlt_cg {S S' : Nat → Int} {f : Int} (h : ∀ k, k < 27 → S' k = S k) : dlt S' f = dlt S f := by unfold dlt; rw [h 0 (by omega)]
theorem tOK_cg {S S' : Nat → Int} {x f : Int} (h : ∀ k, k < 27 → S' k = S k) : tOK S' x f = tOK S x f := by
  unfold tOK
  rw [psS_cg h, dlt_cg h, rok_cong (gcn_cong h)]
theorem tS_cg {S S' : Nat → Int} {x f : Int} (h : ∀ k, k < 27 → S' k = S k) : ∀ j, j < 27 → tS S' x f j = tS S x f j := fun j hj => by
  unfold tS
  rw [psS_cg h, dlt_cg h, h 5 (by omega), h 3 (by omega), h j hj]
theorem rgst {r S : Nat → Int} {g : Nat} : ∀ k, k < 27 → rg (stG r g S) g k = S k := fun k hk => by rw [rg_stG hk, if_pos rfl]
theorem stst {r S S' : Nat → Int} {g : Nat} (h : ∀ j, j < 27 → S j = S' j) (k : Nat) {W : Nat → Int} : stG (stG r g W) g S k = stG r g S' k := by
  unfold stG
  by_cases e : 26 + 27 * g ≤ k ∧ k < 53 + 27 * g
  · rw [if_pos e, if_pos e, h _ (by omega)]
  · rw [if_neg e, if_neg e, if_neg e]
/-- the sums of the first i badges have been reckoned -/
def sw (L : Nat → Int) (i : Int) : Nat → Int := fun j => if 17 ≤ j ∧ (j : Int) < 17 + i then fword (FP.fadd (fbits (L j)) (fq (L (j - 10)))) else L j
theorem sw_s {L : Nat → Int} {i j : Nat} : sw L ((i : Int) + 1) j = if j = 17 + i then fword (FP.fadd (fbits (L j)) (fq (L (j - 10)))) else sw L i j := by
  unfold sw
  by_cases e : j = 17 + i
  · rw [if_pos e, if_pos ⟨by omega, by omega⟩]
  · rw [if_neg e]
    by_cases e2 : 17 ≤ j ∧ (j : Int) < 17 + i
    · rw [if_pos e2, if_pos ⟨e2.1, by omega⟩]
    · rw [if_neg e2, if_neg (fun h => e2 ⟨h.1, by omega⟩)]
theorem sw_0 {L : Nat → Int} {j : Nat} : sw L 0 j = L j := by unfold sw; rw [if_neg (fun h => by omega)]
theorem sw_at {L : Nat → Int} {i j : Nat} (h : j < 17 ∨ 17 + i ≤ j) : sw L i j = L j := by unfold sw; rw [if_neg (fun h => by omega)]
theorem eS_sw {L : Nat → Int} {p : Int} {j : Nat} (hj : j < 27) : eS L p j = if j = 2 then L 2 + 1 else if j = 4 then p else sw L 10 j := by
  unfold eS sw
  by_cases h2 : j = 2
  · rw [if_pos h2, if_pos h2]
  · rw [if_neg h2, if_neg h2]
    by_cases h4 : j = 4
    · rw [if_pos h4, if_pos h4]
    · rw [if_neg h4, if_neg h4]
      by_cases h : 17 ≤ j ∧ j < 27
      · rw [if_pos h, if_pos ⟨h.1, by omega⟩]
      · rw [if_neg h, if_neg (fun q => h ⟨q.1, hj⟩)]
theorem stG_at {r S : Nat → Int} {g k : Nat} (hk : k < 27) : stG r g S (26 + 27 * g + k) = S k := by
  unfold stG
  rw [if_pos ⟨by omega, by omega⟩]
  congr 1
  omega
set_option maxHeartbeats 4000000 in
set_option maxRecDepth 100000 in
theorem c2_X4_weight {G : GG} {l : Launch} (hfl : l.stackTraces = false) (hG : MW G) {m : Mm} {r : Nat → Int} (hs : SR m r) {g b : Int} (qg : 0 ≤ g ∧ g < 4) (hb : -1 ≤ b ∧ b < 10) (hc : -60000 ≤ (r (26 + 27 * g.toNat + 6 + (b + 1).toNat)) ∧ (r (26 + 27 * g.toNat + 6 + (b + 1).toNat)) ≤ 60000) : CT G l yX4_weight cX4_weight 3 (some .float) (RM 2 0 0) [.ref 1024, vI g, vI b] m (fun r' m' => r' = some (.float (fq (r (26 + 27 * g.toNat + 6 + (b + 1).toNat)))) ∧ m' = m) (fun _ _ => False) := by
  refine CT.of RX4 [(0, .ref 1024), (1, vI g), (2, vI b)] hfl (by decide +kernel) rfl rfl (Nat.le_of_ble_eq_true rfl) ?_
  intro E ok en hml hEl htab
  have hR : e_R E = RM 2 0 0 := en.2.2.2
  have hn0 : 0 < (e_c E).maxLocals := by rw [hml]; decide
  have hn1 : 1 < (e_c E).maxLocals := by rw [hml]; decide
  have hn2 : 2 < (e_c E).maxLocals := by rw [hml]; decide
  refine ga_aload_n ok 0 rfl rfl dX4_weight_0 ?_
  refine ga_iload_n ok 1 rfl rfl dX4_weight_1 ?_
  refine ga_iload_n ok 2 rfl rfl dX4_weight_2 ?_
  refine gd_X4_2 ok hG rfl lk_X4_110 rfl (c2_X4_countedOf ok.fl hG hs qg hb) (by rw [hR]; exact ⟨by decide, by decide, by decide, by decide⟩) (Nat.le_of_ble_eq_true rfl) dX4_weight_3 ?_
  refine ga_i2f ok dX4_weight_6 ?_
  refine ga_ldcf (z := 1115684864) ok dX4_weight_7 (tb_in 1417 (by decide +kernel) (by decide +kernel)) ?_
  have he : FP.fdiv (FP.i2f (Int32.ofInt (r (26 + 27 * g.toNat + 6 + (b + 1).toNat)))) 1115684864 = fq (r (26 + 27 * g.toNat + 6 + (b + 1).toNat)) := rfl
  refine ga_fdiv ok dX4_weight_9 (by rw [he]; exact fq_n32 (by omega)) ?_
  exact ga_freturn ok en rfl (by decide) (by decide) dX4_weight_10 ⟨rfl, rfl⟩
set_option maxHeartbeats 4000000 in
set_option maxRecDepth 100000 in
theorem c_X4_goesBy {G : GG} {l : Launch} (hfl : l.stackTraces = false) (hG : MW G) {m : Mm} {r : Nat → Int} {T : Int} (hs : SR m r) (hT : gtOk T r) {g : Int} (qg : 0 ≤ g ∧ g < r 0) : CT G l yX4_goesBy cX4_goesBy 5 (some .int) (RM 10 0 0) [.ref 1024, vI g] m (fun r' m' => ∃ v9, r' = some (vI v9) ∧ OF m m' ∧ ((lpOK (rg r g.toNat) (vX r) (vF r) (r 1).toNat) = true → v9 = (lpC (rg r g.toNat) (vX r) (vF r) (r 1).toNat) ∧ SR m' (stG r g.toNat (dS (rg r g.toNat) (vX r) (vF r) (r 1).toNat))) ∧ ((lpOK (rg r g.toNat) (vX r) (vF r) (r 1).toNat) = false → v9 = -1)) (fun _ _ => False) := by
  refine CT.of RX4 [(0, .ref 1024), (1, vI g)] hfl (by decide +kernel) rfl rfl (Nat.le_of_ble_eq_true rfl) ?_
  intro E ok en hml hEl htab
  have hR : e_R E = RM 10 0 0 := en.2.2.2
  have hn0 : 0 < (e_c E).maxLocals := by rw [hml]; decide
  have hn1 : 1 < (e_c E).maxLocals := by rw [hml]; decide
  have hn2 : 2 < (e_c E).maxLocals := by rw [hml]; decide
  have hn3 : 3 < (e_c E).maxLocals := by rw [hml]; decide
  have hn4 : 4 < (e_c E).maxLocals := by rw [hml]; decide
  obtain ⟨b0, b1, hvb, hgb⟩ := id hT
  have s0 := hs 0 (by omega)
  have s1 := hs 1 (by omega)
  refine ga_iconst ok dX4_goesBy_0 ?_
  refine ga_istore_n ok 2 rfl hn2 dX4_goesBy_1 ?_
  refine ga_iconst ok dX4_goesBy_2 ?_
  refine ga_istore_n ok 3 rfl hn3 dX4_goesBy_3 ?_
  have loop : ∀ (v : Int) (p : Int) (M : Mm), (0 ≤ v ∧ v ≤ r 1 ∧ OF m M ∧ (lpOK (rg r g.toNat) (vX r) (vF r) v.toNat) = true ∧ p = (lpC (rg r g.toNat) (vX r) (vF r) v.toNat) ∧ SR M (stG r g.toNat (lpS (rg r g.toNat) (vX r) (vF r) v.toNat))) → WA G E 0 0 4 [(3, vI v), (2, vI p), (0, .ref 1024), (1, vI g)] [] M := by
    refine wl3 _ (fun v _ _ => (r 1 - v).toNat) _ ?_
    intro v p M hi ih
    obtain ⟨v0, v1, ho, hok, hp, hM⟩ := hi
    refine ga_iload_n ok 3 rfl rfl dX4_goesBy_4 ?_
    refine ga_aload_n ok 0 rfl rfl dX4_goesBy_5 ?_
    refine gf_X4_9 ok hG rfl dX4_goesBy_6 ?_
    refine ga_iconst ok dX4_goesBy_9 ?_
    refine ga_iaload_ia ok (ar_ms hG rfl) (by omega) dX4_goesBy_10 ?_
    rw [show (M.1 1088 (1 : Int).toNat) = r 1 from (hM 1 (by omega)).trans (lo_stG (by omega))]
    refine ga_icmp_ge ok 40 (by decide) (by omega) (by omega) dX4_goesBy_11 (fun c_11 => ?_) (fun c_11 => ?_)
    · refine ga_iconst ok dX4_goesBy_40 ?_
      refine ga_istore_n ok 3 rfl hn3 dX4_goesBy_41 ?_
      have hvr : v = r 1 := by omega
      subst hvr
      have hLO : gOk (T + 12) (lpS (rg r g.toNat) (vX r) (vF r) (r 1).toNat) := (gOk_lp (hgb g.toNat (by omega)) (r 1).toNat hok).mono (by omega)
      have inner : ∀ (i : Int) (M : Mm), (0 ≤ i ∧ i ≤ 10 ∧ OF m M ∧ SR M (stG r g.toNat (sw (lpS (rg r g.toNat) (vX r) (vF r) (r 1).toNat) i))) → WA G E 0 0 42 [(3, vI i), (2, vI p), (0, .ref 1024), (1, vI g)] [] M := by
        refine wl2 _ (fun i _ => (10 - i).toNat) _ ?_
        intro i M hi jh
        obtain ⟨i0, i1, ho, hM2⟩ := hi
        refine ga_iload_n ok 3 rfl rfl dX4_goesBy_42 ?_
        refine ga_bipush ok dX4_goesBy_43 (by decide) ?_
        refine ga_icmp_ge ok 97 (by decide) (by omega) (by omega) dX4_goesBy_45 (fun c_45 => ?_) (fun c_45 => ?_)
        · refine ga_aload_n ok 0 rfl rfl dX4_goesBy_97 ?_
          refine gf_X4_9 ok hG rfl dX4_goesBy_98 ?_
          refine ga_iload_n ok 1 rfl rfl dX4_goesBy_101 ?_
          refine ga_iconst ok dX4_goesBy_102 ?_
          refine gd_S_2 ok lk_X4_73 (c_X4_at ok.fl hG (g := g) (k := 2) (by omega) (by omega)) (by rw [hR]; exact ⟨by decide, by decide, by decide, by decide⟩) (Nat.le_of_ble_eq_true rfl) dX4_goesBy_103 ?_
          refine ga_dup2 ok dX4_goesBy_106 rfl rfl ?_
          refine ga_iaload_ia ok (ar_ms hG rfl) (by omega) dX4_goesBy_107 ?_
          refine ga_iconst ok dX4_goesBy_108 ?_
          refine ga_iadd ok dX4_goesBy_109 ?_
          refine ga_iastore_ia ok (ar_ms hG rfl) (by omega) dX4_goesBy_110 ?_
          refine ga_aload_n ok 0 rfl rfl dX4_goesBy_111 ?_
          refine gf_X4_9 ok hG rfl dX4_goesBy_112 ?_
          refine ga_iload_n ok 1 rfl rfl dX4_goesBy_115 ?_
          refine ga_iconst ok dX4_goesBy_116 ?_
          refine gd_S_2 ok lk_X4_73 (c_X4_at ok.fl hG (g := g) (k := 4) (by omega) (by omega)) (by rw [hR]; exact ⟨by decide, by decide, by decide, by decide⟩) (Nat.le_of_ble_eq_true rfl) dX4_goesBy_117 ?_
          refine ga_iload_n ok 2 rfl rfl dX4_goesBy_120 ?_
          refine ga_iastore_ia ok (ar_ms hG rfl) (by omega) dX4_goesBy_121 ?_
          refine ga_iload_n ok 2 rfl rfl dX4_goesBy_122 ?_
          exact ga_ireturn ok en rfl rfl (by decide) (by decide) dX4_goesBy_123 ⟨_, rfl, (ho.uI (by omega)).uI (by omega), fun _ => ⟨hp, fun k hk => by
        have i2 : (26 + 27 * g + 2).toNat = 26 + 27 * g.toNat + 2 := by omega
        have i4 : (26 + 27 * g + 4).toNat = 26 + 27 * g.toNat + 4 := by omega
        have h10 : i = 10 := by omega
        subst h10
        rw [i2, i4]
        show _ = stG r g.toNat (eS (lpS (rg r g.toNat) (vX r) (vF r) (r 1).toNat) (lpC (rg r g.toNat) (vX r) (vF r) (r 1).toNat)) k
        rw [← hp]
        by_cases e2 : 26 + 27 * g.toNat ≤ k ∧ k < 53 + 27 * g.toNat
        · obtain ⟨j, hj⟩ : ∃ j, k = 26 + 27 * g.toNat + j := ⟨k - (26 + 27 * g.toNat), by omega⟩
          subst hj
          rw [stG_at (by omega), eS_sw (by omega)]
          by_cases h4 : j = 4
          · subst h4; rw [upI_at, if_neg (by omega), if_pos rfl]
          · rw [upI_no (by omega)]
            by_cases h2 : j = 2
            · subst h2; rw [upI_at, if_pos rfl, hM2 _ (by omega), stG_at (by omega)]; exact congrArg (· + 1) (sw_at (i := 10) (Or.inl (by omega)))
            · rw [upI_no (by omega), if_neg h2, if_neg h4, hM2 _ (by omega), stG_at (by omega)]
        · rw [upI_no (by omega), upI_no (by omega), hM2 k hk]
          unfold stG
          rw [if_neg e2, if_neg e2]⟩, fun h => by rw [hok] at h; exact absurd h (Bool.noConfusion)⟩
        · have i9 : (26 + 27 * g + (17 + i)).toNat = 26 + 27 * g.toNat + (17 + i.toNat) := by omega
          have hv17 : M.1 1088 (26 + 27 * g.toNat + (17 + i.toNat)) = (lpS (rg r g.toNat) (vX r) (vF r) (r 1).toNat) (17 + i.toNat) := by rw [hM2 _ (by omega), stG_at (by omega), show i = ((i.toNat : Nat) : Int) by omega]; exact sw_at (Or.inr (by omega))
          have hv7 : stG r g.toNat (sw (lpS (rg r g.toNat) (vX r) (vF r) (r 1).toNat) i) (26 + 27 * g.toNat + 6 + (i + 1).toNat) = (lpS (rg r g.toNat) (vX r) (vF r) (r 1).toNat) (17 + i.toNat - 10) := by
            rw [show 26 + 27 * g.toNat + 6 + (i + 1).toNat = 26 + 27 * g.toNat + (17 + i.toNat - 10) by omega, stG_at (by omega), show i = ((i.toNat : Nat) : Int) by omega]; exact sw_at (Or.inl (by omega))
          have hL7 : -60000 ≤ (lpS (rg r g.toNat) (vX r) (vF r) (r 1).toNat) (17 + i.toNat - 10) ∧ (lpS (rg r g.toNat) (vX r) (vF r) (r 1).toNat) (17 + i.toNat - 10) ≤ 60000 := by have := hLO.2.2.2.1 (i.toNat + 1) (by omega); rw [show 17 + i.toNat - 10 = 6 + (i.toNat + 1) by omega]; exact this
          have hna : FP.Core.val32 (fbits ((lpS (rg r g.toNat) (vX r) (vF r) (r 1).toNat) (17 + i.toNat))) ≠ .nan := (hLO.2.2.2.2 i.toNat (by omega)).1
          have hnb := nan_add (k := (lpS (rg r g.toNat) (vX r) (vF r) (r 1).toNat) (17 + i.toNat - 10)) hna (by omega)
          refine ga_aload_n ok 0 rfl rfl dX4_goesBy_48 ?_
          refine gf_X4_9 ok hG rfl dX4_goesBy_49 ?_
          refine ga_iload_n ok 1 rfl rfl dX4_goesBy_52 ?_
          refine ga_bipush ok dX4_goesBy_53 (by decide) ?_
          refine ga_iload_n ok 3 rfl rfl dX4_goesBy_55 ?_
          refine ga_iadd ok dX4_goesBy_56 ?_
          refine gd_S_2 ok lk_X4_73 (c_X4_at ok.fl hG (g := g) (k := 17 + i) (by omega) (by omega)) (by rw [hR]; exact ⟨by decide, by decide, by decide, by decide⟩) (Nat.le_of_ble_eq_true rfl) dX4_goesBy_57 ?_
          refine ga_iaload_ia ok (ar_ms hG rfl) (by omega) dX4_goesBy_60 ?_
          rw [i9, hv17]
          refine ga_bitsToFloat ok lf_X4_156 (sn_of hna) (by rw [hR]; exact (by decide)) (by rw [hR]; exact Nat.le_of_ble_eq_true rfl) dX4_goesBy_61 ?_
          refine ga_aload_n ok 0 rfl rfl dX4_goesBy_64 ?_
          refine ga_iload_n ok 1 rfl rfl dX4_goesBy_65 ?_
          refine ga_iload_n ok 3 rfl rfl dX4_goesBy_66 ?_
          refine gd_X4_2 ok hG rfl lk_X4_114 rfl (c2_X4_weight ok.fl hG hM2 (g := g) (b := i) (by omega) (by omega) (by rw [hv7]; exact hL7)) (by rw [hR]; exact ⟨by decide, by decide, by decide, by decide⟩) (Nat.le_of_ble_eq_true rfl) dX4_goesBy_67 ?_
          rw [hv7]
          refine ga_fadd ok dX4_goesBy_70 (n32_of hnb) ?_
          refine ga_fstore ok hn4 dX4_goesBy_71 ?_
          refine ga_aload_n ok 0 rfl rfl dX4_goesBy_73 ?_
          refine gf_X4_9 ok hG rfl dX4_goesBy_74 ?_
          refine ga_iload_n ok 1 rfl rfl dX4_goesBy_77 ?_
          refine ga_bipush ok dX4_goesBy_78 (by decide) ?_
          refine ga_iload_n ok 3 rfl rfl dX4_goesBy_80 ?_
          refine ga_iadd ok dX4_goesBy_81 ?_
          refine gd_S_2 ok lk_X4_73 (c_X4_at ok.fl hG (g := g) (k := 17 + i) (by omega) (by omega)) (by rw [hR]; exact ⟨by decide, by decide, by decide, by decide⟩) (Nat.le_of_ble_eq_true rfl) dX4_goesBy_82 ?_
          refine ga_fload ok rfl dX4_goesBy_85 ?_
          refine gd_J_1 ok lj_X4_150 (c_Jf_bits ok.fl hG hnb) (by rw [hR]; exact ⟨by decide, by decide, by decide, by decide⟩) (Nat.le_of_ble_eq_true rfl) dX4_goesBy_87 ?_
          refine ga_iastore_ia ok (ar_ms hG rfl) (by omega) dX4_goesBy_90 ?_
          refine ga_iinc ok rfl hn3 dX4_goesBy_91 ?_
          refine ga_goto ok 42 (by decide) dX4_goesBy_94 ?_
          exact WA.re (by exact ⟨rfl, rfl, rfl, rfl, trivial⟩) (jh (i + 1) _ ⟨by omega, by omega, ho.uI (by omega), fun k hk => by
            rw [i9]
            by_cases e : k = 26 + 27 * g.toNat + (17 + i.toNat)
            · subst e
              rw [upI_at, stG_at (by omega), show i + 1 = ((i.toNat : Nat) : Int) + 1 by omega, sw_s, if_pos rfl]
              rfl
            · rw [upI_no (Or.inr e), hM2 k hk, show i + 1 = ((i.toNat : Nat) : Int) + 1 by omega]
              unfold stG
              by_cases e2 : 26 + 27 * g.toNat ≤ k ∧ k < 53 + 27 * g.toNat
              · rw [if_pos e2, if_pos e2, sw_s, if_neg (by omega), show ((i.toNat : Nat) : Int) = i by omega]
              · rw [if_neg e2, if_neg e2]⟩ (by omega))
      exact WA.re (by exact ⟨rfl, rfl, rfl, rfl, trivial⟩) (inner 0 M ⟨by omega, by omega, ho, fun k hk => by
        rw [hM k hk]
        unfold stG
        by_cases e2 : 26 + 27 * g.toNat ≤ k ∧ k < 53 + 27 * g.toNat
        · rw [if_pos e2, if_pos e2]; exact sw_0.symm
        · rw [if_neg e2, if_neg e2]⟩)
    · refine ga_aload_n ok 0 rfl rfl dX4_goesBy_14 ?_
      refine ga_iload_n ok 1 rfl rfl dX4_goesBy_15 ?_
      refine ga_iload_n ok 3 rfl rfl dX4_goesBy_16 ?_
      have hTv : gtOk (T + 12) (stG r g.toNat (lpS (rg r g.toNat) (vX r) (vF r) v.toNat)) := gtOk_stG (hT.mono (by omega)) ((gOk_lp (hgb g.toNat (by omega)) v.toNat hok).mono (by omega))
      refine gc_X4_2 ok hG rfl lk_X4_172 rfl (c_X4_taught ok.fl hG hM hTv (g := g) (v := v) (by rw [lo_stG (by omega)]; exact qg) (by rw [lo_stG (by omega)]; omega)) (by rw [hR]; exact ⟨by decide, by decide, by decide, by decide⟩) (Nat.le_of_ble_eq_true rfl) dX4_goesBy_17 (fun r9 M2 hq => ?_) (fun _ _ h => h.elim)
      obtain ⟨v9, hr9, ho2, ht1, ht2⟩ := hq
      subst hr9
      simp only [Option.toList_some, List.singleton_append]
      rw [(v_stG (by omega)).1, (v_stG (by omega)).2, tOK_cg rgst, psS_cg rgst] at ht1
      rw [(v_stG (by omega)).1, (v_stG (by omega)).2, tOK_cg rgst] at ht2
      have hb9 := b2i_01 (psS (lpS (rg r g.toNat) (vX r) (vF r) v.toNat) (vX r v.toNat) (vF r v.toNat))
      have hvn : (v + 1).toNat = v.toNat + 1 := by omega
      have hv9 : -1 ≤ v9 ∧ v9 ≤ 1 ∧ (0 ≤ v9 ↔ tOK (lpS (rg r g.toNat) (vX r) (vF r) v.toNat) (vX r v.toNat) (vF r v.toNat) = true) := by
        by_cases ht : tOK (lpS (rg r g.toNat) (vX r) (vF r) v.toNat) (vX r v.toNat) (vF r v.toNat) = true
        · have := (ht1 ht).1; exact ⟨by omega, by omega, ⟨fun _ => ht, fun _ => by omega⟩⟩
        · have := ht2 (Bool.eq_false_iff.mpr ht); exact ⟨by omega, by omega, ⟨fun h => by omega, fun h => absurd h ht⟩⟩
      refine ga_istore ok hn4 dX4_goesBy_20 ?_
      refine ga_iload ok rfl dX4_goesBy_22 ?_
      refine ga_if_ge ok 29 (by decide) (by omega) dX4_goesBy_24 (fun c_24 => ?_) (fun c_24 => ?_)
      · refine ga_iload_n ok 2 rfl rfl dX4_goesBy_29 ?_
        refine ga_iload ok rfl dX4_goesBy_30 ?_
        refine ga_iadd ok dX4_goesBy_32 ?_
        refine ga_istore_n ok 2 rfl hn2 dX4_goesBy_33 ?_
        refine ga_iinc ok rfl hn3 dX4_goesBy_34 ?_
        refine ga_goto ok 4 (by decide) dX4_goesBy_37 ?_
        have ht : tOK (lpS (rg r g.toNat) (vX r) (vF r) v.toNat) (vX r v.toNat) (vF r v.toNat) = true := hv9.2.2.mp (by omega)
        exact WA.re (by exact ⟨rfl, rfl, rfl, rfl, trivial⟩) (ih (v + 1) _ M2 ⟨by omega, by omega, ⟨ho.1.tr ho2.1, fun n hn => (ho2.2 n hn).trans (ho.2 n hn)⟩, by rw [hvn]; simp only [lpOK]; rw [hok, ht]; rfl, by rw [hvn, hp, (ht1 ht).1]; rfl, fun k hk => by
          rw [hvn, (ht1 ht).2 k hk]
          exact stst (tS_cg rgst) k⟩ (by omega))
      · refine ga_iconst ok dX4_goesBy_27 ?_
        exact ga_ireturn ok en rfl rfl (by decide) (by decide) dX4_goesBy_28 ⟨_, rfl, ⟨ho.1.tr ho2.1, fun n hn => (ho2.2 n hn).trans (ho.2 n hn)⟩, fun h => by
    have hno : lpOK (rg r g.toNat) (vX r) (vF r) (v.toNat + 1) = false := by
      simp only [lpOK]
      rw [hok, Bool.eq_false_iff.mpr (fun ht => by have := hv9.2.2.mpr ht; omega : ¬ tOK (lpS (rg r g.toNat) (vX r) (vF r) v.toNat) (vX r v.toNat) (vF r v.toNat) = true)]
      rfl
    rw [lpOK_no hno _ (by omega)] at h
    exact absurd h Bool.false_ne_true, fun _ => rfl⟩
  exact WA.re (by exact ⟨rfl, rfl, rfl, rfl, trivial⟩) (loop 0 0 m ⟨by omega, by omega, OF.rf, rfl, rfl, fun k hk => by
    rw [hs k hk]
    unfold stG
    by_cases e2 : 26 + 27 * g.toNat ≤ k ∧ k < 53 + 27 * g.toNat
    · rw [if_pos e2]
      show r k = rg r g.toNat (k - (26 + 27 * g.toNat))
      unfold rg
      congr 1
      omega
    · rw [if_neg e2]⟩)
