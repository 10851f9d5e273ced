/-! THE MODEL: NUMBERS AND LETTERS OF A TEXT -/
def numV (t : Nat → Int) (n : Int) (p : Nat) (w : Int) : Int × Nat × Int := if w = 0 then (nz (rNum t n p).1, (rNum t n p).2, wz (rNum t n p).1) else (0, p, 1)
theorem hre_iff {t : Nat → Int} {n : Int} {p : Nat} {w lo hi : Int} : hre t n p w lo hi = true ↔ (w = 0 ∧ lo ≤ sgn t n p ∧ sgn t n p ≤ hi) := by
  unfold hre
  exact decide_eq_true_iff
theorem hre_no {t : Nat → Int} {n : Int} {p : Nat} {w lo hi : Int} : hre t n p w lo hi = false ↔ ¬ (w = 0 ∧ lo ≤ sgn t n p ∧ sgn t n p ≤ hi) := by
  unfold hre
  exact decide_eq_false_iff_not
theorem hre_lt {t : Nat → Int} {n : Int} {p : Nat} {w lo hi : Int} (h : hre t n p w lo hi = true) (hlo : 1 ≤ lo) : (p : Int) < n :=
  sgn_lt (t := t) (by have := (hre_iff.mp h).2.1; omega)
theorem numV_f {t : Nat → Int} {n : Int} {p : Nat} {w : Int} (h : hre t n p w 48 57 = false) : numV t n p w = (0, p, 1) := by
  unfold numV
  by_cases hw : w = 0
  · have e : rNum t n p = (-1, p) := by
      have e1 : rDig t n p = (-1, p) := by unfold rDig; exact if_neg (fun q => (hre_no.mp h) ⟨hw, q⟩)
      unfold rNum
      rw [e1]
      exact if_pos rfl
    rw [if_pos hw, e]
    rfl
  · rw [if_neg hw]
theorem rDig_y {t : Nat → Int} {n : Int} {p : Nat} {w : Int} (h : hre t n p w 48 57 = true) : rDig t n p = (sgn t n p - 48, p + 1) := by
  unfold rDig
  exact if_pos (hre_iff.mp h).2
theorem rDig_n {t : Nat → Int} {n : Int} {p : Nat} (h : hre t n p 0 48 57 = false) : rDig t n p = (-1, p) := by
  unfold rDig
  exact if_neg (fun q => (hre_no.mp h) ⟨rfl, q⟩)
theorem numV_1 {t : Nat → Int} {n : Int} {p : Nat} {w : Int} (h : hre t n p w 48 57 = true) (h2 : hre t n (p + 1) 0 48 57 = false) : numV t n p w = (sgn t n p - 48, p + 1, 0) := by
  have hb := hre_iff.mp h
  have e : rNum t n p = (sgn t n p - 48, p + 1) := by
    unfold rNum
    rw [rDig_y h, if_neg (by show ¬ sgn t n p - 48 = -1; omega)]
    show (if (rDig t n (p + 1)).1 = -1 then (sgn t n p - 48, p + 1) else _) = _
    rw [rDig_n h2]
    exact if_pos rfl
  unfold numV
  rw [if_pos hb.1, e]
  unfold nz wz
  rw [if_neg (by show ¬ sgn t n p - 48 = -1; omega), if_neg (by show ¬ sgn t n p - 48 = -1; omega)]
theorem numV_2 {t : Nat → Int} {n : Int} {p : Nat} {w : Int} (h : hre t n p w 48 57 = true) (h2 : hre t n (p + 1) 0 48 57 = true) : numV t n p w = (10 * (sgn t n p - 48) + (sgn t n (p + 1) - 48), p + 1 + 1, 0) := by
  have hb := hre_iff.mp h
  have hb2 := hre_iff.mp h2
  have e : rNum t n p = (10 * (sgn t n p - 48) + (sgn t n (p + 1) - 48), p + 1 + 1) := by
    unfold rNum
    rw [rDig_y h, if_neg (by show ¬ sgn t n p - 48 = -1; omega)]
    show (if (rDig t n (p + 1)).1 = -1 then (sgn t n p - 48, p + 1) else ((sgn t n p - 48) * 10 + (rDig t n (p + 1)).1, (rDig t n (p + 1)).2)) = _
    rw [rDig_y h2, if_neg (by show ¬ sgn t n (p + 1) - 48 = -1; omega), Int.mul_comm]
  unfold numV
  rw [if_pos hb.1, e]
  unfold nz wz
  rw [if_neg (by show ¬ 10 * (sgn t n p - 48) + (sgn t n (p + 1) - 48) = -1; omega), if_neg (by show ¬ 10 * (sgn t n p - 48) + (sgn t n (p + 1) - 48) = -1; omega)]
theorem bad_skip {t : Nat → Int} {n : Int} {p k : Nat} : ∀ d : Nat, (∀ i : Nat, k ≤ i → i < k + d → sgn t n (bad t n p k).2 ≠ 97 + (i : Int)) → bad t n p (k + d) = bad t n p k
  | 0, _ => rfl
  | d + 1, h => by
    have e := bad_skip (t := t) (n := n) (p := p) (k := k) d (fun i h1 h2 => h i h1 (by omega))
    rw [show k + (d + 1) = (k + d) + 1 by omega]
    simp only [bad]
    rw [e, if_neg (h (k + d) (by omega) (by omega))]
theorem bad_hit {t : Nat → Int} {n : Int} {p k j : Nat} (hk : k ≤ j) (h : sgn t n (bad t n p k).2 = 97 + (j : Int)) : bad t n p j = bad t n p k ∧ bad t n p (j + 1) = ((bad t n p k).1 + 2 ^ j, (bad t n p k).2 + 1) := by
  have e : bad t n p j = bad t n p k := by
    have := bad_skip (t := t) (n := n) (p := p) (k := k) (j - k) (fun i h1 h2 h3 => by rw [h] at h3; omega)
    rw [show k + (j - k) = j by omega] at this
    exact this
  refine ⟨e, ?_⟩
  simp only [bad]
  rw [e, if_pos h]
theorem bad_0 {t : Nat → Int} {n : Int} {p : Nat} (hp : (p : Int) ≤ n) : ∀ k : Nat, (bad t n p k).1 = 0 → (bad t n p k).2 = p
  | 0, _ => rfl
  | k + 1, h => by
    have hb := (bad_bd (t := t) hp k).1
    have p2 : (0 : Int) < 2 ^ k := Int.pow_pos (by decide)
    simp only [bad] at h ⊢
    by_cases e : sgn t n (bad t n p k).2 = 97 + (k : Int)
    · rw [if_pos e] at h
      have h : (bad t n p k).1 + 2 ^ k = 0 := h
      omega
    · rw [if_neg e] at h ⊢
      exact bad_0 hp k h
def letV (t : Nat → Int) (n : Int) (p : Nat) : Int × Nat × Int := if badV t n p = -1 then (1, p, 1) else (badV t n p, (bad t n p 10).2, 0)
theorem letV_ok {t : Nat → Int} {n : Int} {p q : Nat} {s : Int} (h : bad t n p 10 = (s, q)) (h0 : 0 < s) : letV t n p = (s, q, 0) := by
  have e : badV t n p = s := by unfold badV; rw [h]; exact if_neg (by show ¬ s = 0; omega)
  unfold letV
  rw [e, h, if_neg (by omega)]
theorem letV_no {t : Nat → Int} {n : Int} {p : Nat} (h : badV t n p = -1) : letV t n p = (1, p, 1) := if_pos h
theorem up15 {m : Mm} {w : Int} {p q : Nat} : upI (tyM m p w) 1024 15 (q : Int) = tyM m q w := by
  unfold tyM upI
  refine Prod.ext ?_ rfl
  funext x j
  simp only [up2]
  by_cases e1 : x = 1024 ∧ j = 16
  · obtain ⟨rfl, rfl⟩ := e1; rfl
  · rw [if_neg e1, if_neg e1]
    by_cases e2 : x = 1024 ∧ j = 15
    · rw [if_pos e2, if_pos e2]
    · rw [if_neg e2, if_neg e2, if_neg e2]
set_option maxHeartbeats 4000000 in
set_option maxRecDepth 100000 in
theorem c_X4_number {G : GG} {l : Launch} (hfl : l.stackTraces = false) (hG : MW G) {m : Mm} {t : Nat → Int} {n : Int} {p : Nat} {w : Int} (hX : TY m t n p w)  : CT G l yX4_number cX4_number 2 (some .int) (RM 3 0 0) [.ref 1024] m (fun r' m' => r' = some (vI (numV t n p w).1) ∧ m' = tyM m (numV t n p w).2.1 (numV t n p w).2.2) (fun _ _ => False) := by
  refine CT.of RX4 [(0, .ref 1024)] hfl (by decide +kernel) rfl rfl (Nat.le_of_ble_eq_true rfl) ?_
  intro E ok en hml hEl htab
  have hR : e_R E = RM 3 0 0 := en.2.2.2
  have hn0 : 0 < (e_c E).maxLocals := by rw [hml]; decide
  have hn1 : 1 < (e_c E).maxLocals := by rw [hml]; decide
  obtain ⟨x1, x2, x3, x4, x5, x6, x7⟩ := id hX
  refine ga_aload_n ok 0 rfl rfl dX4_number_0 ?_
  refine ga_bipush ok dX4_number_1 (by decide) ?_
  refine ga_bipush ok dX4_number_3 (by decide) ?_
  refine gc_X4_2 ok hG rfl lk_X4_219 rfl (c_X4_sign ok.fl hG hX (lo := 48) (hi := 57) (by omega) (by omega)) (by rw [hR]; exact ⟨by decide, by decide, by decide, by decide⟩) (Nat.le_of_ble_eq_true rfl) dX4_number_5 (fun r9 m1 hq => ?_) (fun _ _ h => h.elim)
  rcases hq with ⟨h1, rfl, rfl⟩ | ⟨h1, rfl, rfl⟩
  · simp only [Option.toList_some, List.singleton_append]
    have hlt := hre_lt h1 (by omega)
    have hX1 := hX.to (q := p + 1) (v := 0) (by omega) (Or.inl rfl)
    refine ga_istore_n ok 1 rfl hn1 dX4_number_8 ?_
    refine ga_aload_n ok 0 rfl rfl dX4_number_9 ?_
    refine ga_bipush ok dX4_number_10 (by decide) ?_
    refine ga_bipush ok dX4_number_12 (by decide) ?_
    refine gd_X4_2 ok hG rfl lk_X4_215 rfl (c_X4_isHere ok.fl hG hX1 (lo := 48) (hi := 57) (by omega) (by omega)) (by rw [hR]; exact ⟨by decide, by decide, by decide, by decide⟩) (Nat.le_of_ble_eq_true rfl) dX4_number_14 ?_
    refine ga_if_eq ok 36 (by decide) (b2i_rng _) dX4_number_17 (fun c_17 => ?_) (fun c_17 => ?_)
    · have f_17 := b2i_0.mp c_17
      refine ga_iload_n ok 1 rfl rfl dX4_number_36 ?_
      exact ga_ireturn ok en rfl rfl (by decide) (by decide) dX4_number_37 ⟨by rw [numV_1 h1 f_17], by rw [numV_1 h1 f_17]⟩
    · have f_17 := b2i_n0.mp c_17
      refine ga_bipush ok dX4_number_20 (by decide) ?_
      refine ga_iload_n ok 1 rfl rfl dX4_number_22 ?_
      refine ga_imul ok dX4_number_23 ?_
      refine ga_aload_n ok 0 rfl rfl dX4_number_24 ?_
      refine ga_bipush ok dX4_number_25 (by decide) ?_
      refine ga_bipush ok dX4_number_27 (by decide) ?_
      refine gc_X4_2 ok hG rfl lk_X4_219 rfl (c_X4_sign ok.fl hG hX1 (lo := 48) (hi := 57) (by omega) (by omega)) (by rw [hR]; exact ⟨by decide, by decide, by decide, by decide⟩) (Nat.le_of_ble_eq_true rfl) dX4_number_29 (fun r9 m1 hq => ?_) (fun _ _ h => h.elim)
      rcases hq with ⟨h2, rfl, rfl⟩ | ⟨h2, rfl, rfl⟩
      · simp only [Option.toList_some, List.singleton_append]
        refine ga_iadd ok dX4_number_32 ?_
        refine ga_goto ok 37 (by decide) dX4_number_33 ?_
        exact ga_ireturn ok en rfl rfl (by decide) (by decide) dX4_number_37 ⟨by rw [numV_2 h1 f_17], by rw [numV_2 h1 f_17, tyM_tyM]⟩
      · exact absurd (f_17.symm.trans h2) (by decide)
  · simp only [Option.toList_some, List.singleton_append]
    have hX1 := hX.to (q := p) (v := 1) x6 (Or.inr rfl)
    refine ga_istore_n ok 1 rfl hn1 dX4_number_8 ?_
    refine ga_aload_n ok 0 rfl rfl dX4_number_9 ?_
    refine ga_bipush ok dX4_number_10 (by decide) ?_
    refine ga_bipush ok dX4_number_12 (by decide) ?_
    refine gd_X4_2 ok hG rfl lk_X4_215 rfl (c_X4_isHere ok.fl hG hX1 (lo := 48) (hi := 57) (by omega) (by omega)) (by rw [hR]; exact ⟨by decide, by decide, by decide, by decide⟩) (Nat.le_of_ble_eq_true rfl) dX4_number_14 ?_
    refine ga_if_eq ok 36 (by decide) (b2i_rng _) dX4_number_17 (fun c_17 => ?_) (fun c_17 => ?_)
    · have f_17 := b2i_0.mp c_17
      refine ga_iload_n ok 1 rfl rfl dX4_number_36 ?_
      exact ga_ireturn ok en rfl rfl (by decide) (by decide) dX4_number_37 ⟨by rw [numV_f h1], by rw [numV_f h1]⟩
    · have f_17 := b2i_n0.mp c_17
      exact absurd (hre_iff.mp f_17).1 (by decide)
set_option maxHeartbeats 4000000 in
set_option maxRecDepth 100000 in
theorem c_X4_letters {G : GG} {l : Launch} (hfl : l.stackTraces = false) (hG : MW G) {m : Mm} {t : Nat → Int} {n : Int} {p : Nat} (hX : TY m t n p 0)  : CT G l yX4_letters cX4_letters 3 (some .int) (RM 3 0 0) [.ref 1024] m (fun r' m' => r' = some (vI (letV t n p).1) ∧ m' = tyM m (letV t n p).2.1 (letV t n p).2.2) (fun _ _ => False) := by
  refine CT.of RX4 [(0, .ref 1024)] hfl (by decide +kernel) rfl rfl (Nat.le_of_ble_eq_true rfl) ?_
  intro E ok en hml hEl htab
  have hR : e_R E = RM 3 0 0 := en.2.2.2
  have hn0 : 0 < (e_c E).maxLocals := by rw [hml]; decide
  have hn1 : 1 < (e_c E).maxLocals := by rw [hml]; decide
  have hn2 : 2 < (e_c E).maxLocals := by rw [hml]; decide
  obtain ⟨x1, x2, x3, x4, x5, x6, x7⟩ := id hX
  have loop : ∀ (la s : Int) (q : Nat) (v : Int), (0 ≤ la ∧ la ≤ 9) ∧ (q : Int) ≤ n ∧ ((v = 0 ∧ bad t n p (la + 1).toNat = (s, q) ∧ 0 < s) ∨ (v = 1 ∧ la = 0 ∧ s = 1 ∧ q = p ∧ badV t n p = -1)) → WA G E 0 0 13 [(2, vI s), (1, vI la), (0, .ref 1024)] [] (tyM m q v) := by
    refine wl4 _ (fun la _ _ _ => (9 - la).toNat) _ ?_
    intro la s q v hi ih
    obtain ⟨hla, hqn, hor⟩ := hi
    refine ga_iload_n ok 1 rfl rfl dX4_letters_13 ?_
    refine ga_bipush ok dX4_letters_14 (by decide) ?_
    refine ga_icmp_ge ok 67 (by decide) (by omega) (by omega) dX4_letters_16 (fun c_16 => ?_) (fun c_16 => ?_)
    · refine ga_iload_n ok 2 rfl rfl dX4_letters_67 ?_
      exact ga_ireturn ok en rfl rfl (by decide) (by decide) dX4_letters_68 (by
    rcases hor with ⟨rfl, h1, h2⟩ | h
    · have e : la = 9 := by omega
      subst e
      rw [letV_ok (t := t) (n := n) (p := p) h1 h2]
      exact ⟨rfl, rfl⟩
    · exfalso; omega)
    · have hv : v = 0 ∨ v = 1 := by rcases hor with h | h; exact Or.inl h.1; exact Or.inr h.1
      have hXq := hX.to (q := q) (v := v) hqn hv
      refine ga_aload_n ok 0 rfl rfl dX4_letters_19 ?_
      refine ga_bipush ok dX4_letters_20 (by decide) ?_
      refine ga_iload_n ok 1 rfl rfl dX4_letters_22 ?_
      refine ga_iadd ok dX4_letters_23 ?_
      refine ga_iconst ok dX4_letters_24 ?_
      refine ga_iadd ok dX4_letters_25 ?_
      refine ga_i2c ok dX4_letters_26 ?_
      refine ga_bipush ok dX4_letters_27 (by decide) ?_
      refine gd_X4_2 ok hG rfl lk_X4_215 rfl (c_X4_isHere ok.fl hG hXq (lo := (97 + la + 1) % 65536) (hi := 106) (by omega) (by omega)) (by rw [hR]; exact ⟨by decide, by decide, by decide, by decide⟩) (Nat.le_of_ble_eq_true rfl) dX4_letters_29 ?_
      refine ga_if_eq ok 67 (by decide) (b2i_rng _) dX4_letters_32 (fun c_32 => ?_) (fun c_32 => ?_)
      · have f_32 := b2i_0.mp c_32
        refine ga_iload_n ok 2 rfl rfl dX4_letters_67 ?_
        exact ga_ireturn ok en rfl rfl (by decide) (by decide) dX4_letters_68 (by
    rcases hor with ⟨rfl, h1, h2⟩ | ⟨rfl, h1, rfl, rfl, h4⟩
    · have e : bad t n p 10 = (s, q) := by
        have h3 := bad_skip (t := t) (n := n) (p := p) (k := (la + 1).toNat) (10 - (la + 1).toNat) (fun i h5 h6 h7 => by
          rw [h1] at h7
          have h7 : sgn t n q = 97 + (i : Int) := h7
          exact (hre_no.mp f_32) ⟨rfl, by omega, by omega⟩)
        rw [show (la + 1).toNat + (10 - (la + 1).toNat) = 10 by omega] at h3
        exact h3.trans h1
      rw [letV_ok e h2]
      exact ⟨rfl, rfl⟩
    · rw [letV_no h4]
      exact ⟨rfl, rfl⟩)
      · have f_32 := b2i_n0.mp c_32
        have hb := hre_iff.mp f_32
        have hlt := hre_lt f_32 (by omega)
        have hbd : bad t n p (la + 1).toNat = (s, q) ∧ 0 < s := by
          rcases hor with h | h
          · exact h.2
          · omega
        have hh := bad_hit (t := t) (n := n) (p := p) (k := (la + 1).toNat) (j := (sgn t n q - 97).toNat) (by omega) (by rw [hbd.1]; show sgn t n q = _; omega)
        rw [hbd.1] at hh
        have pw := pow_s (sgn t n q - 97).toNat (by omega)
        have hsl : 0 ≤ s ∧ s < 2 ^ (sgn t n q - 97).toNat := by
          have := (bad_bd (t := t) (n := n) (p := p) x6 (sgn t n q - 97).toNat).1
          rw [hh.1] at this
          exact this
        have p2 : (0 : Int) < 2 ^ (sgn t n q - 97).toNat := Int.pow_pos (by decide)
        refine ga_aload_n ok 0 rfl rfl dX4_letters_35 ?_
        refine gf_X4_29 ok hG rfl dX4_letters_36 ?_
        refine ga_aload_n ok 0 rfl rfl dX4_letters_39 ?_
        refine gf_X4_213 ok hG rfl dX4_letters_40 ?_
        rw [hXq.2.1]
        refine ga_caload_ca ok (ar_mt hG rfl) (by omega) dX4_letters_43 ?_
        rw [show ((q : Int)).toNat = q from rfl, show (tyM m q v).1 1472 q = sgn t n q from ((hXq.2.2.2.2.2.2 q hlt).1).trans (if_pos hlt).symm]
        refine ga_bipush ok dX4_letters_44 (by decide) ?_
        refine ga_isub ok dX4_letters_46 ?_
        refine ga_istore_n ok 1 rfl hn1 dX4_letters_47 ?_
        refine ga_aload_n ok 0 rfl rfl dX4_letters_48 ?_
        refine ga_dup ok dX4_letters_49 rfl ?_
        refine gf_X4_213 ok hG rfl dX4_letters_50 ?_
        rw [hXq.2.1]
        refine ga_iconst ok dX4_letters_53 ?_
        refine ga_iadd ok dX4_letters_54 ?_
        refine gp_X4_213 ok hG rfl dX4_letters_55 ?_
        rw [show upI (tyM m q v) 1024 15 ((q : Int) + 1) = tyM m (q + 1) v from up15 (q := q + 1)]
        refine ga_iload_n ok 2 rfl rfl dX4_letters_58 ?_
        refine ga_iconst ok dX4_letters_59 ?_
        refine ga_iload_n ok 1 rfl rfl dX4_letters_60 ?_
        refine ga_ishl ok dX4_letters_61 (by omega) (by omega) pw.1 ?_
        refine ga_ior ok dX4_letters_62 hsl.1 pw.2 ?_
        rw [or_pow hsl]
        refine ga_istore_n ok 2 rfl hn2 dX4_letters_63 ?_
        refine ga_goto ok 13 (by decide) dX4_letters_64 ?_
        exact WA.re (by exact ⟨rfl, rfl, rfl, trivial⟩) (ih (sgn t n q - 97) (s + 2 ^ (sgn t n q - 97).toNat) (q + 1) v ⟨⟨by omega, by omega⟩, by omega, Or.inl ⟨hb.1, by rw [show (sgn t n q - 97 + 1).toNat = (sgn t n q - 97).toNat + 1 by omega]; exact hh.2, by omega⟩⟩ (by omega))
  refine ga_aload_n ok 0 rfl rfl dX4_letters_0 ?_
  refine ga_bipush ok dX4_letters_1 (by decide) ?_
  refine ga_bipush ok dX4_letters_3 (by decide) ?_
  refine gc_X4_2 ok hG rfl lk_X4_219 rfl (c_X4_sign ok.fl hG hX (lo := 97) (hi := 106) (by omega) (by omega)) (by rw [hR]; exact ⟨by decide, by decide, by decide, by decide⟩) (Nat.le_of_ble_eq_true rfl) dX4_letters_5 (fun r9 m1 hq => ?_) (fun _ _ h => h.elim)
  rcases hq with ⟨h1, rfl, rfl⟩ | ⟨h1, rfl, rfl⟩
  · simp only [Option.toList_some, List.singleton_append]
    have hb := hre_iff.mp h1
    have hlt := hre_lt h1 (by omega)
    have pw := pow_s (sgn t n p - 97).toNat (by omega)
    have p2 : (0 : Int) < 2 ^ (sgn t n p - 97).toNat := Int.pow_pos (by decide)
    have hh := bad_hit (t := t) (n := n) (p := p) (k := 0) (j := (sgn t n p - 97).toNat) (by omega) (by show sgn t n p = _; omega)
    refine ga_istore_n ok 1 rfl hn1 dX4_letters_8 ?_
    refine ga_iconst ok dX4_letters_9 ?_
    refine ga_iload_n ok 1 rfl rfl dX4_letters_10 ?_
    refine ga_ishl ok dX4_letters_11 (by omega) (by omega) pw.1 ?_
    refine ga_istore_n ok 2 rfl hn2 dX4_letters_12 ?_
    exact WA.re (by exact ⟨rfl, rfl, rfl, trivial⟩) (loop (sgn t n p - 97) (1 * 2 ^ (sgn t n p - 97).toNat) (p + 1) 0 ⟨⟨by omega, by omega⟩, by omega, Or.inl ⟨rfl, by rw [show (sgn t n p - 97 + 1).toNat = (sgn t n p - 97).toNat + 1 by omega, hh.2]; show ((0 : Int) + _, p + 1) = _; rw [Int.zero_add, Int.one_mul], by omega⟩⟩)
  · simp only [Option.toList_some, List.singleton_append]
    have hbv : badV t n p = -1 := by
      have h3 := bad_skip (t := t) (n := n) (p := p) (k := 0) 10 (fun i h5 h6 h7 => by
        have h7 : sgn t n p = 97 + (i : Int) := h7
        exact (hre_no.mp h1) ⟨rfl, by omega, by omega⟩)
      unfold badV
      rw [show (10 : Nat) = 0 + 10 from rfl, h3]
      exact if_pos rfl
    refine ga_istore_n ok 1 rfl hn1 dX4_letters_8 ?_
    refine ga_iconst ok dX4_letters_9 ?_
    refine ga_iload_n ok 1 rfl rfl dX4_letters_10 ?_
    refine ga_ishl ok dX4_letters_11 (by omega) (by omega) (by decide) ?_
    refine ga_istore_n ok 2 rfl hn2 dX4_letters_12 ?_
    exact WA.re (by exact ⟨rfl, rfl, rfl, trivial⟩) (loop 0 (1 * 2 ^ (0 : Int).toNat) p 1 ⟨⟨by omega, by omega⟩, x6, Or.inr ⟨rfl, rfl, rfl, rfl, hbv⟩⟩)
