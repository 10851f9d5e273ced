/-! THE MODEL: READING A TEXT -/
def tyM (m : Mm) (p : Nat) (w : Int) : Mm := upI (upI m 1024 15 p) 1024 16 w
def TY (m : Mm) (t : Nat → Int) (n : Int) (p : Nat) (w : Int) : Prop := m.1 1024 14 = n ∧ m.1 1024 15 = p ∧ m.1 1024 16 = w ∧ (w = 0 ∨ w = 1) ∧ (0 ≤ n ∧ n ≤ 60) ∧ (p : Int) ≤ n ∧ ∀ i : Nat, (i : Int) < n → m.1 1472 i = t i ∧ 0 ≤ t i ∧ t i ≤ 65535
def hre (t : Nat → Int) (n : Int) (p : Nat) (w lo hi : Int) : Bool := decide (w = 0 ∧ lo ≤ sgn t n p ∧ sgn t n p ≤ hi)
def nz (z : Int) : Int := if z = -1 then 0 else z
def wz (z : Int) : Int := if z = -1 then 1 else 0
theorem tyM_tyM {m : Mm} {p q : Nat} {w v : Int} : tyM (tyM m p w) q v = tyM m q v := by
  unfold tyM upI
  refine Prod.ext ?_ rfl
  funext x j
  simp only [up2]
  by_cases h1 : x = 1024 ∧ j = 16
  · simp only [if_pos h1]
  · by_cases h2 : x = 1024 ∧ j = 15
    · simp only [if_neg h1, if_pos h2]
    · simp only [if_neg h1, if_neg h2]
theorem tyM_id {m : Mm} {p : Nat} {w : Int} (h1 : m.1 1024 15 = p) (h2 : m.1 1024 16 = w) : tyM m p w = m := by
  unfold tyM upI
  refine Prod.ext ?_ rfl
  funext x j
  simp only [up2]
  by_cases e1 : x = 1024 ∧ j = 16
  · rw [if_pos e1]; obtain ⟨rfl, rfl⟩ := e1; exact h2.symm
  · rw [if_neg e1]
    by_cases e2 : x = 1024 ∧ j = 15
    · rw [if_pos e2]; obtain ⟨rfl, rfl⟩ := e2; exact h1.symm
    · rw [if_neg e2]
theorem TY.to {m : Mm} {t : Nat → Int} {n : Int} {p q : Nat} {w v : Int} (h : TY m t n p w) (hq : (q : Int) ≤ n) (hv : v = 0 ∨ v = 1) : TY (tyM m q v) t n q v := by
  obtain ⟨h1, h2, h3, h4, h5, h6, h7⟩ := h
  unfold tyM
  exact ⟨by rw [upI_no (by omega), upI_no (by omega)]; exact h1, by rw [upI_no (by omega), upI_at], upI_at, hv, h5, hq, fun i hi => by rw [upI_r (by omega), upI_r (by omega)]; exact h7 i hi⟩
theorem wz_01 {z : Int} : wz z = 0 ∨ wz z = 1 := by
  unfold wz
  split
  · exact Or.inr rfl
  · exact Or.inl rfl
theorem up16 {m : Mm} {w : Int} {p : Nat} (h : m.1 1024 15 = p) : upI m 1024 16 w = tyM m p w := by
  unfold tyM upI
  refine Prod.ext ?_ rfl
  funext x j
  simp only [up2]
  by_cases e1 : x = 1024 ∧ j = 16
  · rw [if_pos e1, if_pos e1]
  · rw [if_neg e1, if_neg e1]
    by_cases e2 : x = 1024 ∧ j = 15
    · rw [if_pos e2]; obtain ⟨rfl, rfl⟩ := e2; exact h
    · rw [if_neg e2]
theorem up1615 {m : Mm} {w : Int} {p : Nat} : upI (upI m 1024 16 w) 1024 15 p = tyM m p w := by
  unfold tyM upI
  refine Prod.ext ?_ rfl
  funext x j
  simp only [up2]
  by_cases e1 : x = 1024 ∧ j = 16
  · obtain ⟨rfl, rfl⟩ := e1; rfl
  · rw [if_neg e1, if_neg e1]
set_option maxHeartbeats 4000000 in
set_option maxRecDepth 100000 in
theorem c_X4_isHere {G : GG} {l : Launch} (hfl : l.stackTraces = false) (hG : MW G) {m : Mm} {t : Nat → Int} {n : Int} {p : Nat} {w : Int} (hX : TY m t n p w) {lo hi : Int} (hlo : 1 ≤ lo ∧ lo ≤ 65535) (hhi : 1 ≤ hi ∧ hi ≤ 65535) : CT G l yX4_isHere cX4_isHere 3 (some .boolean) (RM 1 0 0) [.ref 1024, vI lo, vI hi] m (fun r' m' => r' = some (vI (b2i (hre t n p w lo hi))) ∧ m' = m) (fun _ _ => False) := by
  refine CT.of RX4 [(0, .ref 1024), (1, vI lo), (2, vI hi)] hfl (by decide +kernel) rfl rfl (Nat.le_of_ble_eq_true rfl) ?_
  intro E ok en hml hEl htab
  have hR : e_R E = RM 1 0 0 := en.2.2.2
  have hn0 : 0 < (e_c E).maxLocals := by rw [hml]; decide
  have hn1 : 1 < (e_c E).maxLocals := by rw [hml]; decide
  have hn2 : 2 < (e_c E).maxLocals := by rw [hml]; decide
  obtain ⟨x1, x2, x3, x4, x5, x6, x7⟩ := id hX
  refine ga_aload_n ok 0 rfl rfl dX4_isHere_0 ?_
  refine gf_X4_210 ok hG rfl dX4_isHere_1 ?_
  try rw [x3]
  refine ga_if_ne ok 39 (by decide) (by omega) dX4_isHere_4 (fun c_4 => ?_) (fun c_4 => ?_)
  · refine ga_iconst ok dX4_isHere_39 ?_
    exact ga_ireturn ok en rfl (by decide) (by decide) (by decide) dX4_isHere_40 ⟨by unfold hre; rw [decide_eq_false (by omega)]; rfl, rfl⟩
  · refine ga_aload_n ok 0 rfl rfl dX4_isHere_7 ?_
    refine gf_X4_213 ok hG rfl dX4_isHere_8 ?_
    try rw [x2]
    refine ga_aload_n ok 0 rfl rfl dX4_isHere_11 ?_
    refine gf_X4_207 ok hG rfl dX4_isHere_12 ?_
    try rw [x1]
    refine ga_icmp_ge ok 39 (by decide) (by omega) (by omega) dX4_isHere_15 (fun c_15 => ?_) (fun c_15 => ?_)
    · refine ga_iconst ok dX4_isHere_39 ?_
      exact ga_ireturn ok en rfl (by decide) (by decide) (by decide) dX4_isHere_40 ⟨by unfold hre; rw [decide_eq_false (by have hsg : sgn t n p = 0 := if_neg (by omega); omega)]; rfl, rfl⟩
    · refine ga_aload_n ok 0 rfl rfl dX4_isHere_18 ?_
      refine gf_X4_29 ok hG rfl dX4_isHere_19 ?_
      refine ga_aload_n ok 0 rfl rfl dX4_isHere_22 ?_
      refine gf_X4_213 ok hG rfl dX4_isHere_23 ?_
      try rw [x2]
      refine ga_caload_ca ok (ar_mt hG rfl) (by omega) dX4_isHere_26 ?_
      rw [show (p : Int).toNat = p from rfl, (x7 p (by omega)).1]
      have hsg : sgn t n p = t p := if_pos (by omega)
      refine ga_iload_n ok 1 rfl rfl dX4_isHere_27 ?_
      refine ga_iload_n ok 2 rfl rfl dX4_isHere_28 ?_
      refine gd_S_3 ok lk_X4_61 (c_X4_in ok.fl hG (x := t p) (a := lo) (b := hi) (by have := x7 p (by omega); omega) (by omega) (by omega)) (by rw [hR]; exact ⟨by decide, by decide, by decide, by decide⟩) (Nat.le_of_ble_eq_true rfl) dX4_isHere_29 ?_
      refine ga_if_eq ok 39 (by decide) (b2i_rng _) dX4_isHere_32 (fun c_32 => ?_) (fun c_32 => ?_)
      · have f_32 := of_decide_eq_false (b2i_0.mp c_32)
        refine ga_iconst ok dX4_isHere_39 ?_
        exact ga_ireturn ok en rfl (by decide) (by decide) (by decide) dX4_isHere_40 ⟨by unfold hre; rw [decide_eq_false (by omega)]; rfl, rfl⟩
      · have f_32 := of_decide_eq_true (b2i_n0.mp c_32)
        refine ga_iconst ok dX4_isHere_35 ?_
        refine ga_goto ok 40 (by decide) dX4_isHere_36 ?_
        exact ga_ireturn ok en rfl (by decide) (by decide) (by decide) dX4_isHere_40 ⟨by unfold hre; rw [decide_eq_true (by omega)]; rfl, rfl⟩
set_option maxHeartbeats 4000000 in
set_option maxRecDepth 100000 in
theorem c_X4_sign {G : GG} {l : Launch} (hfl : l.stackTraces = false) (hG : MW G) {m : Mm} {t : Nat → Int} {n : Int} {p : Nat} {w : Int} (hX : TY m t n p w) {lo hi : Int} (hlo : 1 ≤ lo ∧ lo ≤ 65535) (hhi : 1 ≤ hi ∧ hi ≤ 65535) : CT G l yX4_sign cX4_sign 3 (some .int) (RM 2 0 0) [.ref 1024, vI lo, vI hi] m (fun r' m' => (hre t n p w lo hi = true ∧ r' = some (vI (sgn t n p - lo)) ∧ m' = tyM m (p + 1) 0) ∨ (hre t n p w lo hi = false ∧ r' = some (vI 0) ∧ m' = tyM m p 1)) (fun _ _ => False) := by
  refine CT.of RX4 [(0, .ref 1024), (1, vI lo), (2, vI hi)] hfl (by decide +kernel) rfl rfl (Nat.le_of_ble_eq_true rfl) ?_
  intro E ok en hml hEl htab
  have hR : e_R E = RM 2 0 0 := en.2.2.2
  have hn0 : 0 < (e_c E).maxLocals := by rw [hml]; decide
  have hn1 : 1 < (e_c E).maxLocals := by rw [hml]; decide
  have hn2 : 2 < (e_c E).maxLocals := by rw [hml]; decide
  obtain ⟨x1, x2, x3, x4, x5, x6, x7⟩ := id hX
  refine ga_aload_n ok 0 rfl rfl dX4_sign_0 ?_
  refine ga_aload_n ok 0 rfl rfl dX4_sign_1 ?_
  refine gf_X4_210 ok hG rfl dX4_sign_2 ?_
  first | rw [x3] | rw [upI_at]
  refine ga_if_ne ok 17 (by decide) (by omega) dX4_sign_5 (fun c_5 => ?_) (fun c_5 => ?_)
  · have hw1 : w = 1 := by omega
    refine ga_iconst ok dX4_sign_17 ?_
    refine ga_goto ok 22 (by decide) dX4_sign_18 ?_
    refine gp_X4_210 ok hG rfl (by omega) dX4_sign_22 ?_
    refine ga_aload_n ok 0 rfl rfl dX4_sign_25 ?_
    refine gf_X4_210 ok hG rfl dX4_sign_26 ?_
    first | rw [x3] | rw [upI_at]
    refine ga_if_eq ok 34 (by decide) (by omega) dX4_sign_29 (fun c_29 => ?_) (fun c_29 => ?_)
    · exact absurd c_29 (by omega)
    · refine ga_iconst ok dX4_sign_32 ?_
      exact ga_ireturn ok en rfl rfl (by decide) (by decide) dX4_sign_33 (Or.inr ⟨by unfold hre; exact decide_eq_false (by omega), rfl, up16 x2⟩)
  · refine ga_aload_n ok 0 rfl rfl dX4_sign_8 ?_
    refine ga_iload_n ok 1 rfl rfl dX4_sign_9 ?_
    refine ga_iload_n ok 2 rfl rfl dX4_sign_10 ?_
    refine gd_X4_2 ok hG rfl lk_X4_215 rfl (c_X4_isHere ok.fl hG hX hlo hhi) (by rw [hR]; exact ⟨by decide, by decide, by decide, by decide⟩) (Nat.le_of_ble_eq_true rfl) dX4_sign_11 ?_
    refine ga_if_ne ok 21 (by decide) (b2i_rng _) dX4_sign_14 (fun c_14 => ?_) (fun c_14 => ?_)
    · have f_14 := of_decide_eq_true (b2i_n0.mp c_14)
      refine ga_iconst ok dX4_sign_21 ?_
      refine gp_X4_210 ok hG rfl (by omega) dX4_sign_22 ?_
      refine ga_aload_n ok 0 rfl rfl dX4_sign_25 ?_
      refine gf_X4_210 ok hG rfl dX4_sign_26 ?_
      first | rw [x3] | rw [upI_at]
      refine ga_if_eq ok 34 (by decide) (by omega) dX4_sign_29 (fun c_29 => ?_) (fun c_29 => ?_)
      · refine ga_aload_n ok 0 rfl rfl dX4_sign_34 ?_
        refine ga_dup ok dX4_sign_35 rfl ?_
        refine gf_X4_213 ok hG rfl dX4_sign_36 ?_
        first | rw [x2] | rw [upI_no (by omega), x2] | rw [show (tyM m (p + 1) 0).1 1024 15 = ((p + 1 : Nat) : Int) from by unfold tyM; rw [upI_no (by omega), upI_at]]
        refine ga_iconst ok dX4_sign_39 ?_
        refine ga_iadd ok dX4_sign_40 ?_
        refine gp_X4_213 ok hG rfl dX4_sign_41 ?_
        rw [show upI (upI m 1024 16 0) 1024 15 ((p : Int) + 1) = tyM m (p + 1) 0 from up1615 (p := p + 1)]
        refine ga_aload_n ok 0 rfl rfl dX4_sign_44 ?_
        refine gf_X4_29 ok hG rfl dX4_sign_45 ?_
        refine ga_aload_n ok 0 rfl rfl dX4_sign_48 ?_
        refine gf_X4_213 ok hG rfl dX4_sign_49 ?_
        first | rw [x2] | rw [upI_no (by omega), x2] | rw [show (tyM m (p + 1) 0).1 1024 15 = ((p + 1 : Nat) : Int) from by unfold tyM; rw [upI_no (by omega), upI_at]]
        refine ga_iconst ok dX4_sign_52 ?_
        refine ga_isub ok dX4_sign_53 ?_
        refine ga_caload_ca ok (ar_mt hG rfl) (by have := sgn_lt (t := t) (n := n) (p := p) (by omega); omega) dX4_sign_54 ?_
        rw [show ((((p + 1 : Nat) : Int)) - 1).toNat = p by omega, show (tyM m (p + 1) 0).1 1472 p = sgn t n p from by unfold tyM; rw [upI_r (by omega), upI_r (by omega), (x7 p (by have := sgn_lt (t := t) (n := n) (p := p) (by omega); omega)).1]; exact (if_pos (sgn_lt (t := t) (n := n) (p := p) (by omega))).symm]
        refine ga_iload_n ok 1 rfl rfl dX4_sign_55 ?_
        refine ga_isub ok dX4_sign_56 ?_
        exact ga_ireturn ok en rfl rfl (by decide) (by decide) dX4_sign_57 (Or.inl ⟨by unfold hre; exact decide_eq_true f_14, rfl, rfl⟩)
      · exact absurd rfl c_29
    · have f_14 := of_decide_eq_false (b2i_0.mp c_14)
      refine ga_iconst ok dX4_sign_17 ?_
      refine ga_goto ok 22 (by decide) dX4_sign_18 ?_
      refine gp_X4_210 ok hG rfl (by omega) dX4_sign_22 ?_
      refine ga_aload_n ok 0 rfl rfl dX4_sign_25 ?_
      refine gf_X4_210 ok hG rfl dX4_sign_26 ?_
      first | rw [x3] | rw [upI_at]
      refine ga_if_eq ok 34 (by decide) (by omega) dX4_sign_29 (fun c_29 => ?_) (fun c_29 => ?_)
      · exact absurd c_29 (by omega)
      · refine ga_iconst ok dX4_sign_32 ?_
        exact ga_ireturn ok en rfl rfl (by decide) (by decide) dX4_sign_33 (Or.inr ⟨by unfold hre; exact decide_eq_false (by omega), rfl, up16 x2⟩)
