/-! READING A TEXT -/
def sgn (t : Nat → Int) (n : Int) (p : Nat) : Int := if (p : Int) < n then t p else 0
def rDig (t : Nat → Int) (n : Int) (p : Nat) : Int × Nat := if 48 ≤ sgn t n p ∧ sgn t n p ≤ 57 then (sgn t n p - 48, p + 1) else (-1, p)
def rNum (t : Nat → Int) (n : Int) (p : Nat) : Int × Nat := if (rDig t n p).1 = -1 then (-1, p) else if (rDig t n (rDig t n p).2).1 = -1 then rDig t n p else ((rDig t n p).1 * 10 + (rDig t n (rDig t n p).2).1, (rDig t n (rDig t n p).2).2)
def rTau (t : Nat → Int) (n : Int) (p : Nat) : Int × Nat := if sgn t n p = 58 then rNum t n (p + 1) else (-1, p)
def bad (t : Nat → Int) (n : Int) (p : Nat) : Nat → Int × Nat
  | 0 => (0, p)
  | k + 1 => if sgn t n (bad t n p k).2 = 97 + k then ((bad t n p k).1 + 2 ^ k, (bad t n p k).2 + 1) else bad t n p k
def badV (t : Nat → Int) (n : Int) (p : Nat) : Int := if (bad t n p 10).1 = 0 then -1 else (bad t n p 10).1
/-- an order: its first number, its second, where reading stands behind it -/
def rOrd (t : Nat → Int) (n : Int) (p : Nat) : Int × Int × Nat :=
  if sgn t n p = 43 ∨ sgn t n p = 45 then (badV t n (p + 1), 0, (bad t n (p + 1) 10).2)
  else if sgn t n p = 120 ∨ sgn t n p = 103 then ((rNum t n (p + 1)).1, 0, (rNum t n (p + 1)).2)
  else if sgn t n p = 100 then ((rDig t n (p + 1)).1, 0, (rDig t n (p + 1)).2)
  else if sgn t n p = 116 then (if (rDig t n (p + 1)).1 = -1 then (-1, -1, (rDig t n (p + 1)).2) else ((rDig t n (p + 1)).1, rTau t n (rDig t n (p + 1)).2))
  else (-1, 0, p)
abbrev okO (q : Int × Int × Nat) : Prop := q.1 ≠ -1 ∧ q.2.1 ≠ -1
/-- where the order k begins -/
def pS (t : Nat → Int) (n : Int) : Nat → Nat
  | 0 => 0
  | k + 1 => (rOrd t n (pS t n k)).2.2 + 1
/-- from the order k on: whether the text has no error, where reading ends, how many orders there are -/
def pRes (t : Nat → Int) (n : Int) : Nat → Nat → Bool × Nat × Nat
  | 0, k => (false, pS t n k, k)
  | f + 1, k => if okO (rOrd t n (pS t n k)) then (if ((rOrd t n (pS t n k)).2.2 : Int) = n then (true, (rOrd t n (pS t n k)).2.2, k + 1) else if sgn t n (rOrd t n (pS t n k)).2.2 = 59 then pRes t n f (k + 1) else (false, (rOrd t n (pS t n k)).2.2, k + 1)) else (false, (rOrd t n (pS t n k)).2.2, k)
theorem sgn_lt {t : Nat → Int} {n : Int} {p : Nat} (h : sgn t n p ≠ 0) : (p : Int) < n := by
  unfold sgn at h
  by_cases e : (p : Int) < n
  · exact e
  · rw [if_neg e] at h; exact absurd rfl h
theorem sgn_rng {t : Nat → Int} {n : Int} (ht : ∀ i : Nat, (i : Int) < n → 0 ≤ t i ∧ t i ≤ 65535) (p : Nat) : 0 ≤ sgn t n p ∧ sgn t n p ≤ 65535 := by
  unfold sgn
  split
  · exact ht p (by assumption)
  · omega
theorem rDig_rng {t : Nat → Int} {n : Int} {p : Nat} : -1 ≤ (rDig t n p).1 ∧ (rDig t n p).1 ≤ 9 := by
  unfold rDig
  split
  · show -1 ≤ sgn t n p - 48 ∧ sgn t n p - 48 ≤ 9; omega
  · show -1 ≤ (-1 : Int) ∧ (-1 : Int) ≤ 9; omega
theorem rDig_pos {t : Nat → Int} {n : Int} {p : Nat} (hp : (p : Int) ≤ n) : p ≤ (rDig t n p).2 ∧ ((rDig t n p).2 : Int) ≤ n ∧ ((rDig t n p).1 ≠ -1 → (rDig t n p).2 = p + 1) := by
  unfold rDig
  split
  · have := sgn_lt (t := t) (n := n) (p := p) (by omega)
    exact ⟨Nat.le_succ p, by show ((p + 1 : Nat) : Int) ≤ n; omega, fun _ => rfl⟩
  · exact ⟨Nat.le_refl p, hp, fun h => absurd rfl h⟩
theorem rNum_rng {t : Nat → Int} {n : Int} {p : Nat} : -1 ≤ (rNum t n p).1 ∧ (rNum t n p).1 ≤ 99 := by
  have h1 := rDig_rng (t := t) (n := n) (p := p)
  have h2 := rDig_rng (t := t) (n := n) (p := (rDig t n p).2)
  unfold rNum
  split
  · show -1 ≤ (-1 : Int) ∧ (-1 : Int) ≤ 99; omega
  · split
    · omega
    · show -1 ≤ (rDig t n p).1 * 10 + (rDig t n (rDig t n p).2).1 ∧ (rDig t n p).1 * 10 + (rDig t n (rDig t n p).2).1 ≤ 99; omega
theorem rNum_pos {t : Nat → Int} {n : Int} {p : Nat} (hp : (p : Int) ≤ n) : p ≤ (rNum t n p).2 ∧ ((rNum t n p).2 : Int) ≤ n ∧ ((rNum t n p).1 ≠ -1 → p + 1 ≤ (rNum t n p).2) := by
  have h1 := rDig_pos (t := t) hp
  have h2 := rDig_pos (t := t) (n := n) (p := (rDig t n p).2) h1.2.1
  unfold rNum
  split
  · exact ⟨Nat.le_refl p, hp, fun h => absurd rfl h⟩
  · rename_i e
    have h3 := h1.2.2 e
    split
    · exact ⟨h1.1, h1.2.1, fun _ => by omega⟩
    · exact ⟨by show p ≤ (rDig t n (rDig t n p).2).2; omega, h2.2.1, fun _ => by show p + 1 ≤ (rDig t n (rDig t n p).2).2; omega⟩
theorem rTau_rng {t : Nat → Int} {n : Int} {p : Nat} : -1 ≤ (rTau t n p).1 ∧ (rTau t n p).1 ≤ 99 := by
  unfold rTau
  split
  · exact rNum_rng
  · show -1 ≤ (-1 : Int) ∧ (-1 : Int) ≤ 99; omega
theorem rTau_pos {t : Nat → Int} {n : Int} {p : Nat} (hp : (p : Int) ≤ n) : p ≤ (rTau t n p).2 ∧ ((rTau t n p).2 : Int) ≤ n := by
  unfold rTau
  split
  · have := sgn_lt (t := t) (n := n) (p := p) (by omega)
    have h := rNum_pos (t := t) (n := n) (p := p + 1) (by omega)
    exact ⟨by omega, h.2.1⟩
  · exact ⟨Nat.le_refl p, hp⟩
theorem bad_bd {t : Nat → Int} {n : Int} {p : Nat} (hp : (p : Int) ≤ n) : ∀ k : Nat, (0 ≤ (bad t n p k).1 ∧ (bad t n p k).1 < 2 ^ k) ∧ p ≤ (bad t n p k).2 ∧ ((bad t n p k).2 : Int) ≤ n ∧ ((bad t n p k).1 ≠ 0 → p + 1 ≤ (bad t n p k).2)
  | 0 => ⟨⟨Int.le_refl _, by show (0 : Int) < 2 ^ 0; decide⟩, Nat.le_refl _, hp, fun h => absurd rfl h⟩
  | k + 1 => by
    have h := bad_bd (t := t) hp k
    have e2 : (2 : Int) ^ (k + 1) = 2 ^ k * 2 := Int.pow_succ 2 k
    simp only [bad]
    split
    · have := sgn_lt (t := t) (n := n) (p := (bad t n p k).2) (by omega)
      refine ⟨⟨by show 0 ≤ (bad t n p k).1 + 2 ^ k; omega, by show (bad t n p k).1 + 2 ^ k < 2 ^ (k + 1); omega⟩, by show p ≤ (bad t n p k).2 + 1; omega, by show (((bad t n p k).2 + 1 : Nat) : Int) ≤ n; omega, fun _ => by show p + 1 ≤ (bad t n p k).2 + 1; omega⟩
    · exact ⟨⟨h.1.1, by omega⟩, h.2⟩
theorem badV_rng {t : Nat → Int} {n : Int} {p : Nat} (hp : (p : Int) ≤ n) : -1 ≤ badV t n p ∧ badV t n p ≤ 1023 ∧ badV t n p ≠ 0 := by
  have h := (bad_bd (t := t) hp 10).1
  have e : (2 : Int) ^ 10 = 1024 := by decide
  unfold badV
  split <;> omega
theorem rOrd_pos {t : Nat → Int} {n : Int} {p : Nat} (hp : (p : Int) ≤ n) : ((rOrd t n p).2.2 : Int) ≤ n ∧ (okO (rOrd t n p) → p + 2 ≤ (rOrd t n p).2.2) := by
  unfold rOrd okO
  split
  · have := sgn_lt (t := t) (n := n) (p := p) (by omega)
    have h := bad_bd (t := t) (n := n) (p := p + 1) (by omega) 10
    refine ⟨h.2.2.1, fun q => ?_⟩
    have q1 : badV t n (p + 1) ≠ -1 := q.1
    have : (bad t n (p + 1) 10).1 ≠ 0 := fun e => q1 (by unfold badV; rw [if_pos e])
    have := h.2.2.2 this
    show p + 2 ≤ (bad t n (p + 1) 10).2
    omega
  · split
    · have := sgn_lt (t := t) (n := n) (p := p) (by omega)
      have h := rNum_pos (t := t) (n := n) (p := p + 1) (by omega)
      exact ⟨h.2.1, fun q => by have := h.2.2 q.1; show p + 2 ≤ (rNum t n (p + 1)).2; omega⟩
    · split
      · have := sgn_lt (t := t) (n := n) (p := p) (by omega)
        have h := rDig_pos (t := t) (n := n) (p := p + 1) (by omega)
        exact ⟨h.2.1, fun q => by have := h.2.2 q.1; show p + 2 ≤ (rDig t n (p + 1)).2; omega⟩
      · split
        · have := sgn_lt (t := t) (n := n) (p := p) (by omega)
          have h := rDig_pos (t := t) (n := n) (p := p + 1) (by omega)
          split
          · exact ⟨h.2.1, fun q => absurd rfl q.1⟩
          · rename_i e
            have h2 := rTau_pos (t := t) (n := n) (p := (rDig t n (p + 1)).2) h.2.1
            exact ⟨h2.2, fun _ => by have := h.2.2 e; show p + 2 ≤ (rTau t n (rDig t n (p + 1)).2).2; omega⟩
        · exact ⟨hp, fun q => absurd rfl q.1⟩
theorem rOrd_rng {t : Nat → Int} {n : Int} {p : Nat} (hp : (p : Int) ≤ n) : (-1 ≤ (rOrd t n p).1 ∧ (rOrd t n p).1 ≤ 1023) ∧ -1 ≤ (rOrd t n p).2.1 ∧ (rOrd t n p).2.1 ≤ 99 := by
  unfold rOrd
  split
  · have := sgn_lt (t := t) (n := n) (p := p) (by omega)
    have h := badV_rng (t := t) (n := n) (p := p + 1) (by omega)
    exact ⟨⟨h.1, h.2.1⟩, by show -1 ≤ (0 : Int); omega, by show (0 : Int) ≤ 99; omega⟩
  · split
    · have h := rNum_rng (t := t) (n := n) (p := p + 1)
      exact ⟨⟨h.1, by show (rNum t n (p + 1)).1 ≤ 1023; omega⟩, by show -1 ≤ (0 : Int); omega, by show (0 : Int) ≤ 99; omega⟩
    · split
      · have h := rDig_rng (t := t) (n := n) (p := p + 1)
        exact ⟨⟨h.1, by show (rDig t n (p + 1)).1 ≤ 1023; omega⟩, by show -1 ≤ (0 : Int); omega, by show (0 : Int) ≤ 99; omega⟩
      · split
        · split
          · exact ⟨⟨by show -1 ≤ (-1 : Int); omega, by show (-1 : Int) ≤ 1023; omega⟩, by show -1 ≤ (-1 : Int); omega, by show (-1 : Int) ≤ 99; omega⟩
          · have h := rDig_rng (t := t) (n := n) (p := p + 1)
            have h2 := rTau_rng (t := t) (n := n) (p := (rDig t n (p + 1)).2)
            exact ⟨⟨h.1, by show (rDig t n (p + 1)).1 ≤ 1023; omega⟩, h2⟩
        · exact ⟨⟨by show -1 ≤ (-1 : Int); omega, by show (-1 : Int) ≤ 1023; omega⟩, by show -1 ≤ (0 : Int); omega, by show (0 : Int) ≤ 99; omega⟩
/-- the text in memory, and where reading stands -/
def atM (m : Mm) (p : Nat) : Mm := upI m 640 6 p
def TX (m : Mm) (t : Nat → Int) (n : Int) (p : Nat) : Prop := m.1 640 1 = n ∧ m.1 640 6 = p ∧ (0 ≤ n ∧ n ≤ 60) ∧ (p : Int) ≤ n ∧ ∀ i : Nat, (i : Int) < n → m.1 704 i = t i ∧ 0 ≤ t i ∧ t i ≤ 65535
theorem atM_atM {m : Mm} {p q : Nat} : atM (atM m p) q = atM m q := by
  unfold atM upI
  refine Prod.ext ?_ rfl
  funext x j
  simp only [up2]
  split <;> rfl
theorem atM_id {m : Mm} {p : Nat} (h : m.1 640 6 = p) : atM m p = m := by
  unfold atM upI
  refine Prod.ext ?_ rfl
  funext x j
  simp only [up2]
  split
  · rename_i e
    obtain ⟨rfl, rfl⟩ := e
    exact h.symm
  · rfl
theorem TX.at {m : Mm} {t : Nat → Int} {n : Int} {p q : Nat} (h : TX m t n p) (hq : (q : Int) ≤ n) : TX (atM m q) t n q := by
  obtain ⟨h1, h2, h3, h4, h5⟩ := h
  unfold atM
  exact ⟨by rw [upI_no (by omega)]; exact h1, by rw [upI_at], h3, hq, fun i hi => by rw [upI_r (by omega)]; exact h5 i hi⟩
theorem or_pow {x : Int} {k : Nat} (hx : 0 ≤ x ∧ x < 2 ^ k) : (((x.toNat ||| ((1 : Int) * 2 ^ k).toNat : Nat)) : Int) = x + 2 ^ k := by
  obtain ⟨j, rfl⟩ : ∃ j : Nat, x = j := ⟨x.toNat, by omega⟩
  have e : ((1 : Int) * 2 ^ k).toNat = 2 ^ k := by
    rw [Int.one_mul, show ((2 : Int) ^ k) = ((2 ^ k : Nat) : Int) by push_cast; rfl]
    rfl
  have hj : j < 2 ^ k := by
    have h2 : ((j : Nat) : Int) < ((2 ^ k : Nat) : Int) := by push_cast; exact hx.2
    omega
  have h := Nat.two_pow_add_eq_or_of_lt hj 1
  rw [Nat.mul_one] at h
  rw [e, show (((j : Nat) : Int)).toNat = j from rfl, Nat.or_comm, ← h]
  push_cast
  omega
theorem pow_s : ∀ k : Nat, k < 10 → (1 : Int) * 2 ^ k < 4294967296 ∧ 0 ≤ (1 : Int) * 2 ^ k := by decide
set_option maxHeartbeats 4000000 in
set_option maxRecDepth 100000 in
theorem c_X2_sign {G : GG} {l : Launch} (hfl : l.stackTraces = false) (hG : MW G) {m : Mm} {t : Nat → Int} {n : Int} {p : Nat} (hX : TX m t n p) : CT G l yX2_sign cX2_sign 1 (some .char) (RM 0 0 0) [.ref 640] m (fun r m' => r = some (vI (sgn t n p)) ∧ m' = m) (fun _ _ => False) := by
  refine CT.of RX2 [(0, .ref 640)] hfl (by decide +kernel) rfl rfl (Nat.le_of_ble_eq_true rfl) ?_
  intro E ok en hml hEl htab
  have hR : e_R E = RM 0 0 0 := en.2.2.2
  have hn0 : 0 < (e_c E).maxLocals := by rw [hml]; decide
  obtain ⟨x1, x2, x3, x4, x5⟩ := id hX
  refine ga_aload_n ok 0 rfl rfl dX2_sign_0 ?_
  refine gf_X2_32 ok hG rfl dX2_sign_1 ?_
  try rw [x2]
  refine ga_aload_n ok 0 rfl rfl dX2_sign_4 ?_
  refine gf_X2_15 ok hG rfl dX2_sign_5 ?_
  try rw [x1]
  refine ga_icmp_ge ok 23 (by decide) (by omega) (by omega) dX2_sign_8 (fun c_8 => ?_) (fun c_8 => ?_)
  · refine ga_iconst ok dX2_sign_23 ?_
    exact ga_ireturn ok en rfl (by first | exact narC (x5 p (by omega)).2 | exact narC (by omega)) (by decide) (by decide) dX2_sign_24 ⟨by unfold sgn; first | (rw [if_pos (by omega)]; rfl) | (rw [if_neg (by omega)]), rfl⟩
  · refine ga_aload_n ok 0 rfl rfl dX2_sign_11 ?_
    refine gf_X2_9 ok hG rfl dX2_sign_12 ?_
    refine ga_aload_n ok 0 rfl rfl dX2_sign_15 ?_
    refine gf_X2_32 ok hG rfl dX2_sign_16 ?_
    try rw [x2]
    refine ga_caload_ca ok (ar_sg hG rfl) (by omega) dX2_sign_19 ?_
    rw [(x5 (p : Int).toNat (by omega)).1]
    refine ga_goto ok 24 (by decide) dX2_sign_20 ?_
    exact ga_ireturn ok en rfl (by first | exact narC (x5 p (by omega)).2 | exact narC (by omega)) (by decide) (by decide) dX2_sign_24 ⟨by unfold sgn; first | (rw [if_pos (by omega)]; rfl) | (rw [if_neg (by omega)]), rfl⟩
set_option maxHeartbeats 4000000 in
set_option maxRecDepth 100000 in
theorem c_X2_readDigit {G : GG} {l : Launch} (hfl : l.stackTraces = false) (hG : MW G) {m : Mm} {t : Nat → Int} {n : Int} {p : Nat} (hX : TX m t n p) : CT G l yX2_readDigit cX2_readDigit 2 (some .int) (RM 1 0 0) [.ref 640] m (fun r m' => r = some (vI (rDig t n p).1) ∧ m' = atM m (rDig t n p).2) (fun _ _ => False) := by
  refine CT.of RX2 [(0, .ref 640)] hfl (by decide +kernel) rfl rfl (Nat.le_of_ble_eq_true rfl) ?_
  intro E ok en hml hEl htab
  have hR : e_R E = RM 1 0 0 := en.2.2.2
  have hn0 : 0 < (e_c E).maxLocals := by rw [hml]; decide
  have hn1 : 1 < (e_c E).maxLocals := by rw [hml]; decide
  obtain ⟨x1, x2, x3, x4, x5⟩ := id hX
  refine ga_aload_n ok 0 rfl rfl dX2_readDigit_0 ?_
  refine gd_X2_0 ok hG rfl lk_X2_39 rfl (c_X2_sign ok.fl hG hX) (by rw [hR]; exact ⟨by decide, by decide, by decide, by decide⟩) (Nat.le_of_ble_eq_true rfl) dX2_readDigit_1 ?_
  have sr := sgn_rng (fun i hi => (x5 i hi).2) p
  refine ga_istore_n ok 1 rfl hn1 dX2_readDigit_4 ?_
  refine ga_iload_n ok 1 rfl rfl dX2_readDigit_5 ?_
  refine ga_bipush ok dX2_readDigit_6 (by decide) ?_
  refine ga_icmp_lt ok 17 (by decide) (by omega) (by omega) dX2_readDigit_8 (fun c_8 => ?_) (fun c_8 => ?_)
  · refine ga_iconst ok dX2_readDigit_17 ?_
    exact ga_ireturn ok en rfl rfl (by decide) (by decide) dX2_readDigit_18 ⟨by unfold rDig; rw [if_neg (by omega)], by unfold rDig; rw [if_neg (by omega)]; exact (atM_id x2).symm⟩
  · refine ga_iload_n ok 1 rfl rfl dX2_readDigit_11 ?_
    refine ga_bipush ok dX2_readDigit_12 (by decide) ?_
    refine ga_icmp_le ok 19 (by decide) (by omega) (by omega) dX2_readDigit_14 (fun c_14 => ?_) (fun c_14 => ?_)
    · refine ga_aload_n ok 0 rfl rfl dX2_readDigit_19 ?_
      refine ga_dup ok dX2_readDigit_20 rfl ?_
      refine gf_X2_32 ok hG rfl dX2_readDigit_21 ?_
      try rw [x2]
      refine ga_iconst ok dX2_readDigit_24 ?_
      refine ga_iadd ok dX2_readDigit_25 ?_
      refine gp_X2_32 ok hG rfl dX2_readDigit_26 ?_
      refine ga_iload_n ok 1 rfl rfl dX2_readDigit_29 ?_
      refine ga_bipush ok dX2_readDigit_30 (by decide) ?_
      refine ga_isub ok dX2_readDigit_32 ?_
      exact ga_ireturn ok en rfl rfl (by decide) (by decide) dX2_readDigit_33 ⟨by unfold rDig; rw [if_pos (by omega)], by unfold rDig; rw [if_pos (by omega)]; unfold atM; congr 1⟩
    · refine ga_iconst ok dX2_readDigit_17 ?_
      exact ga_ireturn ok en rfl rfl (by decide) (by decide) dX2_readDigit_18 ⟨by unfold rDig; rw [if_neg (by omega)], by unfold rDig; rw [if_neg (by omega)]; exact (atM_id x2).symm⟩
theorem rDig_no {t : Nat → Int} {n : Int} {p : Nat} (h : (rDig t n p).1 = -1) : (rDig t n p).2 = p := by
  unfold rDig at h ⊢
  split at h
  · have h : sgn t n p - 48 = -1 := h
    omega
  · rename_i e
    rw [if_neg e]
set_option maxHeartbeats 4000000 in
set_option maxRecDepth 100000 in
theorem c_X2_readNumber {G : GG} {l : Launch} (hfl : l.stackTraces = false) (hG : MW G) {m : Mm} {t : Nat → Int} {n : Int} {p : Nat} (hX : TX m t n p) : CT G l yX2_readNumber cX2_readNumber 3 (some .int) (RM 2 0 0) [.ref 640] m (fun r m' => r = some (vI (rNum t n p).1) ∧ m' = atM m (rNum t n p).2) (fun _ _ => False) := by
  refine CT.of RX2 [(0, .ref 640)] hfl (by decide +kernel) rfl rfl (Nat.le_of_ble_eq_true rfl) ?_
  intro E ok en hml hEl htab
  have hR : e_R E = RM 2 0 0 := en.2.2.2
  have hn0 : 0 < (e_c E).maxLocals := by rw [hml]; decide
  have hn1 : 1 < (e_c E).maxLocals := by rw [hml]; decide
  have hn2 : 2 < (e_c E).maxLocals := by rw [hml]; decide
  obtain ⟨x1, x2, x3, x4, x5⟩ := id hX
  refine ga_aload_n ok 0 rfl rfl dX2_readNumber_0 ?_
  refine gd_X2_0 ok hG rfl lk_X2_50 rfl (c_X2_readDigit ok.fl hG hX) (by rw [hR]; exact ⟨by decide, by decide, by decide, by decide⟩) (Nat.le_of_ble_eq_true rfl) dX2_readNumber_1 ?_
  have d1 := rDig_rng (t := t) (n := n) (p := p)
  have d2 := rDig_rng (t := t) (n := n) (p := (rDig t n p).2)
  refine ga_istore_n ok 1 rfl hn1 dX2_readNumber_4 ?_
  refine ga_iload_n ok 1 rfl rfl dX2_readNumber_5 ?_
  refine ga_iconst ok dX2_readNumber_6 ?_
  refine ga_icmp_ne ok 12 (by decide) (by omega) (by omega) dX2_readNumber_7 (fun c_7 => ?_) (fun c_7 => ?_)
  · refine ga_aload_n ok 0 rfl rfl dX2_readNumber_12 ?_
    refine gd_X2_0 ok hG rfl lk_X2_50 rfl (c_X2_readDigit ok.fl hG (hX.at (rDig_pos x4).2.1)) (by rw [hR]; exact ⟨by decide, by decide, by decide, by decide⟩) (Nat.le_of_ble_eq_true rfl) dX2_readNumber_13 ?_
    refine ga_istore_n ok 2 rfl hn2 dX2_readNumber_16 ?_
    refine ga_iload_n ok 2 rfl rfl dX2_readNumber_17 ?_
    refine ga_iconst ok dX2_readNumber_18 ?_
    refine ga_icmp_ne ok 26 (by decide) (by omega) (by omega) dX2_readNumber_19 (fun c_19 => ?_) (fun c_19 => ?_)
    · refine ga_iload_n ok 1 rfl rfl dX2_readNumber_26 ?_
      refine ga_bipush ok dX2_readNumber_27 (by decide) ?_
      refine ga_imul ok dX2_readNumber_29 ?_
      refine ga_iload_n ok 2 rfl rfl dX2_readNumber_30 ?_
      refine ga_iadd ok dX2_readNumber_31 ?_
      exact ga_ireturn ok en rfl rfl (by decide) (by decide) dX2_readNumber_32 ⟨by unfold rNum; rw [if_neg c_7, if_neg c_19], by unfold rNum; rw [if_neg c_7, if_neg c_19]; exact atM_atM⟩
    · refine ga_iload_n ok 1 rfl rfl dX2_readNumber_22 ?_
      refine ga_goto ok 32 (by decide) dX2_readNumber_23 ?_
      exact ga_ireturn ok en rfl rfl (by decide) (by decide) dX2_readNumber_32 ⟨by unfold rNum; rw [if_neg c_7, if_pos c_19], by unfold rNum; rw [if_neg c_7, if_pos c_19, atM_atM, rDig_no c_19]⟩
  · refine ga_iconst ok dX2_readNumber_10 ?_
    exact ga_ireturn ok en rfl rfl (by decide) (by decide) dX2_readNumber_11 ⟨by unfold rNum; rw [if_pos c_7], by unfold rNum; rw [if_pos c_7, rDig_no c_7]⟩
set_option maxHeartbeats 4000000 in
set_option maxRecDepth 100000 in
theorem c_X2_readTaught {G : GG} {l : Launch} (hfl : l.stackTraces = false) (hG : MW G) {m : Mm} {t : Nat → Int} {n : Int} {p : Nat} (hX : TX m t n p) : CT G l yX2_readTaught cX2_readTaught 1 (some .int) (RM 3 0 0) [.ref 640] m (fun r m' => r = some (vI (rTau t n p).1) ∧ m' = atM m (rTau t n p).2) (fun _ _ => False) := by
  refine CT.of RX2 [(0, .ref 640)] hfl (by decide +kernel) rfl rfl (Nat.le_of_ble_eq_true rfl) ?_
  intro E ok en hml hEl htab
  have hR : e_R E = RM 3 0 0 := en.2.2.2
  have hn0 : 0 < (e_c E).maxLocals := by rw [hml]; decide
  obtain ⟨x1, x2, x3, x4, x5⟩ := id hX
  refine ga_aload_n ok 0 rfl rfl dX2_readTaught_0 ?_
  refine gd_X2_0 ok hG rfl lk_X2_39 rfl (c_X2_sign ok.fl hG hX) (by rw [hR]; exact ⟨by decide, by decide, by decide, by decide⟩) (Nat.le_of_ble_eq_true rfl) dX2_readTaught_1 ?_
  have sr := sgn_rng (fun i hi => (x5 i hi).2) p
  refine ga_bipush ok dX2_readTaught_4 (by decide) ?_
  refine ga_icmp_eq ok 11 (by decide) (by omega) (by omega) dX2_readTaught_6 (fun c_6 => ?_) (fun c_6 => ?_)
  · refine ga_aload_n ok 0 rfl rfl dX2_readTaught_11 ?_
    refine ga_dup ok dX2_readTaught_12 rfl ?_
    refine gf_X2_32 ok hG rfl dX2_readTaught_13 ?_
    try rw [x2]
    refine ga_iconst ok dX2_readTaught_16 ?_
    refine ga_iadd ok dX2_readTaught_17 ?_
    refine gp_X2_32 ok hG rfl dX2_readTaught_18 ?_
    refine ga_aload_n ok 0 rfl rfl dX2_readTaught_21 ?_
    rw [show upI m 640 6 ((p : Int) + 1) = atM m (p + 1) from rfl]
    refine gd_X2_0 ok hG rfl lk_X2_47 rfl (c_X2_readNumber ok.fl hG (p := p + 1) (hX.at (q := p + 1) (by have := sgn_lt (t := t) (n := n) (p := p) (by omega); omega))) (by rw [hR]; exact ⟨by decide, by decide, by decide, by decide⟩) (Nat.le_of_ble_eq_true rfl) dX2_readTaught_22 ?_
    exact ga_ireturn ok en rfl rfl (by decide) (by decide) dX2_readTaught_25 ⟨by unfold rTau; rw [if_pos c_6], by unfold rTau; rw [if_pos c_6]; exact atM_atM⟩
  · refine ga_iconst ok dX2_readTaught_9 ?_
    exact ga_ireturn ok en rfl rfl (by decide) (by decide) dX2_readTaught_10 ⟨by unfold rTau; rw [if_neg c_6], by unfold rTau; rw [if_neg c_6]; exact (atM_id x2).symm⟩
theorem atM_up {m : Mm} {p : Nat} {q : Int} : upI (atM m p) 640 6 q = upI m 640 6 q := by
  unfold atM upI
  refine Prod.ext ?_ rfl
  funext x j
  simp only [up2]
  split <;> rfl
set_option maxHeartbeats 4000000 in
set_option maxRecDepth 100000 in
theorem c_X2_readBadges {G : GG} {l : Launch} (hfl : l.stackTraces = false) (hG : MW G) {m : Mm} {t : Nat → Int} {n : Int} {p : Nat} (hX : TX m t n p) : CT G l yX2_readBadges cX2_readBadges 3 (some .int) (RM 1 0 0) [.ref 640] m (fun r m' => r = some (vI (badV t n p)) ∧ m' = atM m (bad t n p 10).2) (fun _ _ => False) := by
  refine CT.of RX2 [(0, .ref 640)] hfl (by decide +kernel) rfl rfl (Nat.le_of_ble_eq_true rfl) ?_
  intro E ok en hml hEl htab
  have hR : e_R E = RM 1 0 0 := en.2.2.2
  have hn0 : 0 < (e_c E).maxLocals := by rw [hml]; decide
  have hn1 : 1 < (e_c E).maxLocals := by rw [hml]; decide
  have hn2 : 2 < (e_c E).maxLocals := by rw [hml]; decide
  obtain ⟨x1, x2, x3, x4, x5⟩ := id hX
  refine ga_iconst ok dX2_readBadges_0 ?_
  refine ga_istore_n ok 1 rfl hn1 dX2_readBadges_1 ?_
  refine ga_iconst ok dX2_readBadges_2 ?_
  refine ga_istore_n ok 2 rfl hn2 dX2_readBadges_3 ?_
  have loop : ∀ i : Int, 0 ≤ i ∧ i ≤ 10 → WA G E 0 0 4 [(2, vI i), (1, vI (bad t n p i.toNat).1), (0, .ref 640)] [] (atM m (bad t n p i.toNat).2) := by
    refine wl1 _ (fun i => (10 - i).toNat) _ ?_
    intro i hi ih
    have hb9 := bad_bd (t := t) x4 i.toNat
    have hk2 : TX (atM m (bad t n p i.toNat).2) t n (bad t n p i.toNat).2 := hX.at hb9.2.2.1
    have hp9 : (2 : Int) ^ 10 = 1024 := by decide
    refine ga_iload_n ok 2 rfl rfl dX2_readBadges_4 ?_
    refine ga_bipush ok dX2_readBadges_5 (by decide) ?_
    refine ga_icmp_ge ok 43 (by decide) (by omega) (by omega) dX2_readBadges_7 (fun c_7 => ?_) (fun c_7 => ?_)
    · have hi10 : i = 10 := by omega
      subst hi10
      rw [show (10 : Int).toNat = 10 from rfl] at hb9 ⊢
      refine ga_iload_n ok 1 rfl rfl dX2_readBadges_43 ?_
      refine ga_if_ne ok 51 (by decide) (by omega) dX2_readBadges_44 (fun c_44 => ?_) (fun c_44 => ?_)
      · refine ga_iload_n ok 1 rfl rfl dX2_readBadges_51 ?_
        exact ga_ireturn ok en rfl rfl (by decide) (by decide) dX2_readBadges_52 ⟨by unfold badV; rw [if_neg c_44], rfl⟩
      · refine ga_iconst ok dX2_readBadges_47 ?_
        refine ga_goto ok 52 (by decide) dX2_readBadges_48 ?_
        exact ga_ireturn ok en rfl rfl (by decide) (by decide) dX2_readBadges_52 ⟨by unfold badV; rw [if_pos c_44], rfl⟩
    · refine ga_aload_n ok 0 rfl rfl dX2_readBadges_10 ?_
      refine gd_X2_0 ok hG rfl lk_X2_39 rfl (c_X2_sign ok.fl hG hk2) (by rw [hR]; exact ⟨by decide, by decide, by decide, by decide⟩) (Nat.le_of_ble_eq_true rfl) dX2_readBadges_11 ?_
      have sr := sgn_rng (fun i hi => (x5 i hi).2) (bad t n p i.toNat).2
      have pw := pow_s i.toNat (by omega)
      have e9 : bad t n p (i + 1).toNat = if sgn t n (bad t n p i.toNat).2 = 97 + (i.toNat : Int) then ((bad t n p i.toNat).1 + 2 ^ i.toNat, (bad t n p i.toNat).2 + 1) else bad t n p i.toNat := by rw [show (i + 1).toNat = i.toNat + 1 by omega]; rfl
      refine ga_bipush ok dX2_readBadges_14 (by decide) ?_
      refine ga_iload_n ok 2 rfl rfl dX2_readBadges_16 ?_
      refine ga_iadd ok dX2_readBadges_17 ?_
      refine ga_icmp_ne ok 37 (by decide) (by omega) (by omega) dX2_readBadges_18 (fun c_18 => ?_) (fun c_18 => ?_)
      · rw [if_neg (by omega)] at e9
        refine ga_iinc ok rfl hn2 dX2_readBadges_37 ?_
        refine ga_goto ok 4 (by decide) dX2_readBadges_40 ?_
        have nx := ih (i + 1) (by omega) (by omega)
        rw [e9] at nx
        exact WA.re (by exact ⟨rfl, rfl, rfl, trivial⟩) nx
      · rw [if_pos (by omega)] at e9
        refine ga_iload_n ok 1 rfl rfl dX2_readBadges_21 ?_
        refine ga_iconst ok dX2_readBadges_22 ?_
        refine ga_iload_n ok 2 rfl rfl dX2_readBadges_23 ?_
        refine ga_ishl ok dX2_readBadges_24 (by omega) (by omega) pw.1 ?_
        refine ga_ior ok dX2_readBadges_25 hb9.1.1 pw.2 ?_
        rw [or_pow hb9.1]
        refine ga_istore_n ok 1 rfl hn1 dX2_readBadges_26 ?_
        refine ga_aload_n ok 0 rfl rfl dX2_readBadges_27 ?_
        refine ga_dup ok dX2_readBadges_28 rfl ?_
        refine gf_X2_32 ok hG rfl dX2_readBadges_29 ?_
        rw [hk2.2.1]
        refine ga_iconst ok dX2_readBadges_32 ?_
        refine ga_iadd ok dX2_readBadges_33 ?_
        refine gp_X2_32 ok hG rfl dX2_readBadges_34 ?_
        refine ga_iinc ok rfl hn2 dX2_readBadges_37 ?_
        refine ga_goto ok 4 (by decide) dX2_readBadges_40 ?_
        have nx := ih (i + 1) (by omega) (by omega)
        rw [e9] at nx
        rw [show upI (atM m (bad t n p i.toNat).2) 640 6 (((bad t n p i.toNat).2 : Int) + 1) = atM m ((bad t n p i.toNat).2 + 1) from atM_up]
        exact WA.re (by exact ⟨rfl, rfl, rfl, trivial⟩) nx
  rw [← atM_id x2]
  exact WA.re (by exact ⟨rfl, rfl, rfl, trivial⟩) (loop 0 (by omega))
/-- an order is noted -/
def ordM (m : Mm) (o : Nat) (c : Int) (q : Int × Int × Nat) : Mm := upI (upI (upI (upI (atM m q.2.2) 768 o c) 832 o q.1) 896 o q.2.1) 640 5 (o + 1)
/-- k orders have been read -/
def RD (t : Nat → Int) (n : Int) (m M : Mm) (k p : Nat) : Prop :=
  (∀ x, x ≠ 640 → x ≠ 768 → x ≠ 832 → x ≠ 896 → M.1 x = m.1 x ∧ M.2 x = m.2 x) ∧ (∀ j, j ≠ 5 → j ≠ 6 → M.1 640 j = m.1 640 j) ∧ M.1 640 6 = p ∧ M.1 640 5 = k ∧
  (∀ j : Nat, j < k → M.1 768 j = sgn t n (pS t n j) ∧ M.1 832 j = (rOrd t n (pS t n j)).1 ∧ M.1 896 j = (rOrd t n (pS t n j)).2.1 ∧ okO (rOrd t n (pS t n j)) ∧ (pS t n j : Int) ≤ n)
theorem RD.order {t : Nat → Int} {n : Int} {m M : Mm} {k : Nat} (h : RD t n m M k (pS t n k)) (hn : (pS t n k : Int) ≤ n) (ho : okO (rOrd t n (pS t n k))) : RD t n m (ordM M k (sgn t n (pS t n k)) (rOrd t n (pS t n k))) (k + 1) (rOrd t n (pS t n k)).2.2 := by
  obtain ⟨h1, h2, h3, h4, h5⟩ := h
  unfold ordM atM
  refine ⟨fun x a b c d => ⟨by rw [upI_r (by omega), upI_r (by omega), upI_r (by omega), upI_r (by omega), upI_r (by omega)]; exact (h1 x a b c d).1, (h1 x a b c d).2⟩, fun j a b => by rw [upI_no (by omega), upI_r (by omega), upI_r (by omega), upI_r (by omega), upI_no (by omega)]; exact h2 j a b, by rw [upI_no (by omega), upI_r (by omega), upI_r (by omega), upI_r (by omega), upI_at], by rw [upI_at]; push_cast; rfl, fun j hj => ?_⟩
  by_cases e : j = k
  · subst e
    refine ⟨by rw [upI_r (by omega), upI_r (by omega), upI_r (by omega), upI_at], by rw [upI_r (by omega), upI_r (by omega), upI_at], by rw [upI_r (by omega), upI_at], ho, hn⟩
  · have q := h5 j (by omega)
    refine ⟨by rw [upI_r (by omega), upI_r (by omega), upI_r (by omega), upI_no (by omega), upI_r (by omega)]; exact q.1, by rw [upI_r (by omega), upI_r (by omega), upI_no (by omega), upI_r (by omega), upI_r (by omega)]; exact q.2.1, by rw [upI_r (by omega), upI_no (by omega), upI_r (by omega), upI_r (by omega), upI_r (by omega)]; exact q.2.2.1, q.2.2.2⟩
theorem RD.at {t : Nat → Int} {n : Int} {m M : Mm} {k p q : Nat} (h : RD t n m M k p) : RD t n m (atM M q) k q := by
  obtain ⟨h1, h2, h3, h4, h5⟩ := h
  unfold atM
  exact ⟨fun x a b c d => ⟨by rw [upI_r (by omega)]; exact (h1 x a b c d).1, (h1 x a b c d).2⟩, fun j a b => by rw [upI_no (by omega)]; exact h2 j a b, upI_at, by rw [upI_no (by omega)]; exact h4, fun j hj => by rw [upI_r (by omega), upI_r (by omega), upI_r (by omega)]; exact h5 j hj⟩
theorem RD.tx {t : Nat → Int} {n : Int} {m M : Mm} {k p : Nat} (h : RD t n m M k p) (x1 : m.1 640 1 = n) (x3 : 0 ≤ n ∧ n ≤ 60) (x5 : ∀ i : Nat, (i : Int) < n → m.1 704 i = t i ∧ 0 ≤ t i ∧ t i ≤ 65535) (hp : (p : Int) ≤ n) : TX M t n p := by
  obtain ⟨h1, h2, h3, h4, h5⟩ := h
  exact ⟨by rw [h2 1 (by omega) (by omega)]; exact x1, h3, x3, hp, fun i hi => by rw [(h1 704 (by omega) (by omega) (by omega) (by omega)).1]; exact x5 i hi⟩
set_option maxHeartbeats 4000000 in
set_option maxRecDepth 100000 in
theorem c_X2_readOrder {G : GG} {l : Launch} (hfl : l.stackTraces = false) (hG : MW G) {m : Mm} {t : Nat → Int} {n : Int} {p : Nat} (hX : TX m t n p) {o : Nat} (ho5 : m.1 640 5 = o) (ho : o < 60) : CT G l yX2_readOrder cX2_readOrder 4 (some .boolean) (RM 4 0 0) [.ref 640] m (fun r m' => (¬ okO (rOrd t n p) ∧ r = some (vI 0) ∧ m' = atM m (rOrd t n p).2.2) ∨ (okO (rOrd t n p) ∧ r = some (vI 1) ∧ m' = ordM m o (sgn t n p) (rOrd t n p))) (fun _ _ => False) := by
  refine CT.of RX2 [(0, .ref 640)] hfl (by decide +kernel) rfl rfl (Nat.le_of_ble_eq_true rfl) ?_
  intro E ok en hml hEl htab
  have hR : e_R E = RM 4 0 0 := en.2.2.2
  have hn0 : 0 < (e_c E).maxLocals := by rw [hml]; decide
  have hn1 : 1 < (e_c E).maxLocals := by rw [hml]; decide
  have hn2 : 2 < (e_c E).maxLocals := by rw [hml]; decide
  have hn3 : 3 < (e_c E).maxLocals := by rw [hml]; decide
  obtain ⟨x1, x2, x3, x4, x5⟩ := id hX
  have sr := sgn_rng (fun i hi => (x5 i hi).2) p
  have e5 : (atM m (rOrd t n p).2.2).1 640 5 = o := by unfold atM; rw [upI_no (by omega)]; exact ho5
  have mid : WA G E 0 0 128 [(3, vI (rOrd t n p).2.1), (2, vI (rOrd t n p).1), (1, vI (sgn t n p)), (0, .ref 640)] [] (atM m (rOrd t n p).2.2) := by
    refine ga_iload_n ok 2 rfl rfl dX2_readOrder_128 ?_
    refine ga_iconst ok dX2_readOrder_129 ?_
    refine ga_icmp_eq ok 138 (by decide) (by have := rOrd_rng (t := t) x4; omega) (by omega) dX2_readOrder_130 (fun c_130 => ?_) (fun c_130 => ?_)
    · refine ga_iconst ok dX2_readOrder_138 ?_
      exact ga_ireturn ok en rfl (by decide) (by decide) (by decide) dX2_readOrder_139 (Or.inl ⟨fun h => h.1 c_130, rfl, rfl⟩)
    · refine ga_iload_n ok 3 rfl rfl dX2_readOrder_133 ?_
      refine ga_iconst ok dX2_readOrder_134 ?_
      refine ga_icmp_ne ok 140 (by decide) (by have := rOrd_rng (t := t) x4; omega) (by omega) dX2_readOrder_135 (fun c_135 => ?_) (fun c_135 => ?_)
      · refine ga_aload_n ok 0 rfl rfl dX2_readOrder_140 ?_
        refine gf_X2_19 ok hG rfl dX2_readOrder_141 ?_
        refine ga_aload_n ok 0 rfl rfl dX2_readOrder_144 ?_
        refine gf_X2_29 ok hG rfl dX2_readOrder_145 ?_
        try rw [upI_r (by omega), upI_r (by omega), upI_r (by omega)]
        try rw [upI_r (by omega), upI_r (by omega)]
        try rw [upI_r (by omega)]
        rw [e5]
        refine ga_iload_n ok 1 rfl rfl dX2_readOrder_148 ?_
        refine ga_castore_ca ok (ar_ki hG rfl) (by omega) (narC sr) dX2_readOrder_149 ?_
        refine ga_aload_n ok 0 rfl rfl dX2_readOrder_150 ?_
        refine gf_X2_22 ok hG rfl dX2_readOrder_151 ?_
        refine ga_aload_n ok 0 rfl rfl dX2_readOrder_154 ?_
        refine gf_X2_29 ok hG rfl dX2_readOrder_155 ?_
        try rw [upI_r (by omega), upI_r (by omega), upI_r (by omega)]
        try rw [upI_r (by omega), upI_r (by omega)]
        try rw [upI_r (by omega)]
        rw [e5]
        refine ga_iload_n ok 2 rfl rfl dX2_readOrder_158 ?_
        refine ga_iastore_ia ok (ar_f1 hG rfl) (by omega) dX2_readOrder_159 ?_
        refine ga_aload_n ok 0 rfl rfl dX2_readOrder_160 ?_
        refine gf_X2_26 ok hG rfl dX2_readOrder_161 ?_
        refine ga_aload_n ok 0 rfl rfl dX2_readOrder_164 ?_
        refine gf_X2_29 ok hG rfl dX2_readOrder_165 ?_
        try rw [upI_r (by omega), upI_r (by omega), upI_r (by omega)]
        try rw [upI_r (by omega), upI_r (by omega)]
        try rw [upI_r (by omega)]
        rw [e5]
        refine ga_iload_n ok 3 rfl rfl dX2_readOrder_168 ?_
        refine ga_iastore_ia ok (ar_f2 hG rfl) (by omega) dX2_readOrder_169 ?_
        refine ga_aload_n ok 0 rfl rfl dX2_readOrder_170 ?_
        refine ga_dup ok dX2_readOrder_171 rfl ?_
        refine gf_X2_29 ok hG rfl dX2_readOrder_172 ?_
        try rw [upI_r (by omega), upI_r (by omega), upI_r (by omega)]
        try rw [upI_r (by omega), upI_r (by omega)]
        try rw [upI_r (by omega)]
        rw [e5]
        refine ga_iconst ok dX2_readOrder_175 ?_
        refine ga_iadd ok dX2_readOrder_176 ?_
        refine gp_X2_29 ok hG rfl dX2_readOrder_177 ?_
        refine ga_iconst ok dX2_readOrder_180 ?_
        exact ga_ireturn ok en rfl (by decide) (by decide) (by decide) dX2_readOrder_181 (Or.inr ⟨⟨c_130, c_135⟩, rfl, rfl⟩)
      · refine ga_iconst ok dX2_readOrder_138 ?_
        exact ga_ireturn ok en rfl (by decide) (by decide) (by decide) dX2_readOrder_139 (Or.inl ⟨fun h => h.2 c_135, rfl, rfl⟩)
  refine ga_aload_n ok 0 rfl rfl dX2_readOrder_0 ?_
  refine gd_X2_0 ok hG rfl lk_X2_39 rfl (c_X2_sign ok.fl hG hX) (by rw [hR]; exact ⟨by decide, by decide, by decide, by decide⟩) (Nat.le_of_ble_eq_true rfl) dX2_readOrder_1 ?_
  refine ga_istore_n ok 1 rfl hn1 dX2_readOrder_4 ?_
  refine ga_iconst ok dX2_readOrder_5 ?_
  refine ga_istore_n ok 2 rfl hn2 dX2_readOrder_6 ?_
  refine ga_iconst ok dX2_readOrder_7 ?_
  refine ga_istore_n ok 3 rfl hn3 dX2_readOrder_8 ?_
  refine ga_iload_n ok 1 rfl rfl dX2_readOrder_9 ?_
  refine ga_bipush ok dX2_readOrder_10 (by decide) ?_
  refine ga_icmp_eq ok 21 (by decide) (by omega) (by omega) dX2_readOrder_12 (fun c_12 => ?_) (fun c_12 => ?_)
  · refine ga_aload_n ok 0 rfl rfl dX2_readOrder_21 ?_
    refine ga_dup ok dX2_readOrder_22 rfl ?_
    refine gf_X2_32 ok hG rfl dX2_readOrder_23 ?_
    try rw [x2]
    refine ga_iconst ok dX2_readOrder_26 ?_
    refine ga_iadd ok dX2_readOrder_27 ?_
    refine gp_X2_32 ok hG rfl dX2_readOrder_28 ?_
    refine ga_aload_n ok 0 rfl rfl dX2_readOrder_31 ?_
    rw [show upI m 640 6 ((p : Int) + 1) = atM m (p + 1) from rfl]
    refine gd_X2_0 ok hG rfl lk_X2_43 rfl (c_X2_readBadges ok.fl hG (hX.at (q := p + 1) (by have := sgn_lt (t := t) (n := n) (p := p) (by omega); omega))) (by rw [hR]; exact ⟨by decide, by decide, by decide, by decide⟩) (Nat.le_of_ble_eq_true rfl) dX2_readOrder_32 ?_
    refine ga_istore_n ok 2 rfl hn2 dX2_readOrder_35 ?_
    refine ga_goto ok 128 (by decide) dX2_readOrder_36 ?_
    have md := mid
    unfold rOrd at md
    rw [if_pos (Or.inl c_12)] at md
    simp only [atM_atM]
    exact WA.re (by exact ⟨rfl, rfl, rfl, rfl, trivial⟩) md
  · refine ga_iload_n ok 1 rfl rfl dX2_readOrder_15 ?_
    refine ga_bipush ok dX2_readOrder_16 (by decide) ?_
    refine ga_icmp_ne ok 39 (by decide) (by omega) (by omega) dX2_readOrder_18 (fun c_18 => ?_) (fun c_18 => ?_)
    · refine ga_iload_n ok 1 rfl rfl dX2_readOrder_39 ?_
      refine ga_bipush ok dX2_readOrder_40 (by decide) ?_
      refine ga_icmp_eq ok 51 (by decide) (by omega) (by omega) dX2_readOrder_42 (fun c_42 => ?_) (fun c_42 => ?_)
      · refine ga_aload_n ok 0 rfl rfl dX2_readOrder_51 ?_
        refine ga_dup ok dX2_readOrder_52 rfl ?_
        refine gf_X2_32 ok hG rfl dX2_readOrder_53 ?_
        try rw [x2]
        refine ga_iconst ok dX2_readOrder_56 ?_
        refine ga_iadd ok dX2_readOrder_57 ?_
        refine gp_X2_32 ok hG rfl dX2_readOrder_58 ?_
        refine ga_aload_n ok 0 rfl rfl dX2_readOrder_61 ?_
        rw [show upI m 640 6 ((p : Int) + 1) = atM m (p + 1) from rfl]
        refine gd_X2_0 ok hG rfl lk_X2_47 rfl (c_X2_readNumber ok.fl hG (hX.at (q := p + 1) (by have := sgn_lt (t := t) (n := n) (p := p) (by omega); omega))) (by rw [hR]; exact ⟨by decide, by decide, by decide, by decide⟩) (Nat.le_of_ble_eq_true rfl) dX2_readOrder_62 ?_
        refine ga_istore_n ok 2 rfl hn2 dX2_readOrder_65 ?_
        refine ga_goto ok 128 (by decide) dX2_readOrder_66 ?_
        have md := mid
        unfold rOrd at md
        rw [if_neg (by omega), if_pos (Or.inl c_42)] at md
        simp only [atM_atM]
        exact WA.re (by exact ⟨rfl, rfl, rfl, rfl, trivial⟩) md
      · refine ga_iload_n ok 1 rfl rfl dX2_readOrder_45 ?_
        refine ga_bipush ok dX2_readOrder_46 (by decide) ?_
        refine ga_icmp_ne ok 69 (by decide) (by omega) (by omega) dX2_readOrder_48 (fun c_48 => ?_) (fun c_48 => ?_)
        · refine ga_iload_n ok 1 rfl rfl dX2_readOrder_69 ?_
          refine ga_bipush ok dX2_readOrder_70 (by decide) ?_
          refine ga_icmp_ne ok 93 (by decide) (by omega) (by omega) dX2_readOrder_72 (fun c_72 => ?_) (fun c_72 => ?_)
          · refine ga_iload_n ok 1 rfl rfl dX2_readOrder_93 ?_
            refine ga_bipush ok dX2_readOrder_94 (by decide) ?_
            refine ga_icmp_ne ok 128 (by decide) (by omega) (by omega) dX2_readOrder_96 (fun c_96 => ?_) (fun c_96 => ?_)
            · have md := mid
              unfold rOrd at md
              rw [if_neg (by omega), if_neg (by omega), if_neg (by omega), if_neg (by omega)] at md
              rw [← atM_id x2]
              exact WA.re (by exact ⟨rfl, rfl, rfl, rfl, trivial⟩) md
            · refine ga_aload_n ok 0 rfl rfl dX2_readOrder_99 ?_
              refine ga_dup ok dX2_readOrder_100 rfl ?_
              refine gf_X2_32 ok hG rfl dX2_readOrder_101 ?_
              try rw [x2]
              refine ga_iconst ok dX2_readOrder_104 ?_
              refine ga_iadd ok dX2_readOrder_105 ?_
              refine gp_X2_32 ok hG rfl dX2_readOrder_106 ?_
              refine ga_aload_n ok 0 rfl rfl dX2_readOrder_109 ?_
              rw [show upI m 640 6 ((p : Int) + 1) = atM m (p + 1) from rfl]
              refine gd_X2_0 ok hG rfl lk_X2_50 rfl (c_X2_readDigit ok.fl hG (hX.at (q := p + 1) (by have := sgn_lt (t := t) (n := n) (p := p) (by omega); omega))) (by rw [hR]; exact ⟨by decide, by decide, by decide, by decide⟩) (Nat.le_of_ble_eq_true rfl) dX2_readOrder_110 ?_
              refine ga_istore_n ok 2 rfl hn2 dX2_readOrder_113 ?_
              refine ga_iload_n ok 2 rfl rfl dX2_readOrder_114 ?_
              refine ga_iconst ok dX2_readOrder_115 ?_
              refine ga_icmp_ne ok 123 (by decide) (by have := rDig_rng (t := t) (n := n) (p := p + 1); omega) (by omega) dX2_readOrder_116 (fun c_116 => ?_) (fun c_116 => ?_)
              · refine ga_aload_n ok 0 rfl rfl dX2_readOrder_123 ?_
                refine gd_X2_0 ok hG rfl lk_X2_53 rfl (c_X2_readTaught ok.fl hG ((hX.at (q := p + 1) (by have := sgn_lt (t := t) (n := n) (p := p) (by omega); omega)).at (q := (rDig t n (p + 1)).2) (rDig_pos (by have := sgn_lt (t := t) (n := n) (p := p) (by omega); omega)).2.1)) (by rw [hR]; exact ⟨by decide, by decide, by decide, by decide⟩) (Nat.le_of_ble_eq_true rfl) dX2_readOrder_124 ?_
                refine ga_istore_n ok 3 rfl hn3 dX2_readOrder_127 ?_
                have md := mid
                unfold rOrd at md
                rw [if_neg (by omega), if_neg (by omega), if_neg (by omega), if_pos c_96, if_neg c_116] at md
                simp only [atM_atM]
                exact WA.re (by exact ⟨rfl, rfl, rfl, rfl, trivial⟩) md
              · refine ga_iconst ok dX2_readOrder_119 ?_
                refine ga_goto ok 127 (by decide) dX2_readOrder_120 ?_
                refine ga_istore_n ok 3 rfl hn3 dX2_readOrder_127 ?_
                have md := mid
                unfold rOrd at md
                rw [if_neg (by omega), if_neg (by omega), if_neg (by omega), if_pos c_96, if_pos c_116] at md
                simp only [atM_atM]
                exact WA.re (by exact ⟨rfl, (by rw [c_116]; rfl), rfl, rfl, trivial⟩) md
          · refine ga_aload_n ok 0 rfl rfl dX2_readOrder_75 ?_
            refine ga_dup ok dX2_readOrder_76 rfl ?_
            refine gf_X2_32 ok hG rfl dX2_readOrder_77 ?_
            try rw [x2]
            refine ga_iconst ok dX2_readOrder_80 ?_
            refine ga_iadd ok dX2_readOrder_81 ?_
            refine gp_X2_32 ok hG rfl dX2_readOrder_82 ?_
            refine ga_aload_n ok 0 rfl rfl dX2_readOrder_85 ?_
            rw [show upI m 640 6 ((p : Int) + 1) = atM m (p + 1) from rfl]
            refine gd_X2_0 ok hG rfl lk_X2_50 rfl (c_X2_readDigit ok.fl hG (hX.at (q := p + 1) (by have := sgn_lt (t := t) (n := n) (p := p) (by omega); omega))) (by rw [hR]; exact ⟨by decide, by decide, by decide, by decide⟩) (Nat.le_of_ble_eq_true rfl) dX2_readOrder_86 ?_
            refine ga_istore_n ok 2 rfl hn2 dX2_readOrder_89 ?_
            refine ga_goto ok 128 (by decide) dX2_readOrder_90 ?_
            have md := mid
            unfold rOrd at md
            rw [if_neg (by omega), if_neg (by omega), if_pos c_72] at md
            simp only [atM_atM]
            exact WA.re (by exact ⟨rfl, rfl, rfl, rfl, trivial⟩) md
        · refine ga_aload_n ok 0 rfl rfl dX2_readOrder_51 ?_
          refine ga_dup ok dX2_readOrder_52 rfl ?_
          refine gf_X2_32 ok hG rfl dX2_readOrder_53 ?_
          try rw [x2]
          refine ga_iconst ok dX2_readOrder_56 ?_
          refine ga_iadd ok dX2_readOrder_57 ?_
          refine gp_X2_32 ok hG rfl dX2_readOrder_58 ?_
          refine ga_aload_n ok 0 rfl rfl dX2_readOrder_61 ?_
          rw [show upI m 640 6 ((p : Int) + 1) = atM m (p + 1) from rfl]
          refine gd_X2_0 ok hG rfl lk_X2_47 rfl (c_X2_readNumber ok.fl hG (hX.at (q := p + 1) (by have := sgn_lt (t := t) (n := n) (p := p) (by omega); omega))) (by rw [hR]; exact ⟨by decide, by decide, by decide, by decide⟩) (Nat.le_of_ble_eq_true rfl) dX2_readOrder_62 ?_
          refine ga_istore_n ok 2 rfl hn2 dX2_readOrder_65 ?_
          refine ga_goto ok 128 (by decide) dX2_readOrder_66 ?_
          have md := mid
          unfold rOrd at md
          rw [if_neg (by omega), if_pos (Or.inr c_48)] at md
          simp only [atM_atM]
          exact WA.re (by exact ⟨rfl, rfl, rfl, rfl, trivial⟩) md
    · refine ga_aload_n ok 0 rfl rfl dX2_readOrder_21 ?_
      refine ga_dup ok dX2_readOrder_22 rfl ?_
      refine gf_X2_32 ok hG rfl dX2_readOrder_23 ?_
      try rw [x2]
      refine ga_iconst ok dX2_readOrder_26 ?_
      refine ga_iadd ok dX2_readOrder_27 ?_
      refine gp_X2_32 ok hG rfl dX2_readOrder_28 ?_
      refine ga_aload_n ok 0 rfl rfl dX2_readOrder_31 ?_
      rw [show upI m 640 6 ((p : Int) + 1) = atM m (p + 1) from rfl]
      refine gd_X2_0 ok hG rfl lk_X2_43 rfl (c_X2_readBadges ok.fl hG (hX.at (q := p + 1) (by have := sgn_lt (t := t) (n := n) (p := p) (by omega); omega))) (by rw [hR]; exact ⟨by decide, by decide, by decide, by decide⟩) (Nat.le_of_ble_eq_true rfl) dX2_readOrder_32 ?_
      refine ga_istore_n ok 2 rfl hn2 dX2_readOrder_35 ?_
      refine ga_goto ok 128 (by decide) dX2_readOrder_36 ?_
      have md := mid
      unfold rOrd at md
      rw [if_pos (Or.inr c_18)] at md
      simp only [atM_atM]
      exact WA.re (by exact ⟨rfl, rfl, rfl, rfl, trivial⟩) md
set_option maxHeartbeats 4000000 in
set_option maxRecDepth 100000 in
theorem c_X2_read {G : GG} {l : Launch} (hfl : l.stackTraces = false) (hG : MW G) {m : Mm} {t : Nat → Int} {n : Int} (hX : TX (atM m 0) t n 0) : CT G l yX2_read cX2_read 2 (some .boolean) (RM 5 0 0) [.ref 640] m (fun r m' => r = some (vI (b2i (pRes t n 60 0).1)) ∧ ∃ k, RD t n m m' k (pRes t n 60 0).2.1 ∧ ((pRes t n 60 0).1 = true → k = (pRes t n 60 0).2.2 ∧ k ≤ 20)) (fun _ _ => False) := by
  refine CT.of RX2 [(0, .ref 640)] hfl (by decide +kernel) rfl rfl (Nat.le_of_ble_eq_true rfl) ?_
  intro E ok en hml hEl htab
  have hR : e_R E = RM 5 0 0 := en.2.2.2
  have hn0 : 0 < (e_c E).maxLocals := by rw [hml]; decide
  have hn1 : 1 < (e_c E).maxLocals := by rw [hml]; decide
  obtain ⟨x1, x2, x3, x4, x5⟩ := id hX
  have x1 : m.1 640 1 = n := by unfold atM at x1; rw [upI_no (by omega)] at x1; exact x1
  have x5 : ∀ i : Nat, (i : Int) < n → m.1 704 i = t i ∧ 0 ≤ t i ∧ t i ≤ 65535 := fun i hi => by have := x5 i hi; unfold atM at this; rw [upI_r (by omega)] at this; exact this
  refine ga_aload_n ok 0 rfl rfl dX2_read_0 ?_
  refine ga_iconst ok dX2_read_1 ?_
  refine gp_X2_32 ok hG rfl dX2_read_2 ?_
  refine ga_aload_n ok 0 rfl rfl dX2_read_5 ?_
  refine ga_iconst ok dX2_read_6 ?_
  refine gp_X2_29 ok hG rfl dX2_read_7 ?_
  refine ga_iconst ok dX2_read_10 ?_
  refine ga_istore_n ok 1 rfl hn1 dX2_read_11 ?_
  have loop : ∀ (k : Nat) (M : Mm), (RD t n m M k (pS t n k) ∧ 3 * k ≤ pS t n k ∧ (pS t n k : Int) ≤ n ∧ pRes t n 60 0 = pRes t n (60 - k) k) → WA G E 0 0 12 [(1, vI (k : Int)), (0, .ref 640)] [] M := by
    refine wl2 _ (fun k _ => 60 - k) _ ?_
    intro k M hi ih
    obtain ⟨hRD, h3k, hn9, hres⟩ := hi
    obtain ⟨h1, h2, h3, h4, h5⟩ := id hRD
    have hTX := hRD.tx x1 x3 x5 hn9
    have hres : pRes t n 60 0 = if okO (rOrd t n (pS t n k)) then (if ((rOrd t n (pS t n k)).2.2 : Int) = n then (true, (rOrd t n (pS t n k)).2.2, k + 1) else if sgn t n (rOrd t n (pS t n k)).2.2 = 59 then pRes t n (60 - (k + 1)) (k + 1) else (false, (rOrd t n (pS t n k)).2.2, k + 1)) else (false, (rOrd t n (pS t n k)).2.2, k) := by
      rw [hres, show 60 - k = (60 - (k + 1)) + 1 by omega]
      rfl
    refine ga_iload_n ok 1 rfl rfl dX2_read_12 ?_
    refine ga_bipush ok dX2_read_13 (by decide) ?_
    refine ga_icmp_ge ok 67 (by decide) (by omega) (by omega) dX2_read_15 (fun c_15 => ?_) (fun c_15 => ?_)
    · exact absurd c_15 (by omega)
    · refine ga_aload_n ok 0 rfl rfl dX2_read_18 ?_
      refine gc_X2_0 ok hG rfl lk_X2_35 rfl (c_X2_readOrder ok.fl hG hTX h4 (by omega)) (by rw [hR]; exact ⟨by decide, by decide, by decide, by decide⟩) (Nat.le_of_ble_eq_true rfl) dX2_read_19 (fun r9 M2 hq => ?_) (fun _ _ h => h.elim)
      obtain ⟨y9, hy, hy2⟩ : ∃ y9 : Int, r9 = some (vI y9) ∧ ((y9 = 0 ∧ ¬ okO (rOrd t n (pS t n k)) ∧ RD t n m M2 k (rOrd t n (pS t n k)).2.2) ∨ (y9 = 1 ∧ okO (rOrd t n (pS t n k)) ∧ RD t n m M2 (k + 1) (rOrd t n (pS t n k)).2.2)) := by
        rcases hq with ⟨p1, p2, p3⟩ | ⟨p1, p2, p3⟩
        · exact ⟨0, p2, Or.inl ⟨rfl, p1, by rw [p3]; exact hRD.at⟩⟩
        · exact ⟨1, p2, Or.inr ⟨rfl, p1, by rw [p3]; exact hRD.order hn9 p1⟩⟩
      subst hy
      simp only [Option.toList_some, List.singleton_append]
      refine ga_if_ne ok 27 (by decide) (by omega) dX2_read_22 (fun c_22 => ?_) (fun c_22 => ?_)
      · obtain ⟨hok, hRD2⟩ : okO (rOrd t n (pS t n k)) ∧ RD t n m M2 (k + 1) (rOrd t n (pS t n k)).2.2 := by rcases hy2 with h | h; exact absurd h.1 (by omega); exact h.2
        have hps := rOrd_pos (t := t) hn9
        have hps2 := hps.2 hok
        rw [if_pos hok] at hres
        obtain ⟨r1, r2, r3, r4, r5⟩ := id hRD2
        have r6 : M2.1 640 1 = n := by rw [r2 1 (by omega) (by omega)]; exact x1
        have sr := sgn_rng (fun i hi => (x5 i hi).2) (rOrd t n (pS t n k)).2.2
        refine ga_aload_n ok 0 rfl rfl dX2_read_27 ?_
        refine gf_X2_32 ok hG rfl dX2_read_28 ?_
        rw [r3]
        refine ga_aload_n ok 0 rfl rfl dX2_read_31 ?_
        refine gf_X2_15 ok hG rfl dX2_read_32 ?_
        rw [r6]
        refine ga_icmp_ne ok 40 (by decide) (by omega) (by omega) dX2_read_35 (fun c_35 => ?_) (fun c_35 => ?_)
        · refine ga_aload_n ok 0 rfl rfl dX2_read_40 ?_
          refine gd_X2_0 ok hG rfl lk_X2_39 rfl (c_X2_sign ok.fl hG (hRD2.tx x1 x3 x5 (by omega))) (by rw [hR]; exact ⟨by decide, by decide, by decide, by decide⟩) (Nat.le_of_ble_eq_true rfl) dX2_read_41 ?_
          refine ga_bipush ok dX2_read_44 (by decide) ?_
          refine ga_icmp_eq ok 51 (by decide) (by omega) (by omega) dX2_read_46 (fun c_46 => ?_) (fun c_46 => ?_)
          · refine ga_aload_n ok 0 rfl rfl dX2_read_51 ?_
            refine ga_dup ok dX2_read_52 rfl ?_
            refine gf_X2_32 ok hG rfl dX2_read_53 ?_
            rw [r3]
            refine ga_iconst ok dX2_read_56 ?_
            refine ga_iadd ok dX2_read_57 ?_
            refine gp_X2_32 ok hG rfl dX2_read_58 ?_
            refine ga_iinc ok rfl hn1 dX2_read_61 ?_
            refine ga_goto ok 12 (by decide) dX2_read_64 ?_
            rw [if_neg c_35, if_pos c_46] at hres
            have hlt := sgn_lt (t := t) (n := n) (p := (rOrd t n (pS t n k)).2.2) (by omega)
            have ez : pS t n (k + 1) = (rOrd t n (pS t n k)).2.2 + 1 := rfl
            exact WA.re (by exact ⟨rfl, rfl, trivial⟩) (ih (k + 1) _ ⟨(hRD2.at (q := (rOrd t n (pS t n k)).2.2 + 1) : RD t n m (atM M2 ((rOrd t n (pS t n k)).2.2 + 1)) (k + 1) _), by omega, by omega, hres⟩ (by omega))
          · refine ga_iconst ok dX2_read_49 ?_
            exact ga_ireturn ok en rfl (by decide) (by decide) (by decide) dX2_read_50 ⟨by rw [hres, if_neg c_35, if_neg c_46]; rfl, by rw [hres, if_neg c_35, if_neg c_46]; exact ⟨k + 1, hRD2, fun h => absurd h Bool.false_ne_true⟩⟩
        · refine ga_iconst ok dX2_read_38 ?_
          exact ga_ireturn ok en rfl (by decide) (by decide) (by decide) dX2_read_39 ⟨by rw [hres, if_pos c_35]; rfl, by rw [hres, if_pos c_35]; exact ⟨k + 1, hRD2, fun _ => ⟨rfl, by omega⟩⟩⟩
      · obtain ⟨hok, hRD2⟩ : ¬ okO (rOrd t n (pS t n k)) ∧ RD t n m M2 k (rOrd t n (pS t n k)).2.2 := by rcases hy2 with h | h; exact h.2; exact absurd h.1 (by omega)
        rw [if_neg hok] at hres
        refine ga_iconst ok dX2_read_25 ?_
        exact ga_ireturn ok en rfl (by decide) (by decide) (by decide) dX2_read_26 ⟨by rw [hres]; rfl, by rw [hres]; exact ⟨k, hRD2, fun h => absurd h Bool.false_ne_true⟩⟩
  exact WA.re (by exact ⟨rfl, rfl, trivial⟩) (loop 0 _ ⟨⟨fun x a b c d => ⟨by rw [upI_r (by omega), upI_r (by omega)], rfl⟩, fun j a b => by rw [upI_no (by omega), upI_no (by omega)], by rw [upI_no (by omega), upI_at]; rfl, by rw [upI_at]; rfl, fun j hj => absurd hj (Nat.not_lt_zero j)⟩, by show 3 * 0 ≤ 0; omega, by show ((0 : Nat) : Int) ≤ n; omega, rfl⟩)
