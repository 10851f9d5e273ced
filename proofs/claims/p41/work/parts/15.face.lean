/-! WHAT THE FACE REQUIRES -/
set_option maxHeartbeats 4000000 in
set_option maxRecDepth 100000 in
theorem c_X3_isRate {G : GG} {l : Launch} (hfl : l.stackTraces = false) (hG : MW G) {m : Mm} {x : Int} (hxR : -2147483648 ≤ x ∧ x ≤ 2147483647) : CT G l yX3_isRate cX3_isRate 1 (some .boolean) (RM 0 0 0) [vI x] m (fun r' m' => r' = some (vI (b2i (decide (1 ≤ x ∧ x ≤ 64)))) ∧ m' = m) (fun _ _ => False) := by
  refine CT.of RX3 [(0, vI x)] hfl (by decide +kernel) rfl rfl (Nat.le_of_ble_eq_true rfl) ?_
  intro E ok en hml hEl htab
  have hR : e_R E = RM 0 0 0 := en.2.2.2
  have hn0 : 0 < (e_c E).maxLocals := by rw [hml]; decide
  refine ga_iload_n ok 0 rfl rfl dX3_isRate_0 ?_
  refine ga_iconst ok dX3_isRate_1 ?_
  refine ga_icmp_lt ok 15 (by decide) (by omega) (by omega) dX3_isRate_2 (fun c_2 => ?_) (fun c_2 => ?_)
  · refine ga_iconst ok dX3_isRate_15 ?_
    exact ga_ireturn ok en rfl (by decide) (by decide) (by decide) dX3_isRate_16 ⟨by (first | rw [decide_eq_true (by omega)] | rw [decide_eq_false (by omega)]); rfl, rfl⟩
  · refine ga_iload_n ok 0 rfl rfl dX3_isRate_5 ?_
    refine ga_bipush ok dX3_isRate_6 (by decide) ?_
    refine ga_icmp_gt ok 15 (by decide) (by omega) (by omega) dX3_isRate_8 (fun c_8 => ?_) (fun c_8 => ?_)
    · refine ga_iconst ok dX3_isRate_15 ?_
      exact ga_ireturn ok en rfl (by decide) (by decide) (by decide) dX3_isRate_16 ⟨by (first | rw [decide_eq_true (by omega)] | rw [decide_eq_false (by omega)]); rfl, rfl⟩
    · refine ga_iconst ok dX3_isRate_11 ?_
      refine ga_goto ok 16 (by decide) dX3_isRate_12 ?_
      exact ga_ireturn ok en rfl (by decide) (by decide) (by decide) dX3_isRate_16 ⟨by (first | rw [decide_eq_true (by omega)] | rw [decide_eq_false (by omega)]); rfl, rfl⟩
set_option maxHeartbeats 4000000 in
set_option maxRecDepth 100000 in
theorem c_X3_requireGuard {G : GG} {l : Launch} (hfl : l.stackTraces = false) (hG : MW G) {m : Mm} {r : Nat → Int} {T : Int} (hI : gtIs m 64 r) (hT : gtOk T r) {g : Int} (hgR : -2147483648 ≤ g ∧ g ≤ 2147483647) : CT G l yX3_requireGuard cX3_requireGuard 2 none (RM 2 1 6) [.ref 0, vI g] m (fun r' m' => r' = none ∧ (0 ≤ g ∧ g < r 0) ∧ m' = m) (fun X m' => X = "java/lang/IndexOutOfBoundsException" ∧ ¬(0 ≤ g ∧ g < r 0) ∧ m' = m) := by
  refine CT.of RX3 [(0, .ref 0), (1, vI g)] hfl (by decide +kernel) rfl rfl (Nat.le_of_ble_eq_true rfl) ?_
  intro E ok en hml hEl htab
  have hR : e_R E = RM 2 1 6 := en.2.2.2
  have hn0 : 0 < (e_c E).maxLocals := by rw [hml]; decide
  have hn1 : 1 < (e_c E).maxLocals := by rw [hml]; decide
  obtain ⟨e1, e4, hv, hgs⟩ := id hI
  obtain ⟨b0, b1, hvb, hgb⟩ := id hT
  refine ga_aload_n ok 0 rfl rfl dX3_requireGuard_0 ?_
  refine gf_X3_12 ok hG rfl dX3_requireGuard_1 ?_
  refine ga_iload_n ok 1 rfl rfl dX3_requireGuard_4 ?_
  refine gd_X0_1 ok hG (by omega) lk_X3_353 rfl (c_X0_hasGuard ok.fl hG (by omega) hgR (by rw [e1]; omega)) (by rw [hR]; exact ⟨by decide, by decide, by decide, by decide⟩) (Nat.le_of_ble_eq_true rfl) dX3_requireGuard_5 ?_
  rw [e1]
  refine ga_if_ne ok 22 (by decide) (b2i_rng _) dX3_requireGuard_8 (fun c_8 => ?_) (fun c_8 => ?_)
  · have f_8 := of_decide_eq_true (b2i_n0.mp c_8)
    exact ga_return ok en rfl (by decide) (by decide) dX3_requireGuard_22 ⟨rfl, by first | omega | assumption, rfl⟩
  · have f_8 := of_decide_eq_false (b2i_0.mp c_8)
    exact ga_throwW ok en htab lt_IndexOutOfBoundsException (text := "there is no such guard") (by decide +kernel) ⟨by decide, by decide, by decide, by decide⟩ (Nat.le_of_ble_eq_true rfl) dX3_requireGuard_11 dX3_requireGuard_14 dX3_requireGuard_15 dX3_requireGuard_18 dX3_requireGuard_21 ⟨rfl, by first | omega | (intro h; omega) | assumption, rfl⟩
set_option maxHeartbeats 4000000 in
set_option maxRecDepth 100000 in
theorem c_X3_requireVisitor {G : GG} {l : Launch} (hfl : l.stackTraces = false) (hG : MW G) {m : Mm} {r : Nat → Int} {T : Int} (hI : gtIs m 64 r) (hT : gtOk T r) {v : Int} (hvR : -2147483648 ≤ v ∧ v ≤ 2147483647) : CT G l yX3_requireVisitor cX3_requireVisitor 2 none (RM 2 1 6) [.ref 0, vI v] m (fun r' m' => r' = none ∧ (0 ≤ v ∧ v < r 1) ∧ m' = m) (fun X m' => X = "java/lang/IndexOutOfBoundsException" ∧ ¬(0 ≤ v ∧ v < r 1) ∧ m' = m) := by
  refine CT.of RX3 [(0, .ref 0), (1, vI v)] hfl (by decide +kernel) rfl rfl (Nat.le_of_ble_eq_true rfl) ?_
  intro E ok en hml hEl htab
  have hR : e_R E = RM 2 1 6 := en.2.2.2
  have hn0 : 0 < (e_c E).maxLocals := by rw [hml]; decide
  have hn1 : 1 < (e_c E).maxLocals := by rw [hml]; decide
  obtain ⟨e1, e4, hv, hgs⟩ := id hI
  obtain ⟨b0, b1, hvb, hgb⟩ := id hT
  refine ga_aload_n ok 0 rfl rfl dX3_requireVisitor_0 ?_
  refine gf_X3_12 ok hG rfl dX3_requireVisitor_1 ?_
  refine ga_iload_n ok 1 rfl rfl dX3_requireVisitor_4 ?_
  refine gd_X0_1 ok hG (by omega) lk_X3_358 rfl (c_X0_hasVisitor ok.fl hG (by omega) hvR (by rw [e4]; omega)) (by rw [hR]; exact ⟨by decide, by decide, by decide, by decide⟩) (Nat.le_of_ble_eq_true rfl) dX3_requireVisitor_5 ?_
  rw [e4]
  refine ga_if_ne ok 22 (by decide) (b2i_rng _) dX3_requireVisitor_8 (fun c_8 => ?_) (fun c_8 => ?_)
  · have f_8 := of_decide_eq_true (b2i_n0.mp c_8)
    exact ga_return ok en rfl (by decide) (by decide) dX3_requireVisitor_22 ⟨rfl, by first | omega | assumption, rfl⟩
  · have f_8 := of_decide_eq_false (b2i_0.mp c_8)
    exact ga_throwW ok en htab lt_IndexOutOfBoundsException (text := "there is no such visitor") (by decide +kernel) ⟨by decide, by decide, by decide, by decide⟩ (Nat.le_of_ble_eq_true rfl) dX3_requireVisitor_11 dX3_requireVisitor_14 dX3_requireVisitor_15 dX3_requireVisitor_18 dX3_requireVisitor_21 ⟨rfl, by first | omega | (intro h; omega) | assumption, rfl⟩
set_option maxHeartbeats 4000000 in
set_option maxRecDepth 100000 in
theorem c_X3_requireRate {G : GG} {l : Launch} (hfl : l.stackTraces = false) (hG : MW G) {m : Mm} {x : Int} (hxR : -2147483648 ≤ x ∧ x ≤ 2147483647) : CT G l yX3_requireRate cX3_requireRate 1 none (RM 2 1 6) [vI x] m (fun r' m' => r' = none ∧ (1 ≤ x ∧ x ≤ 64) ∧ m' = m) (fun X m' => X = "java/lang/IllegalArgumentException" ∧ ¬(1 ≤ x ∧ x ≤ 64) ∧ m' = m) := by
  refine CT.of RX3 [(0, vI x)] hfl (by decide +kernel) rfl rfl (Nat.le_of_ble_eq_true rfl) ?_
  intro E ok en hml hEl htab
  have hR : e_R E = RM 2 1 6 := en.2.2.2
  have hn0 : 0 < (e_c E).maxLocals := by rw [hml]; decide
  refine ga_iload_n ok 0 rfl rfl dX3_requireRate_0 ?_
  refine gd_S_1 ok lk_X3_363 (c_X3_isRate ok.fl hG hxR) (by rw [hR]; exact ⟨by decide, by decide, by decide, by decide⟩) (Nat.le_of_ble_eq_true rfl) dX3_requireRate_1 ?_
  refine ga_if_ne ok 18 (by decide) (b2i_rng _) dX3_requireRate_4 (fun c_4 => ?_) (fun c_4 => ?_)
  · have f_4 := of_decide_eq_true (b2i_n0.mp c_4)
    exact ga_return ok en rfl (by decide) (by decide) dX3_requireRate_18 ⟨rfl, by first | omega | assumption, rfl⟩
  · have f_4 := of_decide_eq_false (b2i_0.mp c_4)
    exact ga_throwW ok en htab lt_IllegalArgumentException (text := "the rate is out of range") (by decide +kernel) ⟨by decide, by decide, by decide, by decide⟩ (Nat.le_of_ble_eq_true rfl) dX3_requireRate_7 dX3_requireRate_10 dX3_requireRate_11 dX3_requireRate_14 dX3_requireRate_17 ⟨rfl, by first | omega | (intro h; omega) | assumption, rfl⟩
set_option maxHeartbeats 4000000 in
set_option maxRecDepth 100000 in
theorem c_X3_requireSet {G : GG} {l : Launch} (hfl : l.stackTraces = false) (hG : MW G) {m : Mm} {x : Int} (hxR : -2147483648 ≤ x ∧ x ≤ 2147483647) : CT G l yX3_requireSet cX3_requireSet 1 none (RM 0 1 6) [vI x] m (fun r' m' => r' = none ∧ (1 ≤ x ∧ x ≤ 1023) ∧ m' = m) (fun X m' => X = "java/lang/IllegalArgumentException" ∧ ¬(1 ≤ x ∧ x ≤ 1023) ∧ m' = m) := by
  refine CT.of RX3 [(0, vI x)] hfl (by decide +kernel) rfl rfl (Nat.le_of_ble_eq_true rfl) ?_
  intro E ok en hml hEl htab
  have hR : e_R E = RM 0 1 6 := en.2.2.2
  have hn0 : 0 < (e_c E).maxLocals := by rw [hml]; decide
  refine ga_iload_n ok 0 rfl rfl dX3_requireSet_0 ?_
  refine ga_iconst ok dX3_requireSet_1 ?_
  refine ga_icmp_lt ok 12 (by decide) (by omega) (by omega) dX3_requireSet_2 (fun c_2 => ?_) (fun c_2 => ?_)
  · exact ga_throwW ok en htab lt_IllegalArgumentException (text := "there is no such set of badges") (by decide +kernel) ⟨by decide, by decide, by decide, by decide⟩ (Nat.le_of_ble_eq_true rfl) dX3_requireSet_12 dX3_requireSet_15 dX3_requireSet_16 dX3_requireSet_19 dX3_requireSet_22 ⟨rfl, by first | omega | (intro h; omega) | assumption, rfl⟩
  · refine ga_iload_n ok 0 rfl rfl dX3_requireSet_5 ?_
    refine ga_sipush ok dX3_requireSet_6 (by decide) ?_
    refine ga_icmp_le ok 23 (by decide) (by omega) (by omega) dX3_requireSet_9 (fun c_9 => ?_) (fun c_9 => ?_)
    · exact ga_return ok en rfl (by decide) (by decide) dX3_requireSet_23 ⟨rfl, by first | omega | assumption, rfl⟩
    · exact ga_throwW ok en htab lt_IllegalArgumentException (text := "there is no such set of badges") (by decide +kernel) ⟨by decide, by decide, by decide, by decide⟩ (Nat.le_of_ble_eq_true rfl) dX3_requireSet_12 dX3_requireSet_15 dX3_requireSet_16 dX3_requireSet_19 dX3_requireSet_22 ⟨rfl, by first | omega | (intro h; omega) | assumption, rfl⟩
set_option maxHeartbeats 4000000 in
set_option maxRecDepth 100000 in
theorem c_X3_requireBadge {G : GG} {l : Launch} (hfl : l.stackTraces = false) (hG : MW G) {m : Mm} {x : Int} (hxR : -2147483648 ≤ x ∧ x ≤ 2147483647) {y : Int} (hyR : -2147483648 ≤ y ∧ y ≤ 2147483647) : CT G l yX3_requireBadge cX3_requireBadge 2 none (RM 0 1 6) [vI x, vI y] m (fun r' m' => r' = none ∧ (y ≤ x ∧ x < 10) ∧ m' = m) (fun X m' => X = "java/lang/IllegalArgumentException" ∧ ¬(y ≤ x ∧ x < 10) ∧ m' = m) := by
  refine CT.of RX3 [(0, vI x), (1, vI y)] hfl (by decide +kernel) rfl rfl (Nat.le_of_ble_eq_true rfl) ?_
  intro E ok en hml hEl htab
  have hR : e_R E = RM 0 1 6 := en.2.2.2
  have hn0 : 0 < (e_c E).maxLocals := by rw [hml]; decide
  have hn1 : 1 < (e_c E).maxLocals := by rw [hml]; decide
  refine ga_iload_n ok 0 rfl rfl dX3_requireBadge_0 ?_
  refine ga_iload_n ok 1 rfl rfl dX3_requireBadge_1 ?_
  refine ga_icmp_lt ok 11 (by decide) (by omega) (by omega) dX3_requireBadge_2 (fun c_2 => ?_) (fun c_2 => ?_)
  · exact ga_throwW ok en htab lt_IllegalArgumentException (text := "there is no such badge") (by decide +kernel) ⟨by decide, by decide, by decide, by decide⟩ (Nat.le_of_ble_eq_true rfl) dX3_requireBadge_11 dX3_requireBadge_14 dX3_requireBadge_15 dX3_requireBadge_18 dX3_requireBadge_21 ⟨rfl, by first | omega | (intro h; omega) | assumption, rfl⟩
  · refine ga_iload_n ok 0 rfl rfl dX3_requireBadge_5 ?_
    refine ga_bipush ok dX3_requireBadge_6 (by decide) ?_
    refine ga_icmp_lt ok 22 (by decide) (by omega) (by omega) dX3_requireBadge_8 (fun c_8 => ?_) (fun c_8 => ?_)
    · exact ga_return ok en rfl (by decide) (by decide) dX3_requireBadge_22 ⟨rfl, by first | omega | assumption, rfl⟩
    · exact ga_throwW ok en htab lt_IllegalArgumentException (text := "there is no such badge") (by decide +kernel) ⟨by decide, by decide, by decide, by decide⟩ (Nat.le_of_ble_eq_true rfl) dX3_requireBadge_11 dX3_requireBadge_14 dX3_requireBadge_15 dX3_requireBadge_18 dX3_requireBadge_21 ⟨rfl, by first | omega | (intro h; omega) | assumption, rfl⟩
set_option maxHeartbeats 4000000 in
set_option maxRecDepth 100000 in
theorem c_X3_requireDays {G : GG} {l : Launch} (hfl : l.stackTraces = false) (hG : MW G) {m : Mm} {x : Int} (hxR : -2147483648 ≤ x ∧ x ≤ 2147483647) : CT G l yX3_requireDays cX3_requireDays 1 none (RM 0 1 6) [vI x] m (fun r' m' => r' = none ∧ (1 ≤ x ∧ x ≤ 30) ∧ m' = m) (fun X m' => X = "java/lang/IllegalArgumentException" ∧ ¬(1 ≤ x ∧ x ≤ 30) ∧ m' = m) := by
  refine CT.of RX3 [(0, vI x)] hfl (by decide +kernel) rfl rfl (Nat.le_of_ble_eq_true rfl) ?_
  intro E ok en hml hEl htab
  have hR : e_R E = RM 0 1 6 := en.2.2.2
  have hn0 : 0 < (e_c E).maxLocals := by rw [hml]; decide
  refine ga_iload_n ok 0 rfl rfl dX3_requireDays_0 ?_
  refine ga_iconst ok dX3_requireDays_1 ?_
  refine ga_icmp_lt ok 11 (by decide) (by omega) (by omega) dX3_requireDays_2 (fun c_2 => ?_) (fun c_2 => ?_)
  · exact ga_throwW ok en htab lt_IllegalArgumentException (text := "the number of days is out of range") (by decide +kernel) ⟨by decide, by decide, by decide, by decide⟩ (Nat.le_of_ble_eq_true rfl) dX3_requireDays_11 dX3_requireDays_14 dX3_requireDays_15 dX3_requireDays_18 dX3_requireDays_21 ⟨rfl, by first | omega | (intro h; omega) | assumption, rfl⟩
  · refine ga_iload_n ok 0 rfl rfl dX3_requireDays_5 ?_
    refine ga_bipush ok dX3_requireDays_6 (by decide) ?_
    refine ga_icmp_le ok 22 (by decide) (by omega) (by omega) dX3_requireDays_8 (fun c_8 => ?_) (fun c_8 => ?_)
    · exact ga_return ok en rfl (by decide) (by decide) dX3_requireDays_22 ⟨rfl, by first | omega | assumption, rfl⟩
    · exact ga_throwW ok en htab lt_IllegalArgumentException (text := "the number of days is out of range") (by decide +kernel) ⟨by decide, by decide, by decide, by decide⟩ (Nat.le_of_ble_eq_true rfl) dX3_requireDays_11 dX3_requireDays_14 dX3_requireDays_15 dX3_requireDays_18 dX3_requireDays_21 ⟨rfl, by first | omega | (intro h; omega) | assumption, rfl⟩
/-! READING AT THE FACE -/
def mst (r : Nat → Int) : Int := zs (fun v => b2i (decide (b2i (vin r (vX r v)) ≠ vF r v))) (r 1).toNat
def agr (r : Nat → Int) (a b : Nat) : Int := zs (fun v => b2i (decide (adm (gcn (rg r a)) (vX r v) = adm (gcn (rg r b)) (vX r v)))) (r 1).toNat
/-- the visitor least well known of the first n -/
def clo (r : Nat → Int) (g : Nat) : Nat → Nat
  | 0 => 0
  | n + 1 => if kno r g n < kno r g (clo r g n) then n else clo r g n
theorem clo_lt {r : Nat → Int} {g : Nat} : ∀ n, clo r g (n + 1) ≤ n
  | 0 => by simp [clo]
  | n + 1 => by
    have := clo_lt (r := r) (g := g) n
    have e : clo r g (n + 1 + 1) = if kno r g (n + 1) < kno r g (clo r g (n + 1)) then n + 1 else clo r g (n + 1) := rfl
    rw [e]
    split <;> omega
/-- the first of n where f is p, or -1 -/
def ffd (f : Nat → Int) (p : Int) : Nat → Int
  | 0 => -1
  | n + 1 => if ffd f p n = -1 then (if f n = p then n else -1) else ffd f p n
theorem ffd_no {f : Nat → Int} {p : Int} : ∀ {n : Nat}, (∀ v, v < n → f v ≠ p) → ffd f p n = -1
  | 0, _ => rfl
  | n + 1, h => by simp only [ffd]; rw [if_pos (ffd_no (fun v hv => h v (by omega))), if_neg (h n (by omega))]
theorem ffd_yes {f : Nat → Int} {p : Int} {v : Nat} (hx : f v = p) (hb : ∀ u, u < v → f u ≠ p) : ∀ n, v < n → ffd f p n = v := by
  intro n
  induction n with
  | zero => intro h; exact absurd h (Nat.not_lt_zero _)
  | succ n ih =>
    intro h
    simp only [ffd]
    rcases Nat.lt_or_ge v n with h1 | h1
    · rw [ih h1, if_neg (by omega)]
    · have : v = n := by omega
      subst this
      rw [if_pos (ffd_no hb), if_pos hx]
theorem cof_all {r : Nat → Int} : ∀ n, (∀ v : Nat, v < n → vF r v = 0 ∨ vF r v = 1) → zs (fun u => b2i (decide (vF r u = 1))) n + zs (fun u => b2i (decide (vF r u = 0))) n = n
  | 0, _ => rfl
  | n + 1, h => by
    have h1 := cof_all n (fun v hv => h v (by omega))
    simp only [zs]
    rcases h n (by omega) with e | e
    · rw [e, show b2i (decide ((0 : Int) = 1)) = 0 by decide, show b2i (decide ((0 : Int) = 0)) = 1 by decide]; push_cast; omega
    · rw [e, show b2i (decide ((1 : Int) = 1)) = 1 by decide, show b2i (decide ((1 : Int) = 0)) = 0 by decide]; push_cast; omega
theorem n32_div {x : UInt32} {d : Int} (hx : FP.Core.val32 x ≠ .nan) (hd : 1 ≤ d ∧ d ≤ 2147483647) : vf_n32 (FP.fdiv x (FP.i2f (Int32.ofInt d))) := by
  refine n32_of ((FP.Core.notNaN_iff32 _).mp (FP.Core.fdiv_out ((FP.Core.notNaN_iff32 x).mpr hx) (FP.Core.i2f_fin _) ?_))
  rw [FP.Core.zero_bits232]
  refine FP.Core.i2f_ne_zero (fun h => ?_)
  have h1 : (Int32.ofInt d).toInt = d := oi_T (by omega)
  rw [h] at h1
  have h2 : ((0 : Int32)).toInt = 0 := by decide
  omega
theorem kno_bd {r : Nat → Int} {g v : Nat} {T : Int} (h : gOk T (rg r g)) : -16777216 < kno r g v ∧ kno r g v < 16777216 := by
  have := mg_bd (c := gcn (rg r g)) h.2.2.2.1 (vX r v)
  unfold kno
  split <;> omega
set_option maxHeartbeats 4000000 in
set_option maxRecDepth 100000 in
theorem c_X3_guardOf {G : GG} {l : Launch} (hfl : l.stackTraces = false) (hG : MW G) {m : Mm} {r : Nat → Int} {T : Int} (hI : gtIs m 64 r) (hT : gtOk T r) {g : Int} (hgR : -2147483648 ≤ g ∧ g ≤ 2147483647) {what : Int} (hwhatR : -2147483648 ≤ what ∧ what ≤ 2147483647) : CT G l yX3_guardOf cX3_guardOf 4 (some .int) (RM 8 2 12) [.ref 0, vI g, vI what] m (fun r' m' => (0 ≤ g ∧ g < r 0) ∧ (0 ≤ what ∧ what ≤ 6) ∧ r' = some (vI (if what = 0 then rg r g.toNat 0 else if what = 1 then rg r g.toNat 1 else if what = 2 then rg r g.toNat 2 else if what = 3 then rg r g.toNat 3 else if what = 4 then ofG r g.toNat else if what = 5 then rg r g.toNat 4 else rg r g.toNat 5)) ∧ m' = m) (fun X m' => ((X = "java/lang/IndexOutOfBoundsException" ∧ ¬(0 ≤ g ∧ g < r 0)) ∨ (X = "java/lang/IllegalArgumentException" ∧ (0 ≤ g ∧ g < r 0) ∧ ¬(0 ≤ what ∧ what ≤ 6))) ∧ m' = m) := by
  refine CT.of RX3 [(0, .ref 0), (1, vI g), (2, vI what)] hfl (by decide +kernel) rfl rfl (Nat.le_of_ble_eq_true rfl) ?_
  intro E ok en hml hEl htab
  have hR : e_R E = RM 8 2 12 := en.2.2.2
  have hn0 : 0 < (e_c E).maxLocals := by rw [hml]; decide
  have hn1 : 1 < (e_c E).maxLocals := by rw [hml]; decide
  have hn2 : 2 < (e_c E).maxLocals := by rw [hml]; decide
  have hn3 : 3 < (e_c E).maxLocals := by rw [hml]; decide
  obtain ⟨e1, e4, hv, hgs⟩ := id hI
  obtain ⟨b0, b1, hvb, hgb⟩ := id hT
  refine ga_aload_n ok 0 rfl rfl dX3_guardOf_0 ?_
  refine ga_iload_n ok 1 rfl rfl dX3_guardOf_1 ?_
  refine gc_X3_1 ok hG rfl lk_X3_90 rfl (c_X3_requireGuard ok.fl hG hI hT hgR) (by rw [hR]; exact ⟨by decide, by decide, by decide, by decide⟩) (Nat.le_of_ble_eq_true rfl) dX3_guardOf_2 (fun r9 m9 hq => ?_) (fun X9 m9 hq => by obtain ⟨rfl, qg, rfl⟩ := hq; exact ga_out en htab (by decide) (by decide) (⟨Or.inl ⟨rfl, qg⟩, rfl⟩))
  obtain ⟨rfl, qg, hm9⟩ := hq
  subst m9
  simp only [Option.toList_none, List.nil_append]
  refine ga_aload_n ok 0 rfl rfl dX3_guardOf_5 ?_
  refine gf_X3_12 ok hG rfl dX3_guardOf_6 ?_
  refine gf_X3_93 ok hG (by omega) dX3_guardOf_9 ?_
  refine ga_iload_n ok 1 rfl rfl dX3_guardOf_12 ?_
  refine ga_aaload_qa ok (ar_ga hG (by omega)) (by omega) dX3_guardOf_13 ?_
  refine ga_astore_n ok 3 rfl hn3 dX3_guardOf_14 ?_
  refine ga_iload_n ok 2 rfl rfl dX3_guardOf_15 ?_
  rcases (show what = 0 ∨ what = 1 ∨ what = 2 ∨ what = 3 ∨ what = 4 ∨ what = 5 ∨ what = 6 ∨ (what < 0 ∨ 6 < what) by omega) with rfl | rfl | rfl | rfl | rfl | rfl | rfl | hout
  · refine ga_tableIn (off := 44) ok 60 (by decide) (by decide) (by decide) (by decide) dX3_guardOf_16 ?_
    refine ga_aload_n ok 3 rfl rfl dX3_guardOf_60 ?_
    refine gf_X3_97 ok hG (by omega) dX3_guardOf_61 ?_
    rw [(hgs g.toNat (by omega)).1]
    exact ga_ireturn ok en rfl rfl (by decide) (by decide) dX3_guardOf_64 ⟨qg, by omega, rfl, rfl⟩
  · refine ga_tableIn (off := 49) ok 65 (by decide) (by decide) (by decide) (by decide) dX3_guardOf_16 ?_
    refine ga_aload_n ok 3 rfl rfl dX3_guardOf_65 ?_
    refine gf_X3_111 ok hG (by omega) dX3_guardOf_66 ?_
    rw [(hgs g.toNat (by omega)).2.1]
    exact ga_ireturn ok en rfl rfl (by decide) (by decide) dX3_guardOf_69 ⟨qg, by omega, rfl, rfl⟩
  · refine ga_tableIn (off := 54) ok 70 (by decide) (by decide) (by decide) (by decide) dX3_guardOf_16 ?_
    refine ga_aload_n ok 3 rfl rfl dX3_guardOf_70 ?_
    refine gf_X3_156 ok hG (by omega) dX3_guardOf_71 ?_
    rw [(hgs g.toNat (by omega)).2.2.1]
    exact ga_ireturn ok en rfl rfl (by decide) (by decide) dX3_guardOf_74 ⟨qg, by omega, rfl, rfl⟩
  · refine ga_tableIn (off := 59) ok 75 (by decide) (by decide) (by decide) (by decide) dX3_guardOf_16 ?_
    refine ga_aload_n ok 3 rfl rfl dX3_guardOf_75 ?_
    refine gf_X3_159 ok hG (by omega) dX3_guardOf_76 ?_
    rw [(hgs g.toNat (by omega)).2.2.2.1]
    exact ga_ireturn ok en rfl rfl (by decide) (by decide) dX3_guardOf_79 ⟨qg, by omega, rfl, rfl⟩
  · refine ga_tableIn (off := 64) ok 80 (by decide) (by decide) (by decide) (by decide) dX3_guardOf_16 ?_
    refine ga_aload_n ok 0 rfl rfl dX3_guardOf_80 ?_
    refine gf_X3_12 ok hG rfl dX3_guardOf_81 ?_
    refine ga_iload_n ok 1 rfl rfl dX3_guardOf_84 ?_
    refine gd_X0_1 ok hG (by omega) lk_X3_162 rfl (c_X0_mistakesOf ok.fl hG (by omega) hI hT qg) (by rw [hR]; exact ⟨by decide, by decide, by decide, by decide⟩) (Nat.le_of_ble_eq_true rfl) dX3_guardOf_85 ?_
    exact ga_ireturn ok en rfl rfl (by decide) (by decide) dX3_guardOf_88 ⟨qg, by omega, rfl, rfl⟩
  · refine ga_tableIn (off := 73) ok 89 (by decide) (by decide) (by decide) (by decide) dX3_guardOf_16 ?_
    refine ga_aload_n ok 3 rfl rfl dX3_guardOf_89 ?_
    refine gf_X3_165 ok hG (by omega) dX3_guardOf_90 ?_
    rw [(hgs g.toNat (by omega)).2.2.2.2.1]
    exact ga_ireturn ok en rfl rfl (by decide) (by decide) dX3_guardOf_93 ⟨qg, by omega, rfl, rfl⟩
  · refine ga_tableIn (off := 78) ok 94 (by decide) (by decide) (by decide) (by decide) dX3_guardOf_16 ?_
    refine ga_aload_n ok 3 rfl rfl dX3_guardOf_94 ?_
    refine gf_X3_168 ok hG (by omega) dX3_guardOf_95 ?_
    rw [(hgs g.toNat (by omega)).2.2.2.2.2.1]
    exact ga_ireturn ok en rfl rfl (by decide) (by decide) dX3_guardOf_98 ⟨qg, by omega, rfl, rfl⟩
  · refine ga_tableOut ok 99 (by omega) hout (by decide) dX3_guardOf_16 ?_
    exact ga_throw ok en htab lt_IllegalArgumentException (text := "a guard has no such number") (by decide +kernel) ⟨by decide, by decide, by decide, by decide⟩ (Nat.le_of_ble_eq_true rfl) dX3_guardOf_99 dX3_guardOf_102 dX3_guardOf_103 dX3_guardOf_105 dX3_guardOf_108 ⟨Or.inr (⟨rfl, qg, by omega⟩), rfl⟩
set_option maxHeartbeats 4000000 in
set_option maxRecDepth 100000 in
theorem c_X3_margin {G : GG} {l : Launch} (hfl : l.stackTraces = false) (hG : MW G) {m : Mm} {r : Nat → Int} {T : Int} (hI : gtIs m 64 r) (hT : gtOk T r) {g : Int} (hgR : -2147483648 ≤ g ∧ g ≤ 2147483647) {x : Int} (hxR : -2147483648 ≤ x ∧ x ≤ 2147483647) {again : Int} (hag : again = 0 ∨ again = 1) : CT G l yX3_margin cX3_margin 4 (some .float) (RM 8 2 12) [.ref 0, vI g, vI x, vI again] m (fun r' m' => (0 ≤ g ∧ g < r 0) ∧ (1 ≤ x ∧ x ≤ 1023) ∧ r' = some (.float (fq (mg (gcn (rg r g.toNat)) x))) ∧ m' = m) (fun X m' => ((X = "java/lang/IndexOutOfBoundsException" ∧ ¬(0 ≤ g ∧ g < r 0)) ∨ (X = "java/lang/IllegalArgumentException" ∧ (0 ≤ g ∧ g < r 0) ∧ ¬(1 ≤ x ∧ x ≤ 1023))) ∧ m' = m) := by
  refine CT.of RX3 [(0, .ref 0), (1, vI g), (2, vI x), (3, vI again)] hfl (by decide +kernel) rfl rfl (Nat.le_of_ble_eq_true rfl) ?_
  intro E ok en hml hEl htab
  have hR : e_R E = RM 8 2 12 := en.2.2.2
  have hn0 : 0 < (e_c E).maxLocals := by rw [hml]; decide
  have hn1 : 1 < (e_c E).maxLocals := by rw [hml]; decide
  have hn2 : 2 < (e_c E).maxLocals := by rw [hml]; decide
  have hn3 : 3 < (e_c E).maxLocals := by rw [hml]; decide
  obtain ⟨e1, e4, hv, hgs⟩ := id hI
  obtain ⟨b0, b1, hvb, hgb⟩ := id hT
  refine ga_aload_n ok 0 rfl rfl dX3_margin_0 ?_
  refine ga_iload_n ok 1 rfl rfl dX3_margin_1 ?_
  refine gc_X3_1 ok hG rfl lk_X3_90 rfl (c_X3_requireGuard ok.fl hG hI hT hgR) (by rw [hR]; exact ⟨by decide, by decide, by decide, by decide⟩) (Nat.le_of_ble_eq_true rfl) dX3_margin_2 (fun r9 m9 hq => ?_) (fun X9 m9 hq => by obtain ⟨rfl, qg, rfl⟩ := hq; exact ga_out en htab (by decide) (by decide) (⟨Or.inl ⟨rfl, qg⟩, rfl⟩))
  obtain ⟨rfl, qg, hm9⟩ := hq
  subst m9
  simp only [Option.toList_none, List.nil_append]
  refine ga_iload_n ok 2 rfl rfl dX3_margin_5 ?_
  refine gc_S_1 ok lk_X3_116 (c_X3_requireSet ok.fl hG hxR) (by rw [hR]; exact ⟨by decide, by decide, by decide, by decide⟩) (Nat.le_of_ble_eq_true rfl) dX3_margin_6 (fun r9 m9 hq => ?_) (fun X9 m9 hq => by obtain ⟨rfl, qs, rfl⟩ := hq; exact ga_out en htab (by decide) (by decide) (⟨Or.inr (⟨rfl, qg, qs⟩), rfl⟩))
  obtain ⟨rfl, qs, hm9⟩ := hq
  subst m9
  simp only [Option.toList_none, List.nil_append]
  refine ga_iload_n ok 3 rfl rfl dX3_margin_9 ?_
  refine ga_if_eq ok 29 (by decide) (by omega) dX3_margin_10 (fun c_10 => ?_) (fun c_10 => ?_)
  · refine ga_aload_n ok 0 rfl rfl dX3_margin_29 ?_
    refine gf_X3_12 ok hG rfl dX3_margin_30 ?_
    refine gf_X3_93 ok hG (by omega) dX3_margin_33 ?_
    refine ga_iload_n ok 1 rfl rfl dX3_margin_36 ?_
    refine ga_aaload_qa ok (ar_ga hG (by omega)) (by omega) dX3_margin_37 ?_
    refine ga_iload_n ok 2 rfl rfl dX3_margin_38 ?_
    refine gd_X1_1 ok hG (by omega) lk_X3_177 rfl (c2_X1_marginOf ok.fl hG (by omega) (by omega) (hgs g.toNat (by omega)) (hgb g.toNat (by omega))) (by rw [hR]; exact ⟨by decide, by decide, by decide, by decide⟩) (Nat.le_of_ble_eq_true rfl) dX3_margin_39 ?_
    exact ga_freturn ok en rfl (by decide) (by decide) dX3_margin_42 ⟨qg, qs, rfl, rfl⟩
  · refine ga_aload_n ok 0 rfl rfl dX3_margin_13 ?_
    refine gf_X3_12 ok hG rfl dX3_margin_14 ?_
    refine gf_X3_93 ok hG (by omega) dX3_margin_17 ?_
    refine ga_iload_n ok 1 rfl rfl dX3_margin_20 ?_
    refine ga_aaload_qa ok (ar_ga hG (by omega)) (by omega) dX3_margin_21 ?_
    refine ga_iload_n ok 2 rfl rfl dX3_margin_22 ?_
    refine gd_X1_1 ok hG (by omega) lk_X3_173 rfl (c2_X1_countedMarginOf ok.fl hG (by omega) (by omega) (hgs g.toNat (by omega)) (hgb g.toNat (by omega))) (by rw [hR]; exact ⟨by decide, by decide, by decide, by decide⟩) (Nat.le_of_ble_eq_true rfl) dX3_margin_23 ?_
    refine ga_goto ok 42 (by decide) dX3_margin_26 ?_
    exact ga_freturn ok en rfl (by decide) (by decide) dX3_margin_42 ⟨qg, qs, rfl, rfl⟩
set_option maxHeartbeats 4000000 in
set_option maxRecDepth 100000 in
theorem c_X3_letsIn {G : GG} {l : Launch} (hfl : l.stackTraces = false) (hG : MW G) {m : Mm} {r : Nat → Int} {T : Int} (hI : gtIs m 64 r) (hT : gtOk T r) {g : Int} (hgR : -2147483648 ≤ g ∧ g ≤ 2147483647) {x : Int} (hxR : -2147483648 ≤ x ∧ x ≤ 2147483647) : CT G l yX3_letsIn cX3_letsIn 3 (some .boolean) (RM 8 2 12) [.ref 0, vI g, vI x] m (fun r' m' => (0 ≤ g ∧ g < r 0) ∧ (1 ≤ x ∧ x ≤ 1023) ∧ r' = some (vI (b2i (adm (gcn (rg r g.toNat)) x))) ∧ m' = m) (fun X m' => ((X = "java/lang/IndexOutOfBoundsException" ∧ ¬(0 ≤ g ∧ g < r 0)) ∨ (X = "java/lang/IllegalArgumentException" ∧ (0 ≤ g ∧ g < r 0) ∧ ¬(1 ≤ x ∧ x ≤ 1023))) ∧ m' = m) := by
  refine CT.of RX3 [(0, .ref 0), (1, vI g), (2, vI x)] hfl (by decide +kernel) rfl rfl (Nat.le_of_ble_eq_true rfl) ?_
  intro E ok en hml hEl htab
  have hR : e_R E = RM 8 2 12 := en.2.2.2
  have hn0 : 0 < (e_c E).maxLocals := by rw [hml]; decide
  have hn1 : 1 < (e_c E).maxLocals := by rw [hml]; decide
  have hn2 : 2 < (e_c E).maxLocals := by rw [hml]; decide
  obtain ⟨e1, e4, hv, hgs⟩ := id hI
  obtain ⟨b0, b1, hvb, hgb⟩ := id hT
  refine ga_aload_n ok 0 rfl rfl dX3_letsIn_0 ?_
  refine ga_iload_n ok 1 rfl rfl dX3_letsIn_1 ?_
  refine gc_X3_1 ok hG rfl lk_X3_90 rfl (c_X3_requireGuard ok.fl hG hI hT hgR) (by rw [hR]; exact ⟨by decide, by decide, by decide, by decide⟩) (Nat.le_of_ble_eq_true rfl) dX3_letsIn_2 (fun r9 m9 hq => ?_) (fun X9 m9 hq => by obtain ⟨rfl, qg, rfl⟩ := hq; exact ga_out en htab (by decide) (by decide) (⟨Or.inl ⟨rfl, qg⟩, rfl⟩))
  obtain ⟨rfl, qg, hm9⟩ := hq
  subst m9
  simp only [Option.toList_none, List.nil_append]
  refine ga_iload_n ok 2 rfl rfl dX3_letsIn_5 ?_
  refine gc_S_1 ok lk_X3_116 (c_X3_requireSet ok.fl hG hxR) (by rw [hR]; exact ⟨by decide, by decide, by decide, by decide⟩) (Nat.le_of_ble_eq_true rfl) dX3_letsIn_6 (fun r9 m9 hq => ?_) (fun X9 m9 hq => by obtain ⟨rfl, qs, rfl⟩ := hq; exact ga_out en htab (by decide) (by decide) (⟨Or.inr (⟨rfl, qg, qs⟩), rfl⟩))
  obtain ⟨rfl, qs, hm9⟩ := hq
  subst m9
  simp only [Option.toList_none, List.nil_append]
  refine ga_aload_n ok 0 rfl rfl dX3_letsIn_9 ?_
  refine gf_X3_12 ok hG rfl dX3_letsIn_10 ?_
  refine gf_X3_93 ok hG (by omega) dX3_letsIn_13 ?_
  refine ga_iload_n ok 1 rfl rfl dX3_letsIn_16 ?_
  refine ga_aaload_qa ok (ar_ga hG (by omega)) (by omega) dX3_letsIn_17 ?_
  refine ga_iload_n ok 2 rfl rfl dX3_letsIn_18 ?_
  refine gd_X1_1 ok hG (by omega) lk_X3_180 rfl (c2_X1_admits ok.fl hG (by omega) (by omega) (hgs g.toNat (by omega)) (hgb g.toNat (by omega))) (by rw [hR]; exact ⟨by decide, by decide, by decide, by decide⟩) (Nat.le_of_ble_eq_true rfl) dX3_letsIn_19 ?_
  exact ga_ireturn ok en rfl (nar01 (b2i_or _)) (by decide) (by decide) dX3_letsIn_22 ⟨by assumption, by assumption, rfl, rfl⟩
set_option maxHeartbeats 4000000 in
set_option maxRecDepth 100000 in
theorem c_X3_counted {G : GG} {l : Launch} (hfl : l.stackTraces = false) (hG : MW G) {m : Mm} {r : Nat → Int} {T : Int} (hI : gtIs m 64 r) (hT : gtOk T r) {g : Int} (hgR : -2147483648 ≤ g ∧ g ≤ 2147483647) {x : Int} (hxR : -2147483648 ≤ x ∧ x ≤ 2147483647) : CT G l yX3_counted cX3_counted 3 (some .int) (RM 8 2 12) [.ref 0, vI g, vI x] m (fun r' m' => (0 ≤ g ∧ g < r 0) ∧ (-1 ≤ x ∧ x < 10) ∧ r' = some (vI (gcn (rg r g.toNat) (x + 1).toNat)) ∧ m' = m) (fun X m' => ((X = "java/lang/IndexOutOfBoundsException" ∧ ¬(0 ≤ g ∧ g < r 0)) ∨ (X = "java/lang/IllegalArgumentException" ∧ (0 ≤ g ∧ g < r 0) ∧ ¬(-1 ≤ x ∧ x < 10))) ∧ m' = m) := by
  refine CT.of RX3 [(0, .ref 0), (1, vI g), (2, vI x)] hfl (by decide +kernel) rfl rfl (Nat.le_of_ble_eq_true rfl) ?_
  intro E ok en hml hEl htab
  have hR : e_R E = RM 8 2 12 := en.2.2.2
  have hn0 : 0 < (e_c E).maxLocals := by rw [hml]; decide
  have hn1 : 1 < (e_c E).maxLocals := by rw [hml]; decide
  have hn2 : 2 < (e_c E).maxLocals := by rw [hml]; decide
  obtain ⟨e1, e4, hv, hgs⟩ := id hI
  obtain ⟨b0, b1, hvb, hgb⟩ := id hT
  refine ga_aload_n ok 0 rfl rfl dX3_counted_0 ?_
  refine ga_iload_n ok 1 rfl rfl dX3_counted_1 ?_
  refine gc_X3_1 ok hG rfl lk_X3_90 rfl (c_X3_requireGuard ok.fl hG hI hT hgR) (by rw [hR]; exact ⟨by decide, by decide, by decide, by decide⟩) (Nat.le_of_ble_eq_true rfl) dX3_counted_2 (fun r9 m9 hq => ?_) (fun X9 m9 hq => by obtain ⟨rfl, qg, rfl⟩ := hq; exact ga_out en htab (by decide) (by decide) (⟨Or.inl ⟨rfl, qg⟩, rfl⟩))
  obtain ⟨rfl, qg, hm9⟩ := hq
  subst m9
  simp only [Option.toList_none, List.nil_append]
  refine ga_iload_n ok 2 rfl rfl dX3_counted_5 ?_
  refine ga_iconst ok dX3_counted_6 ?_
  refine gc_S_2 ok lk_X3_183 (c_X3_requireBadge ok.fl hG hxR (y := -1) (by omega)) (by rw [hR]; exact ⟨by decide, by decide, by decide, by decide⟩) (Nat.le_of_ble_eq_true rfl) dX3_counted_7 (fun r9 m9 hq => ?_) (fun X9 m9 hq => by obtain ⟨rfl, qs, rfl⟩ := hq; exact ga_out en htab (by decide) (by decide) (⟨Or.inr (⟨rfl, qg, qs⟩), rfl⟩))
  obtain ⟨rfl, qs, hm9⟩ := hq
  subst m9
  simp only [Option.toList_none, List.nil_append]
  refine ga_aload_n ok 0 rfl rfl dX3_counted_10 ?_
  refine gf_X3_12 ok hG rfl dX3_counted_11 ?_
  refine gf_X3_93 ok hG (by omega) dX3_counted_14 ?_
  refine ga_iload_n ok 1 rfl rfl dX3_counted_17 ?_
  refine ga_aaload_qa ok (ar_ga hG (by omega)) (by omega) dX3_counted_18 ?_
  refine gf_X3_194 ok hG (by omega) dX3_counted_19 ?_
  refine ga_iload_n ok 2 rfl rfl dX3_counted_22 ?_
  refine ga_iconst ok dX3_counted_23 ?_
  refine ga_iadd ok dX3_counted_24 ?_
  refine ga_iaload_ia ok (ar_co hG (by omega)) (by omega) dX3_counted_25 ?_
  rw [((hgs g.toNat (by omega)).2.2.2.2.2.2.1 (x + 1).toNat (by omega)).1]
  exact ga_ireturn ok en rfl rfl (by decide) (by decide) dX3_counted_26 ⟨by assumption, by assumption, rfl, rfl⟩
set_option maxHeartbeats 4000000 in
set_option maxRecDepth 100000 in
theorem c_X3_mean {G : GG} {l : Launch} (hfl : l.stackTraces = false) (hG : MW G) {m : Mm} {r : Nat → Int} {T : Int} (hI : gtIs m 64 r) (hT : gtOk T r) (hTT : T ≤ 1000000000) {g : Int} (hgR : -2147483648 ≤ g ∧ g ≤ 2147483647) {x : Int} (hxR : -2147483648 ≤ x ∧ x ≤ 2147483647) : CT G l yX3_mean cX3_mean 4 (some .float) (RM 8 3 18) [.ref 0, vI g, vI x] m (fun r' m' => (0 ≤ g ∧ g < r 0) ∧ (0 ≤ x ∧ x < 10) ∧ rg r g.toNat 2 ≠ 0 ∧ r' = some (.float (FP.fdiv (fbits (rg r g.toNat (17 + x.toNat))) (FP.i2f (Int32.ofInt (rg r g.toNat 2))))) ∧ m' = m) (fun X m' => ((X = "java/lang/IndexOutOfBoundsException" ∧ ¬(0 ≤ g ∧ g < r 0)) ∨ (X = "java/lang/IllegalArgumentException" ∧ (0 ≤ g ∧ g < r 0) ∧ ¬(0 ≤ x ∧ x < 10)) ∨ (X = "java/lang/ArithmeticException" ∧ (0 ≤ g ∧ g < r 0) ∧ (0 ≤ x ∧ x < 10) ∧ rg r g.toNat 2 = 0)) ∧ m' = m) := by
  refine CT.of RX3 [(0, .ref 0), (1, vI g), (2, vI x)] hfl (by decide +kernel) rfl rfl (Nat.le_of_ble_eq_true rfl) ?_
  intro E ok en hml hEl htab
  have hR : e_R E = RM 8 3 18 := en.2.2.2
  have hn0 : 0 < (e_c E).maxLocals := by rw [hml]; decide
  have hn1 : 1 < (e_c E).maxLocals := by rw [hml]; decide
  have hn2 : 2 < (e_c E).maxLocals := by rw [hml]; decide
  have hn3 : 3 < (e_c E).maxLocals := by rw [hml]; decide
  obtain ⟨e1, e4, hv, hgs⟩ := id hI
  obtain ⟨b0, b1, hvb, hgb⟩ := id hT
  refine ga_aload_n ok 0 rfl rfl dX3_mean_0 ?_
  refine ga_iload_n ok 1 rfl rfl dX3_mean_1 ?_
  refine gc_X3_1 ok hG rfl lk_X3_90 rfl (c_X3_requireGuard ok.fl hG hI hT hgR) (by rw [hR]; exact ⟨by decide, by decide, by decide, by decide⟩) (Nat.le_of_ble_eq_true rfl) dX3_mean_2 (fun r9 m9 hq => ?_) (fun X9 m9 hq => by obtain ⟨rfl, qg, rfl⟩ := hq; exact ga_out en htab (by decide) (by decide) (⟨Or.inl ⟨rfl, qg⟩, rfl⟩))
  obtain ⟨rfl, qg, hm9⟩ := hq
  subst m9
  simp only [Option.toList_none, List.nil_append]
  refine ga_iload_n ok 2 rfl rfl dX3_mean_5 ?_
  refine ga_iconst ok dX3_mean_6 ?_
  refine gc_S_2 ok lk_X3_183 (c_X3_requireBadge ok.fl hG hxR (y := 0) (by omega)) (by rw [hR]; exact ⟨by decide, by decide, by decide, by decide⟩) (Nat.le_of_ble_eq_true rfl) dX3_mean_7 (fun r9 m9 hq => ?_) (fun X9 m9 hq => by obtain ⟨rfl, qs, rfl⟩ := hq; exact ga_out en htab (by decide) (by decide) (⟨Or.inr (Or.inl ⟨rfl, qg, qs⟩), rfl⟩))
  obtain ⟨rfl, qs, hm9⟩ := hq
  subst m9
  simp only [Option.toList_none, List.nil_append]
  refine ga_aload_n ok 0 rfl rfl dX3_mean_10 ?_
  refine gf_X3_12 ok hG rfl dX3_mean_11 ?_
  refine gf_X3_93 ok hG (by omega) dX3_mean_14 ?_
  refine ga_iload_n ok 1 rfl rfl dX3_mean_17 ?_
  refine ga_aaload_qa ok (ar_ga hG (by omega)) (by omega) dX3_mean_18 ?_
  refine gf_X3_156 ok hG (by omega) dX3_mean_19 ?_
  rw [(hgs g.toNat (by omega)).2.2.1]
  have hd9 := (hgb g.toNat (by omega)).2.2.1 2 (by omega) (by omega)
  refine ga_istore_n ok 3 rfl hn3 dX3_mean_22 ?_
  refine ga_iload_n ok 3 rfl rfl dX3_mean_23 ?_
  refine ga_if_ne ok 37 (by decide) (by omega) dX3_mean_24 (fun c_24 => ?_) (fun c_24 => ?_)
  · refine ga_aload_n ok 0 rfl rfl dX3_mean_37 ?_
    refine gf_X3_12 ok hG rfl dX3_mean_38 ?_
    refine gf_X3_93 ok hG (by omega) dX3_mean_41 ?_
    refine ga_iload_n ok 1 rfl rfl dX3_mean_44 ?_
    refine ga_aaload_qa ok (ar_ga hG (by omega)) (by omega) dX3_mean_45 ?_
    refine gf_X3_202 ok hG (by omega) dX3_mean_46 ?_
    refine ga_iload_n ok 2 rfl rfl dX3_mean_49 ?_
    refine ga_faload_fa ok (ar_su hG (by omega)) (by omega) dX3_mean_50 ?_
    rw [(hgs g.toNat (by omega)).2.2.2.2.2.2.2 x.toNat (by omega)]
    have hn9 := (hgb g.toNat (by omega)).2.2.2.2 x.toNat (by omega)
    refine ga_iload_n ok 3 rfl rfl dX3_mean_51 ?_
    refine ga_i2f ok dX3_mean_52 ?_
    refine ga_fdiv ok dX3_mean_53 (n32_div hn9.1 (by omega)) ?_
    exact ga_freturn ok en rfl (by decide) (by decide) dX3_mean_54 ⟨qg, qs, by first | exact c_24 | omega, rfl, rfl⟩
  · exact ga_throw ok en htab lt_ArithmeticException (text := "the guard had no days") (by decide +kernel) ⟨by decide, by decide, by decide, by decide⟩ (Nat.le_of_ble_eq_true rfl) dX3_mean_27 dX3_mean_30 dX3_mean_31 dX3_mean_33 dX3_mean_36 ⟨Or.inr (Or.inr (⟨rfl, qg, qs, by first | exact c_24 | omega⟩)), rfl⟩
set_option maxHeartbeats 4000000 in
set_option maxRecDepth 100000 in
theorem c_X3_knows {G : GG} {l : Launch} (hfl : l.stackTraces = false) (hG : MW G) {m : Mm} {r : Nat → Int} {T : Int} (hI : gtIs m 64 r) (hT : gtOk T r) {g : Int} (hgR : -2147483648 ≤ g ∧ g ≤ 2147483647) {v : Int} (hvR : -2147483648 ≤ v ∧ v ≤ 2147483647) : CT G l yX3_knows cX3_knows 3 (some .float) (RM 8 2 12) [.ref 0, vI g, vI v] m (fun r' m' => (0 ≤ g ∧ g < r 0) ∧ (0 ≤ v ∧ v < r 1) ∧ r' = some (.float (fq (kno r g.toNat v.toNat))) ∧ m' = m) (fun X m' => ((X = "java/lang/IndexOutOfBoundsException" ∧ ¬(0 ≤ g ∧ g < r 0)) ∨ (X = "java/lang/IndexOutOfBoundsException" ∧ (0 ≤ g ∧ g < r 0) ∧ ¬(0 ≤ v ∧ v < r 1))) ∧ m' = m) := by
  refine CT.of RX3 [(0, .ref 0), (1, vI g), (2, vI v)] hfl (by decide +kernel) rfl rfl (Nat.le_of_ble_eq_true rfl) ?_
  intro E ok en hml hEl htab
  have hR : e_R E = RM 8 2 12 := en.2.2.2
  have hn0 : 0 < (e_c E).maxLocals := by rw [hml]; decide
  have hn1 : 1 < (e_c E).maxLocals := by rw [hml]; decide
  have hn2 : 2 < (e_c E).maxLocals := by rw [hml]; decide
  obtain ⟨e1, e4, hv, hgs⟩ := id hI
  obtain ⟨b0, b1, hvb, hgb⟩ := id hT
  refine ga_aload_n ok 0 rfl rfl dX3_knows_0 ?_
  refine ga_iload_n ok 1 rfl rfl dX3_knows_1 ?_
  refine gc_X3_1 ok hG rfl lk_X3_90 rfl (c_X3_requireGuard ok.fl hG hI hT hgR) (by rw [hR]; exact ⟨by decide, by decide, by decide, by decide⟩) (Nat.le_of_ble_eq_true rfl) dX3_knows_2 (fun r9 m9 hq => ?_) (fun X9 m9 hq => by obtain ⟨rfl, qg, rfl⟩ := hq; exact ga_out en htab (by decide) (by decide) (⟨Or.inl ⟨rfl, qg⟩, rfl⟩))
  obtain ⟨rfl, qg, hm9⟩ := hq
  subst m9
  simp only [Option.toList_none, List.nil_append]
  refine ga_aload_n ok 0 rfl rfl dX3_knows_5 ?_
  refine ga_iload_n ok 2 rfl rfl dX3_knows_6 ?_
  refine gc_X3_1 ok hG rfl lk_X3_129 rfl (c_X3_requireVisitor ok.fl hG hI hT hvR) (by rw [hR]; exact ⟨by decide, by decide, by decide, by decide⟩) (Nat.le_of_ble_eq_true rfl) dX3_knows_7 (fun r9 m9 hq => ?_) (fun X9 m9 hq => by obtain ⟨rfl, qv, rfl⟩ := hq; exact ga_out en htab (by decide) (by decide) (⟨Or.inr (⟨rfl, qg, qv⟩), rfl⟩))
  obtain ⟨rfl, qv, hm9⟩ := hq
  subst m9
  simp only [Option.toList_none, List.nil_append]
  refine ga_aload_n ok 0 rfl rfl dX3_knows_10 ?_
  refine gf_X3_12 ok hG rfl dX3_knows_11 ?_
  refine ga_iload_n ok 1 rfl rfl dX3_knows_14 ?_
  refine ga_iload_n ok 2 rfl rfl dX3_knows_15 ?_
  refine gd_X0_2 ok hG (by omega) lk_X3_218 rfl (c_X0_knowing ok.fl hG (by omega) hI hT qg qv) (by rw [hR]; exact ⟨by decide, by decide, by decide, by decide⟩) (Nat.le_of_ble_eq_true rfl) dX3_knows_16 ?_
  exact ga_freturn ok en rfl (by decide) (by decide) dX3_knows_19 ⟨by assumption, by assumption, rfl, rfl⟩
set_option maxHeartbeats 4000000 in
set_option maxRecDepth 100000 in
theorem c_X3_wouldPush {G : GG} {l : Launch} (hfl : l.stackTraces = false) (hG : MW G) {m : Mm} {r : Nat → Int} {T : Int} (hI : gtIs m 64 r) (hT : gtOk T r) {g : Int} (hgR : -2147483648 ≤ g ∧ g ≤ 2147483647) {v : Int} (hvR : -2147483648 ≤ v ∧ v ≤ 2147483647) : CT G l yX3_wouldPush cX3_wouldPush 3 (some .boolean) (RM 8 2 12) [.ref 0, vI g, vI v] m (fun r' m' => (0 ≤ g ∧ g < r 0) ∧ (0 ≤ v ∧ v < r 1) ∧ r' = some (vI (b2i (psS (rg r g.toNat) (vX r v.toNat) (vF r v.toNat)))) ∧ m' = m) (fun X m' => ((X = "java/lang/IndexOutOfBoundsException" ∧ ¬(0 ≤ g ∧ g < r 0)) ∨ (X = "java/lang/IndexOutOfBoundsException" ∧ (0 ≤ g ∧ g < r 0) ∧ ¬(0 ≤ v ∧ v < r 1))) ∧ m' = m) := by
  refine CT.of RX3 [(0, .ref 0), (1, vI g), (2, vI v)] hfl (by decide +kernel) rfl rfl (Nat.le_of_ble_eq_true rfl) ?_
  intro E ok en hml hEl htab
  have hR : e_R E = RM 8 2 12 := en.2.2.2
  have hn0 : 0 < (e_c E).maxLocals := by rw [hml]; decide
  have hn1 : 1 < (e_c E).maxLocals := by rw [hml]; decide
  have hn2 : 2 < (e_c E).maxLocals := by rw [hml]; decide
  obtain ⟨e1, e4, hv, hgs⟩ := id hI
  obtain ⟨b0, b1, hvb, hgb⟩ := id hT
  refine ga_aload_n ok 0 rfl rfl dX3_wouldPush_0 ?_
  refine ga_iload_n ok 1 rfl rfl dX3_wouldPush_1 ?_
  refine gc_X3_1 ok hG rfl lk_X3_90 rfl (c_X3_requireGuard ok.fl hG hI hT hgR) (by rw [hR]; exact ⟨by decide, by decide, by decide, by decide⟩) (Nat.le_of_ble_eq_true rfl) dX3_wouldPush_2 (fun r9 m9 hq => ?_) (fun X9 m9 hq => by obtain ⟨rfl, qg, rfl⟩ := hq; exact ga_out en htab (by decide) (by decide) (⟨Or.inl ⟨rfl, qg⟩, rfl⟩))
  obtain ⟨rfl, qg, hm9⟩ := hq
  subst m9
  simp only [Option.toList_none, List.nil_append]
  refine ga_aload_n ok 0 rfl rfl dX3_wouldPush_5 ?_
  refine ga_iload_n ok 2 rfl rfl dX3_wouldPush_6 ?_
  refine gc_X3_1 ok hG rfl lk_X3_129 rfl (c_X3_requireVisitor ok.fl hG hI hT hvR) (by rw [hR]; exact ⟨by decide, by decide, by decide, by decide⟩) (Nat.le_of_ble_eq_true rfl) dX3_wouldPush_7 (fun r9 m9 hq => ?_) (fun X9 m9 hq => by obtain ⟨rfl, qv, rfl⟩ := hq; exact ga_out en htab (by decide) (by decide) (⟨Or.inr (⟨rfl, qg, qv⟩), rfl⟩))
  obtain ⟨rfl, qv, hm9⟩ := hq
  subst m9
  simp only [Option.toList_none, List.nil_append]
  refine ga_aload_n ok 0 rfl rfl dX3_wouldPush_10 ?_
  refine gf_X3_12 ok hG rfl dX3_wouldPush_11 ?_
  refine gf_X3_93 ok hG (by omega) dX3_wouldPush_14 ?_
  refine ga_iload_n ok 1 rfl rfl dX3_wouldPush_17 ?_
  refine ga_aaload_qa ok (ar_ga hG (by omega)) (by omega) dX3_wouldPush_18 ?_
  refine ga_aload_n ok 0 rfl rfl dX3_wouldPush_19 ?_
  refine gf_X3_12 ok hG rfl dX3_wouldPush_20 ?_
  refine gf_X3_93 ok hG (by omega) dX3_wouldPush_23 ?_
  refine ga_iload_n ok 1 rfl rfl dX3_wouldPush_26 ?_
  refine ga_aaload_qa ok (ar_ga hG (by omega)) (by omega) dX3_wouldPush_27 ?_
  refine ga_aload_n ok 0 rfl rfl dX3_wouldPush_28 ?_
  refine gf_X3_12 ok hG rfl dX3_wouldPush_29 ?_
  refine gf_X3_135 ok hG (by omega) dX3_wouldPush_32 ?_
  refine ga_iload_n ok 2 rfl rfl dX3_wouldPush_35 ?_
  refine ga_iaload_ia ok (ar_se hG (by omega)) (by omega) dX3_wouldPush_36 ?_
  have hq9 := hvb v.toNat (by omega)
  rw [(hv v.toNat (by omega)).1]
  refine gd_X1_1 ok hG (by omega) lk_X3_177 rfl (c2_X1_marginOf ok.fl hG (by omega) (by omega) (hgs g.toNat (by omega)) (hgb g.toNat (by omega))) (by rw [hR]; exact ⟨by decide, by decide, by decide, by decide⟩) (Nat.le_of_ble_eq_true rfl) dX3_wouldPush_37 ?_
  refine ga_aload_n ok 0 rfl rfl dX3_wouldPush_40 ?_
  refine gf_X3_12 ok hG rfl dX3_wouldPush_41 ?_
  refine gf_X3_139 ok hG (by omega) dX3_wouldPush_44 ?_
  refine ga_iload_n ok 2 rfl rfl dX3_wouldPush_47 ?_
  refine ga_baload_za ok (ar_fr hG (by omega)) (by omega) dX3_wouldPush_48 ?_
  rw [(hv v.toNat (by omega)).2]
  refine gd_X1_2 ok hG (by omega) lk_X3_246 rfl (c_X1_needsPush ok.fl hG (by omega) (mg_bd (c := gcn (rg r g.toNat)) (hgb g.toNat (by omega)).2.2.2.1 _) hq9.2 (by rw [(hgs g.toNat (by omega)).2.1]; exact (hgb g.toNat (by omega)).2.1)) (by rw [hR]; exact ⟨by decide, by decide, by decide, by decide⟩) (Nat.le_of_ble_eq_true rfl) dX3_wouldPush_49 ?_
  rw [(hgs g.toNat (by omega)).2.1]
  exact ga_ireturn ok en rfl (nar01 (b2i_or _)) (by decide) (by decide) dX3_wouldPush_52 ⟨by assumption, by assumption, rfl, rfl⟩
set_option maxHeartbeats 4000000 in
set_option maxRecDepth 100000 in
theorem c_X3_votes {G : GG} {l : Launch} (hfl : l.stackTraces = false) (hG : MW G) {m : Mm} {r : Nat → Int} {T : Int} (hI : gtIs m 64 r) (hT : gtOk T r) {x : Int} (hxR : -2147483648 ≤ x ∧ x ≤ 2147483647) : CT G l yX3_votes cX3_votes 2 (some .int) (RM 8 1 6) [.ref 0, vI x] m (fun r' m' => (1 ≤ x ∧ x ≤ 1023) ∧ r' = some (vI (vts r x)) ∧ m' = m) (fun X m' => ((X = "java/lang/IllegalArgumentException" ∧ ¬(1 ≤ x ∧ x ≤ 1023))) ∧ m' = m) := by
  refine CT.of RX3 [(0, .ref 0), (1, vI x)] hfl (by decide +kernel) rfl rfl (Nat.le_of_ble_eq_true rfl) ?_
  intro E ok en hml hEl htab
  have hR : e_R E = RM 8 1 6 := en.2.2.2
  have hn0 : 0 < (e_c E).maxLocals := by rw [hml]; decide
  have hn1 : 1 < (e_c E).maxLocals := by rw [hml]; decide
  obtain ⟨e1, e4, hv, hgs⟩ := id hI
  obtain ⟨b0, b1, hvb, hgb⟩ := id hT
  refine ga_iload_n ok 1 rfl rfl dX3_votes_0 ?_
  refine gc_S_1 ok lk_X3_116 (c_X3_requireSet ok.fl hG hxR) (by rw [hR]; exact ⟨by decide, by decide, by decide, by decide⟩) (Nat.le_of_ble_eq_true rfl) dX3_votes_1 (fun r9 m9 hq => ?_) (fun X9 m9 hq => by obtain ⟨rfl, qs, rfl⟩ := hq; exact ga_out en htab (by decide) (by decide) (⟨⟨rfl, qs⟩, rfl⟩))
  obtain ⟨rfl, qs, hm9⟩ := hq
  subst m9
  simp only [Option.toList_none, List.nil_append]
  refine ga_aload_n ok 0 rfl rfl dX3_votes_4 ?_
  refine gf_X3_12 ok hG rfl dX3_votes_5 ?_
  refine ga_iload_n ok 1 rfl rfl dX3_votes_8 ?_
  refine gd_X0_1 ok hG (by omega) lk_X3_250 rfl (c_X0_votesFor ok.fl hG (by omega) hI hT (by omega)) (by rw [hR]; exact ⟨by decide, by decide, by decide, by decide⟩) (Nat.le_of_ble_eq_true rfl) dX3_votes_9 ?_
  exact ga_ireturn ok en rfl rfl (by decide) (by decide) dX3_votes_12 ⟨by assumption, rfl, rfl⟩
set_option maxHeartbeats 4000000 in
set_option maxRecDepth 100000 in
theorem c_X3_isVotedIn {G : GG} {l : Launch} (hfl : l.stackTraces = false) (hG : MW G) {m : Mm} {r : Nat → Int} {T : Int} (hI : gtIs m 64 r) (hT : gtOk T r) {x : Int} (hxR : -2147483648 ≤ x ∧ x ≤ 2147483647) : CT G l yX3_isVotedIn cX3_isVotedIn 2 (some .boolean) (RM 8 1 6) [.ref 0, vI x] m (fun r' m' => (1 ≤ x ∧ x ≤ 1023) ∧ r' = some (vI (b2i (vin r x))) ∧ m' = m) (fun X m' => ((X = "java/lang/IllegalArgumentException" ∧ ¬(1 ≤ x ∧ x ≤ 1023))) ∧ m' = m) := by
  refine CT.of RX3 [(0, .ref 0), (1, vI x)] hfl (by decide +kernel) rfl rfl (Nat.le_of_ble_eq_true rfl) ?_
  intro E ok en hml hEl htab
  have hR : e_R E = RM 8 1 6 := en.2.2.2
  have hn0 : 0 < (e_c E).maxLocals := by rw [hml]; decide
  have hn1 : 1 < (e_c E).maxLocals := by rw [hml]; decide
  obtain ⟨e1, e4, hv, hgs⟩ := id hI
  obtain ⟨b0, b1, hvb, hgb⟩ := id hT
  refine ga_iload_n ok 1 rfl rfl dX3_isVotedIn_0 ?_
  refine gc_S_1 ok lk_X3_116 (c_X3_requireSet ok.fl hG hxR) (by rw [hR]; exact ⟨by decide, by decide, by decide, by decide⟩) (Nat.le_of_ble_eq_true rfl) dX3_isVotedIn_1 (fun r9 m9 hq => ?_) (fun X9 m9 hq => by obtain ⟨rfl, qs, rfl⟩ := hq; exact ga_out en htab (by decide) (by decide) (⟨⟨rfl, qs⟩, rfl⟩))
  obtain ⟨rfl, qs, hm9⟩ := hq
  subst m9
  simp only [Option.toList_none, List.nil_append]
  refine ga_aload_n ok 0 rfl rfl dX3_isVotedIn_4 ?_
  refine gf_X3_12 ok hG rfl dX3_isVotedIn_5 ?_
  refine ga_iload_n ok 1 rfl rfl dX3_isVotedIn_8 ?_
  refine gd_X0_1 ok hG (by omega) lk_X3_253 rfl (c_X0_admitsByVote ok.fl hG (by omega) hI hT (by omega)) (by rw [hR]; exact ⟨by decide, by decide, by decide, by decide⟩) (Nat.le_of_ble_eq_true rfl) dX3_isVotedIn_9 ?_
  exact ga_ireturn ok en rfl (nar01 (b2i_or _)) (by decide) (by decide) dX3_isVotedIn_12 ⟨by assumption, rfl, rfl⟩
set_option maxHeartbeats 4000000 in
set_option maxRecDepth 100000 in
theorem c_X3_account {G : GG} {l : Launch} (hfl : l.stackTraces = false) (hG : MW G) {m : Mm} {r : Nat → Int} {T : Int} (hI : gtIs m 64 r) (hT : gtOk T r) {what : Int} (hwhatR : -2147483648 ≤ what ∧ what ≤ 2147483647) : CT G l yX3_account cX3_account 2 (some .int) (RM 8 1 6) [.ref 0, vI what] m (fun r' m' => (0 ≤ what ∧ what ≤ 8) ∧ r' = some (vI (if what = 0 then r 0 else if what = 1 then r 1 else if what = 2 then cof r 1 else if what = 3 then cof r 0 else if what = 4 then zs (fun g => rg r g 2) (r 0).toNat else if what = 5 then zs (fun g => rg r g 3) (r 0).toNat else if what = 6 then zs (fun g => ofG r g) (r 0).toNat else if what = 7 then m.1 640 1 else m.1 0 6)) ∧ m' = m) (fun X m' => ((X = "java/lang/IllegalArgumentException" ∧ ¬(0 ≤ what ∧ what ≤ 8))) ∧ m' = m) := by
  refine CT.of RX3 [(0, .ref 0), (1, vI what)] hfl (by decide +kernel) rfl rfl (Nat.le_of_ble_eq_true rfl) ?_
  intro E ok en hml hEl htab
  have hR : e_R E = RM 8 1 6 := en.2.2.2
  have hn0 : 0 < (e_c E).maxLocals := by rw [hml]; decide
  have hn1 : 1 < (e_c E).maxLocals := by rw [hml]; decide
  obtain ⟨e1, e4, hv, hgs⟩ := id hI
  obtain ⟨b0, b1, hvb, hgb⟩ := id hT
  refine ga_iload_n ok 1 rfl rfl dX3_account_0 ?_
  rcases (show what = 0 ∨ what = 1 ∨ what = 2 ∨ what = 3 ∨ what = 4 ∨ what = 5 ∨ what = 6 ∨ what = 7 ∨ what = 8 ∨ (what < 0 ∨ 8 < what) by omega) with rfl | rfl | rfl | rfl | rfl | rfl | rfl | rfl | rfl | hout
  · refine ga_tableIn (off := 51) ok 52 (by decide) (by decide) (by decide) (by decide) dX3_account_1 ?_
    refine ga_aload_n ok 0 rfl rfl dX3_account_52 ?_
    refine gf_X3_12 ok hG rfl dX3_account_53 ?_
    refine gf_X3_256 ok hG (by omega) dX3_account_56 ?_
    try rw [e1]
    exact ga_ireturn ok en rfl rfl (by decide) (by decide) dX3_account_59 ⟨by omega, rfl, rfl⟩
  · refine ga_tableIn (off := 59) ok 60 (by decide) (by decide) (by decide) (by decide) dX3_account_1 ?_
    refine ga_aload_n ok 0 rfl rfl dX3_account_60 ?_
    refine gf_X3_12 ok hG rfl dX3_account_61 ?_
    refine gf_X3_213 ok hG (by omega) dX3_account_64 ?_
    try rw [e4]
    exact ga_ireturn ok en rfl rfl (by decide) (by decide) dX3_account_67 ⟨by omega, rfl, rfl⟩
  · refine ga_tableIn (off := 67) ok 68 (by decide) (by decide) (by decide) (by decide) dX3_account_1 ?_
    refine ga_aload_n ok 0 rfl rfl dX3_account_68 ?_
    refine gf_X3_12 ok hG rfl dX3_account_69 ?_
    refine ga_iconst ok dX3_account_72 ?_
    refine gd_X0_1 ok hG (by omega) lk_X3_328 rfl (c_X0_countOf ok.fl hG (by omega) hI hT (Or.inr rfl)) (by rw [hR]; exact ⟨by decide, by decide, by decide, by decide⟩) (Nat.le_of_ble_eq_true rfl) dX3_account_73 ?_
    exact ga_ireturn ok en rfl rfl (by decide) (by decide) dX3_account_76 ⟨by omega, rfl, rfl⟩
  · refine ga_tableIn (off := 76) ok 77 (by decide) (by decide) (by decide) (by decide) dX3_account_1 ?_
    refine ga_aload_n ok 0 rfl rfl dX3_account_77 ?_
    refine gf_X3_12 ok hG rfl dX3_account_78 ?_
    refine ga_iconst ok dX3_account_81 ?_
    refine gd_X0_1 ok hG (by omega) lk_X3_328 rfl (c_X0_countOf ok.fl hG (by omega) hI hT (Or.inl rfl)) (by rw [hR]; exact ⟨by decide, by decide, by decide, by decide⟩) (Nat.le_of_ble_eq_true rfl) dX3_account_82 ?_
    exact ga_ireturn ok en rfl rfl (by decide) (by decide) dX3_account_85 ⟨by omega, rfl, rfl⟩
  · refine ga_tableIn (off := 85) ok 86 (by decide) (by decide) (by decide) (by decide) dX3_account_1 ?_
    refine ga_aload_n ok 0 rfl rfl dX3_account_86 ?_
    refine gf_X3_12 ok hG rfl dX3_account_87 ?_
    refine gd_X0_0 ok hG (by omega) lk_X3_332 rfl (c_X0_daysOfAll ok.fl hG (by omega) hI hT) (by rw [hR]; exact ⟨by decide, by decide, by decide, by decide⟩) (Nat.le_of_ble_eq_true rfl) dX3_account_90 ?_
    exact ga_ireturn ok en rfl rfl (by decide) (by decide) dX3_account_93 ⟨by omega, rfl, rfl⟩
  · refine ga_tableIn (off := 93) ok 94 (by decide) (by decide) (by decide) (by decide) dX3_account_1 ?_
    refine ga_aload_n ok 0 rfl rfl dX3_account_94 ?_
    refine gf_X3_12 ok hG rfl dX3_account_95 ?_
    refine gd_X0_0 ok hG (by omega) lk_X3_335 rfl (c_X0_pushesOfAll ok.fl hG (by omega) hI hT) (by rw [hR]; exact ⟨by decide, by decide, by decide, by decide⟩) (Nat.le_of_ble_eq_true rfl) dX3_account_98 ?_
    exact ga_ireturn ok en rfl rfl (by decide) (by decide) dX3_account_101 ⟨by omega, rfl, rfl⟩
  · refine ga_tableIn (off := 101) ok 102 (by decide) (by decide) (by decide) (by decide) dX3_account_1 ?_
    refine ga_aload_n ok 0 rfl rfl dX3_account_102 ?_
    refine gf_X3_12 ok hG rfl dX3_account_103 ?_
    refine gd_X0_0 ok hG (by omega) lk_X3_338 rfl (c_X0_mistakesOfAll ok.fl hG (by omega) hI hT) (by rw [hR]; exact ⟨by decide, by decide, by decide, by decide⟩) (Nat.le_of_ble_eq_true rfl) dX3_account_106 ?_
    exact ga_ireturn ok en rfl rfl (by decide) (by decide) dX3_account_109 ⟨by omega, rfl, rfl⟩
  · refine ga_tableIn (off := 109) ok 110 (by decide) (by decide) (by decide) (by decide) dX3_account_1 ?_
    refine ga_aload_n ok 0 rfl rfl dX3_account_110 ?_
    refine gf_X3_47 ok hG rfl dX3_account_111 ?_
    refine gf_X3_285 ok hG rfl dX3_account_114 ?_
    exact ga_ireturn ok en rfl rfl (by decide) (by decide) dX3_account_117 ⟨by omega, rfl, rfl⟩
  · refine ga_tableIn (off := 117) ok 118 (by decide) (by decide) (by decide) (by decide) dX3_account_1 ?_
    refine ga_aload_n ok 0 rfl rfl dX3_account_118 ?_
    refine gf_X3_34 ok hG rfl dX3_account_119 ?_
    exact ga_ireturn ok en rfl rfl (by decide) (by decide) dX3_account_122 ⟨by omega, rfl, rfl⟩
  · refine ga_tableOut ok 123 (by omega) hout (by decide) dX3_account_1 ?_
    exact ga_throwW ok en htab lt_IllegalArgumentException (text := "there is no such account") (by decide +kernel) ⟨by decide, by decide, by decide, by decide⟩ (Nat.le_of_ble_eq_true rfl) dX3_account_123 dX3_account_126 dX3_account_127 dX3_account_130 dX3_account_133 ⟨⟨rfl, by omega⟩, rfl⟩
set_option maxHeartbeats 4000000 in
set_option maxRecDepth 100000 in
theorem c_X3_refusal {G : GG} {l : Launch} (hfl : l.stackTraces = false) (hG : MW G) {m : Mm} (hrs : -2147483648 ≤ m.1 0 11 ∧ m.1 0 11 ≤ 2147483647) {fr : Int} (hfr : fr = 0 ∨ fr = 1) : CT G l yX3_refusal cX3_refusal 2 (some .int) (RM 8 1 6) [.ref 0, vI fr] m (fun r' m' => m.1 0 11 ≠ 0 ∧ r' = some (vI (if fr = 1 then m.1 0 12 else m.1 0 11)) ∧ m' = m) (fun X m' => ((X = "java/util/NoSuchElementException" ∧ m.1 0 11 = 0)) ∧ m' = m) := by
  refine CT.of RX3 [(0, .ref 0), (1, vI fr)] hfl (by decide +kernel) rfl rfl (Nat.le_of_ble_eq_true rfl) ?_
  intro E ok en hml hEl htab
  have hR : e_R E = RM 8 1 6 := en.2.2.2
  have hn0 : 0 < (e_c E).maxLocals := by rw [hml]; decide
  have hn1 : 1 < (e_c E).maxLocals := by rw [hml]; decide
  refine ga_aload_n ok 0 rfl rfl dX3_refusal_0 ?_
  refine gf_X3_61 ok hG rfl dX3_refusal_1 ?_
  refine ga_if_ne ok 18 (by decide) hrs dX3_refusal_4 (fun c_4 => ?_) (fun c_4 => ?_)
  · refine ga_iload_n ok 1 rfl rfl dX3_refusal_18 ?_
    refine ga_if_eq ok 29 (by decide) (by omega) dX3_refusal_19 (fun c_19 => ?_) (fun c_19 => ?_)
    · refine ga_aload_n ok 0 rfl rfl dX3_refusal_29 ?_
      refine gf_X3_61 ok hG rfl dX3_refusal_30 ?_
      exact ga_ireturn ok en rfl rfl (by decide) (by decide) dX3_refusal_33 ⟨by first | exact c_4 | omega, by first | rw [if_pos (by omega)] | rw [if_neg (by omega)], rfl⟩
    · refine ga_aload_n ok 0 rfl rfl dX3_refusal_22 ?_
      refine gf_X3_64 ok hG rfl dX3_refusal_23 ?_
      refine ga_goto ok 33 (by decide) dX3_refusal_26 ?_
      exact ga_ireturn ok en rfl rfl (by decide) (by decide) dX3_refusal_33 ⟨by first | exact c_4 | omega, by first | rw [if_pos (by omega)] | rw [if_neg (by omega)], rfl⟩
  · exact ga_throwNW ok ns_0 ns_1 ns_2 ns_5 en htab lt_NoSuchElementException (text := "nothing was refused") (by decide +kernel) ⟨by decide, by decide, by decide, by decide⟩ (Nat.le_of_ble_eq_true rfl) dX3_refusal_7 dX3_refusal_10 dX3_refusal_11 dX3_refusal_14 dX3_refusal_17 ⟨⟨rfl, by first | exact c_4 | omega⟩, rfl⟩
set_option maxHeartbeats 4000000 in
set_option maxRecDepth 100000 in
theorem c_X3_strongest {G : GG} {l : Launch} (hfl : l.stackTraces = false) (hG : MW G) {m : Mm} {r : Nat → Int} {T : Int} (hI : gtIs m 64 r) (hT : gtOk T r) {g : Int} (hgR : -2147483648 ≤ g ∧ g ≤ 2147483647) {p : Int} (hpR : -2147483648 ≤ p ∧ p ≤ 2147483647) : CT G l yX3_strongest cX3_strongest 4 (some .int) (RM 8 2 12) [.ref 0, vI g, vI p] m (fun r' m' => (0 ≤ g ∧ g < r 0) ∧ ffd (fun b => ahd (gcn (rg r g.toNat)) b 10) p 10 ≠ -1 ∧ r' = some (vI (ffd (fun b => ahd (gcn (rg r g.toNat)) b 10) p 10)) ∧ m' = m) (fun X m' => ((X = "java/lang/IndexOutOfBoundsException" ∧ ¬(0 ≤ g ∧ g < r 0)) ∨ (X = "java/util/NoSuchElementException" ∧ (0 ≤ g ∧ g < r 0) ∧ ffd (fun b => ahd (gcn (rg r g.toNat)) b 10) p 10 = -1)) ∧ m' = m) := by
  refine CT.of RX3 [(0, .ref 0), (1, vI g), (2, vI p)] hfl (by decide +kernel) rfl rfl (Nat.le_of_ble_eq_true rfl) ?_
  intro E ok en hml hEl htab
  have hR : e_R E = RM 8 2 12 := en.2.2.2
  have hn0 : 0 < (e_c E).maxLocals := by rw [hml]; decide
  have hn1 : 1 < (e_c E).maxLocals := by rw [hml]; decide
  have hn2 : 2 < (e_c E).maxLocals := by rw [hml]; decide
  have hn3 : 3 < (e_c E).maxLocals := by rw [hml]; decide
  obtain ⟨e1, e4, hv, hgs⟩ := id hI
  obtain ⟨b0, b1, hvb, hgb⟩ := id hT
  refine ga_aload_n ok 0 rfl rfl dX3_strongest_0 ?_
  refine ga_iload_n ok 1 rfl rfl dX3_strongest_1 ?_
  refine gc_X3_1 ok hG rfl lk_X3_90 rfl (c_X3_requireGuard ok.fl hG hI hT hgR) (by rw [hR]; exact ⟨by decide, by decide, by decide, by decide⟩) (Nat.le_of_ble_eq_true rfl) dX3_strongest_2 (fun r9 m9 hq => ?_) (fun X9 m9 hq => by obtain ⟨rfl, qg, rfl⟩ := hq; exact ga_out en htab (by decide) (by decide) (⟨Or.inl ⟨rfl, qg⟩, rfl⟩))
  obtain ⟨rfl, qg, hm9⟩ := hq
  subst m9
  simp only [Option.toList_none, List.nil_append]
  refine ga_iconst ok dX3_strongest_5 ?_
  refine ga_istore_n ok 3 rfl hn3 dX3_strongest_6 ?_
  have loop : ∀ (i : Int), (0 ≤ i ∧ i ≤ 10 ∧ ∀ b : Nat, (b : Int) < i → ahd (gcn (rg r g.toNat)) b 10 ≠ p) → WA G E (0 + (RM 2 1 6).cells) (0 + (RM 2 1 6).slots) 7 [(3, vI i), (0, .ref 0), (1, vI g), (2, vI p)] [] m := by
    refine wl1 _ (fun i => (10 - i).toNat) _ ?_
    intro i hi ih
    refine ga_iload_n ok 3 rfl rfl dX3_strongest_7 ?_
    refine ga_bipush ok dX3_strongest_8 (by decide) ?_
    refine ga_icmp_ge ok 38 (by decide) (by omega) (by omega) dX3_strongest_10 (fun c_10 => ?_) (fun c_10 => ?_)
    · exact ga_throwN ok ns_0 ns_1 ns_2 ns_5 en htab lt_NoSuchElementException (text := "there is no such place") (by decide +kernel) ⟨by decide, by decide, by decide, by decide⟩ (Nat.le_of_ble_eq_true rfl) dX3_strongest_38 dX3_strongest_41 dX3_strongest_42 dX3_strongest_44 dX3_strongest_47 ⟨Or.inr (⟨rfl, qg, ffd_no (f := fun b => ahd (gcn (rg r g.toNat)) b 10) (fun v hv9 => hi.2.2 v (by omega))⟩), rfl⟩
    · refine ga_aload_n ok 0 rfl rfl dX3_strongest_13 ?_
      refine gf_X3_12 ok hG rfl dX3_strongest_14 ?_
      refine gf_X3_93 ok hG (by omega) dX3_strongest_17 ?_
      refine ga_iload_n ok 1 rfl rfl dX3_strongest_20 ?_
      refine ga_aaload_qa ok (ar_ga hG (by omega)) (by omega) dX3_strongest_21 ?_
      refine ga_iload_n ok 3 rfl rfl dX3_strongest_22 ?_
      refine gd_X1_1 ok hG (by omega) lk_X3_205 rfl (c2_X1_strongerThan ok.fl hG (by omega) (x := i) (by omega) (hgs g.toNat (by omega)) (hgb g.toNat (by omega))) (by rw [hR]; exact ⟨by decide, by decide, by decide, by decide⟩) (Nat.le_of_ble_eq_true rfl) dX3_strongest_23 ?_
      refine ga_iload_n ok 2 rfl rfl dX3_strongest_26 ?_
      refine ga_icmp_ne ok 32 (by decide) (by have := ahd_bd (c := gcn (rg r g.toNat)) (b := i.toNat) 10; omega) (by omega) dX3_strongest_27 (fun c_27 => ?_) (fun c_27 => ?_)
      · refine ga_iinc ok rfl hn3 dX3_strongest_32 ?_
        refine ga_goto ok 7 (by decide) dX3_strongest_35 ?_
        exact WA.re (by exact ⟨rfl, rfl, rfl, rfl, trivial⟩) (ih (i + 1) ⟨by omega, by omega, fun v hv9 => by
          by_cases e : v = i.toNat
          · subst e; exact c_27
          · exact hi.2.2 v (by omega)⟩ (by omega))
      · refine ga_iload_n ok 3 rfl rfl dX3_strongest_30 ?_
        exact ga_ireturn ok en rfl rfl (by decide) (by decide) dX3_strongest_31 ⟨qg, by rw [ffd_yes (f := fun b => ahd (gcn (rg r g.toNat)) b 10) (v := i.toNat) c_27 (fun u hu => hi.2.2 u (by omega)) 10 (by omega)]; omega, by rw [ffd_yes (f := fun b => ahd (gcn (rg r g.toNat)) b 10) (v := i.toNat) c_27 (fun u hu => hi.2.2 u (by omega)) 10 (by omega)]; exact congrArg (fun z => some (vI z)) (by omega), rfl⟩
  exact WA.re (by exact ⟨rfl, rfl, rfl, rfl, trivial⟩) (loop 0 ⟨by omega, by omega, fun b hb => by omega⟩)
set_option maxHeartbeats 4000000 in
set_option maxRecDepth 100000 in
theorem c_X3_ranked {G : GG} {l : Launch} (hfl : l.stackTraces = false) (hG : MW G) {m : Mm} {r : Nat → Int} {T : Int} (hI : gtIs m 64 r) (hT : gtOk T r) (hTT : T ≤ 1000000000) {p : Int} (hpR : -2147483648 ≤ p ∧ p ≤ 2147483647) : CT G l yX3_ranked cX3_ranked 3 (some .int) (RM 8 1 6) [.ref 0, vI p] m (fun r' m' => ffd (fun g => aheadOf r g) p (r 0).toNat ≠ -1 ∧ r' = some (vI (ffd (fun g => aheadOf r g) p (r 0).toNat)) ∧ m' = m) (fun X m' => ((X = "java/util/NoSuchElementException" ∧ ffd (fun g => aheadOf r g) p (r 0).toNat = -1)) ∧ m' = m) := by
  refine CT.of RX3 [(0, .ref 0), (1, vI p)] hfl (by decide +kernel) rfl rfl (Nat.le_of_ble_eq_true rfl) ?_
  intro E ok en hml hEl htab
  have hR : e_R E = RM 8 1 6 := en.2.2.2
  have hn0 : 0 < (e_c E).maxLocals := by rw [hml]; decide
  have hn1 : 1 < (e_c E).maxLocals := by rw [hml]; decide
  have hn2 : 2 < (e_c E).maxLocals := by rw [hml]; decide
  obtain ⟨e1, e4, hv, hgs⟩ := id hI
  obtain ⟨b0, b1, hvb, hgb⟩ := id hT
  refine ga_iconst ok dX3_ranked_0 ?_
  refine ga_istore_n ok 2 rfl hn2 dX3_ranked_1 ?_
  have loop : ∀ (i : Int), (0 ≤ i ∧ i ≤ r 0 ∧ ∀ b : Nat, (b : Int) < i → aheadOf r b ≠ p) → WA G E 0 0 2 [(2, vI i), (0, .ref 0), (1, vI p)] [] m := by
    refine wl1 _ (fun i => (r 0 - i).toNat) _ ?_
    intro i hi ih
    refine ga_iload_n ok 2 rfl rfl dX3_ranked_2 ?_
    refine ga_aload_n ok 0 rfl rfl dX3_ranked_3 ?_
    refine gf_X3_12 ok hG rfl dX3_ranked_4 ?_
    refine gf_X3_256 ok hG (by omega) dX3_ranked_7 ?_
    try rw [e1]
    refine ga_icmp_ge ok 33 (by decide) (by omega) (by omega) dX3_ranked_10 (fun c_10 => ?_) (fun c_10 => ?_)
    · exact ga_throwN ok ns_0 ns_1 ns_2 ns_5 en htab lt_NoSuchElementException (text := "there is no such place") (by decide +kernel) ⟨by decide, by decide, by decide, by decide⟩ (Nat.le_of_ble_eq_true rfl) dX3_ranked_33 dX3_ranked_36 dX3_ranked_37 dX3_ranked_39 dX3_ranked_42 ⟨⟨rfl, ffd_no (f := fun g => aheadOf r g) (fun v hv9 => hi.2.2 v (by omega))⟩, rfl⟩
    · refine ga_aload_n ok 0 rfl rfl dX3_ranked_13 ?_
      refine gf_X3_12 ok hG rfl dX3_ranked_14 ?_
      refine ga_iload_n ok 2 rfl rfl dX3_ranked_17 ?_
      refine gd_X0_1 ok hG (by omega) lk_X3_259 rfl (c_X0_guardsAheadOf ok.fl hG (by omega) hI hT hTT (g := i) (by omega)) (by rw [hR]; exact ⟨by decide, by decide, by decide, by decide⟩) (Nat.le_of_ble_eq_true rfl) dX3_ranked_18 ?_
      refine ga_iload_n ok 1 rfl rfl dX3_ranked_21 ?_
      refine ga_icmp_ne ok 27 (by decide) (by have := zs_bd1 (f := fun o => ahB r o i.toNat) (r 0).toNat; unfold aheadOf; omega) (by omega) dX3_ranked_22 (fun c_22 => ?_) (fun c_22 => ?_)
      · refine ga_iinc ok rfl hn2 dX3_ranked_27 ?_
        refine ga_goto ok 2 (by decide) dX3_ranked_30 ?_
        exact WA.re (by exact ⟨rfl, rfl, rfl, trivial⟩) (ih (i + 1) ⟨by omega, by omega, fun v hv9 => by
          by_cases e : v = i.toNat
          · subst e; exact c_22
          · exact hi.2.2 v (by omega)⟩ (by omega))
      · refine ga_iload_n ok 2 rfl rfl dX3_ranked_25 ?_
        exact ga_ireturn ok en rfl rfl (by decide) (by decide) dX3_ranked_26 ⟨by rw [ffd_yes (f := fun g => aheadOf r g) (v := i.toNat) c_22 (fun u hu => hi.2.2 u (by omega)) _ (by omega)]; omega, by rw [ffd_yes (f := fun g => aheadOf r g) (v := i.toNat) c_22 (fun u hu => hi.2.2 u (by omega)) _ (by omega)]; exact congrArg (fun z => some (vI z)) (by omega), rfl⟩
  exact WA.re (by exact ⟨rfl, rfl, rfl, trivial⟩) (loop 0 ⟨by omega, by omega, fun b hb => by omega⟩)
set_option maxHeartbeats 4000000 in
set_option maxRecDepth 100000 in
theorem c_X3_closest {G : GG} {l : Launch} (hfl : l.stackTraces = false) (hG : MW G) {m : Mm} {r : Nat → Int} {T : Int} (hI : gtIs m 64 r) (hT : gtOk T r) {g : Int} (hgR : -2147483648 ≤ g ∧ g ≤ 2147483647) : CT G l yX3_closest cX3_closest 4 (some .int) (RM 8 2 12) [.ref 0, vI g] m (fun r' m' => (0 ≤ g ∧ g < r 0) ∧ r 1 ≠ 0 ∧ r' = some (vI (clo r g.toNat (r 1).toNat : Nat)) ∧ m' = m) (fun X m' => ((X = "java/lang/IndexOutOfBoundsException" ∧ ¬(0 ≤ g ∧ g < r 0)) ∨ (X = "java/util/NoSuchElementException" ∧ (0 ≤ g ∧ g < r 0) ∧ r 1 = 0)) ∧ m' = m) := by
  refine CT.of RX3 [(0, .ref 0), (1, vI g)] hfl (by decide +kernel) rfl rfl (Nat.le_of_ble_eq_true rfl) ?_
  intro E ok en hml hEl htab
  have hR : e_R E = RM 8 2 12 := en.2.2.2
  have hn0 : 0 < (e_c E).maxLocals := by rw [hml]; decide
  have hn1 : 1 < (e_c E).maxLocals := by rw [hml]; decide
  have hn2 : 2 < (e_c E).maxLocals := by rw [hml]; decide
  have hn3 : 3 < (e_c E).maxLocals := by rw [hml]; decide
  obtain ⟨e1, e4, hv, hgs⟩ := id hI
  obtain ⟨b0, b1, hvb, hgb⟩ := id hT
  refine ga_aload_n ok 0 rfl rfl dX3_closest_0 ?_
  refine ga_iload_n ok 1 rfl rfl dX3_closest_1 ?_
  refine gc_X3_1 ok hG rfl lk_X3_90 rfl (c_X3_requireGuard ok.fl hG hI hT hgR) (by rw [hR]; exact ⟨by decide, by decide, by decide, by decide⟩) (Nat.le_of_ble_eq_true rfl) dX3_closest_2 (fun r9 m9 hq => ?_) (fun X9 m9 hq => by obtain ⟨rfl, qg, rfl⟩ := hq; exact ga_out en htab (by decide) (by decide) (⟨Or.inl ⟨rfl, qg⟩, rfl⟩))
  obtain ⟨rfl, qg, hm9⟩ := hq
  subst m9
  simp only [Option.toList_none, List.nil_append]
  refine ga_aload_n ok 0 rfl rfl dX3_closest_5 ?_
  refine gf_X3_12 ok hG rfl dX3_closest_6 ?_
  refine gf_X3_213 ok hG (by omega) dX3_closest_9 ?_
  try rw [e4]
  refine ga_if_ne ok 25 (by decide) (by omega) dX3_closest_12 (fun c_12 => ?_) (fun c_12 => ?_)
  · refine ga_iconst ok dX3_closest_25 ?_
    refine ga_istore_n ok 2 rfl hn2 dX3_closest_26 ?_
    refine ga_iconst ok dX3_closest_27 ?_
    refine ga_istore_n ok 3 rfl hn3 dX3_closest_28 ?_
    have loop : ∀ (i : Int), (1 ≤ i ∧ i ≤ r 1) → WA G E (0 + (RM 2 1 6).cells) (0 + (RM 2 1 6).slots) 29 [(3, vI i), (2, vI (clo r g.toNat i.toNat : Nat)), (0, .ref 0), (1, vI g)] [] m := by
      refine wl1 _ (fun i => (r 1 - i).toNat) _ ?_
      intro i hi ih
      have hcl := clo_lt (r := r) (g := g.toNat) (i.toNat - 1)
      rw [show i.toNat - 1 + 1 = i.toNat by omega] at hcl
      refine ga_iload_n ok 3 rfl rfl dX3_closest_29 ?_
      refine ga_aload_n ok 0 rfl rfl dX3_closest_30 ?_
      refine gf_X3_12 ok hG rfl dX3_closest_31 ?_
      refine gf_X3_213 ok hG (by omega) dX3_closest_34 ?_
      try rw [e4]
      refine ga_icmp_ge ok 70 (by decide) (by omega) (by omega) dX3_closest_37 (fun c_37 => ?_) (fun c_37 => ?_)
      · refine ga_iload_n ok 2 rfl rfl dX3_closest_70 ?_
        exact ga_ireturn ok en rfl rfl (by decide) (by decide) dX3_closest_71 ⟨qg, by omega, by rw [show i = r 1 by omega], rfl⟩
      · refine ga_aload_n ok 0 rfl rfl dX3_closest_40 ?_
        refine gf_X3_12 ok hG rfl dX3_closest_41 ?_
        refine ga_iload_n ok 1 rfl rfl dX3_closest_44 ?_
        refine ga_iload_n ok 3 rfl rfl dX3_closest_45 ?_
        refine gd_X0_2 ok hG (by omega) lk_X3_218 rfl (c_X0_knowing ok.fl hG (by omega) hI hT qg (v := i) (by omega)) (by rw [hR]; exact ⟨by decide, by decide, by decide, by decide⟩) (Nat.le_of_ble_eq_true rfl) dX3_closest_46 ?_
        refine ga_aload_n ok 0 rfl rfl dX3_closest_49 ?_
        refine gf_X3_12 ok hG rfl dX3_closest_50 ?_
        refine ga_iload_n ok 1 rfl rfl dX3_closest_53 ?_
        refine ga_iload_n ok 2 rfl rfl dX3_closest_54 ?_
        refine gd_X0_2 ok hG (by omega) lk_X3_218 rfl (c_X0_knowing ok.fl hG (by omega) hI hT qg (v := (clo r g.toNat i.toNat : Nat)) ⟨by omega, by omega⟩) (by rw [hR]; exact ⟨by decide, by decide, by decide, by decide⟩) (Nat.le_of_ble_eq_true rfl) dX3_closest_55 ?_
        rw [show ((clo r g.toNat i.toNat : Nat) : Int).toNat = clo r g.toNat i.toNat from rfl]
        refine ga_fcmp ok dX3_closest_58 (fq_cmpz (kno_bd (hgb g.toNat (by omega))) (kno_bd (hgb g.toNat (by omega)))) ?_
        refine ga_if_ge ok 64 (by decide) (cmpz_rng _ _) dX3_closest_59 (fun c_59 => ?_) (fun c_59 => ?_)
        · have e9 : clo r g.toNat (i + 1).toNat = clo r g.toNat i.toNat := by rw [show (i + 1).toNat = i.toNat + 1 by omega, clo, if_neg (by have := cmpz_ge.mp c_59; omega)]
          refine ga_iinc ok rfl hn3 dX3_closest_64 ?_
          refine ga_goto ok 29 (by decide) dX3_closest_67 ?_
          exact WA.re (by exact ⟨rfl, (by rw [e9]; rfl), rfl, rfl, trivial⟩) (ih (i + 1) ⟨by omega, by omega⟩ (by omega))
        · have e9 : clo r g.toNat (i + 1).toNat = i.toNat := by rw [show (i + 1).toNat = i.toNat + 1 by omega, clo, if_pos (cmpz_lt.mp c_59)]
          refine ga_iload_n ok 3 rfl rfl dX3_closest_62 ?_
          refine ga_istore_n ok 2 rfl hn2 dX3_closest_63 ?_
          refine ga_iinc ok rfl hn3 dX3_closest_64 ?_
          refine ga_goto ok 29 (by decide) dX3_closest_67 ?_
          exact WA.re (by exact ⟨rfl, (by rw [e9]; exact congrArg (fun z => some (vI z)) (show i = ((i.toNat : Nat) : Int) by omega)), rfl, rfl, trivial⟩) (ih (i + 1) ⟨by omega, by omega⟩ (by omega))
    exact WA.re (by exact ⟨rfl, (by rw [show clo r g.toNat (Int.toNat 1) = 0 from Nat.le_zero.mp (clo_lt 0)]; rfl), rfl, rfl, trivial⟩) (loop 1 ⟨by omega, by omega⟩)
  · exact ga_throwN ok ns_0 ns_1 ns_2 ns_5 en htab lt_NoSuchElementException (text := "there are no visitors") (by decide +kernel) ⟨by decide, by decide, by decide, by decide⟩ (Nat.le_of_ble_eq_true rfl) dX3_closest_15 dX3_closest_18 dX3_closest_19 dX3_closest_21 dX3_closest_24 ⟨Or.inr (⟨rfl, qg, by first | exact c_12 | omega⟩), rfl⟩
theorem b2i_inj {a b : Bool} (h : b2i a = b2i b) : a = b := by cases a <;> cases b <;> first | rfl | (exact absurd h (by decide))
set_option maxHeartbeats 4000000 in
set_option maxRecDepth 100000 in
theorem c_X3_agree {G : GG} {l : Launch} (hfl : l.stackTraces = false) (hG : MW G) {m : Mm} {r : Nat → Int} {T : Int} (hI : gtIs m 64 r) (hT : gtOk T r) {g : Int} (hgR : -2147483648 ≤ g ∧ g ≤ 2147483647) {h : Int} (hhR : -2147483648 ≤ h ∧ h ≤ 2147483647) : CT G l yX3_agree cX3_agree 5 (some .int) (RM 8 2 12) [.ref 0, vI g, vI h] m (fun r' m' => (0 ≤ g ∧ g < r 0) ∧ (0 ≤ h ∧ h < r 0) ∧ r' = some (vI (agr r g.toNat h.toNat)) ∧ m' = m) (fun X m' => ((X = "java/lang/IndexOutOfBoundsException" ∧ ¬(0 ≤ g ∧ g < r 0)) ∨ (X = "java/lang/IndexOutOfBoundsException" ∧ (0 ≤ g ∧ g < r 0) ∧ ¬(0 ≤ h ∧ h < r 0))) ∧ m' = m) := by
  refine CT.of RX3 [(0, .ref 0), (1, vI g), (2, vI h)] hfl (by decide +kernel) rfl rfl (Nat.le_of_ble_eq_true rfl) ?_
  intro E ok en hml hEl htab
  have hR : e_R E = RM 8 2 12 := en.2.2.2
  have hn0 : 0 < (e_c E).maxLocals := by rw [hml]; decide
  have hn1 : 1 < (e_c E).maxLocals := by rw [hml]; decide
  have hn2 : 2 < (e_c E).maxLocals := by rw [hml]; decide
  have hn3 : 3 < (e_c E).maxLocals := by rw [hml]; decide
  have hn4 : 4 < (e_c E).maxLocals := by rw [hml]; decide
  obtain ⟨e1, e4, hv, hgs⟩ := id hI
  obtain ⟨b0, b1, hvb, hgb⟩ := id hT
  refine ga_aload_n ok 0 rfl rfl dX3_agree_0 ?_
  refine ga_iload_n ok 1 rfl rfl dX3_agree_1 ?_
  refine gc_X3_1 ok hG rfl lk_X3_90 rfl (c_X3_requireGuard ok.fl hG hI hT hgR) (by rw [hR]; exact ⟨by decide, by decide, by decide, by decide⟩) (Nat.le_of_ble_eq_true rfl) dX3_agree_2 (fun r9 m9 hq => ?_) (fun X9 m9 hq => by obtain ⟨rfl, qg, rfl⟩ := hq; exact ga_out en htab (by decide) (by decide) (⟨Or.inl ⟨rfl, qg⟩, rfl⟩))
  obtain ⟨rfl, qg, hm9⟩ := hq
  subst m9
  simp only [Option.toList_none, List.nil_append]
  refine ga_aload_n ok 0 rfl rfl dX3_agree_5 ?_
  refine ga_iload_n ok 2 rfl rfl dX3_agree_6 ?_
  refine gc_X3_1 ok hG rfl lk_X3_90 rfl (c_X3_requireGuard ok.fl hG hI hT hhR) (by rw [hR]; exact ⟨by decide, by decide, by decide, by decide⟩) (Nat.le_of_ble_eq_true rfl) dX3_agree_7 (fun r9 m9 hq => ?_) (fun X9 m9 hq => by obtain ⟨rfl, qh, rfl⟩ := hq; exact ga_out en htab (by decide) (by decide) (⟨Or.inr (⟨rfl, qg, qh⟩), rfl⟩))
  obtain ⟨rfl, qh, hm9⟩ := hq
  subst m9
  simp only [Option.toList_none, List.nil_append]
  refine ga_iconst ok dX3_agree_10 ?_
  refine ga_istore_n ok 3 rfl hn3 dX3_agree_11 ?_
  refine ga_iconst ok dX3_agree_12 ?_
  refine ga_istore ok hn4 dX3_agree_13 ?_
  have loop : ∀ (i : Int), 0 ≤ i ∧ i ≤ r 1 → WA G E (0 + (RM 2 1 6).cells + (RM 2 1 6).cells) (0 + (RM 2 1 6).slots + (RM 2 1 6).slots) 15 [(4, vI i), (3, vI (zs (fun v => b2i (decide (adm (gcn (rg r g.toNat)) (vX r v) = adm (gcn (rg r h.toNat)) (vX r v)))) i.toNat)), (0, .ref 0), (1, vI g), (2, vI h)] [] m := by
    refine wl1 _ (fun i => (r 1 - i).toNat) _ ?_
    intro i hi ih
    have e9 := zs_n (f := fun v => b2i (decide (adm (gcn (rg r g.toNat)) (vX r v) = adm (gcn (rg r h.toNat)) (vX r v)))) hi.1
    refine ga_iload ok rfl dX3_agree_15 ?_
    refine ga_aload_n ok 0 rfl rfl dX3_agree_17 ?_
    refine gf_X3_12 ok hG rfl dX3_agree_18 ?_
    refine gf_X3_213 ok hG (by omega) dX3_agree_21 ?_
    try rw [e4]
    refine ga_icmp_ge ok 83 (by decide) (by omega) (by omega) dX3_agree_24 (fun c_24 => ?_) (fun c_24 => ?_)
    · refine ga_iload_n ok 3 rfl rfl dX3_agree_83 ?_
      exact ga_ireturn ok en rfl rfl (by decide) (by decide) dX3_agree_84 ⟨qg, qh, by rw [show i = r 1 by omega]; rfl, rfl⟩
    · refine ga_aload_n ok 0 rfl rfl dX3_agree_27 ?_
      refine gf_X3_12 ok hG rfl dX3_agree_28 ?_
      refine gf_X3_93 ok hG (by omega) dX3_agree_31 ?_
      refine ga_iload_n ok 1 rfl rfl dX3_agree_34 ?_
      refine ga_aaload_qa ok (ar_ga hG (by omega)) (by omega) dX3_agree_35 ?_
      refine ga_aload_n ok 0 rfl rfl dX3_agree_36 ?_
      refine gf_X3_12 ok hG rfl dX3_agree_37 ?_
      refine gf_X3_135 ok hG (by omega) dX3_agree_40 ?_
      refine ga_iload ok rfl dX3_agree_43 ?_
      refine ga_iaload_ia ok (ar_se hG (by omega)) (by omega) dX3_agree_45 ?_
      have hq9 := (hvb i.toNat (by omega)).1
      rw [(hv i.toNat (by omega)).1]
      refine gd_X1_1 ok hG (by omega) lk_X3_180 rfl (c2_X1_admits ok.fl hG (by omega) (x := vX r i.toNat) (by omega) (hgs g.toNat (by omega)) (hgb g.toNat (by omega))) (by rw [hR]; exact ⟨by decide, by decide, by decide, by decide⟩) (Nat.le_of_ble_eq_true rfl) dX3_agree_46 ?_
      refine ga_aload_n ok 0 rfl rfl dX3_agree_49 ?_
      refine gf_X3_12 ok hG rfl dX3_agree_50 ?_
      refine gf_X3_93 ok hG (by omega) dX3_agree_53 ?_
      refine ga_iload_n ok 2 rfl rfl dX3_agree_56 ?_
      refine ga_aaload_qa ok (ar_ga hG (by omega)) (by omega) dX3_agree_57 ?_
      refine ga_aload_n ok 0 rfl rfl dX3_agree_58 ?_
      refine gf_X3_12 ok hG rfl dX3_agree_59 ?_
      refine gf_X3_135 ok hG (by omega) dX3_agree_62 ?_
      refine ga_iload ok rfl dX3_agree_65 ?_
      refine ga_iaload_ia ok (ar_se hG (by omega)) (by omega) dX3_agree_67 ?_
      rw [(hv i.toNat (by omega)).1]
      refine gd_X1_1 ok hG (by omega) lk_X3_180 rfl (c2_X1_admits ok.fl hG (by omega) (x := vX r i.toNat) (by omega) (hgs h.toNat (by omega)) (hgb h.toNat (by omega))) (by rw [hR]; exact ⟨by decide, by decide, by decide, by decide⟩) (Nat.le_of_ble_eq_true rfl) dX3_agree_68 ?_
      refine ga_icmp_ne ok 77 (by decide) (b2i_rng _) (b2i_rng _) dX3_agree_71 (fun c_71 => ?_) (fun c_71 => ?_)
      · have hf : (fun v => b2i (decide (adm (gcn (rg r g.toNat)) (vX r v) = adm (gcn (rg r h.toNat)) (vX r v)))) i.toNat = 0 := b2i_0.mpr (decide_eq_false (fun h9 => c_71 (congrArg b2i h9)))
        try dsimp only at hf
        rw [hf] at e9
        try rw [Int.add_zero] at e9
        refine ga_iinc ok rfl hn4 dX3_agree_77 ?_
        refine ga_goto ok 15 (by decide) dX3_agree_80 ?_
        exact WA.re (by exact ⟨rfl, (by rw [e9]; rfl), rfl, rfl, rfl, trivial⟩) (ih (i + 1) (by omega) (by omega))
      · have hf : (fun v => b2i (decide (adm (gcn (rg r g.toNat)) (vX r v) = adm (gcn (rg r h.toNat)) (vX r v)))) i.toNat = 1 := b2i_1.mpr (decide_eq_true (b2i_inj c_71))
        try dsimp only at hf
        rw [hf] at e9
        try rw [Int.add_zero] at e9
        refine ga_iinc ok rfl hn3 dX3_agree_74 ?_
        refine ga_iinc ok rfl hn4 dX3_agree_77 ?_
        refine ga_goto ok 15 (by decide) dX3_agree_80 ?_
        exact WA.re (by exact ⟨rfl, (by rw [e9]; rfl), rfl, rfl, rfl, trivial⟩) (ih (i + 1) (by omega) (by omega))
  exact WA.re (by exact ⟨rfl, rfl, rfl, rfl, rfl, trivial⟩) (loop 0 (by omega))
set_option maxHeartbeats 4000000 in
set_option maxRecDepth 100000 in
theorem c_X3_mistaken {G : GG} {l : Launch} (hfl : l.stackTraces = false) (hG : MW G) {m : Mm} {r : Nat → Int} {T : Int} (hI : gtIs m 64 r) (hT : gtOk T r) : CT G l yX3_mistaken cX3_mistaken 3 (some .int) (RM 8 0 0) [.ref 0] m (fun r' m' => r' = some (vI (mst r)) ∧ m' = m) (fun _ _ => False) := by
  refine CT.of RX3 [(0, .ref 0)] hfl (by decide +kernel) rfl rfl (Nat.le_of_ble_eq_true rfl) ?_
  intro E ok en hml hEl htab
  have hR : e_R E = RM 8 0 0 := en.2.2.2
  have hn0 : 0 < (e_c E).maxLocals := by rw [hml]; decide
  have hn1 : 1 < (e_c E).maxLocals := by rw [hml]; decide
  have hn2 : 2 < (e_c E).maxLocals := by rw [hml]; decide
  obtain ⟨e1, e4, hv, hgs⟩ := id hI
  obtain ⟨b0, b1, hvb, hgb⟩ := id hT
  refine ga_iconst ok dX3_mistaken_0 ?_
  refine ga_istore_n ok 1 rfl hn1 dX3_mistaken_1 ?_
  refine ga_iconst ok dX3_mistaken_2 ?_
  refine ga_istore_n ok 2 rfl hn2 dX3_mistaken_3 ?_
  have loop : ∀ (i : Int), 0 ≤ i ∧ i ≤ r 1 → WA G E 0 0 4 [(2, vI i), (1, vI (zs (fun v => b2i (decide (b2i (vin r (vX r v)) ≠ vF r v))) i.toNat)), (0, .ref 0)] [] m := by
    refine wl1 _ (fun i => (r 1 - i).toNat) _ ?_
    intro i hi ih
    have e9 := zs_n (f := fun v => b2i (decide (b2i (vin r (vX r v)) ≠ vF r v))) hi.1
    refine ga_iload_n ok 2 rfl rfl dX3_mistaken_4 ?_
    refine ga_aload_n ok 0 rfl rfl dX3_mistaken_5 ?_
    refine gf_X3_12 ok hG rfl dX3_mistaken_6 ?_
    refine gf_X3_213 ok hG (by omega) dX3_mistaken_9 ?_
    try rw [e4]
    refine ga_icmp_ge ok 52 (by decide) (by omega) (by omega) dX3_mistaken_12 (fun c_12 => ?_) (fun c_12 => ?_)
    · refine ga_iload_n ok 1 rfl rfl dX3_mistaken_52 ?_
      exact ga_ireturn ok en rfl rfl (by decide) (by decide) dX3_mistaken_53 ⟨by rw [show i = r 1 by omega]; rfl, rfl⟩
    · refine ga_aload_n ok 0 rfl rfl dX3_mistaken_15 ?_
      refine gf_X3_12 ok hG rfl dX3_mistaken_16 ?_
      refine ga_aload_n ok 0 rfl rfl dX3_mistaken_19 ?_
      refine gf_X3_12 ok hG rfl dX3_mistaken_20 ?_
      refine gf_X3_135 ok hG (by omega) dX3_mistaken_23 ?_
      refine ga_iload_n ok 2 rfl rfl dX3_mistaken_26 ?_
      refine ga_iaload_ia ok (ar_se hG (by omega)) (by omega) dX3_mistaken_27 ?_
      have hq9 := hvb i.toNat (by omega)
      rw [(hv i.toNat (by omega)).1]
      refine gd_X0_1 ok hG (by omega) lk_X3_253 rfl (c_X0_admitsByVote ok.fl hG (by omega) hI hT (x := vX r i.toNat) (by omega)) (by rw [hR]; exact ⟨by decide, by decide, by decide, by decide⟩) (Nat.le_of_ble_eq_true rfl) dX3_mistaken_28 ?_
      refine ga_aload_n ok 0 rfl rfl dX3_mistaken_31 ?_
      refine gf_X3_12 ok hG rfl dX3_mistaken_32 ?_
      refine gf_X3_139 ok hG (by omega) dX3_mistaken_35 ?_
      refine ga_iload_n ok 2 rfl rfl dX3_mistaken_38 ?_
      refine ga_baload_za ok (ar_fr hG (by omega)) (by omega) dX3_mistaken_39 ?_
      rw [(hv i.toNat (by omega)).2]
      refine ga_icmp_eq ok 46 (by decide) (b2i_rng _) (by omega) dX3_mistaken_40 (fun c_40 => ?_) (fun c_40 => ?_)
      · have hf : (fun v => b2i (decide (b2i (vin r (vX r v)) ≠ vF r v))) i.toNat = 0 := b2i_0.mpr (decide_eq_false (fun h9 => h9 c_40))
        try dsimp only at hf
        rw [hf] at e9
        try rw [Int.add_zero] at e9
        refine ga_iinc ok rfl hn2 dX3_mistaken_46 ?_
        refine ga_goto ok 4 (by decide) dX3_mistaken_49 ?_
        exact WA.re (by exact ⟨rfl, (by rw [e9]; rfl), rfl, trivial⟩) (ih (i + 1) (by omega) (by omega))
      · have hf : (fun v => b2i (decide (b2i (vin r (vX r v)) ≠ vF r v))) i.toNat = 1 := b2i_1.mpr (decide_eq_true c_40)
        try dsimp only at hf
        rw [hf] at e9
        try rw [Int.add_zero] at e9
        refine ga_iinc ok rfl hn1 dX3_mistaken_43 ?_
        refine ga_iinc ok rfl hn2 dX3_mistaken_46 ?_
        refine ga_goto ok 4 (by decide) dX3_mistaken_49 ?_
        exact WA.re (by exact ⟨rfl, (by rw [e9]; rfl), rfl, trivial⟩) (ih (i + 1) (by omega) (by omega))
  exact WA.re (by exact ⟨rfl, rfl, rfl, trivial⟩) (loop 0 (by omega))
set_option maxHeartbeats 4000000 in
set_option maxRecDepth 100000 in
theorem c_X3_isWell {G : GG} {l : Launch} (hfl : l.stackTraces = false) (hG : MW G) {m : Mm} {r : Nat → Int} {T : Int} (hI : gtIs m 64 r) (hT : gtOk T r) : CT G l yX3_isWell cX3_isWell 2 (some .boolean) (RM 8 0 0) [.ref 0] m (fun r' m' => r' = some (vI 1) ∧ m' = m) (fun _ _ => False) := by
  refine CT.of RX3 [(0, .ref 0)] hfl (by decide +kernel) rfl rfl (Nat.le_of_ble_eq_true rfl) ?_
  intro E ok en hml hEl htab
  have hR : e_R E = RM 8 0 0 := en.2.2.2
  have hn0 : 0 < (e_c E).maxLocals := by rw [hml]; decide
  have hn1 : 1 < (e_c E).maxLocals := by rw [hml]; decide
  obtain ⟨e1, e4, hv, hgs⟩ := id hI
  obtain ⟨b0, b1, hvb, hgb⟩ := id hT
  refine ga_aload_n ok 0 rfl rfl dX3_isWell_0 ?_
  refine gf_X3_12 ok hG rfl dX3_isWell_1 ?_
  refine ga_iconst ok dX3_isWell_4 ?_
  refine gd_X0_1 ok hG (by omega) lk_X3_328 rfl (c_X0_countOf ok.fl hG (by omega) hI hT (Or.inr rfl)) (by rw [hR]; exact ⟨by decide, by decide, by decide, by decide⟩) (Nat.le_of_ble_eq_true rfl) dX3_isWell_5 ?_
  refine ga_aload_n ok 0 rfl rfl dX3_isWell_8 ?_
  refine gf_X3_12 ok hG rfl dX3_isWell_9 ?_
  refine ga_iconst ok dX3_isWell_12 ?_
  refine gd_X0_1 ok hG (by omega) lk_X3_328 rfl (c_X0_countOf ok.fl hG (by omega) hI hT (Or.inl rfl)) (by rw [hR]; exact ⟨by decide, by decide, by decide, by decide⟩) (Nat.le_of_ble_eq_true rfl) dX3_isWell_13 ?_
  refine ga_iadd ok dX3_isWell_16 ?_
  refine ga_aload_n ok 0 rfl rfl dX3_isWell_17 ?_
  refine gf_X3_12 ok hG rfl dX3_isWell_18 ?_
  refine gf_X3_213 ok hG (by omega) dX3_isWell_21 ?_
  try rw [e4]
  have hc9 := cof_all (r := r) (r 1).toNat (fun v hv9 => (hvb v (by omega)).2)
  have hc8 : cof r 1 + cof r 0 = r 1 := by unfold cof; omega
  refine ga_icmp_eq ok 29 (by decide) (by omega) (by omega) dX3_isWell_24 (fun c_24 => ?_) (fun c_24 => ?_)
  · refine ga_iconst ok dX3_isWell_29 ?_
    refine ga_istore_n ok 1 rfl hn1 dX3_isWell_30 ?_
    have loop : ∀ (i : Int), 0 ≤ i ∧ i ≤ r 0 → WA G E 0 0 31 [(1, vI i), (0, .ref 0)] [] m := by
      refine wl1 _ (fun i => (r 0 - i).toNat) _ ?_
      intro i hi ih
      refine ga_iload_n ok 1 rfl rfl dX3_isWell_31 ?_
      refine ga_aload_n ok 0 rfl rfl dX3_isWell_32 ?_
      refine gf_X3_12 ok hG rfl dX3_isWell_33 ?_
      refine gf_X3_256 ok hG (by omega) dX3_isWell_36 ?_
      try rw [e1]
      refine ga_icmp_ge ok 76 (by decide) (by omega) (by omega) dX3_isWell_39 (fun c_39 => ?_) (fun c_39 => ?_)
      · refine ga_iconst ok dX3_isWell_76 ?_
        exact ga_ireturn ok en rfl (by decide) (by decide) (by decide) dX3_isWell_77 ⟨rfl, rfl⟩
      · refine ga_aload_n ok 0 rfl rfl dX3_isWell_42 ?_
        refine gf_X3_12 ok hG rfl dX3_isWell_43 ?_
        refine gf_X3_93 ok hG (by omega) dX3_isWell_46 ?_
        refine ga_iload_n ok 1 rfl rfl dX3_isWell_49 ?_
        refine ga_aaload_qa ok (ar_ga hG (by omega)) (by omega) dX3_isWell_50 ?_
        refine gd_X1_0 ok hG (by omega) lk_X3_343 rfl (c_X1_isAsCounted ok.fl hG (by omega) (hgs i.toNat (by omega)).w ((hgs i.toNat (by omega)).c (hgb i.toNat (by omega)))) (by rw [hR]; exact ⟨by decide, by decide, by decide, by decide⟩) (Nat.le_of_ble_eq_true rfl) dX3_isWell_51 ?_
        refine ga_if_eq ok 68 (by decide) (by omega) dX3_isWell_54 (fun c_54 => ?_) (fun c_54 => ?_)
        · exact absurd c_54 (by decide)
        · refine ga_aload_n ok 0 rfl rfl dX3_isWell_57 ?_
          refine gf_X3_12 ok hG rfl dX3_isWell_58 ?_
          refine ga_iload_n ok 1 rfl rfl dX3_isWell_61 ?_
          refine gd_X0_1 ok hG (by omega) lk_X3_346 rfl (c_X0_marginsMatch ok.fl hG (by omega) hI hT (g := i) (by omega)) (by rw [hR]; exact ⟨by decide, by decide, by decide, by decide⟩) (Nat.le_of_ble_eq_true rfl) dX3_isWell_62 ?_
          refine ga_if_ne ok 70 (by decide) (by omega) dX3_isWell_65 (fun c_65 => ?_) (fun c_65 => ?_)
          · refine ga_iinc ok rfl hn1 dX3_isWell_70 ?_
            refine ga_goto ok 31 (by decide) dX3_isWell_73 ?_
            exact WA.re (by exact ⟨rfl, rfl, trivial⟩) (ih (i + 1) (by omega) (by omega))
          · exact absurd c_65 (by decide)
    exact WA.re (by exact ⟨rfl, rfl, trivial⟩) (loop 0 (by omega))
  · exact absurd hc8 c_24
