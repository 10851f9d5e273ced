/-! THE MODEL: READING -/
/-- the model's row is r -/
def SR (m : Mm) (r : Nat → Int) : Prop := ∀ k, k < 134 → m.1 1088 k = r k
theorem SR.u {m : Mm} {r : Nat → Int} {a i : Nat} {v : Int} (h : SR m r) (ha : a ≠ 1088) : SR (upI m a i v) r := fun k hk => by rw [upI_r (fun e => ha e.symm)]; exact h k hk
theorem SR.v {m : Mm} {r : Nat → Int} (h : SR m r) {v : Nat} (hv : v < 12) : m.1 1088 (2 + 2 * v) = vX r v ∧ m.1 1088 (3 + 2 * v) = vF r v := ⟨h _ (by omega), h _ (by omega)⟩
theorem SR.g {m : Mm} {r : Nat → Int} (h : SR m r) {g k : Nat} (hg : g < 4) (hk : k < 27) : m.1 1088 (26 + 27 * g + k) = rg r g k := h _ (by omega)
def thM (m : Mm) (k : Int) : Mm := upI m 1024 6 k
theorem SR.t {m : Mm} {r : Nat → Int} {k : Int} (h : SR m r) : SR (thM m k) r := h.u (by omega)
theorem thM_at {m : Mm} {k : Int} : (thM m k).1 1024 6 = k := upI_at
theorem thM_thM {m : Mm} {a b : Int} : thM (thM m a) b = thM m b := by
  unfold thM upI
  refine Prod.ext ?_ rfl
  funext x j
  simp only [up2]
  split <;> rfl
def hsb (x b : Int) : Bool := decide (b < 0 ∨ x / 2 ^ b.toNat % 2 ^ 1 = 1)
def isS (x : Int) : Bool := decide (1 ≤ x ∧ x ≤ 1023)
def isG (r : Nat → Int) (g : Int) : Bool := decide (0 ≤ g ∧ g < r 0)
def isV (r : Nat → Int) (v : Int) : Bool := decide (0 ≤ v ∧ v < r 1)
def szO (x : Int) : Nat → Int := zs (fun b => b2i (decide (x / 2 ^ b % 2 ^ 1 = 1)))
/-- which exception: 1 without the guard, 2 without the rest -/
def ask (r : Nat → Int) (g : Int) (b : Bool) : Int := if isG r g = true then (if b = true then 0 else 2) else 1
theorem ask_0 {r : Nat → Int} {g : Int} {b : Bool} : ask r g b = 0 ↔ isG r g = true ∧ b = true := by
  unfold ask
  split
  · split
    · exact ⟨fun _ => ⟨by assumption, by assumption⟩, fun _ => rfl⟩
    · exact ⟨fun h => absurd h (by omega), fun h => by rename_i e; exact absurd h.2 e⟩
  · exact ⟨fun h => absurd h (by omega), fun h => by rename_i e; exact absurd h.1 e⟩
set_option maxHeartbeats 4000000 in
set_option maxRecDepth 100000 in
theorem c_X4_in {G : GG} {l : Launch} (hfl : l.stackTraces = false) (hG : MW G) {m : Mm} {x : Int} (hxR : -2147483648 ≤ x ∧ x ≤ 2147483647) {a : Int} (haR : -2147483648 ≤ a ∧ a ≤ 2147483647) {b : Int} (hbR : -2147483648 ≤ b ∧ b ≤ 2147483647) : CT G l yX4_in cX4_in 3 (some .boolean) (RM 0 0 0) [vI x, vI a, vI b] m (fun r' m' => r' = some (vI (b2i (decide (a ≤ x ∧ x ≤ b)))) ∧ m' = m) (fun _ _ => False) := by
  refine CT.of RX4 [(0, vI x), (1, vI a), (2, vI b)] hfl (by decide +kernel) rfl rfl (Nat.le_of_ble_eq_true rfl) ?_
  intro E ok en hml hEl htab
  have hR : e_R E = RM 0 0 0 := en.2.2.2
  have hn0 : 0 < (e_c E).maxLocals := by rw [hml]; decide
  have hn1 : 1 < (e_c E).maxLocals := by rw [hml]; decide
  have hn2 : 2 < (e_c E).maxLocals := by rw [hml]; decide
  refine ga_iload_n ok 0 rfl rfl dX4_in_0 ?_
  refine ga_iload_n ok 1 rfl rfl dX4_in_1 ?_
  refine ga_icmp_lt ok 14 (by decide) (by omega) (by omega) dX4_in_2 (fun c_2 => ?_) (fun c_2 => ?_)
  · refine ga_iconst ok dX4_in_14 ?_
    exact ga_ireturn ok en rfl (by decide) (by decide) (by decide) dX4_in_15 ⟨by (first | rw [decide_eq_true (by omega)] | rw [decide_eq_false (by omega)]); rfl, rfl⟩
  · refine ga_iload_n ok 0 rfl rfl dX4_in_5 ?_
    refine ga_iload_n ok 2 rfl rfl dX4_in_6 ?_
    refine ga_icmp_gt ok 14 (by decide) (by omega) (by omega) dX4_in_7 (fun c_7 => ?_) (fun c_7 => ?_)
    · refine ga_iconst ok dX4_in_14 ?_
      exact ga_ireturn ok en rfl (by decide) (by decide) (by decide) dX4_in_15 ⟨by (first | rw [decide_eq_true (by omega)] | rw [decide_eq_false (by omega)]); rfl, rfl⟩
    · refine ga_iconst ok dX4_in_10 ?_
      refine ga_goto ok 15 (by decide) dX4_in_11 ?_
      exact ga_ireturn ok en rfl (by decide) (by decide) (by decide) dX4_in_15 ⟨by (first | rw [decide_eq_true (by omega)] | rw [decide_eq_false (by omega)]); rfl, rfl⟩
set_option maxHeartbeats 4000000 in
set_option maxRecDepth 100000 in
theorem c_X4_isGuard {G : GG} {l : Launch} (hfl : l.stackTraces = false) (hG : MW G) {m : Mm} {r : Nat → Int} {T : Int} (hs : SR m r) (hT : gtOk T r) {g : Int} (hgR : -2147483648 ≤ g ∧ g ≤ 2147483647) : CT G l yX4_isGuard cX4_isGuard 2 (some .boolean) (RM 1 0 0) [.ref 1024, vI g] m (fun r' m' => r' = some (vI (b2i (isG r g))) ∧ m' = m) (fun _ _ => False) := by
  refine CT.of RX4 [(0, .ref 1024), (1, vI g)] hfl (by decide +kernel) rfl rfl (Nat.le_of_ble_eq_true rfl) ?_
  intro E ok en hml hEl htab
  have hR : e_R E = RM 1 0 0 := en.2.2.2
  have hn0 : 0 < (e_c E).maxLocals := by rw [hml]; decide
  have hn1 : 1 < (e_c E).maxLocals := by rw [hml]; decide
  obtain ⟨b0, b1, hvb, hgb⟩ := id hT
  have s0 := hs 0 (by omega)
  have s1 := hs 1 (by omega)
  refine ga_iload_n ok 1 rfl rfl dX4_isGuard_0 ?_
  refine ga_iconst ok dX4_isGuard_1 ?_
  refine ga_aload_n ok 0 rfl rfl dX4_isGuard_2 ?_
  refine gf_X4_9 ok hG rfl dX4_isGuard_3 ?_
  refine ga_iconst ok dX4_isGuard_6 ?_
  refine ga_iaload_ia ok (ar_ms hG rfl) (by omega) dX4_isGuard_7 ?_
  rw [show (m.1 1088 (0 : Int).toNat) = r 0 from s0]
  refine ga_iconst ok dX4_isGuard_8 ?_
  refine ga_isub ok dX4_isGuard_9 ?_
  refine gd_S_3 ok lk_X4_61 (c_X4_in ok.fl hG (a := 0) (b := r 0 - 1) hgR (by omega) (by omega)) (by rw [hR]; exact ⟨by decide, by decide, by decide, by decide⟩) (Nat.le_of_ble_eq_true rfl) dX4_isGuard_10 ?_
  exact ga_ireturn ok en rfl (nar01 (b2i_or _)) (by decide) (by decide) dX4_isGuard_13 ⟨by unfold isG; rw [show decide (0 ≤ g ∧ g ≤ r 0 - 1) = decide (0 ≤ g ∧ g < r 0) from decide_eq_decide.mpr (by omega)], rfl⟩
set_option maxHeartbeats 4000000 in
set_option maxRecDepth 100000 in
theorem c_X4_isVisitor {G : GG} {l : Launch} (hfl : l.stackTraces = false) (hG : MW G) {m : Mm} {r : Nat → Int} {T : Int} (hs : SR m r) (hT : gtOk T r) {v : Int} (hvR : -2147483648 ≤ v ∧ v ≤ 2147483647) : CT G l yX4_isVisitor cX4_isVisitor 2 (some .boolean) (RM 1 0 0) [.ref 1024, vI v] m (fun r' m' => r' = some (vI (b2i (isV r v))) ∧ m' = m) (fun _ _ => False) := by
  refine CT.of RX4 [(0, .ref 1024), (1, vI v)] hfl (by decide +kernel) rfl rfl (Nat.le_of_ble_eq_true rfl) ?_
  intro E ok en hml hEl htab
  have hR : e_R E = RM 1 0 0 := en.2.2.2
  have hn0 : 0 < (e_c E).maxLocals := by rw [hml]; decide
  have hn1 : 1 < (e_c E).maxLocals := by rw [hml]; decide
  obtain ⟨b0, b1, hvb, hgb⟩ := id hT
  have s0 := hs 0 (by omega)
  have s1 := hs 1 (by omega)
  refine ga_iload_n ok 1 rfl rfl dX4_isVisitor_0 ?_
  refine ga_iconst ok dX4_isVisitor_1 ?_
  refine ga_aload_n ok 0 rfl rfl dX4_isVisitor_2 ?_
  refine gf_X4_9 ok hG rfl dX4_isVisitor_3 ?_
  refine ga_iconst ok dX4_isVisitor_6 ?_
  refine ga_iaload_ia ok (ar_ms hG rfl) (by omega) dX4_isVisitor_7 ?_
  rw [show (m.1 1088 (1 : Int).toNat) = r 1 from s1]
  refine ga_iconst ok dX4_isVisitor_8 ?_
  refine ga_isub ok dX4_isVisitor_9 ?_
  refine gd_S_3 ok lk_X4_61 (c_X4_in ok.fl hG (a := 0) (b := r 1 - 1) hvR (by omega) (by omega)) (by rw [hR]; exact ⟨by decide, by decide, by decide, by decide⟩) (Nat.le_of_ble_eq_true rfl) dX4_isVisitor_10 ?_
  exact ga_ireturn ok en rfl (nar01 (b2i_or _)) (by decide) (by decide) dX4_isVisitor_13 ⟨by unfold isV; rw [show decide (0 ≤ v ∧ v ≤ r 1 - 1) = decide (0 ≤ v ∧ v < r 1) from decide_eq_decide.mpr (by omega)], rfl⟩
set_option maxHeartbeats 4000000 in
set_option maxRecDepth 100000 in
theorem c_X4_isSet {G : GG} {l : Launch} (hfl : l.stackTraces = false) (hG : MW G) {m : Mm} {x : Int} (hxR : -2147483648 ≤ x ∧ x ≤ 2147483647) : CT G l yX4_isSet cX4_isSet 1 (some .boolean) (RM 1 0 0) [vI x] m (fun r' m' => r' = some (vI (b2i (isS x))) ∧ m' = m) (fun _ _ => False) := by
  refine CT.of RX4 [(0, vI x)] hfl (by decide +kernel) rfl rfl (Nat.le_of_ble_eq_true rfl) ?_
  intro E ok en hml hEl htab
  have hR : e_R E = RM 1 0 0 := en.2.2.2
  have hn0 : 0 < (e_c E).maxLocals := by rw [hml]; decide
  refine ga_iload_n ok 0 rfl rfl dX4_isSet_0 ?_
  refine ga_iconst ok dX4_isSet_1 ?_
  refine ga_sipush ok dX4_isSet_2 (by decide) ?_
  refine gd_S_3 ok lk_X4_61 (c_X4_in ok.fl hG (a := 1) (b := 1023) hxR (by omega) (by omega)) (by rw [hR]; exact ⟨by decide, by decide, by decide, by decide⟩) (Nat.le_of_ble_eq_true rfl) dX4_isSet_5 ?_
  exact ga_ireturn ok en rfl (nar01 (b2i_or _)) (by decide) (by decide) dX4_isSet_8 ⟨rfl, rfl⟩
set_option maxHeartbeats 4000000 in
set_option maxRecDepth 100000 in
theorem c_X4_at {G : GG} {l : Launch} (hfl : l.stackTraces = false) (hG : MW G) {m : Mm} {g : Int} (hgR : -2147483648 ≤ g ∧ g ≤ 2147483647) {k : Int} (hkR : -2147483648 ≤ k ∧ k ≤ 2147483647) : CT G l yX4_at cX4_at 2 (some .int) (RM 0 0 0) [vI g, vI k] m (fun r' m' => r' = some (vI (26 + 27 * g + k)) ∧ m' = m) (fun _ _ => False) := by
  refine CT.of RX4 [(0, vI g), (1, vI k)] hfl (by decide +kernel) rfl rfl (Nat.le_of_ble_eq_true rfl) ?_
  intro E ok en hml hEl htab
  have hR : e_R E = RM 0 0 0 := en.2.2.2
  have hn0 : 0 < (e_c E).maxLocals := by rw [hml]; decide
  have hn1 : 1 < (e_c E).maxLocals := by rw [hml]; decide
  refine ga_bipush ok dX4_at_0 (by decide) ?_
  refine ga_bipush ok dX4_at_2 (by decide) ?_
  refine ga_iload_n ok 0 rfl rfl dX4_at_4 ?_
  refine ga_imul ok dX4_at_5 ?_
  refine ga_iadd ok dX4_at_6 ?_
  refine ga_iload_n ok 1 rfl rfl dX4_at_7 ?_
  refine ga_iadd ok dX4_at_8 ?_
  exact ga_ireturn ok en rfl rfl (by decide) (by decide) dX4_at_9 ⟨rfl, rfl⟩
set_option maxHeartbeats 4000000 in
set_option maxRecDepth 100000 in
theorem c_X4_badges {G : GG} {l : Launch} (hfl : l.stackTraces = false) (hG : MW G) {m : Mm} {r : Nat → Int} {T : Int} (hs : SR m r) (hT : gtOk T r) {v : Int} (qv : 0 ≤ v ∧ v < r 1) : CT G l yX4_badges cX4_badges 2 (some .int) (RM 0 0 0) [.ref 1024, vI v] m (fun r' m' => r' = some (vI (vX r v.toNat)) ∧ m' = m) (fun _ _ => False) := by
  refine CT.of RX4 [(0, .ref 1024), (1, vI v)] hfl (by decide +kernel) rfl rfl (Nat.le_of_ble_eq_true rfl) ?_
  intro E ok en hml hEl htab
  have hR : e_R E = RM 0 0 0 := en.2.2.2
  have hn0 : 0 < (e_c E).maxLocals := by rw [hml]; decide
  have hn1 : 1 < (e_c E).maxLocals := by rw [hml]; decide
  obtain ⟨b0, b1, hvb, hgb⟩ := id hT
  have s0 := hs 0 (by omega)
  have s1 := hs 1 (by omega)
  refine ga_aload_n ok 0 rfl rfl dX4_badges_0 ?_
  refine gf_X4_9 ok hG rfl dX4_badges_1 ?_
  refine ga_iconst ok dX4_badges_4 ?_
  refine ga_iconst ok dX4_badges_5 ?_
  refine ga_iload_n ok 1 rfl rfl dX4_badges_6 ?_
  refine ga_imul ok dX4_badges_7 ?_
  refine ga_iadd ok dX4_badges_8 ?_
  refine ga_iaload_ia ok (ar_ms hG rfl) (by omega) dX4_badges_9 ?_
  rw [show (2 + 2 * v).toNat = 2 + 2 * v.toNat by omega, (hs.v (v := v.toNat) (by omega)).1]
  exact ga_ireturn ok en rfl rfl (by decide) (by decide) dX4_badges_10 ⟨rfl, rfl⟩
set_option maxHeartbeats 4000000 in
set_option maxRecDepth 100000 in
theorem c_X4_isFriend {G : GG} {l : Launch} (hfl : l.stackTraces = false) (hG : MW G) {m : Mm} {r : Nat → Int} {T : Int} (hs : SR m r) (hT : gtOk T r) {v : Int} (qv : 0 ≤ v ∧ v < r 1) : CT G l yX4_isFriend cX4_isFriend 2 (some .boolean) (RM 0 0 0) [.ref 1024, vI v] m (fun r' m' => r' = some (vI (b2i (decide (vF r v.toNat = 1)))) ∧ m' = m) (fun _ _ => False) := by
  refine CT.of RX4 [(0, .ref 1024), (1, vI v)] hfl (by decide +kernel) rfl rfl (Nat.le_of_ble_eq_true rfl) ?_
  intro E ok en hml hEl htab
  have hR : e_R E = RM 0 0 0 := en.2.2.2
  have hn0 : 0 < (e_c E).maxLocals := by rw [hml]; decide
  have hn1 : 1 < (e_c E).maxLocals := by rw [hml]; decide
  obtain ⟨b0, b1, hvb, hgb⟩ := id hT
  have s0 := hs 0 (by omega)
  have s1 := hs 1 (by omega)
  refine ga_aload_n ok 0 rfl rfl dX4_isFriend_0 ?_
  refine gf_X4_9 ok hG rfl dX4_isFriend_1 ?_
  refine ga_iconst ok dX4_isFriend_4 ?_
  refine ga_iconst ok dX4_isFriend_5 ?_
  refine ga_iload_n ok 1 rfl rfl dX4_isFriend_6 ?_
  refine ga_imul ok dX4_isFriend_7 ?_
  refine ga_iadd ok dX4_isFriend_8 ?_
  refine ga_iconst ok dX4_isFriend_9 ?_
  refine ga_iadd ok dX4_isFriend_10 ?_
  refine ga_iaload_ia ok (ar_ms hG rfl) (by omega) dX4_isFriend_11 ?_
  rw [show (2 + 2 * v + 1).toNat = 3 + 2 * v.toNat by omega, (hs.v (v := v.toNat) (by omega)).2]
  have hq9 := (hvb v.toNat (by omega)).2
  refine ga_iconst ok dX4_isFriend_12 ?_
  refine ga_icmp_ne ok 20 (by decide) (by omega) (by omega) dX4_isFriend_13 (fun c_13 => ?_) (fun c_13 => ?_)
  · refine ga_iconst ok dX4_isFriend_20 ?_
    exact ga_ireturn ok en rfl (by decide) (by decide) (by decide) dX4_isFriend_21 ⟨by (first | rw [decide_eq_true (by omega)] | rw [decide_eq_false (by omega)]); rfl, rfl⟩
  · refine ga_iconst ok dX4_isFriend_16 ?_
    refine ga_goto ok 21 (by decide) dX4_isFriend_17 ?_
    exact ga_ireturn ok en rfl (by decide) (by decide) (by decide) dX4_isFriend_21 ⟨by (first | rw [decide_eq_true (by omega)] | rw [decide_eq_false (by omega)]); rfl, rfl⟩
set_option maxHeartbeats 4000000 in
set_option maxRecDepth 100000 in
theorem c_X4_has {G : GG} {l : Launch} (hfl : l.stackTraces = false) (hG : MW G) {m : Mm} {x b : Int} (hx : 0 ≤ x ∧ x ≤ 1023) (hb : -1 ≤ b ∧ b < 10) : CT G l yX4_has cX4_has 2 (some .boolean) (RM 0 0 0) [vI x, vI b] m (fun r' m' => r' = some (vI (b2i (hsb x b))) ∧ m' = m) (fun _ _ => False) := by
  refine CT.of RX4 [(0, vI x), (1, vI b)] hfl (by decide +kernel) rfl rfl (Nat.le_of_ble_eq_true rfl) ?_
  intro E ok en hml hEl htab
  have hR : e_R E = RM 0 0 0 := en.2.2.2
  have hn0 : 0 < (e_c E).maxLocals := by rw [hml]; decide
  have hn1 : 1 < (e_c E).maxLocals := by rw [hml]; decide
  refine ga_iload_n ok 1 rfl rfl dX4_has_0 ?_
  refine ga_if_lt ok 13 (by decide) (by omega) dX4_has_1 (fun c_1 => ?_) (fun c_1 => ?_)
  · refine ga_iconst ok dX4_has_13 ?_
    refine ga_goto ok 18 (by decide) dX4_has_14 ?_
    exact ga_ireturn ok en rfl (by decide) (by decide) (by decide) dX4_has_18 ⟨by unfold hsb; rw [decide_eq_true (Or.inl c_1)]; rfl, rfl⟩
  · refine ga_iload_n ok 0 rfl rfl dX4_has_4 ?_
    refine ga_iload_n ok 1 rfl rfl dX4_has_5 ?_
    refine ga_ishr ok dX4_has_6 (by omega) (by omega) ?_
    refine ga_iconst ok dX4_has_7 ?_
    refine ga_iand ok 1 dX4_has_8 (by decide) (by decide) ?_
    refine ga_iconst ok dX4_has_9 ?_
    refine ga_icmp_ne ok 17 (by decide) (bit_rng _ _) (by omega) dX4_has_10 (fun c_10 => ?_) (fun c_10 => ?_)
    · refine ga_iconst ok dX4_has_17 ?_
      exact ga_ireturn ok en rfl (by decide) (by decide) (by decide) dX4_has_18 ⟨by unfold hsb; rw [decide_eq_false (fun h => h.elim (fun e => by omega) c_10)]; rfl, rfl⟩
    · refine ga_iconst ok dX4_has_13 ?_
      refine ga_goto ok 18 (by decide) dX4_has_14 ?_
      exact ga_ireturn ok en rfl (by decide) (by decide) (by decide) dX4_has_18 ⟨by unfold hsb; rw [decide_eq_true (Or.inr c_10)]; rfl, rfl⟩
set_option maxHeartbeats 4000000 in
set_option maxRecDepth 100000 in
theorem c_X4_countedOf {G : GG} {l : Launch} (hfl : l.stackTraces = false) (hG : MW G) {m : Mm} {r : Nat → Int} {T : Int} (hs : SR m r) (hT : gtOk T r) {g : Int} (qg : 0 ≤ g ∧ g < r 0) {b : Int} (hb : -1 ≤ b ∧ b < 10) : CT G l yX4_countedOf cX4_countedOf 3 (some .int) (RM 1 0 0) [.ref 1024, vI g, vI b] m (fun r' m' => r' = some (vI (gcn (rg r g.toNat) (b + 1).toNat)) ∧ m' = m) (fun _ _ => False) := by
  refine CT.of RX4 [(0, .ref 1024), (1, vI g), (2, vI b)] hfl (by decide +kernel) rfl rfl (Nat.le_of_ble_eq_true rfl) ?_
  intro E ok en hml hEl htab
  have hR : e_R E = RM 1 0 0 := en.2.2.2
  have hn0 : 0 < (e_c E).maxLocals := by rw [hml]; decide
  have hn1 : 1 < (e_c E).maxLocals := by rw [hml]; decide
  have hn2 : 2 < (e_c E).maxLocals := by rw [hml]; decide
  obtain ⟨b0, b1, hvb, hgb⟩ := id hT
  have s0 := hs 0 (by omega)
  have s1 := hs 1 (by omega)
  refine ga_aload_n ok 0 rfl rfl dX4_countedOf_0 ?_
  refine gf_X4_9 ok hG rfl dX4_countedOf_1 ?_
  refine ga_iload_n ok 1 rfl rfl dX4_countedOf_4 ?_
  refine ga_bipush ok dX4_countedOf_5 (by decide) ?_
  refine ga_iload_n ok 2 rfl rfl dX4_countedOf_7 ?_
  refine ga_iadd ok dX4_countedOf_8 ?_
  refine gd_S_2 ok lk_X4_73 (c_X4_at ok.fl hG (g := g) (k := 7 + b) (by omega) (by omega)) (by rw [hR]; exact ⟨by decide, by decide, by decide, by decide⟩) (Nat.le_of_ble_eq_true rfl) dX4_countedOf_9 ?_
  refine ga_iaload_ia ok (ar_ms hG rfl) (by omega) dX4_countedOf_12 ?_
  rw [show (26 + 27 * g + (7 + b)).toNat = 26 + 27 * g.toNat + (6 + (b + 1).toNat) by omega, hs.g (by omega) (by omega)]
  exact ga_ireturn ok en rfl rfl (by decide) (by decide) dX4_countedOf_13 ⟨rfl, rfl⟩
set_option maxHeartbeats 4000000 in
set_option maxRecDepth 100000 in
theorem c_X4_weight {G : GG} {l : Launch} (hfl : l.stackTraces = false) (hG : MW G) {m : Mm} {r : Nat → Int} {T : Int} (hs : SR m r) (hT : gtOk T r) {g : Int} (qg : 0 ≤ g ∧ g < r 0) {b : Int} (hb : -1 ≤ b ∧ b < 10) : CT G l yX4_weight cX4_weight 3 (some .float) (RM 2 0 0) [.ref 1024, vI g, vI b] m (fun r' m' => r' = some (.float (fq (gcn (rg r g.toNat) (b + 1).toNat))) ∧ m' = m) (fun _ _ => False) := by
  refine CT.of RX4 [(0, .ref 1024), (1, vI g), (2, vI b)] hfl (by decide +kernel) rfl rfl (Nat.le_of_ble_eq_true rfl) ?_
  intro E ok en hml hEl htab
  have hR : e_R E = RM 2 0 0 := en.2.2.2
  have hn0 : 0 < (e_c E).maxLocals := by rw [hml]; decide
  have hn1 : 1 < (e_c E).maxLocals := by rw [hml]; decide
  have hn2 : 2 < (e_c E).maxLocals := by rw [hml]; decide
  obtain ⟨b0, b1, hvb, hgb⟩ := id hT
  have s0 := hs 0 (by omega)
  have s1 := hs 1 (by omega)
  refine ga_aload_n ok 0 rfl rfl dX4_weight_0 ?_
  refine ga_iload_n ok 1 rfl rfl dX4_weight_1 ?_
  refine ga_iload_n ok 2 rfl rfl dX4_weight_2 ?_
  refine gd_X4_2 ok hG rfl lk_X4_110 rfl (c_X4_countedOf ok.fl hG hs hT qg hb) (by rw [hR]; exact ⟨by decide, by decide, by decide, by decide⟩) (Nat.le_of_ble_eq_true rfl) dX4_weight_3 ?_
  refine ga_i2f ok dX4_weight_6 ?_
  refine ga_ldcf (z := 1115684864) ok dX4_weight_7 (tb_in 1417 (by decide +kernel) (by decide +kernel)) ?_
  have hc9 : -60000 ≤ gcn (rg r g.toNat) (b + 1).toNat ∧ gcn (rg r g.toNat) (b + 1).toNat ≤ 60000 := (hgb g.toNat (by omega)).2.2.2.1 _ (by omega)
  have he : FP.fdiv (FP.i2f (Int32.ofInt (gcn (rg r g.toNat) (b + 1).toNat))) 1115684864 = fq (gcn (rg r g.toNat) (b + 1).toNat) := rfl
  refine ga_fdiv ok dX4_weight_9 (by rw [he]; exact fq_n32 (by omega)) ?_
  exact ga_freturn ok en rfl (by decide) (by decide) dX4_weight_10 ⟨rfl, rfl⟩
set_option maxHeartbeats 4000000 in
set_option maxRecDepth 100000 in
theorem c_X4_marginOf {G : GG} {l : Launch} (hfl : l.stackTraces = false) (hG : MW G) {m : Mm} {r : Nat → Int} {T : Int} (hs : SR m r) (hT : gtOk T r) {g : Int} (qg : 0 ≤ g ∧ g < r 0) {x : Int} (hx : 0 ≤ x ∧ x ≤ 1023) : CT G l yX4_marginOf cX4_marginOf 5 (some .float) (RM 3 0 0) [.ref 1024, vI g, vI x] m (fun r' m' => r' = some (.float (fq (mg (gcn (rg r g.toNat)) x))) ∧ m' = m) (fun _ _ => False) := by
  refine CT.of RX4 [(0, .ref 1024), (1, vI g), (2, vI x)] hfl (by decide +kernel) rfl rfl (Nat.le_of_ble_eq_true rfl) ?_
  intro E ok en hml hEl htab
  have hR : e_R E = RM 3 0 0 := en.2.2.2
  have hn0 : 0 < (e_c E).maxLocals := by rw [hml]; decide
  have hn1 : 1 < (e_c E).maxLocals := by rw [hml]; decide
  have hn2 : 2 < (e_c E).maxLocals := by rw [hml]; decide
  have hn3 : 3 < (e_c E).maxLocals := by rw [hml]; decide
  have hn4 : 4 < (e_c E).maxLocals := by rw [hml]; decide
  obtain ⟨b0, b1, hvb, hgb⟩ := id hT
  have s0 := hs 0 (by omega)
  have s1 := hs 1 (by omega)
  refine ga_aload_n ok 0 rfl rfl dX4_marginOf_0 ?_
  refine ga_iload_n ok 1 rfl rfl dX4_marginOf_1 ?_
  refine ga_iconst ok dX4_marginOf_2 ?_
  refine gd_X4_2 ok hG rfl lk_X4_114 rfl (c_X4_weight ok.fl hG hs hT qg (b := -1) (by omega)) (by rw [hR]; exact ⟨by decide, by decide, by decide, by decide⟩) (Nat.le_of_ble_eq_true rfl) dX4_marginOf_3 ?_
  refine ga_fstore_n ok 3 rfl hn3 dX4_marginOf_6 ?_
  refine ga_iconst ok dX4_marginOf_7 ?_
  refine ga_istore ok hn4 dX4_marginOf_8 ?_
  have loop : ∀ (i : Int), 0 ≤ i ∧ i ≤ 10 → WA G E 0 0 10 [(4, vI i), (3, .float (fq (mgA (gcn (rg r g.toNat)) x i.toNat))), (0, .ref 1024), (1, vI g), (2, vI x)] [] m := by
    refine wl1 _ (fun i => (10 - i).toNat) _ ?_
    intro i hi ih
    have hc : cBd (gcn (rg r g.toNat)) := (hgb g.toNat (by omega)).2.2.2.1
    refine ga_iload ok rfl dX4_marginOf_10 ?_
    refine ga_bipush ok dX4_marginOf_12 (by decide) ?_
    refine ga_icmp_ge ok 46 (by decide) (by omega) (by omega) dX4_marginOf_14 (fun c_14 => ?_) (fun c_14 => ?_)
    · refine ga_fload_n ok 3 rfl rfl dX4_marginOf_46 ?_
      exact ga_freturn ok en rfl (by decide) (by decide) dX4_marginOf_47 ⟨by rw [show i = 10 by omega]; rfl, rfl⟩
    · refine ga_iload_n ok 2 rfl rfl dX4_marginOf_17 ?_
      refine ga_iload ok rfl dX4_marginOf_18 ?_
      refine gd_S_2 ok lk_X4_118 (c_X4_has ok.fl hG hx (b := i) (by omega)) (by rw [hR]; exact ⟨by decide, by decide, by decide, by decide⟩) (Nat.le_of_ble_eq_true rfl) dX4_marginOf_20 ?_
      refine ga_if_eq ok 38 (by decide) (b2i_rng _) dX4_marginOf_23 (fun c_23 => ?_) (fun c_23 => ?_)
      · have f_23 := of_decide_eq_false (b2i_0.mp c_23)
        have h9 : x / 2 ^ i.toNat % 2 ^ 1 ≠ 1 := fun e => (of_decide_eq_false (b2i_0.mp c_23)) (Or.inr e)
        have e9 := mgA_f (c := gcn (rg r g.toNat)) hi.1 h9
        refine ga_fload_n ok 3 rfl rfl dX4_marginOf_38 ?_
        refine ga_fstore_n ok 3 rfl hn3 dX4_marginOf_39 ?_
        refine ga_iinc ok rfl hn4 dX4_marginOf_40 ?_
        refine ga_goto ok 10 (by decide) dX4_marginOf_43 ?_
        exact WA.re (by exact ⟨rfl, (by rw [e9]; rfl), rfl, rfl, rfl, trivial⟩) (ih (i + 1) (by omega) (by omega))
      · have f_23 := of_decide_eq_true (b2i_n0.mp c_23)
        have h9 : x / 2 ^ i.toNat % 2 ^ 1 = 1 := (of_decide_eq_true (b2i_n0.mp c_23)).elim (fun e => by omega) id
        have e9 := mgA_t (c := gcn (rg r g.toNat)) hi.1 h9
        refine ga_fload_n ok 3 rfl rfl dX4_marginOf_26 ?_
        refine ga_aload_n ok 0 rfl rfl dX4_marginOf_27 ?_
        refine ga_iload_n ok 1 rfl rfl dX4_marginOf_28 ?_
        refine ga_iload ok rfl dX4_marginOf_29 ?_
        refine gd_X4_2 ok hG rfl lk_X4_114 rfl (c_X4_weight ok.fl hG hs hT qg (b := i) (by omega)) (by rw [hR]; exact ⟨by decide, by decide, by decide, by decide⟩) (Nat.le_of_ble_eq_true rfl) dX4_marginOf_31 ?_
        have hs9 : FP.fadd (fq (mgA (gcn (rg r g.toNat)) x i.toNat)) (fq (gcn (rg r g.toNat) (i + 1).toNat)) = fq (mgA (gcn (rg r g.toNat)) x (i + 1).toNat) := by rw [e9]; exact fq_add (mgA_bd2 hc x (by omega)) (by have := hc (i + 1).toNat (by omega); omega) (by rw [← e9]; exact mgA_bd2 hc x (by omega))
        refine ga_fadd ok dX4_marginOf_34 (by rw [hs9]; exact fq_n32 (mgA_bd2 hc x (by omega))) ?_
        rw [hs9]
        refine ga_goto ok 39 (by decide) dX4_marginOf_35 ?_
        refine ga_fstore_n ok 3 rfl hn3 dX4_marginOf_39 ?_
        refine ga_iinc ok rfl hn4 dX4_marginOf_40 ?_
        refine ga_goto ok 10 (by decide) dX4_marginOf_43 ?_
        exact WA.re (by exact ⟨rfl, rfl, rfl, rfl, rfl, trivial⟩) (ih (i + 1) (by omega) (by omega))
  exact WA.re (by exact ⟨rfl, rfl, rfl, rfl, rfl, trivial⟩) (loop 0 (by omega))
set_option maxHeartbeats 4000000 in
set_option maxRecDepth 100000 in
theorem c_X4_isIn {G : GG} {l : Launch} (hfl : l.stackTraces = false) (hG : MW G) {m : Mm} {r : Nat → Int} {T : Int} (hs : SR m r) (hT : gtOk T r) {g : Int} (qg : 0 ≤ g ∧ g < r 0) {x : Int} (hx : 0 ≤ x ∧ x ≤ 1023) : CT G l yX4_isIn cX4_isIn 3 (some .boolean) (RM 4 0 0) [.ref 1024, vI g, vI x] m (fun r' m' => r' = some (vI (b2i (adm (gcn (rg r g.toNat)) x))) ∧ m' = m) (fun _ _ => False) := by
  refine CT.of RX4 [(0, .ref 1024), (1, vI g), (2, vI x)] hfl (by decide +kernel) rfl rfl (Nat.le_of_ble_eq_true rfl) ?_
  intro E ok en hml hEl htab
  have hR : e_R E = RM 4 0 0 := en.2.2.2
  have hn0 : 0 < (e_c E).maxLocals := by rw [hml]; decide
  have hn1 : 1 < (e_c E).maxLocals := by rw [hml]; decide
  have hn2 : 2 < (e_c E).maxLocals := by rw [hml]; decide
  obtain ⟨b0, b1, hvb, hgb⟩ := id hT
  have s0 := hs 0 (by omega)
  have s1 := hs 1 (by omega)
  refine ga_aload_n ok 0 rfl rfl dX4_isIn_0 ?_
  refine ga_iload_n ok 1 rfl rfl dX4_isIn_1 ?_
  refine ga_iload_n ok 2 rfl rfl dX4_isIn_2 ?_
  refine gd_X4_2 ok hG rfl lk_X4_122 rfl (c_X4_marginOf ok.fl hG hs hT qg hx) (by rw [hR]; exact ⟨by decide, by decide, by decide, by decide⟩) (Nat.le_of_ble_eq_true rfl) dX4_isIn_3 ?_
  have hb9 := mg_bd (c := gcn (rg r g.toNat)) (hgb g.toNat (by omega)).2.2.2.1 x
  refine ga_fconst0 ok dX4_isIn_6 ?_
  refine ga_fcmp ok dX4_isIn_7 (fq_cmpz0 hb9) ?_
  refine ga_if_le ok 15 (by decide) (cmpz_rng _ _) dX4_isIn_8 (fun c_8 => ?_) (fun c_8 => ?_)
  · have h8 := cmpz_le.mp c_8
    refine ga_iconst ok dX4_isIn_15 ?_
    exact ga_ireturn ok en rfl (by decide) (by decide) (by decide) dX4_isIn_16 ⟨by unfold adm; (first | rw [decide_eq_true (by omega)] | rw [decide_eq_false (by omega)]); rfl, rfl⟩
  · have h8 := cmpz_gt.mp c_8
    refine ga_iconst ok dX4_isIn_11 ?_
    refine ga_goto ok 16 (by decide) dX4_isIn_12 ?_
    exact ga_ireturn ok en rfl (by decide) (by decide) (by decide) dX4_isIn_16 ⟨by unfold adm; (first | rw [decide_eq_true (by omega)] | rw [decide_eq_false (by omega)]); rfl, rfl⟩
theorem vF_b {f : Int} (h : f = 0 ∨ f = 1) : b2i (decide (f = 1)) = f := by rcases h with rfl | rfl <;> rfl
set_option maxHeartbeats 4000000 in
set_option maxRecDepth 100000 in
theorem c_X4_errs {G : GG} {l : Launch} (hfl : l.stackTraces = false) (hG : MW G) {m : Mm} {r : Nat → Int} {T : Int} (hs : SR m r) (hT : gtOk T r) {g : Int} (qg : 0 ≤ g ∧ g < r 0) {v : Int} (qv : 0 ≤ v ∧ v < r 1) : CT G l yX4_errs cX4_errs 3 (some .boolean) (RM 5 0 0) [.ref 1024, vI g, vI v] m (fun r' m' => r' = some (vI (b2i (erB r g.toNat v.toNat))) ∧ m' = m) (fun _ _ => False) := by
  refine CT.of RX4 [(0, .ref 1024), (1, vI g), (2, vI v)] hfl (by decide +kernel) rfl rfl (Nat.le_of_ble_eq_true rfl) ?_
  intro E ok en hml hEl htab
  have hR : e_R E = RM 5 0 0 := en.2.2.2
  have hn0 : 0 < (e_c E).maxLocals := by rw [hml]; decide
  have hn1 : 1 < (e_c E).maxLocals := by rw [hml]; decide
  have hn2 : 2 < (e_c E).maxLocals := by rw [hml]; decide
  obtain ⟨b0, b1, hvb, hgb⟩ := id hT
  have s0 := hs 0 (by omega)
  have s1 := hs 1 (by omega)
  refine ga_aload_n ok 0 rfl rfl dX4_errs_0 ?_
  refine ga_iload_n ok 1 rfl rfl dX4_errs_1 ?_
  refine ga_aload_n ok 0 rfl rfl dX4_errs_2 ?_
  refine ga_iload_n ok 2 rfl rfl dX4_errs_3 ?_
  have hq9 := hvb v.toNat (by omega)
  refine gd_X4_1 ok hG rfl lk_X4_97 rfl (c_X4_badges ok.fl hG hs hT qv) (by rw [hR]; exact ⟨by decide, by decide, by decide, by decide⟩) (Nat.le_of_ble_eq_true rfl) dX4_errs_4 ?_
  refine gd_X4_2 ok hG rfl lk_X4_125 rfl (c_X4_isIn ok.fl hG hs hT qg (x := vX r v.toNat) (by omega)) (by rw [hR]; exact ⟨by decide, by decide, by decide, by decide⟩) (Nat.le_of_ble_eq_true rfl) dX4_errs_7 ?_
  refine ga_aload_n ok 0 rfl rfl dX4_errs_10 ?_
  refine ga_iload_n ok 2 rfl rfl dX4_errs_11 ?_
  refine gd_X4_1 ok hG rfl lk_X4_128 rfl (c_X4_isFriend ok.fl hG hs hT qv) (by rw [hR]; exact ⟨by decide, by decide, by decide, by decide⟩) (Nat.le_of_ble_eq_true rfl) dX4_errs_12 ?_
  rw [vF_b hq9.2]
  have hq8 := b2i_01 (adm (gcn (rg r g.toNat)) (vX r v.toNat))
  refine ga_icmp_eq ok 22 (by decide) (by omega) (by omega) dX4_errs_15 (fun c_15 => ?_) (fun c_15 => ?_)
  · refine ga_iconst ok dX4_errs_22 ?_
    exact ga_ireturn ok en rfl (by decide) (by decide) (by decide) dX4_errs_23 ⟨by unfold erB; (first | rw [decide_eq_true c_15] | rw [decide_eq_false (fun h => h c_15)]); rfl, rfl⟩
  · refine ga_iconst ok dX4_errs_18 ?_
    refine ga_goto ok 23 (by decide) dX4_errs_19 ?_
    exact ga_ireturn ok en rfl (by decide) (by decide) (by decide) dX4_errs_23 ⟨by unfold erB; (first | rw [decide_eq_true c_15] | rw [decide_eq_false (fun h => h c_15)]); rfl, rfl⟩
set_option maxHeartbeats 4000000 in
set_option maxRecDepth 100000 in
theorem c_X4_errors {G : GG} {l : Launch} (hfl : l.stackTraces = false) (hG : MW G) {m : Mm} {r : Nat → Int} {T : Int} (hs : SR m r) (hT : gtOk T r) {g : Int} (qg : 0 ≤ g ∧ g < r 0) : CT G l yX4_errors cX4_errors 4 (some .int) (RM 6 0 0) [.ref 1024, vI g] m (fun r' m' => r' = some (vI (ofG r g.toNat)) ∧ m' = m) (fun _ _ => False) := by
  refine CT.of RX4 [(0, .ref 1024), (1, vI g)] hfl (by decide +kernel) rfl rfl (Nat.le_of_ble_eq_true rfl) ?_
  intro E ok en hml hEl htab
  have hR : e_R E = RM 6 0 0 := en.2.2.2
  have hn0 : 0 < (e_c E).maxLocals := by rw [hml]; decide
  have hn1 : 1 < (e_c E).maxLocals := by rw [hml]; decide
  have hn2 : 2 < (e_c E).maxLocals := by rw [hml]; decide
  have hn3 : 3 < (e_c E).maxLocals := by rw [hml]; decide
  obtain ⟨b0, b1, hvb, hgb⟩ := id hT
  have s0 := hs 0 (by omega)
  have s1 := hs 1 (by omega)
  refine ga_iconst ok dX4_errors_0 ?_
  refine ga_istore_n ok 2 rfl hn2 dX4_errors_1 ?_
  refine ga_iconst ok dX4_errors_2 ?_
  refine ga_istore_n ok 3 rfl hn3 dX4_errors_3 ?_
  have loop : ∀ (i : Int), 0 ≤ i ∧ i ≤ r 1 → WA G E 0 0 4 [(3, vI i), (2, vI (zs (fun v => b2i (erB r g.toNat v)) i.toNat)), (0, .ref 1024), (1, vI g)] [] m := by
    refine wl1 _ (fun i => (r 1 - i).toNat) _ ?_
    intro i hi ih
    have e9 := zs_n (f := fun v => b2i (erB r g.toNat v)) hi.1
    refine ga_iload_n ok 3 rfl rfl dX4_errors_4 ?_
    refine ga_aload_n ok 0 rfl rfl dX4_errors_5 ?_
    refine gf_X4_9 ok hG rfl dX4_errors_6 ?_
    refine ga_iconst ok dX4_errors_9 ?_
    refine ga_iaload_ia ok (ar_ms hG rfl) (by omega) dX4_errors_10 ?_
    rw [show (m.1 1088 (1 : Int).toNat) = r 1 from s1]
    refine ga_icmp_ge ok 37 (by decide) (by omega) (by omega) dX4_errors_11 (fun c_11 => ?_) (fun c_11 => ?_)
    · refine ga_iload_n ok 2 rfl rfl dX4_errors_37 ?_
      exact ga_ireturn ok en rfl rfl (by decide) (by decide) dX4_errors_38 ⟨by rw [show i = r 1 by omega]; rfl, rfl⟩
    · refine ga_iload_n ok 2 rfl rfl dX4_errors_14 ?_
      refine ga_aload_n ok 0 rfl rfl dX4_errors_15 ?_
      refine ga_iload_n ok 1 rfl rfl dX4_errors_16 ?_
      refine ga_iload_n ok 3 rfl rfl dX4_errors_17 ?_
      refine gd_X4_2 ok hG rfl lk_X4_131 rfl (c_X4_errs ok.fl hG hs hT qg (v := i) (by omega)) (by rw [hR]; exact ⟨by decide, by decide, by decide, by decide⟩) (Nat.le_of_ble_eq_true rfl) dX4_errors_18 ?_
      refine ga_if_eq ok 28 (by decide) (b2i_rng _) dX4_errors_21 (fun c_21 => ?_) (fun c_21 => ?_)
      · have hf : (fun v => b2i (erB r g.toNat v)) i.toNat = 0 := b2i_0.mpr (b2i_0.mp c_21)
        try dsimp only at hf
        rw [hf] at e9
        refine ga_iconst ok dX4_errors_28 ?_
        refine ga_iadd ok dX4_errors_29 ?_
        refine ga_istore_n ok 2 rfl hn2 dX4_errors_30 ?_
        refine ga_iinc ok rfl hn3 dX4_errors_31 ?_
        refine ga_goto ok 4 (by decide) dX4_errors_34 ?_
        exact WA.re (by exact ⟨rfl, (by rw [e9]; rfl), rfl, rfl, trivial⟩) (ih (i + 1) (by omega) (by omega))
      · have hf : (fun v => b2i (erB r g.toNat v)) i.toNat = 1 := b2i_1.mpr (b2i_n0.mp c_21)
        try dsimp only at hf
        rw [hf] at e9
        refine ga_iconst ok dX4_errors_24 ?_
        refine ga_goto ok 29 (by decide) dX4_errors_25 ?_
        refine ga_iadd ok dX4_errors_29 ?_
        refine ga_istore_n ok 2 rfl hn2 dX4_errors_30 ?_
        refine ga_iinc ok rfl hn3 dX4_errors_31 ?_
        refine ga_goto ok 4 (by decide) dX4_errors_34 ?_
        exact WA.re (by exact ⟨rfl, (by rw [e9]; rfl), rfl, rfl, trivial⟩) (ih (i + 1) (by omega) (by omega))
  exact WA.re (by exact ⟨rfl, rfl, rfl, rfl, trivial⟩) (loop 0 (by omega))
set_option maxHeartbeats 4000000 in
set_option maxRecDepth 100000 in
theorem c_X4_errorsAbout {G : GG} {l : Launch} (hfl : l.stackTraces = false) (hG : MW G) {m : Mm} {r : Nat → Int} {T : Int} (hs : SR m r) (hT : gtOk T r) {v : Int} (qv : 0 ≤ v ∧ v < r 1) : CT G l yX4_errorsAbout cX4_errorsAbout 4 (some .int) (RM 6 0 0) [.ref 1024, vI v] m (fun r' m' => r' = some (vI (ofV r v.toNat)) ∧ m' = m) (fun _ _ => False) := by
  refine CT.of RX4 [(0, .ref 1024), (1, vI v)] hfl (by decide +kernel) rfl rfl (Nat.le_of_ble_eq_true rfl) ?_
  intro E ok en hml hEl htab
  have hR : e_R E = RM 6 0 0 := en.2.2.2
  have hn0 : 0 < (e_c E).maxLocals := by rw [hml]; decide
  have hn1 : 1 < (e_c E).maxLocals := by rw [hml]; decide
  have hn2 : 2 < (e_c E).maxLocals := by rw [hml]; decide
  have hn3 : 3 < (e_c E).maxLocals := by rw [hml]; decide
  obtain ⟨b0, b1, hvb, hgb⟩ := id hT
  have s0 := hs 0 (by omega)
  have s1 := hs 1 (by omega)
  refine ga_iconst ok dX4_errorsAbout_0 ?_
  refine ga_istore_n ok 2 rfl hn2 dX4_errorsAbout_1 ?_
  refine ga_iconst ok dX4_errorsAbout_2 ?_
  refine ga_istore_n ok 3 rfl hn3 dX4_errorsAbout_3 ?_
  have loop : ∀ (i : Int), 0 ≤ i ∧ i ≤ r 0 → WA G E 0 0 4 [(3, vI i), (2, vI (zs (fun g => b2i (erB r g v.toNat)) i.toNat)), (0, .ref 1024), (1, vI v)] [] m := by
    refine wl1 _ (fun i => (r 0 - i).toNat) _ ?_
    intro i hi ih
    have e9 := zs_n (f := fun g => b2i (erB r g v.toNat)) hi.1
    refine ga_iload_n ok 3 rfl rfl dX4_errorsAbout_4 ?_
    refine ga_aload_n ok 0 rfl rfl dX4_errorsAbout_5 ?_
    refine gf_X4_9 ok hG rfl dX4_errorsAbout_6 ?_
    refine ga_iconst ok dX4_errorsAbout_9 ?_
    refine ga_iaload_ia ok (ar_ms hG rfl) (by omega) dX4_errorsAbout_10 ?_
    rw [show (m.1 1088 (0 : Int).toNat) = r 0 from s0]
    refine ga_icmp_ge ok 37 (by decide) (by omega) (by omega) dX4_errorsAbout_11 (fun c_11 => ?_) (fun c_11 => ?_)
    · refine ga_iload_n ok 2 rfl rfl dX4_errorsAbout_37 ?_
      exact ga_ireturn ok en rfl rfl (by decide) (by decide) dX4_errorsAbout_38 ⟨by rw [show i = r 0 by omega]; rfl, rfl⟩
    · refine ga_iload_n ok 2 rfl rfl dX4_errorsAbout_14 ?_
      refine ga_aload_n ok 0 rfl rfl dX4_errorsAbout_15 ?_
      refine ga_iload_n ok 3 rfl rfl dX4_errorsAbout_16 ?_
      refine ga_iload_n ok 1 rfl rfl dX4_errorsAbout_17 ?_
      refine gd_X4_2 ok hG rfl lk_X4_131 rfl (c_X4_errs ok.fl hG hs hT (g := i) (by omega) qv) (by rw [hR]; exact ⟨by decide, by decide, by decide, by decide⟩) (Nat.le_of_ble_eq_true rfl) dX4_errorsAbout_18 ?_
      refine ga_if_eq ok 28 (by decide) (b2i_rng _) dX4_errorsAbout_21 (fun c_21 => ?_) (fun c_21 => ?_)
      · have hf : (fun g => b2i (erB r g v.toNat)) i.toNat = 0 := b2i_0.mpr (b2i_0.mp c_21)
        try dsimp only at hf
        rw [hf] at e9
        refine ga_iconst ok dX4_errorsAbout_28 ?_
        refine ga_iadd ok dX4_errorsAbout_29 ?_
        refine ga_istore_n ok 2 rfl hn2 dX4_errorsAbout_30 ?_
        refine ga_iinc ok rfl hn3 dX4_errorsAbout_31 ?_
        refine ga_goto ok 4 (by decide) dX4_errorsAbout_34 ?_
        exact WA.re (by exact ⟨rfl, (by rw [e9]; rfl), rfl, rfl, trivial⟩) (ih (i + 1) (by omega) (by omega))
      · have hf : (fun g => b2i (erB r g v.toNat)) i.toNat = 1 := b2i_1.mpr (b2i_n0.mp c_21)
        try dsimp only at hf
        rw [hf] at e9
        refine ga_iconst ok dX4_errorsAbout_24 ?_
        refine ga_goto ok 29 (by decide) dX4_errorsAbout_25 ?_
        refine ga_iadd ok dX4_errorsAbout_29 ?_
        refine ga_istore_n ok 2 rfl hn2 dX4_errorsAbout_30 ?_
        refine ga_iinc ok rfl hn3 dX4_errorsAbout_31 ?_
        refine ga_goto ok 4 (by decide) dX4_errorsAbout_34 ?_
        exact WA.re (by exact ⟨rfl, (by rw [e9]; rfl), rfl, rfl, trivial⟩) (ih (i + 1) (by omega) (by omega))
  exact WA.re (by exact ⟨rfl, rfl, rfl, rfl, trivial⟩) (loop 0 (by omega))
set_option maxHeartbeats 4000000 in
set_option maxRecDepth 100000 in
theorem c_X4_sizeOf {G : GG} {l : Launch} (hfl : l.stackTraces = false) (hG : MW G) {m : Mm} {x : Int} (hx : 0 ≤ x ∧ x ≤ 1023) : CT G l yX4_sizeOf cX4_sizeOf 3 (some .int) (RM 1 0 0) [vI x] m (fun r' m' => r' = some (vI (szO x 10)) ∧ m' = m) (fun _ _ => False) := by
  refine CT.of RX4 [(0, vI x)] hfl (by decide +kernel) rfl rfl (Nat.le_of_ble_eq_true rfl) ?_
  intro E ok en hml hEl htab
  have hR : e_R E = RM 1 0 0 := en.2.2.2
  have hn0 : 0 < (e_c E).maxLocals := by rw [hml]; decide
  have hn1 : 1 < (e_c E).maxLocals := by rw [hml]; decide
  have hn2 : 2 < (e_c E).maxLocals := by rw [hml]; decide
  refine ga_iconst ok dX4_sizeOf_0 ?_
  refine ga_istore_n ok 1 rfl hn1 dX4_sizeOf_1 ?_
  refine ga_iconst ok dX4_sizeOf_2 ?_
  refine ga_istore_n ok 2 rfl hn2 dX4_sizeOf_3 ?_
  have loop : ∀ (i : Int), 0 ≤ i ∧ i ≤ 10 → WA G E 0 0 4 [(2, vI i), (1, vI (zs (fun b => b2i (decide (x / 2 ^ b % 2 ^ 1 = 1))) i.toNat)), (0, vI x)] [] m := by
    refine wl1 _ (fun i => (10 - i).toNat) _ ?_
    intro i hi ih
    have e9 := zs_n (f := fun b => b2i (decide (x / 2 ^ b % 2 ^ 1 = 1))) hi.1
    refine ga_iload_n ok 2 rfl rfl dX4_sizeOf_4 ?_
    refine ga_bipush ok dX4_sizeOf_5 (by decide) ?_
    refine ga_icmp_ge ok 32 (by decide) (by omega) (by omega) dX4_sizeOf_7 (fun c_7 => ?_) (fun c_7 => ?_)
    · refine ga_iload_n ok 1 rfl rfl dX4_sizeOf_32 ?_
      exact ga_ireturn ok en rfl rfl (by decide) (by decide) dX4_sizeOf_33 ⟨by rw [show i = 10 by omega]; rfl, rfl⟩
    · refine ga_iload_n ok 1 rfl rfl dX4_sizeOf_10 ?_
      refine ga_iload_n ok 0 rfl rfl dX4_sizeOf_11 ?_
      refine ga_iload_n ok 2 rfl rfl dX4_sizeOf_12 ?_
      refine gd_S_2 ok lk_X4_118 (c_X4_has ok.fl hG hx (b := i) (by omega)) (by rw [hR]; exact ⟨by decide, by decide, by decide, by decide⟩) (Nat.le_of_ble_eq_true rfl) dX4_sizeOf_13 ?_
      refine ga_if_eq ok 23 (by decide) (b2i_rng _) dX4_sizeOf_16 (fun c_16 => ?_) (fun c_16 => ?_)
      · have hf : (fun b => b2i (decide (x / 2 ^ b % 2 ^ 1 = 1))) i.toNat = 0 := b2i_0.mpr (decide_eq_false (fun e => (of_decide_eq_false (b2i_0.mp c_16)) (Or.inr e)))
        try dsimp only at hf
        rw [hf] at e9
        refine ga_iconst ok dX4_sizeOf_23 ?_
        refine ga_iadd ok dX4_sizeOf_24 ?_
        refine ga_istore_n ok 1 rfl hn1 dX4_sizeOf_25 ?_
        refine ga_iinc ok rfl hn2 dX4_sizeOf_26 ?_
        refine ga_goto ok 4 (by decide) dX4_sizeOf_29 ?_
        exact WA.re (by exact ⟨rfl, (by rw [e9]; rfl), rfl, trivial⟩) (ih (i + 1) (by omega) (by omega))
      · have hf : (fun b => b2i (decide (x / 2 ^ b % 2 ^ 1 = 1))) i.toNat = 1 := b2i_1.mpr (decide_eq_true ((of_decide_eq_true (b2i_n0.mp c_16)).elim (fun e => by omega) id))
        try dsimp only at hf
        rw [hf] at e9
        refine ga_iconst ok dX4_sizeOf_19 ?_
        refine ga_goto ok 24 (by decide) dX4_sizeOf_20 ?_
        refine ga_iadd ok dX4_sizeOf_24 ?_
        refine ga_istore_n ok 1 rfl hn1 dX4_sizeOf_25 ?_
        refine ga_iinc ok rfl hn2 dX4_sizeOf_26 ?_
        refine ga_goto ok 4 (by decide) dX4_sizeOf_29 ?_
        exact WA.re (by exact ⟨rfl, (by rw [e9]; rfl), rfl, trivial⟩) (ih (i + 1) (by omega) (by omega))
  exact WA.re (by exact ⟨rfl, rfl, rfl, trivial⟩) (loop 0 (by omega))
set_option maxHeartbeats 4000000 in
set_option maxRecDepth 100000 in
theorem c_X4_placeOf {G : GG} {l : Launch} (hfl : l.stackTraces = false) (hG : MW G) {m : Mm} {r : Nat → Int} {T : Int} (hs : SR m r) (hT : gtOk T r) {v : Int} (qv : 0 ≤ v ∧ v < r 1) : CT G l yX4_placeOf cX4_placeOf 4 (some .int) (RM 1 0 0) [.ref 1024, vI v] m (fun r' m' => r' = some (vI (plc r v.toNat)) ∧ m' = m) (fun _ _ => False) := by
  refine CT.of RX4 [(0, .ref 1024), (1, vI v)] hfl (by decide +kernel) rfl rfl (Nat.le_of_ble_eq_true rfl) ?_
  intro E ok en hml hEl htab
  have hR : e_R E = RM 1 0 0 := en.2.2.2
  have hn0 : 0 < (e_c E).maxLocals := by rw [hml]; decide
  have hn1 : 1 < (e_c E).maxLocals := by rw [hml]; decide
  have hn2 : 2 < (e_c E).maxLocals := by rw [hml]; decide
  have hn3 : 3 < (e_c E).maxLocals := by rw [hml]; decide
  obtain ⟨b0, b1, hvb, hgb⟩ := id hT
  have s0 := hs 0 (by omega)
  have s1 := hs 1 (by omega)
  refine ga_iconst ok dX4_placeOf_0 ?_
  refine ga_istore_n ok 2 rfl hn2 dX4_placeOf_1 ?_
  refine ga_iconst ok dX4_placeOf_2 ?_
  refine ga_istore_n ok 3 rfl hn3 dX4_placeOf_3 ?_
  have loop : ∀ (i : Int), 0 ≤ i ∧ i ≤ v → WA G E 0 0 4 [(3, vI i), (2, vI (zs (fun u => b2i (decide (vF r u = vF r v.toNat))) i.toNat)), (0, .ref 1024), (1, vI v)] [] m := by
    refine wl1 _ (fun i => (v - i).toNat) _ ?_
    intro i hi ih
    have e9 := zs_n (f := fun u => b2i (decide (vF r u = vF r v.toNat))) hi.1
    refine ga_iload_n ok 3 rfl rfl dX4_placeOf_4 ?_
    refine ga_iload_n ok 1 rfl rfl dX4_placeOf_5 ?_
    refine ga_icmp_ge ok 36 (by decide) (by omega) (by omega) dX4_placeOf_6 (fun c_6 => ?_) (fun c_6 => ?_)
    · refine ga_iload_n ok 2 rfl rfl dX4_placeOf_36 ?_
      exact ga_ireturn ok en rfl rfl (by decide) (by decide) dX4_placeOf_37 ⟨by rw [show i = v by omega]; rfl, rfl⟩
    · refine ga_iload_n ok 2 rfl rfl dX4_placeOf_9 ?_
      refine ga_aload_n ok 0 rfl rfl dX4_placeOf_10 ?_
      refine ga_iload_n ok 3 rfl rfl dX4_placeOf_11 ?_
      refine gd_X4_1 ok hG rfl lk_X4_128 rfl (c_X4_isFriend ok.fl hG hs hT (v := i) (by omega)) (by rw [hR]; exact ⟨by decide, by decide, by decide, by decide⟩) (Nat.le_of_ble_eq_true rfl) dX4_placeOf_12 ?_
      refine ga_aload_n ok 0 rfl rfl dX4_placeOf_15 ?_
      refine ga_iload_n ok 1 rfl rfl dX4_placeOf_16 ?_
      refine gd_X4_1 ok hG rfl lk_X4_128 rfl (c_X4_isFriend ok.fl hG hs hT qv) (by rw [hR]; exact ⟨by decide, by decide, by decide, by decide⟩) (Nat.le_of_ble_eq_true rfl) dX4_placeOf_17 ?_
      have hq8 := (hvb i.toNat (by omega)).2
      have hq9 := (hvb v.toNat (by omega)).2
      rw [vF_b hq8, vF_b hq9]
      refine ga_icmp_ne ok 27 (by decide) (by omega) (by omega) dX4_placeOf_20 (fun c_20 => ?_) (fun c_20 => ?_)
      · have hf : (fun u => b2i (decide (vF r u = vF r v.toNat))) i.toNat = 0 := b2i_0.mpr (decide_eq_false c_20)
        try dsimp only at hf
        rw [hf] at e9
        refine ga_iconst ok dX4_placeOf_27 ?_
        refine ga_iadd ok dX4_placeOf_28 ?_
        refine ga_istore_n ok 2 rfl hn2 dX4_placeOf_29 ?_
        refine ga_iinc ok rfl hn3 dX4_placeOf_30 ?_
        refine ga_goto ok 4 (by decide) dX4_placeOf_33 ?_
        exact WA.re (by exact ⟨rfl, (by rw [e9]; rfl), rfl, rfl, trivial⟩) (ih (i + 1) (by omega) (by omega))
      · have hf : (fun u => b2i (decide (vF r u = vF r v.toNat))) i.toNat = 1 := b2i_1.mpr (decide_eq_true c_20)
        try dsimp only at hf
        rw [hf] at e9
        refine ga_iconst ok dX4_placeOf_23 ?_
        refine ga_goto ok 28 (by decide) dX4_placeOf_24 ?_
        refine ga_iadd ok dX4_placeOf_28 ?_
        refine ga_istore_n ok 2 rfl hn2 dX4_placeOf_29 ?_
        refine ga_iinc ok rfl hn3 dX4_placeOf_30 ?_
        refine ga_goto ok 4 (by decide) dX4_placeOf_33 ?_
        exact WA.re (by exact ⟨rfl, (by rw [e9]; rfl), rfl, rfl, trivial⟩) (ih (i + 1) (by omega) (by omega))
  exact WA.re (by exact ⟨rfl, rfl, rfl, rfl, trivial⟩) (loop 0 (by omega))
