/-! WHAT A GATE'S METHODS CHANGE -/
theorem rg_adG_old {r : Nat → Int} {x : Int} {j k : Nat} (hj : (j : Int) < r 0) (hk : k < 27) : rg (adG r x) j k = rg r j k := by
  unfold rg adG
  rw [if_neg (by omega), if_neg (by omega)]
theorem rg_adG_new {r : Nat → Int} {x : Int} {k : Nat} (hk : k < 27) : rg (adG r x) (r 0).toNat k = nS x k := by
  unfold rg adG
  rw [if_neg (by omega), if_pos (by omega)]
  congr 1
  omega
theorem v_adG {r : Nat → Int} {x : Int} {v : Nat} (hv : v < 12) : vX (adG r x) v = vX r v ∧ vF (adG r x) v = vF r v := by
  unfold vX vF adG
  rw [if_neg (by omega), if_neg (by omega), if_neg (by omega), if_neg (by omega)]
  exact ⟨rfl, rfl⟩
theorem rg_adV {r : Nat → Int} {x fr : Int} {j k : Nat} (h : r 1 ≤ 11) : rg (adV r x fr) j k = rg r j k := by
  unfold rg adV
  rw [if_neg (by omega), if_neg (by omega), if_neg (by omega)]
theorem v_adV_old {r : Nat → Int} {x fr : Int} {v : Nat} (hv : (v : Int) < r 1) : vX (adV r x fr) v = vX r v ∧ vF (adV r x fr) v = vF r v := by
  unfold vX vF adV
  rw [if_neg (by omega), if_neg (by omega), if_neg (by omega), if_neg (by omega), if_neg (by omega), if_neg (by omega)]
  exact ⟨rfl, rfl⟩
theorem v_adV_new {r : Nat → Int} {x fr : Int} : vX (adV r x fr) (r 1).toNat = x ∧ vF (adV r x fr) (r 1).toNat = fr := by
  unfold vX vF adV
  rw [if_neg (by omega), if_pos (by omega), if_neg (by omega), if_neg (by omega), if_pos (by omega)]
  exact ⟨rfl, rfl⟩
theorem rg_rmV {r : Nat → Int} {v j k : Nat} (h : r 1 ≤ 12) : rg (rmV r v) j k = rg r j k := by
  unfold rg rmV
  rw [if_neg (by omega), if_neg (by omega)]
theorem v_rmV {r : Nat → Int} {v u : Nat} : vX (rmV r v) u = (if v ≤ u ∧ (u : Int) < r 1 - 1 then vX r (u + 1) else vX r u) ∧ vF (rmV r v) u = (if v ≤ u ∧ (u : Int) < r 1 - 1 then vF r (u + 1) else vF r u) := by
  constructor
  · show (if 2 + 2 * u = 1 then r 1 - 1 else if 2 + 2 * v ≤ 2 + 2 * u ∧ 2 + 2 * u < 2 + 2 * ((r 1).toNat - 1) then r (2 + 2 * u + 2) else r (2 + 2 * u)) = _
    rw [if_neg (by omega)]
    by_cases h : v ≤ u ∧ (u : Int) < r 1 - 1
    · rw [if_pos h, if_pos (by omega)]; rfl
    · rw [if_neg h, if_neg (by omega)]; rfl
  · show (if 3 + 2 * u = 1 then r 1 - 1 else if 2 + 2 * v ≤ 3 + 2 * u ∧ 3 + 2 * u < 2 + 2 * ((r 1).toNat - 1) then r (3 + 2 * u + 2) else r (3 + 2 * u)) = _
    rw [if_neg (by omega)]
    by_cases h : v ≤ u ∧ (u : Int) < r 1 - 1
    · rw [if_pos h, if_pos (by omega)]; rfl
    · rw [if_neg h, if_neg (by omega)]; rfl
theorem nar01 {x : Int} (h : x = 0 ∨ x = 1) : narrow .boolean (.int (Int32.ofInt x)) = .int (Int32.ofInt x) := by
  rcases h with rfl | rfl <;> rfl
theorem rg_stG {r S : Nat → Int} {j i k : Nat} (hk : k < 27) : rg (stG r j S) i k = if i = j then S k else rg r i k := by
  unfold rg stG
  by_cases h : i = j
  · subst h
    rw [if_pos (by omega), if_pos rfl]
    congr 1
    omega
  · rw [if_neg (by omega), if_neg h]
theorem lo_stG {r S : Nat → Int} {j k : Nat} (hk : k < 26) : stG r j S k = r k := by
  unfold stG
  rw [if_neg (by omega)]
theorem v_stG {r S : Nat → Int} {j v : Nat} (hv : v < 12) : vX (stG r j S) v = vX r v ∧ vF (stG r j S) v = vF r v := ⟨lo_stG (by omega), lo_stG (by omega)⟩
theorem gOk_nS {T x : Int} (hT : 0 ≤ T) (hx : 1 ≤ x ∧ x ≤ 64) : gOk T (nS x) := by
  refine ⟨hx, by unfold nS; rw [if_neg (by omega)]; omega, fun j a b => by unfold nS; rw [if_neg (by omega)]; omega, fun i hi => by unfold nS; rw [if_neg (by omega)]; omega, fun i hi => ?_⟩
  unfold nS
  rw [if_neg (by omega)]
  exact ⟨by decide, by omega, by omega⟩
theorem gtOk_adG {T x : Int} {r : Nat → Int} (h : gtOk T r) (hT : 0 ≤ T) (hx : 1 ≤ x ∧ x ≤ 64) (hr : r 0 < 4) : gtOk T (adG r x) := by
  obtain ⟨b0, b1, hv, hg⟩ := h
  have e0 : adG r x 0 = r 0 + 1 := rfl
  have e1 : adG r x 1 = r 1 := by unfold adG; rw [if_neg (by omega), if_neg (by omega)]
  refine ⟨by omega, by omega, fun v hv9 => ?_, fun j hj => ?_⟩
  · rw [(v_adG (by omega)).1, (v_adG (by omega)).2]; exact hv v (by omega)
  · by_cases e : (j : Int) < r 0
    · exact (hg j e).cong (fun k hk => rg_adG_old e hk)
    · have : j = (r 0).toNat := by omega
      subst this
      exact (gOk_nS hT hx).cong (fun k hk => rg_adG_new hk)
theorem gtOk_adV {T x fr : Int} {r : Nat → Int} (h : gtOk T r) (hx : 1 ≤ x ∧ x ≤ 1023) (hf : fr = 0 ∨ fr = 1) (hr : r 1 < 12) : gtOk T (adV r x fr) := by
  obtain ⟨b0, b1, hv, hg⟩ := h
  have e0 : adV r x fr 0 = r 0 := by unfold adV; rw [if_neg (by omega), if_neg (by omega), if_neg (by omega)]
  have e1 : adV r x fr 1 = r 1 + 1 := rfl
  refine ⟨by omega, by omega, fun v hv9 => ?_, fun j hj => (hg j (by omega)).cong (fun k hk => rg_adV (by omega))⟩
  by_cases e : (v : Int) < r 1
  · rw [(v_adV_old e).1, (v_adV_old e).2]; exact hv v e
  · have : v = (r 1).toNat := by omega
    subst this
    rw [v_adV_new.1, v_adV_new.2]; exact ⟨hx, hf⟩
theorem gtOk_rmV {T : Int} {r : Nat → Int} {w : Nat} (h : gtOk T r) (hw : (w : Int) < r 1) : gtOk T (rmV r w) := by
  obtain ⟨b0, b1, hv, hg⟩ := h
  have e0 : rmV r w 0 = r 0 := by unfold rmV; rw [if_neg (by omega), if_neg (by omega)]
  have e1 : rmV r w 1 = r 1 - 1 := rfl
  refine ⟨by omega, by omega, fun v hv9 => ?_, fun j hj => (hg j (by omega)).cong (fun k hk => rg_rmV (by omega))⟩
  rw [v_rmV.1, v_rmV.2]
  by_cases e : w ≤ v ∧ (v : Int) < r 1 - 1
  · rw [if_pos e, if_pos e]; exact hv (v + 1) (by omega)
  · rw [if_neg e, if_neg e]; exact hv v (by omega)
theorem gtOk_stG {T : Int} {r S : Nat → Int} {w : Nat} (h : gtOk T r) (hS : gOk T S) : gtOk T (stG r w S) := by
  obtain ⟨b0, b1, hv, hg⟩ := h
  have e0 : stG r w S 0 = r 0 := lo_stG (by omega)
  have e1 : stG r w S 1 = r 1 := lo_stG (by omega)
  refine ⟨by omega, by omega, fun v hv9 => by rw [(v_stG (by omega)).1, (v_stG (by omega)).2]; exact hv v (by omega), fun j hj => ?_⟩
  by_cases e : j = w
  · exact hS.cong (fun k hk => by rw [rg_stG hk, if_pos e])
  · exact (hg j (by omega)).cong (fun k hk => by rw [rg_stG hk, if_neg e])
/-- nothing but the gate's own three, its guards aside, has changed -/
def aFr (m m' : Mm) (a : Nat) : Prop := ∀ n, n ≠ a → n ≠ a + 128 → n ≠ a + 192 → m'.1 n = m.1 n ∧ m'.2 n = m.2 n
theorem aFr.rf {m : Mm} {a : Nat} : aFr m m a := fun _ _ _ _ => ⟨rfl, rfl⟩
theorem aFr.gt {m m' : Mm} {a : Nat} (h : aFr m m' a) : gtFr m m' a := fun n q1 q2 q3 _ _ _ _ => h n q1 q2 q3
theorem aFr.uI {m m' : Mm} {a n i : Nat} {v : Int} (h : aFr m m' a) (hn : n = a ∨ n = a + 128 ∨ n = a + 192) : aFr m (upI m' n i v) a := fun k q1 q2 q3 => by
  obtain ⟨e1, e2⟩ := h k q1 q2 q3
  exact ⟨by rw [upI_r (by omega)]; exact e1, e2⟩
theorem gIs.afr {m m' : Mm} {g a : Nat} {S : Nat → Int} (h : gIs m g S) (hf : aFr m m' a) (hg : 320 ≤ g ∧ g < 365) (ha : 64 ≤ a ∧ a < 75) : gIs m' g S :=
  h.kept (hf g (by omega) (by omega) (by omega)).1 (hf (g + 128) (by omega) (by omega) (by omega)).1 (hf (g + 64) (by omega) (by omega) (by omega)).2 (hf (g + 192) (by omega) (by omega) (by omega)).2
/-- another gate stands as it was -/
theorem gtIs.fr {m m' : Mm} {a b : Nat} {r : Nat → Int} (h : gtIs m b r) (hf : gtFr m m' a) (ha : 64 ≤ a ∧ a < 75) (hb : 64 ≤ b ∧ b < 75) (hne : a ≠ b) (h0 : r 0 ≤ 4) : gtIs m' b r := by
  obtain ⟨e1, e4, hv, hg⟩ := h
  have k : ∀ n, n = b ∨ n = b + 128 ∨ n = b + 192 → m'.1 n = m.1 n := fun n hn => (hf n (by omega) (by omega) (by omega) (by omega) (by omega) (by omega) (by omega)).1
  refine ⟨by rw [k b (by omega)]; exact e1, by rw [k b (by omega)]; exact e4, fun v hv9 => by rw [k (b + 128) (by omega), k (b + 192) (by omega)]; exact hv v hv9, fun j hj => ?_⟩
  have q : ∀ n, n = 320 + 4 * (b + 64 - 128) + j ∨ n = 320 + 4 * (b + 64 - 128) + j + 64 ∨ n = 320 + 4 * (b + 64 - 128) + j + 128 ∨ n = 320 + 4 * (b + 64 - 128) + j + 192 → m'.1 n = m.1 n ∧ m'.2 n = m.2 n := fun n hn => hf n (by omega) (by omega) (by omega) (by omega) (by omega) (by omega) (by omega)
  exact (hg j hj).kept (q _ (by omega)).1 (q _ (by omega)).1 (q _ (by omega)).2 (q _ (by omega)).2
/-- a gate's guard has changed -/
theorem gtIs.st {m m' : Mm} {a j : Nat} {r S : Nat → Int} (h : gtIs m a r) (hf : gFr m m' (320 + 4 * (a + 64 - 128) + j)) (ha : 64 ≤ a ∧ a < 75) (b0 : r 0 ≤ 4) (b1 : r 1 ≤ 12) (hj : (j : Int) < r 0) (hS : gIs m' (320 + 4 * (a + 64 - 128) + j) S) : gtIs m' a (stG r j S) := by
  obtain ⟨e1, e4, hv, hg⟩ := h
  have k : ∀ n, n = a ∨ n = a + 128 ∨ n = a + 192 → m'.1 n = m.1 n := fun n hn => (hf n (by omega) (by omega) (by omega) (by omega)).1
  have e0 : stG r j S 0 = r 0 := lo_stG (by omega)
  have e1' : stG r j S 1 = r 1 := lo_stG (by omega)
  refine ⟨by rw [k a (by omega), e0]; exact e1, by rw [k a (by omega), e1']; exact e4, fun v hv9 => by rw [k (a + 128) (by omega), k (a + 192) (by omega), (v_stG (by omega)).1, (v_stG (by omega)).2]; exact hv v (by omega), fun i hi => ?_⟩
  by_cases e : i = j
  · subst e
    exact hS.cong (fun k hk => by rw [rg_stG hk, if_pos rfl])
  · exact ((hg i (by omega)).fr hf (by omega) (by omega) (by omega)).cong (fun k hk => by rw [rg_stG hk, if_neg e])
theorem gtIs.cong {m : Mm} {a : Nat} {r r' : Nat → Int} (h : gtIs m a r) (b0 : r 0 ≤ 4) (b1 : r 1 ≤ 12) (he : ∀ k, k < 134 → r' k = r k) : gtIs m a r' := by
  obtain ⟨e1, e4, hv, hg⟩ := h
  have h0 := he 0 (by omega)
  have h1 := he 1 (by omega)
  refine ⟨by rw [h0]; exact e1, by rw [h1]; exact e4, fun v hv9 => by unfold vX vF; rw [he _ (by omega), he _ (by omega)]; exact hv v (by omega), fun j hj => (hg j (by omega)).cong (fun k hk => by unfold rg; rw [he _ (by omega)])⟩
/-! DAYS OF LESSONS -/
theorem lpOK_no {S X F : Nat → Int} {k : Nat} (h : lpOK S X F k = false) : ∀ n, k ≤ n → lpOK S X F n = false := by
  intro n
  induction n with
  | zero => intro hk; have : k = 0 := by omega
            subst this; exact h
  | succ n ih =>
    intro hk
    by_cases e : k = n + 1
    · subst e; exact h
    · simp only [lpOK]; rw [ih (by omega)]; rfl
theorem lpC_bd {S X F : Nat → Int} : ∀ n : Nat, 0 ≤ lpC S X F n ∧ lpC S X F n ≤ n
  | 0 => by simp [lpC]
  | n + 1 => by
    have h1 := lpC_bd (S := S) (X := X) (F := F) n
    have h2 := b2i_01 (psS (lpS S X F n) (X n) (F n))
    simp only [lpC]
    omega
theorem gOk_lp {T : Int} {S X F : Nat → Int} (h : gOk T S) : ∀ n : Nat, lpOK S X F n = true → gOk (T + n) (lpS S X F n)
  | 0, _ => h.mono (by omega)
  | n + 1, ho => by
    simp only [lpOK] at ho
    rw [Bool.and_eq_true] at ho
    exact (gOk_tS (gOk_lp h n ho.1) ho.2).mono (by push_cast; omega)
theorem gOk_dS {T : Int} {S X F : Nat → Int} {n : Nat} (h : gOk T S) (ho : lpOK S X F n = true) : gOk (T + n + 1) (dS S X F n) := by
  have h1 := lpC_bd (S := S) (X := X) (F := F) n
  have h2 := (h.2.2.1 2 (by omega) (by omega))
  exact gOk_eS (gOk_lp h n ho) (by omega)
theorem gOk_dRun {X F : Nat → Int} {n : Nat} (hn : n ≤ 12) : ∀ (f : Nat) (S : Nat → Int) (d T : Int), gOk T S → ∀ d' S', dRun X F n f S d = some (d', S') → gOk (T + 13 * f) S' ∧ d ≤ d' ∧ d' ≤ d + f
  | 0, S, d, T, h, d', S', e => by
    simp only [dRun, Option.some.injEq, Prod.mk.injEq] at e
    obtain ⟨rfl, rfl⟩ := e
    exact ⟨h.mono (by omega), by omega, by omega⟩
  | f + 1, S, d, T, h, d', S', e => by
    simp only [dRun] at e
    split at e
    · rename_i ho
      have h1 := gOk_dS h ho
      split at e
      · simp only [Option.some.injEq, Prod.mk.injEq] at e
        obtain ⟨rfl, rfl⟩ := e
        exact ⟨h1.mono (by push_cast; omega), by omega, by push_cast; omega⟩
      · obtain ⟨h2, h3, h4⟩ := gOk_dRun hn f _ _ _ h1 d' S' e
        exact ⟨h2.mono (by push_cast; omega), by omega, by push_cast; omega⟩
    · exact absurd e (by simp)
set_option maxHeartbeats 4000000 in
set_option maxRecDepth 100000 in
theorem c_X0_addGuard {G : GG} {l : Launch} (hfl : l.stackTraces = false) (hG : MW G) {m : Mm} {a : Nat} (ha : 64 ≤ a ∧ a < 75) {r : Nat → Int} {T : Int} (hI : gtIs m a r) (hT : gtOk T r) {x : Int} (hr : r 0 < 4) : CT G l yX0_addGuard cX0_addGuard 2 (some .int) (RM 1 0 0) [.ref a, vI x] m (fun r' m' => r' = some (vI (r 0)) ∧ gtFr m m' a ∧ gtIs m' a (adG r x)) (fun _ _ => False) := by
  refine CT.of RX0 [(0, .ref a), (1, vI x)] hfl (by decide +kernel) rfl rfl (Nat.le_of_ble_eq_true rfl) ?_
  intro E ok en hml hEl htab
  have hR : e_R E = RM 1 0 0 := en.2.2.2
  have hn0 : 0 < (e_c E).maxLocals := by rw [hml]; decide
  have hn1 : 1 < (e_c E).maxLocals := by rw [hml]; decide
  obtain ⟨e1, e4, hv, hgs⟩ := id hI
  obtain ⟨b0, b1, hvb, hgb⟩ := id hT
  refine ga_aload_n ok 0 rfl rfl dX0_addGuard_0 ?_
  refine gf_X0_11 ok hG (by omega) dX0_addGuard_1 ?_
  refine ga_aload_n ok 0 rfl rfl dX0_addGuard_4 ?_
  refine gf_X0_17 ok hG (by omega) dX0_addGuard_5 ?_
  try rw [e1]
  refine ga_aaload_qa ok (ar_ga hG (by omega)) (by omega) dX0_addGuard_8 ?_
  refine ga_iload_n ok 1 rfl rfl dX0_addGuard_9 ?_
  refine gc_X1_1 ok hG (by omega) lk_X0_37 rfl (c_X1_begin ok.fl hG (by omega)) (by rw [hR]; exact ⟨by decide, by decide, by decide, by decide⟩) (Nat.le_of_ble_eq_true rfl) dX0_addGuard_10 (fun r9 m1 hq => ?_) (fun _ _ h => h.elim)
  obtain ⟨rfl, q1, q2⟩ := hq
  simp only [Option.toList_none, List.nil_append]
  have k : ∀ n, n = a ∨ n = a + 128 ∨ n = a + 192 → m1.1 n = m.1 n := fun n hn => (q1 n (by omega) (by omega) (by omega) (by omega)).1
  have e1 : m1.1 a 1 = r 0 := by rw [k a (by omega)]; exact e1
  refine ga_aload_n ok 0 rfl rfl dX0_addGuard_13 ?_
  refine ga_dup ok dX0_addGuard_14 rfl ?_
  refine gf_X0_17 ok hG (by omega) dX0_addGuard_15 ?_
  try rw [e1]
  refine ga_iconst ok dX0_addGuard_18 ?_
  refine ga_iadd ok dX0_addGuard_19 ?_
  refine gp_X0_17 ok hG (by omega) dX0_addGuard_20 ?_
  refine ga_aload_n ok 0 rfl rfl dX0_addGuard_23 ?_
  refine gf_X0_17 ok hG (by omega) dX0_addGuard_24 ?_
  try rw [e1]
  refine ga_iconst ok dX0_addGuard_27 ?_
  refine ga_isub ok dX0_addGuard_28 ?_
  exact ga_ireturn ok en rfl rfl (by decide) (by decide) dX0_addGuard_29 ⟨by rw [upI_at]; exact congrArg (fun z => some (vI z)) (by omega), (gtFr.of ha.1 (j := (r 0).toNat) (by omega) q1).uI (Or.inl rfl), by
  have e0 : adG r x 1 = r 1 := by unfold adG; rw [if_neg (by omega), if_neg (by omega)]
  refine ⟨by rw [upI_at]; rfl, by rw [upI_no (by omega), e0, k a (by omega)]; exact e4, fun v hv9 => ?_, fun j hj => ?_⟩
  · rw [e0] at hv9
    rw [(v_adG (by omega)).1, (v_adG (by omega)).2, upI_r (by omega), upI_r (by omega), k (a + 128) (by omega), k (a + 192) (by omega)]; exact hv v hv9
  · have hj : (j : Int) < r 0 + 1 := hj
    have af : aFr m1 (upI m1 a 1 (r 0 + 1)) a := aFr.rf.uI (Or.inl rfl)
    by_cases e : (j : Int) < r 0
    · exact (((hgs j e).fr q1 (by omega) (by omega) (by omega)).afr af (by omega) ha).cong (fun k hk => rg_adG_old e hk)
    · have : j = (r 0).toNat := by omega
      subst this
      exact (q2.afr af (by omega) ha).cong (fun k hk => rg_adG_new hk)⟩
set_option maxHeartbeats 4000000 in
set_option maxRecDepth 100000 in
theorem c_X0_addVisitor {G : GG} {l : Launch} (hfl : l.stackTraces = false) (hG : MW G) {m : Mm} {a : Nat} (ha : 64 ≤ a ∧ a < 75) {r : Nat → Int} {T : Int} (hI : gtIs m a r) (hT : gtOk T r) {x fr : Int} (hfr : fr = 0 ∨ fr = 1) (hr : r 1 < 12) : CT G l yX0_addVisitor cX0_addVisitor 3 (some .int) (RM 0 0 0) [.ref a, vI x, vI fr] m (fun r' m' => r' = some (vI (r 1)) ∧ gtFr m m' a ∧ gtIs m' a (adV r x fr)) (fun _ _ => False) := by
  refine CT.of RX0 [(0, .ref a), (1, vI x), (2, vI fr)] hfl (by decide +kernel) rfl rfl (Nat.le_of_ble_eq_true rfl) ?_
  intro E ok en hml hEl htab
  have hR : e_R E = RM 0 0 0 := en.2.2.2
  have hn0 : 0 < (e_c E).maxLocals := by rw [hml]; decide
  have hn1 : 1 < (e_c E).maxLocals := by rw [hml]; decide
  have hn2 : 2 < (e_c E).maxLocals := by rw [hml]; decide
  obtain ⟨e1, e4, hv, hgs⟩ := id hI
  obtain ⟨b0, b1, hvb, hgb⟩ := id hT
  refine ga_aload_n ok 0 rfl rfl dX0_addVisitor_0 ?_
  refine gf_X0_21 ok hG (by omega) dX0_addVisitor_1 ?_
  refine ga_aload_n ok 0 rfl rfl dX0_addVisitor_4 ?_
  refine gf_X0_29 ok hG (by omega) dX0_addVisitor_5 ?_
  try rw [e4]
  try rw [upI_r (by omega), e4]
  try rw [upI_r (by omega), upI_r (by omega), e4]
  refine ga_iload_n ok 1 rfl rfl dX0_addVisitor_8 ?_
  refine ga_iastore_ia ok (ar_se hG (by omega)) (by omega) dX0_addVisitor_9 ?_
  refine ga_aload_n ok 0 rfl rfl dX0_addVisitor_10 ?_
  refine gf_X0_25 ok hG (by omega) dX0_addVisitor_11 ?_
  refine ga_aload_n ok 0 rfl rfl dX0_addVisitor_14 ?_
  refine gf_X0_29 ok hG (by omega) dX0_addVisitor_15 ?_
  try rw [e4]
  try rw [upI_r (by omega), e4]
  try rw [upI_r (by omega), upI_r (by omega), e4]
  refine ga_iload_n ok 2 rfl rfl dX0_addVisitor_18 ?_
  refine ga_bastore_za ok (ar_fr hG (by omega)) (by omega) (nar01 hfr) dX0_addVisitor_19 ?_
  refine ga_aload_n ok 0 rfl rfl dX0_addVisitor_20 ?_
  refine ga_dup ok dX0_addVisitor_21 rfl ?_
  refine gf_X0_29 ok hG (by omega) dX0_addVisitor_22 ?_
  try rw [e4]
  try rw [upI_r (by omega), e4]
  try rw [upI_r (by omega), upI_r (by omega), e4]
  refine ga_iconst ok dX0_addVisitor_25 ?_
  refine ga_iadd ok dX0_addVisitor_26 ?_
  refine gp_X0_29 ok hG (by omega) dX0_addVisitor_27 ?_
  refine ga_aload_n ok 0 rfl rfl dX0_addVisitor_30 ?_
  refine gf_X0_29 ok hG (by omega) dX0_addVisitor_31 ?_
  try rw [e4]
  try rw [upI_r (by omega), e4]
  try rw [upI_r (by omega), upI_r (by omega), e4]
  refine ga_iconst ok dX0_addVisitor_34 ?_
  refine ga_isub ok dX0_addVisitor_35 ?_
  exact ga_ireturn ok en rfl rfl (by decide) (by decide) dX0_addVisitor_36 ⟨by rw [upI_at]; exact congrArg (fun z => some (vI z)) (by omega), ((gtFr.rf.uI (Or.inr (Or.inl rfl))).uI (Or.inr (Or.inr rfl))).uI (Or.inl rfl), by
  have e0 : adV r x fr 0 = r 0 := by unfold adV; rw [if_neg (by omega), if_neg (by omega), if_neg (by omega)]
  have af : aFr m (upI (upI (upI m (a + 128) (r 1).toNat x) (a + 192) (r 1).toNat fr) a 4 (r 1 + 1)) a := ((aFr.rf.uI (Or.inr (Or.inl rfl))).uI (Or.inr (Or.inr rfl))).uI (Or.inl rfl)
  refine ⟨by rw [upI_no (by omega), upI_r (by omega), upI_r (by omega), e0]; exact e1, by rw [upI_at]; rfl, fun v hv9 => ?_, fun j hj => ?_⟩
  · have hv9 : (v : Int) < r 1 + 1 := hv9
    by_cases e : (v : Int) < r 1
    · rw [(v_adV_old e).1, (v_adV_old e).2, upI_r (by omega), upI_r (by omega), upI_no (by omega), upI_r (by omega), upI_no (by omega), upI_r (by omega)]; exact hv v e
    · have : v = (r 1).toNat := by omega
      subst this
      rw [v_adV_new.1, v_adV_new.2, upI_r (by omega), upI_r (by omega), upI_at, upI_r (by omega), upI_at]; exact ⟨rfl, rfl⟩
  · rw [e0] at hj
    exact ((hgs j hj).afr af (by omega) ha).cong (fun k hk => rg_adV (by omega))⟩
set_option maxHeartbeats 4000000 in
set_option maxRecDepth 100000 in
theorem c_X0_removeVisitor {G : GG} {l : Launch} (hfl : l.stackTraces = false) (hG : MW G) {m : Mm} {a : Nat} (ha : 64 ≤ a ∧ a < 75) {r : Nat → Int} {T : Int} (hI : gtIs m a r) (hT : gtOk T r) {v : Int} (hv0 : 0 ≤ v ∧ v < r 1) : CT G l yX0_removeVisitor cX0_removeVisitor 3 (some .int) (RM 0 0 0) [.ref a, vI v] m (fun r' m' => r' = some (vI (r 1 - 1)) ∧ gtFr m m' a ∧ gtIs m' a (rmV r v.toNat)) (fun _ _ => False) := by
  refine CT.of RX0 [(0, .ref a), (1, vI v)] hfl (by decide +kernel) rfl rfl (Nat.le_of_ble_eq_true rfl) ?_
  intro E ok en hml hEl htab
  have hR : e_R E = RM 0 0 0 := en.2.2.2
  have hn0 : 0 < (e_c E).maxLocals := by rw [hml]; decide
  have hn1 : 1 < (e_c E).maxLocals := by rw [hml]; decide
  have hn2 : 2 < (e_c E).maxLocals := by rw [hml]; decide
  obtain ⟨e1, e4, hv, hgs⟩ := id hI
  obtain ⟨b0, b1, hvb, hgb⟩ := id hT
  have loop : ∀ (i : Int) (M : Mm), (v ≤ i ∧ i ≤ r 1 - 1 ∧ aFr m M a ∧ M.1 a 1 = r 0 ∧ M.1 a 4 = r 1 - 1 ∧ (∀ u : Nat, (u : Int) < r 1 → M.1 (a + 128) u = (if v.toNat ≤ u ∧ (u : Int) < i then vX r (u + 1) else vX r u) ∧ M.1 (a + 192) u = (if v.toNat ≤ u ∧ (u : Int) < i then vF r (u + 1) else vF r u))) → WA G E 0 0 12 [(2, vI i), (0, .ref a), (1, vI v)] [] M := by
    refine wl2 _ (fun i _ => (r 1 - i).toNat) _ ?_
    intro i M hi ih
    obtain ⟨i0, i1, haf, f1, f4, hall⟩ := hi
    refine ga_iload_n ok 2 rfl rfl dX0_removeVisitor_12 ?_
    refine ga_aload_n ok 0 rfl rfl dX0_removeVisitor_13 ?_
    refine gf_X0_29 ok hG (by omega) dX0_removeVisitor_14 ?_
    try rw [f4]
    refine ga_icmp_ge ok 54 (by decide) (by omega) (by omega) dX0_removeVisitor_17 (fun c_17 => ?_) (fun c_17 => ?_)
    · refine ga_aload_n ok 0 rfl rfl dX0_removeVisitor_54 ?_
      refine gf_X0_29 ok hG (by omega) dX0_removeVisitor_55 ?_
      try rw [f4]
      exact ga_ireturn ok en rfl rfl (by decide) (by decide) dX0_removeVisitor_58 ⟨rfl, haf.gt, by
  have e0 : rmV r v.toNat 0 = r 0 := by unfold rmV; rw [if_neg (by omega), if_neg (by omega)]
  refine ⟨by rw [e0]; exact f1, by rw [f4]; rfl, fun u hu => ?_, fun j hj => ?_⟩
  · have hu : (u : Int) < r 1 - 1 := hu
    rw [(v_rmV).1, (v_rmV).2, (hall u (by omega)).1, (hall u (by omega)).2, show i = r 1 - 1 by omega]
    exact ⟨rfl, rfl⟩
  · rw [e0] at hj
    exact ((hgs j hj).afr haf (by omega) ha).cong (fun k hk => rg_rmV (by omega))⟩
    · have hq := hall (i + 1).toNat (by omega)
      rw [if_neg (by omega), if_neg (by omega), show (i + 1).toNat = i.toNat + 1 by omega] at hq
      obtain ⟨hq1, hq2⟩ := hq
      have hb := (hvb (i.toNat + 1) (by omega)).2
      refine ga_aload_n ok 0 rfl rfl dX0_removeVisitor_20 ?_
      refine gf_X0_21 ok hG (by omega) dX0_removeVisitor_21 ?_
      refine ga_iload_n ok 2 rfl rfl dX0_removeVisitor_24 ?_
      refine ga_aload_n ok 0 rfl rfl dX0_removeVisitor_25 ?_
      refine gf_X0_21 ok hG (by omega) dX0_removeVisitor_26 ?_
      refine ga_iload_n ok 2 rfl rfl dX0_removeVisitor_29 ?_
      refine ga_iconst ok dX0_removeVisitor_30 ?_
      refine ga_iadd ok dX0_removeVisitor_31 ?_
      refine ga_iaload_ia ok (ar_se hG (by omega)) (by omega) dX0_removeVisitor_32 ?_
      rw [show (i + 1).toNat = i.toNat + 1 by omega, hq1]
      refine ga_iastore_ia ok (ar_se hG (by omega)) (by omega) dX0_removeVisitor_33 ?_
      refine ga_aload_n ok 0 rfl rfl dX0_removeVisitor_34 ?_
      refine gf_X0_25 ok hG (by omega) dX0_removeVisitor_35 ?_
      refine ga_iload_n ok 2 rfl rfl dX0_removeVisitor_38 ?_
      refine ga_aload_n ok 0 rfl rfl dX0_removeVisitor_39 ?_
      refine gf_X0_25 ok hG (by omega) dX0_removeVisitor_40 ?_
      refine ga_iload_n ok 2 rfl rfl dX0_removeVisitor_43 ?_
      refine ga_iconst ok dX0_removeVisitor_44 ?_
      refine ga_iadd ok dX0_removeVisitor_45 ?_
      refine ga_baload_za ok (ar_fr hG (by omega)) (by omega) dX0_removeVisitor_46 ?_
      rw [show (i + 1).toNat = i.toNat + 1 by omega, upI_r (by omega), hq2]
      refine ga_bastore_za ok (ar_fr hG (by omega)) (by omega) (nar01 hb) dX0_removeVisitor_47 ?_
      refine ga_iinc ok rfl hn2 dX0_removeVisitor_48 ?_
      refine ga_goto ok 12 (by decide) dX0_removeVisitor_51 ?_
      exact WA.re (by exact ⟨rfl, rfl, rfl, trivial⟩) (ih (i + 1) _ ⟨by omega, by omega, (haf.uI (Or.inr (Or.inl rfl))).uI (Or.inr (Or.inr rfl)), by rw [upI_r (by omega), upI_r (by omega)]; exact f1, by rw [upI_r (by omega), upI_r (by omega)]; exact f4, fun u hu => by
        by_cases e : u = i.toNat
        · subst e
          rw [if_pos ⟨by omega, by omega⟩, if_pos ⟨by omega, by omega⟩, upI_r (by omega), upI_at, upI_at]
          exact ⟨rfl, rfl⟩
        · rw [upI_r (by omega), upI_no (by omega), upI_no (by omega), upI_r (by omega), (hall u hu).1, (hall u hu).2]
          have e3 : (v.toNat ≤ u ∧ (u : Int) < i + 1) ↔ (v.toNat ≤ u ∧ (u : Int) < i) := by omega
          simp only [e3]
          exact ⟨trivial, trivial⟩⟩ (by omega))
  refine ga_aload_n ok 0 rfl rfl dX0_removeVisitor_0 ?_
  refine ga_dup ok dX0_removeVisitor_1 rfl ?_
  refine gf_X0_29 ok hG (by omega) dX0_removeVisitor_2 ?_
  try rw [e4]
  refine ga_iconst ok dX0_removeVisitor_5 ?_
  refine ga_isub ok dX0_removeVisitor_6 ?_
  refine gp_X0_29 ok hG (by omega) dX0_removeVisitor_7 ?_
  refine ga_iload_n ok 1 rfl rfl dX0_removeVisitor_10 ?_
  refine ga_istore_n ok 2 rfl hn2 dX0_removeVisitor_11 ?_
  exact WA.re (by exact ⟨rfl, rfl, rfl, trivial⟩) (loop v _ ⟨by omega, by omega, aFr.rf.uI (Or.inl rfl), by rw [upI_no (by omega)]; exact e1, by rw [upI_at], fun u hu => by rw [upI_r (by omega), upI_r (by omega), if_neg (by omega), if_neg (by omega)]; exact hv u hu⟩)
set_option maxHeartbeats 4000000 in
set_option maxRecDepth 100000 in
theorem c_X0_copyFrom {G : GG} {l : Launch} (hfl : l.stackTraces = false) (hG : MW G) {m : Mm} {a : Nat} (ha : 64 ≤ a ∧ a < 75) {b : Nat} (hb : 64 ≤ b ∧ b < 75) (hne : a ≠ b) {r : Nat → Int} {T : Int} (hI : gtIs m b r) (hT : gtOk T r) : CT G l yX0_copyFrom cX0_copyFrom 3 none (RM 1 0 0) [.ref a, .ref b] m (fun r' m' => r' = none ∧ gtFr m m' a ∧ gtIs m' a r) (fun _ _ => False) := by
  refine CT.of RX0 [(0, .ref a), (1, .ref b)] hfl (by decide +kernel) rfl rfl (Nat.le_of_ble_eq_true rfl) ?_
  intro E ok en hml hEl htab
  have hR : e_R E = RM 1 0 0 := en.2.2.2
  have hn0 : 0 < (e_c E).maxLocals := by rw [hml]; decide
  have hn1 : 1 < (e_c E).maxLocals := by rw [hml]; decide
  have hn2 : 2 < (e_c E).maxLocals := by rw [hml]; decide
  obtain ⟨b0, b1, hvb, hgb⟩ := id hT
  have loop2 : ∀ (i : Int) (M : Mm), (0 ≤ i ∧ i ≤ r 1 ∧ gtFr m M a ∧ M.1 a 1 = r 0 ∧ M.1 a 4 = r 1 ∧ (∀ j : Nat, (j : Int) < r 0 → gIs M (320 + 4 * (a + 64 - 128) + j) (rg r j)) ∧ (∀ v : Nat, (v : Int) < i → M.1 (a + 128) v = vX r v ∧ M.1 (a + 192) v = vF r v)) → WA G E 0 0 49 [(2, vI i), (0, .ref a), (1, .ref b)] [] M := by
    refine wl2 _ (fun i _ => (r 1 - i).toNat) _ ?_
    intro i M hi ih
    obtain ⟨i0, i1, hfr, f1, f4, hall, hvs⟩ := hi
    obtain ⟨e1, e4, hv, hgs⟩ := hI.fr hfr ha hb hne b0.2
    refine ga_iload_n ok 2 rfl rfl dX0_copyFrom_49 ?_
    refine ga_aload_n ok 0 rfl rfl dX0_copyFrom_50 ?_
    refine gf_X0_29 ok hG (by omega) dX0_copyFrom_51 ?_
    try rw [f4]
    refine ga_icmp_ge ok 87 (by decide) (by omega) (by omega) dX0_copyFrom_54 (fun c_54 => ?_) (fun c_54 => ?_)
    · exact ga_return ok en rfl (by decide) (by decide) dX0_copyFrom_87 ⟨rfl, hfr, f1, f4, fun v hv9 => hvs v (by omega), hall⟩
    · have hbf := (hvb i.toNat (by omega)).2
      refine ga_aload_n ok 0 rfl rfl dX0_copyFrom_57 ?_
      refine gf_X0_21 ok hG (by omega) dX0_copyFrom_58 ?_
      refine ga_iload_n ok 2 rfl rfl dX0_copyFrom_61 ?_
      refine ga_aload_n ok 1 rfl rfl dX0_copyFrom_62 ?_
      refine gf_X0_21 ok hG (by omega) dX0_copyFrom_63 ?_
      refine ga_iload_n ok 2 rfl rfl dX0_copyFrom_66 ?_
      refine ga_iaload_ia ok (ar_se hG (by omega)) (by omega) dX0_copyFrom_67 ?_
      rw [(hv i.toNat (by omega)).1]
      refine ga_iastore_ia ok (ar_se hG (by omega)) (by omega) dX0_copyFrom_68 ?_
      refine ga_aload_n ok 0 rfl rfl dX0_copyFrom_69 ?_
      refine gf_X0_25 ok hG (by omega) dX0_copyFrom_70 ?_
      refine ga_iload_n ok 2 rfl rfl dX0_copyFrom_73 ?_
      refine ga_aload_n ok 1 rfl rfl dX0_copyFrom_74 ?_
      refine gf_X0_25 ok hG (by omega) dX0_copyFrom_75 ?_
      refine ga_iload_n ok 2 rfl rfl dX0_copyFrom_78 ?_
      refine ga_baload_za ok (ar_fr hG (by omega)) (by omega) dX0_copyFrom_79 ?_
      rw [upI_r (by omega), (hv i.toNat (by omega)).2]
      refine ga_bastore_za ok (ar_fr hG (by omega)) (by omega) (nar01 hbf) dX0_copyFrom_80 ?_
      refine ga_iinc ok rfl hn2 dX0_copyFrom_81 ?_
      refine ga_goto ok 49 (by decide) dX0_copyFrom_84 ?_
      exact WA.re (by exact ⟨rfl, rfl, rfl, trivial⟩) (ih (i + 1) _ ⟨by omega, by omega, (hfr.uI (Or.inr (Or.inl rfl))).uI (Or.inr (Or.inr rfl)), by rw [upI_r (by omega), upI_r (by omega)]; exact f1, by rw [upI_r (by omega), upI_r (by omega)]; exact f4, fun j hj => (hall j hj).afr ((aFr.rf.uI (Or.inr (Or.inl rfl))).uI (Or.inr (Or.inr rfl))) (by omega) ha, fun u hu => by
        by_cases e : u = i.toNat
        · subst e
          rw [upI_r (by omega), upI_at, upI_at]
          exact ⟨rfl, rfl⟩
        · rw [upI_r (by omega), upI_no (by omega), upI_no (by omega), upI_r (by omega)]
          exact hvs u (by omega)⟩ (by omega))
  have loop1 : ∀ (i : Int) (M : Mm), (0 ≤ i ∧ i ≤ r 0 ∧ gtFr m M a ∧ M.1 a 1 = r 0 ∧ (∀ j : Nat, (j : Int) < i → gIs M (320 + 4 * (a + 64 - 128) + j) (rg r j))) → WA G E 0 0 10 [(2, vI i), (0, .ref a), (1, .ref b)] [] M := by
    refine wl2 _ (fun i _ => (r 0 - i).toNat) _ ?_
    intro i M hi ih
    obtain ⟨i0, i1, hfr, f1, hall⟩ := hi
    obtain ⟨e1, e4, hv, hgs⟩ := hI.fr hfr ha hb hne b0.2
    refine ga_iload_n ok 2 rfl rfl dX0_copyFrom_10 ?_
    refine ga_aload_n ok 0 rfl rfl dX0_copyFrom_11 ?_
    refine gf_X0_17 ok hG (by omega) dX0_copyFrom_12 ?_
    try rw [f1]
    refine ga_icmp_ge ok 39 (by decide) (by omega) (by omega) dX0_copyFrom_15 (fun c_15 => ?_) (fun c_15 => ?_)
    · refine ga_aload_n ok 0 rfl rfl dX0_copyFrom_39 ?_
      refine ga_aload_n ok 1 rfl rfl dX0_copyFrom_40 ?_
      refine gf_X0_29 ok hG (by omega) dX0_copyFrom_41 ?_
      try rw [e4]
      refine gp_X0_29 ok hG (by omega) dX0_copyFrom_44 ?_
      refine ga_iconst ok dX0_copyFrom_47 ?_
      refine ga_istore_n ok 2 rfl hn2 dX0_copyFrom_48 ?_
      exact WA.re (by exact ⟨rfl, rfl, rfl, trivial⟩) (loop2 0 _ ⟨by omega, by omega, hfr.uI (Or.inl rfl), by rw [upI_no (by omega)]; exact f1, by rw [upI_at], fun j hj => (hall j (by omega)).afr (aFr.rf.uI (Or.inl rfl)) (by omega) ha, fun v hv9 => by omega⟩)
    · refine ga_aload_n ok 0 rfl rfl dX0_copyFrom_18 ?_
      refine gf_X0_11 ok hG (by omega) dX0_copyFrom_19 ?_
      refine ga_iload_n ok 2 rfl rfl dX0_copyFrom_22 ?_
      refine ga_aaload_qa ok (ar_ga hG (by omega)) (by omega) dX0_copyFrom_23 ?_
      refine ga_aload_n ok 1 rfl rfl dX0_copyFrom_24 ?_
      refine gf_X0_11 ok hG (by omega) dX0_copyFrom_25 ?_
      refine ga_iload_n ok 2 rfl rfl dX0_copyFrom_28 ?_
      refine ga_aaload_qa ok (ar_ga hG (by omega)) (by omega) dX0_copyFrom_29 ?_
      refine gc_X1_1 ok hG (by omega) lk_X0_33 rfl (c_X1_copyFrom ok.fl hG (by omega) (by omega) (by omega) (hgs i.toNat (by omega))) (by rw [hR]; exact ⟨by decide, by decide, by decide, by decide⟩) (Nat.le_of_ble_eq_true rfl) dX0_copyFrom_30 (fun r9 M2 hq => ?_) (fun _ _ h => h.elim)
      obtain ⟨rfl, q1, q2⟩ := hq
      simp only [Option.toList_none, List.nil_append]
      refine ga_iinc ok rfl hn2 dX0_copyFrom_33 ?_
      refine ga_goto ok 10 (by decide) dX0_copyFrom_36 ?_
      exact WA.re (by exact ⟨rfl, rfl, rfl, trivial⟩) (ih (i + 1) M2 ⟨by omega, by omega, hfr.tr (gtFr.of ha.1 (by omega) q1), by rw [(q1 a (by omega) (by omega) (by omega) (by omega)).1]; exact f1, fun j hj => by
        by_cases e : j = i.toNat
        · subst e; exact q2
        · exact (hall j (by omega)).fr q1 (by omega) (by omega) (by omega)⟩ (by omega))
  refine ga_aload_n ok 0 rfl rfl dX0_copyFrom_0 ?_
  refine ga_aload_n ok 1 rfl rfl dX0_copyFrom_1 ?_
  refine gf_X0_17 ok hG (by omega) dX0_copyFrom_2 ?_
  rw [hI.1]
  refine gp_X0_17 ok hG (by omega) dX0_copyFrom_5 ?_
  refine ga_iconst ok dX0_copyFrom_8 ?_
  refine ga_istore_n ok 2 rfl hn2 dX0_copyFrom_9 ?_
  exact WA.re (by exact ⟨rfl, rfl, rfl, trivial⟩) (loop1 0 _ ⟨by omega, by omega, gtFr.rf.uI (Or.inl rfl), by rw [upI_at], fun j hj => by omega⟩)
set_option maxHeartbeats 4000000 in
set_option maxRecDepth 100000 in
theorem c_X0_liveDays {G : GG} {l : Launch} (hfl : l.stackTraces = false) (hG : MW G) {m : Mm} {a : Nat} (ha : 64 ≤ a ∧ a < 75) {r : Nat → Int} {T : Int} (hI : gtIs m a r) (hT : gtOk T r) {g : Nat} (hg : 320 ≤ g ∧ g < 365) {S : Nat → Int} (hS : gIs m g S) {TS : Int} (hTS : gOk TS S) {most : Int} (hmo : 0 ≤ most ∧ most ≤ 1000000) : CT G l yX0_liveDays cX0_liveDays 7 (some .int) (RM 2 0 0) [.ref a, .ref g, vI most] m (fun r' m' => gFr m m' g ∧ match dRun (vX r) (vF r) (r 1).toNat most.toNat S 0 with | some (d, S') => r' = some (vI d) ∧ gIs m' g S' | none => r' = some (vI (-1))) (fun _ _ => False) := by
  refine CT.of RX0 [(0, .ref a), (1, .ref g), (2, vI most)] hfl (by decide +kernel) rfl rfl (Nat.le_of_ble_eq_true rfl) ?_
  intro E ok en hml hEl htab
  have hR : e_R E = RM 2 0 0 := en.2.2.2
  have hn0 : 0 < (e_c E).maxLocals := by rw [hml]; decide
  have hn1 : 1 < (e_c E).maxLocals := by rw [hml]; decide
  have hn2 : 2 < (e_c E).maxLocals := by rw [hml]; decide
  have hn3 : 3 < (e_c E).maxLocals := by rw [hml]; decide
  have hn4 : 4 < (e_c E).maxLocals := by rw [hml]; decide
  have hn5 : 5 < (e_c E).maxLocals := by rw [hml]; decide
  have hn6 : 6 < (e_c E).maxLocals := by rw [hml]; decide
  obtain ⟨e1, e4, hv, hgs⟩ := id hI
  obtain ⟨b0, b1, hvb, hgb⟩ := id hT
  have keep : ∀ M : Mm, gFr m M g → M.1 a = m.1 a ∧ M.1 (a + 128) = m.1 (a + 128) ∧ M.1 (a + 192) = m.1 (a + 192) := fun M h => ⟨(h a (by omega) (by omega) (by omega) (by omega)).1, (h _ (by omega) (by omega) (by omega) (by omega)).1, (h _ (by omega) (by omega) (by omega) (by omega)).1⟩
  have outer : ∀ (d : Int) (S1 : Nat → Int) (M : Mm), (1 ≤ d ∧ d ≤ most + 1 ∧ gFr m M g ∧ gIs M g S1 ∧ gOk (TS + 13 * (d - 1)) S1 ∧ dRun (vX r) (vF r) (r 1).toNat most.toNat S 0 = dRun (vX r) (vF r) (r 1).toNat (most - (d - 1)).toNat S1 (d - 1)) → WA G E 0 0 2 [(3, vI d), (0, .ref a), (1, .ref g), (2, vI most)] [] M := by
    refine wl3 _ (fun d _ _ => (most + 1 - d).toNat) _ ?_
    intro d S1 M hi ih
    obtain ⟨i0, i1, hfr, hM, hMk, hrun⟩ := hi
    refine ga_iload_n ok 3 rfl rfl dX0_liveDays_2 ?_
    refine ga_iload_n ok 2 rfl rfl dX0_liveDays_3 ?_
    refine ga_icmp_gt ok 82 (by decide) (by omega) (by omega) dX0_liveDays_4 (fun c_4 => ?_) (fun c_4 => ?_)
    · refine ga_iload_n ok 2 rfl rfl dX0_liveDays_82 ?_
      exact ga_ireturn ok en rfl rfl (by decide) (by decide) dX0_liveDays_83 ⟨hfr, by rw [hrun, show (most - (d - 1)).toNat = 0 by omega]; exact ⟨congrArg (fun z => some (vI z)) (by omega), hM⟩⟩
    · refine ga_iconst ok dX0_liveDays_7 ?_
      refine ga_istore ok hn4 dX0_liveDays_8 ?_
      refine ga_iconst ok dX0_liveDays_10 ?_
      refine ga_istore ok hn5 dX0_liveDays_11 ?_
      have hr1 : (most - (d - 1)).toNat = (most - d).toNat + 1 := by omega
      rw [hr1, dRun] at hrun
      have inner : ∀ (v : Int) (p : Int) (M2 : Mm), (0 ≤ v ∧ v ≤ r 1 ∧ gFr m M2 g ∧ gIs M2 g (lpS S1 (vX r) (vF r) v.toNat) ∧ p = lpC S1 (vX r) (vF r) v.toNat ∧ lpOK S1 (vX r) (vF r) v.toNat = true) → WA G E 0 0 13 [(5, vI v), (4, vI p), (3, vI d), (0, .ref a), (1, .ref g), (2, vI most)] [] M2 := by
        refine wl3 _ (fun v _ _ => (r 1 - v).toNat) _ ?_
        intro v p M2 hi2 ih2
        obtain ⟨v0, v1, hfr2, hM2, hp, hok⟩ := hi2
        obtain ⟨k1, k2, k3⟩ := keep M2 hfr2
        have hMk2 := gOk_lp hMk v.toNat hok
        have hp9 := lpC_bd (S := S1) (X := vX r) (F := vF r) v.toNat
        refine ga_iload ok rfl dX0_liveDays_13 ?_
        refine ga_aload_n ok 0 rfl rfl dX0_liveDays_15 ?_
        refine gf_X0_29 ok hG (by omega) dX0_liveDays_16 ?_
        rw [k1, e4]
        refine ga_icmp_ge ok 63 (by decide) (by omega) (by omega) dX0_liveDays_19 (fun c_19 => ?_) (fun c_19 => ?_)
        · refine ga_aload_n ok 1 rfl rfl dX0_liveDays_63 ?_
          refine ga_iload ok rfl dX0_liveDays_64 ?_
          refine gc_X1_1 ok hG (by omega) lk_X0_76 rfl (c_X1_endDay ok.fl hG hg hM2 hMk2) (by rw [hR]; exact ⟨by decide, by decide, by decide, by decide⟩) (Nat.le_of_ble_eq_true rfl) dX0_liveDays_66 (fun r9 M3 hq => ?_) (fun _ _ h => h.elim)
          obtain ⟨rfl, q1, q2⟩ := hq
          rw [show v = r 1 by omega] at hp hok q2 hMk2 hp9
          simp only [Option.toList_none, List.nil_append]
          rw [hok, if_pos rfl] at hrun
          have q2 : gIs M3 g (dS S1 (vX r) (vF r) (r 1).toNat) := by unfold dS; rw [← hp]; exact q2
          refine ga_iload ok rfl dX0_liveDays_69 ?_
          refine ga_if_ne ok 76 (by decide) (by omega) dX0_liveDays_71 (fun c_71 => ?_) (fun c_71 => ?_)
          · refine ga_iinc ok rfl hn3 dX0_liveDays_76 ?_
            refine ga_goto ok 2 (by decide) dX0_liveDays_79 ?_
            rw [if_neg (by omega)] at hrun
            exact WA.re (by exact ⟨rfl, rfl, rfl, rfl, trivial⟩) (ih (d + 1) _ M3 ⟨by omega, by omega, hfr2.tr q1, q2, (gOk_dS hMk hok).mono (by omega), by rw [hrun]; exact congr (congrArg (fun f => dRun (vX r) (vF r) (r 1).toNat f (dS S1 (vX r) (vF r) (r 1).toNat)) (by omega)) (by omega)⟩ (by omega))
          · refine ga_iload_n ok 3 rfl rfl dX0_liveDays_74 ?_
            exact ga_ireturn ok en rfl rfl (by decide) (by decide) dX0_liveDays_75 ⟨hfr2.tr q1, by rw [hrun, if_pos (by omega)]; exact ⟨congrArg (fun z => some (vI z)) (by omega), q2⟩⟩
        · have hq := hv v.toNat (by omega)
          have hqb := hvb v.toNat (by omega)
          refine ga_aload_n ok 1 rfl rfl dX0_liveDays_22 ?_
          refine ga_aload_n ok 0 rfl rfl dX0_liveDays_23 ?_
          refine gf_X0_21 ok hG (by omega) dX0_liveDays_24 ?_
          refine ga_iload ok rfl dX0_liveDays_27 ?_
          refine ga_iaload_ia ok (ar_se hG (by omega)) (by omega) dX0_liveDays_29 ?_
          refine ga_aload_n ok 0 rfl rfl dX0_liveDays_30 ?_
          refine gf_X0_25 ok hG (by omega) dX0_liveDays_31 ?_
          refine ga_iload ok rfl dX0_liveDays_34 ?_
          refine ga_baload_za ok (ar_fr hG (by omega)) (by omega) dX0_liveDays_36 ?_
          rw [k2, k3, hq.1, hq.2]
          refine gc_X1_2 ok hG (by omega) lk_X0_72 rfl (c_X1_learn ok.fl hG hg (by omega) hqb.2 hM2 hMk2) (by rw [hR]; exact ⟨by decide, by decide, by decide, by decide⟩) (Nat.le_of_ble_eq_true rfl) dX0_liveDays_37 (fun r9 M3 hq => ?_) (fun _ _ h => h.elim)
          have hb9 := b2i_01 (psS (lpS S1 (vX r) (vF r) v.toNat) (vX r v.toNat) (vF r v.toNat))
          obtain ⟨x9, hx9, hc9⟩ : ∃ x9 : Int, r9 = some (vI x9) ∧ ((x9 = -1 ∧ tOK (lpS S1 (vX r) (vF r) v.toNat) (vX r v.toNat) (vF r v.toNat) = false ∧ gFr m M3 g) ∨ (x9 = b2i (psS (lpS S1 (vX r) (vF r) v.toNat) (vX r v.toNat) (vF r v.toNat)) ∧ tOK (lpS S1 (vX r) (vF r) v.toNat) (vX r v.toNat) (vF r v.toNat) = true ∧ gFr m M3 g ∧ gIs M3 g (tS (lpS S1 (vX r) (vF r) v.toNat) (vX r v.toNat) (vF r v.toNat)))) := by
            rcases hq with ⟨q1, q2, q3, q4⟩ | ⟨q1, q2, q3⟩
            · exact ⟨_, q2, Or.inr ⟨rfl, q1, hfr2.tr q3, q4⟩⟩
            · subst q3; exact ⟨_, q2, Or.inl ⟨rfl, q1, hfr2⟩⟩
          subst hx9
          simp only [Option.toList_some, List.singleton_append]
          refine ga_istore ok hn6 dX0_liveDays_40 ?_
          refine ga_iload ok rfl dX0_liveDays_42 ?_
          refine ga_iconst ok dX0_liveDays_44 ?_
          refine ga_icmp_ne ok 50 (by decide) (by rcases hc9 with h | h <;> omega) (by omega) dX0_liveDays_45 (fun c_45 => ?_) (fun c_45 => ?_)
          · have hf9 : x9 = b2i (psS (lpS S1 (vX r) (vF r) v.toNat) (vX r v.toNat) (vF r v.toNat)) ∧ tOK (lpS S1 (vX r) (vF r) v.toNat) (vX r v.toNat) (vF r v.toNat) = true ∧ gFr m M3 g ∧ gIs M3 g (tS (lpS S1 (vX r) (vF r) v.toNat) (vX r v.toNat) (vF r v.toNat)) := by rcases hc9 with h | h; exact absurd h.1 (by omega); exact h
            refine ga_iload ok rfl dX0_liveDays_50 ?_
            refine ga_iload ok rfl dX0_liveDays_52 ?_
            refine ga_iadd ok dX0_liveDays_54 ?_
            refine ga_istore ok hn4 dX0_liveDays_55 ?_
            refine ga_iinc ok rfl hn5 dX0_liveDays_57 ?_
            refine ga_goto ok 13 (by decide) dX0_liveDays_60 ?_
            have hvn : (v + 1).toNat = v.toNat + 1 := by omega
            exact WA.re (by exact ⟨rfl, rfl, rfl, rfl, rfl, rfl, trivial⟩) (ih2 (v + 1) _ M3 ⟨by omega, by omega, hf9.2.2.1, by rw [hvn]; exact hf9.2.2.2, by rw [hvn, hp, hf9.1]; rfl, by rw [hvn]; simp only [lpOK]; rw [hok, hf9.2.1]; rfl⟩ (by omega))
          · have hf9 : tOK (lpS S1 (vX r) (vF r) v.toNat) (vX r v.toNat) (vF r v.toNat) = false ∧ gFr m M3 g := by rcases hc9 with h | h; exact ⟨h.2.1, h.2.2⟩; exact absurd h.1 (by omega)
            have hlp : lpOK S1 (vX r) (vF r) (r 1).toNat = false := lpOK_no (k := v.toNat + 1) (by simp only [lpOK]; rw [hok, hf9.1]; rfl) _ (by omega)
            rw [hlp] at hrun
            refine ga_iconst ok dX0_liveDays_48 ?_
            exact ga_ireturn ok en rfl rfl (by decide) (by decide) dX0_liveDays_49 ⟨hf9.2, by rw [hrun]; rfl⟩
      exact WA.re (by exact ⟨rfl, rfl, rfl, rfl, rfl, rfl, trivial⟩) (inner 0 0 M ⟨by omega, by omega, hfr, hM, rfl, rfl⟩)
  refine ga_iconst ok dX0_liveDays_0 ?_
  refine ga_istore_n ok 3 rfl hn3 dX0_liveDays_1 ?_
  exact WA.re (by exact ⟨rfl, rfl, rfl, rfl, trivial⟩) (outer 1 S m ⟨by omega, by omega, gFr.rf, hS, hTS.mono (by omega), by rw [show (most - (1 - 1)).toNat = most.toNat by omega]; rfl⟩)
