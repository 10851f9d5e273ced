/-! A GATE, in the reference's 134 numbers r: 0 guards, 1 visitors, 2+2v the set, 3+2v 1 for a friend, from 26+27j on the guard j -/
def zs (f : Nat → Int) : Nat → Int
  | 0 => 0
  | n + 1 => zs f n + f n
theorem zs_n {f : Nat → Int} {i : Int} (h : 0 ≤ i) : zs f (i + 1).toNat = zs f i.toNat + f i.toNat := by
  rw [show (i + 1).toNat = i.toNat + 1 by omega]; rfl
theorem zs_cong {f f' : Nat → Int} : ∀ n, (∀ k, k < n → f k = f' k) → zs f n = zs f' n
  | 0, _ => rfl
  | n + 1, h => by
    simp only [zs]
    rw [zs_cong n (fun k hk => h k (by omega)), h n (by omega)]
theorem zs_bd {f : Nat → Int} {c : Int} : ∀ n : Nat, (∀ k, k < n → 0 ≤ f k ∧ f k ≤ c) → 0 ≤ zs f n ∧ zs f n ≤ n * c
  | 0, _ => by simp [zs]
  | n + 1, h => by
    have h1 := zs_bd n (fun k hk => h k (by omega))
    have h2 := h n (by omega)
    simp only [zs]
    push_cast
    rw [Int.add_mul, Int.one_mul]
    omega
theorem zs_bd1 {f : Nat → Bool} (n : Nat) : 0 ≤ zs (fun k => b2i (f k)) n ∧ zs (fun k => b2i (f k)) n ≤ n := by
  have := zs_bd (f := fun k => b2i (f k)) (c := 1) n (fun k _ => b2i_01 _)
  omega
def rg (r : Nat → Int) (j : Nat) : Nat → Int := fun k => r (26 + 27 * j + k)
def vX (r : Nat → Int) : Nat → Int := fun v => r (2 + 2 * v)
def vF (r : Nat → Int) : Nat → Int := fun v => r (3 + 2 * v)
def gtIs (m : Mm) (a : Nat) (r : Nat → Int) : Prop :=
  m.1 a 1 = r 0 ∧ m.1 a 4 = r 1 ∧ (∀ v : Nat, (v : Int) < r 1 → m.1 (a + 128) v = vX r v ∧ m.1 (a + 192) v = vF r v) ∧ (∀ j : Nat, (j : Int) < r 0 → gIs m (320 + 4 * (a + 64 - 128) + j) (rg r j))
def gtOk (T : Int) (r : Nat → Int) : Prop :=
  (0 ≤ r 0 ∧ r 0 ≤ 4) ∧ (0 ≤ r 1 ∧ r 1 ≤ 12) ∧ (∀ v : Nat, (v : Int) < r 1 → (1 ≤ vX r v ∧ vX r v ≤ 1023) ∧ (vF r v = 0 ∨ vF r v = 1)) ∧ (∀ j : Nat, (j : Int) < r 0 → gOk T (rg r j))
/-- nothing but the gate a's own has changed -/
def gtFr (m m' : Mm) (a : Nat) : Prop := ∀ n, n ≠ a → n ≠ a + 128 → n ≠ a + 192 → ¬ (320 + 4 * (a - 64) ≤ n ∧ n < 324 + 4 * (a - 64)) → ¬ (384 + 4 * (a - 64) ≤ n ∧ n < 388 + 4 * (a - 64)) → ¬ (448 + 4 * (a - 64) ≤ n ∧ n < 452 + 4 * (a - 64)) → ¬ (512 + 4 * (a - 64) ≤ n ∧ n < 516 + 4 * (a - 64)) → m'.1 n = m.1 n ∧ m'.2 n = m.2 n
theorem gtFr.rf {m : Mm} {a : Nat} : gtFr m m a := fun _ _ _ _ _ _ _ _ => ⟨rfl, rfl⟩
theorem gtFr.tr {m m1 m2 : Mm} {a : Nat} (h1 : gtFr m m1 a) (h2 : gtFr m1 m2 a) : gtFr m m2 a := fun n q1 q2 q3 q4 q5 q6 q7 => ⟨((h2 n q1 q2 q3 q4 q5 q6 q7).1).trans (h1 n q1 q2 q3 q4 q5 q6 q7).1, ((h2 n q1 q2 q3 q4 q5 q6 q7).2).trans (h1 n q1 q2 q3 q4 q5 q6 q7).2⟩
theorem gtFr.of {m m' : Mm} {a j : Nat} (ha : 64 ≤ a) (hj : j < 4) (h : gFr m m' (320 + 4 * (a + 64 - 128) + j)) : gtFr m m' a := fun n q1 q2 q3 q4 q5 q6 q7 => h n (by omega) (by omega) (by omega) (by omega)
theorem gtFr.uI {m m' : Mm} {a n i : Nat} {v : Int} (h : gtFr m m' a) (hn : n = a ∨ n = a + 128 ∨ n = a + 192) : gtFr m (upI m' n i v) a := fun k q1 q2 q3 q4 q5 q6 q7 => by
  obtain ⟨e1, e2⟩ := h k q1 q2 q3 q4 q5 q6 q7
  exact ⟨by rw [upI_r (by omega)]; exact e1, e2⟩
/-- a guard stands as it was when nothing of its own has changed -/
theorem gIs.kept {m m' : Mm} {g : Nat} {S : Nat → Int} (h : gIs m g S) (h0 : m'.1 g = m.1 g) (h1 : m'.1 (g + 128) = m.1 (g + 128)) (h2 : m'.2 (g + 64) = m.2 (g + 64)) (h3 : m'.2 (g + 192) = m.2 (g + 192)) : gIs m' g S := by
  obtain ⟨a0, a1, a5, a6, a7, a8, aw, as⟩ := h
  exact ⟨by rw [h0]; exact a0, by rw [h0]; exact a1, by rw [h0]; exact a5, by rw [h0]; exact a6, by rw [h0]; exact a7, by rw [h0]; exact a8, fun i hi => by rw [h1, h2]; exact aw i hi, fun i hi => by rw [h3]; exact as i hi⟩
theorem gIs.fr {m m' : Mm} {g g' : Nat} {S : Nat → Int} (h : gIs m g S) (hf : gFr m m' g') (hg : 320 ≤ g ∧ g < 365) (hg' : 320 ≤ g' ∧ g' < 365) (hne : g ≠ g') : gIs m' g S :=
  h.kept (hf g (by omega) (by omega) (by omega) (by omega)).1 (hf (g + 128) (by omega) (by omega) (by omega) (by omega)).1 (hf (g + 64) (by omega) (by omega) (by omega) (by omega)).2 (hf (g + 192) (by omega) (by omega) (by omega) (by omega)).2
theorem gIs.cong {m : Mm} {g : Nat} {S S' : Nat → Int} (h : gIs m g S) (he : ∀ j, j < 27 → S' j = S j) : gIs m g S' := by
  obtain ⟨a0, a1, a5, a6, a7, a8, aw, as⟩ := h
  exact ⟨by rw [he 0 (by omega)]; exact a0, by rw [he 1 (by omega)]; exact a1, by rw [he 2 (by omega)]; exact a5, by rw [he 3 (by omega)]; exact a6, by rw [he 4 (by omega)]; exact a7, by rw [he 5 (by omega)]; exact a8, fun i hi => by rw [he _ (by omega)]; exact aw i hi, fun i hi => by rw [he _ (by omega)]; exact as i hi⟩
theorem gOk.cong {T : Int} {S S' : Nat → Int} (h : gOk T S) (he : ∀ j, j < 27 → S' j = S j) : gOk T S' := by
  obtain ⟨h0, h1, h2, h3, h4⟩ := h
  exact ⟨by rw [he 0 (by omega)]; exact h0, by rw [he 1 (by omega)]; exact h1, fun j a b => by rw [he j (by omega)]; exact h2 j a b, fun i hi => by rw [he _ (by omega)]; exact h3 i hi, fun i hi => by rw [he _ (by omega)]; exact h4 i hi⟩
theorem gOk.mono {T T' : Int} {S : Nat → Int} (h : gOk T S) (ht : T ≤ T') : gOk T' S := ⟨h.1, h.2.1, fun j a b => ⟨(h.2.2.1 j a b).1, Int.le_trans (h.2.2.1 j a b).2 ht⟩, h.2.2.2⟩
theorem gtOk.mono {T T' : Int} {r : Nat → Int} (h : gtOk T r) (ht : T ≤ T') : gtOk T' r := ⟨h.1, h.2.1, h.2.2.1, fun j hj => (h.2.2.2 j hj).mono ht⟩
def erB (r : Nat → Int) (g v : Nat) : Bool := decide (b2i (adm (gcn (rg r g)) (vX r v)) ≠ vF r v)
def ofG (r : Nat → Int) (g : Nat) : Int := zs (fun v => b2i (erB r g v)) (r 1).toNat
def ofV (r : Nat → Int) (v : Nat) : Int := zs (fun g => b2i (erB r g v)) (r 0).toNat
def vts (r : Nat → Int) (x : Int) : Int := zs (fun g => b2i (adm (gcn (rg r g)) x)) (r 0).toNat
def vin (r : Nat → Int) (x : Int) : Bool := decide (r 0 - vts r x < vts r x)
def ahB (r : Nat → Int) (one other : Nat) : Bool := decide (ofG r one - ofG r other < 0 ∨ (ofG r one - ofG r other = 0 ∧ (rg r one 3 - rg r other 3 < 0 ∨ (rg r one 3 - rg r other 3 = 0 ∧ one < other))))
def aheadOf (r : Nat → Int) (g : Nat) : Int := zs (fun o => b2i (ahB r o g)) (r 0).toNat
def plc (r : Nat → Int) (v : Nat) : Int := zs (fun u => b2i (decide (vF r u = vF r v))) v
def cof (r : Nat → Int) (fr : Int) : Int := zs (fun u => b2i (decide (vF r u = fr))) (r 1).toNat
def kno (r : Nat → Int) (g v : Nat) : Int := if vF r v = 1 then mg (gcn (rg r g)) (vX r v) else - mg (gcn (rg r g)) (vX r v)
/-- the first of n visitors with this set, or -1 -/
def fnd (r : Nat → Int) (x : Int) : Nat → Int
  | 0 => -1
  | n + 1 => if fnd r x n = -1 then (if vX r n = x then n else -1) else fnd r x n
theorem fnd_no {r : Nat → Int} {x : Int} : ∀ {n : Nat}, (∀ v, v < n → vX r v ≠ x) → fnd r x n = -1
  | 0, _ => rfl
  | n + 1, h => by simp only [fnd]; rw [if_pos (fnd_no (fun v hv => h v (by omega))), if_neg (h n (by omega))]
theorem fnd_yes {r : Nat → Int} {x : Int} {v : Nat} (hx : vX r v = x) (hb : ∀ u, u < v → vX r u ≠ x) : ∀ n, v < n → fnd r x n = v := by
  intro n
  induction n with
  | zero => intro h; exact absurd h (Nat.not_lt_zero _)
  | succ n ih =>
    intro h
    simp only [fnd]
    rcases Nat.lt_or_ge v n with h1 | h1
    · rw [ih h1, if_neg (by omega)]
    · have : v = n := by omega
      subst this
      rw [if_pos (fnd_no hb), if_pos hx]
/-- a guard is added; a visitor; one is forgotten -/
def adG (r : Nat → Int) (rate : Int) : Nat → Int := fun k => if k = 0 then r 0 + 1 else if 26 + 27 * (r 0).toNat ≤ k ∧ k < 26 + 27 * ((r 0).toNat + 1) then nS rate (k - (26 + 27 * (r 0).toNat)) else r k
def adV (r : Nat → Int) (x fr : Int) : Nat → Int := fun k => if k = 1 then r 1 + 1 else if k = 2 + 2 * (r 1).toNat then x else if k = 3 + 2 * (r 1).toNat then fr else r k
def rmV (r : Nat → Int) (v : Nat) : Nat → Int := fun k => if k = 1 then r 1 - 1 else if 2 + 2 * v ≤ k ∧ k < 2 + 2 * ((r 1).toNat - 1) then r (k + 2) else r k
/-- the guard j has become S -/
def stG (r : Nat → Int) (j : Nat) (S : Nat → Int) : Nat → Int := fun k => if 26 + 27 * j ≤ k ∧ k < 53 + 27 * j then S (k - (26 + 27 * j)) else r k
theorem c2_X1_marginOf {G : GG} {l : Launch} (hfl : l.stackTraces = false) (hG : MW G) {m : Mm} {g : Nat} (hg : 320 ≤ g ∧ g < 365) {x : Int} (hx : 0 ≤ x ∧ x ≤ 1023) {S : Nat → Int} {T : Int} (hS : gIs m g S) (hT : gOk T S) : CT G l yX1_marginOf cX1_marginOf 4 (some .float) (RM 0 0 0) [.ref g, vI x] m (fun r m' => r = some (.float (fq (mg (gcn S) x))) ∧ m' = m) (fun _ _ => False) := by
  have h := c_X1_marginOf hfl hG hg hx hS.w (hS.c hT)
  rw [hS.mg] at h
  exact h
theorem c2_X1_countedMarginOf {G : GG} {l : Launch} (hfl : l.stackTraces = false) (hG : MW G) {m : Mm} {g : Nat} (hg : 320 ≤ g ∧ g < 365) {x : Int} (hx : 0 ≤ x ∧ x ≤ 1023) {S : Nat → Int} {T : Int} (hS : gIs m g S) (hT : gOk T S) : CT G l yX1_countedMarginOf cX1_countedMarginOf 4 (some .float) (RM 0 0 0) [.ref g, vI x] m (fun r m' => r = some (.float (fq (mg (gcn S) x))) ∧ m' = m) (fun _ _ => False) := by
  have h := c_X1_countedMarginOf hfl hG hg hx (hS.c hT)
  rw [hS.mg] at h
  exact h
theorem c2_X1_admits {G : GG} {l : Launch} (hfl : l.stackTraces = false) (hG : MW G) {m : Mm} {g : Nat} (hg : 320 ≤ g ∧ g < 365) {x : Int} (hx : 0 ≤ x ∧ x ≤ 1023) {S : Nat → Int} {T : Int} (hS : gIs m g S) (hT : gOk T S) : CT G l yX1_admits cX1_admits 2 (some .boolean) (RM 1 0 0) [.ref g, vI x] m (fun r m' => r = some (vI (b2i (adm (gcn S) x))) ∧ m' = m) (fun _ _ => False) := by
  have h := c_X1_admits hfl hG hg hx hS.w (hS.c hT)
  unfold adm at h ⊢
  rw [hS.mg] at h
  exact h
theorem ahd_cong {c d : Nat → Int} (b : Nat) : ∀ n, n ≤ 10 → b < 10 → (∀ i, i < 11 → c i = d i) → ahd c b n = ahd d b n
  | 0, _, _, _ => rfl
  | n + 1, hn, hb, h => by
    rw [ahd_s, ahd_s, ahd_cong b n (by omega) hb h, h (b + 1) (by omega), h (n + 1) (by omega)]
theorem c2_X1_strongerThan {G : GG} {l : Launch} (hfl : l.stackTraces = false) (hG : MW G) {m : Mm} {g : Nat} (hg : 320 ≤ g ∧ g < 365) {x : Int} (hx : 0 ≤ x ∧ x < 10) {S : Nat → Int} {T : Int} (hS : gIs m g S) (hT : gOk T S) : CT G l yX1_strongerThan cX1_strongerThan 6 (some .int) (RM 0 0 0) [.ref g, vI x] m (fun r m' => r = some (vI (ahd (gcn S) x.toNat 10)) ∧ m' = m) (fun _ _ => False) := by
  have h := c_X1_strongerThan hfl hG hg hx hS.w (hS.c hT)
  rw [ahd_cong x.toNat 10 (by omega) (by omega) (fun i hi => (hS.2.2.2.2.2.2.1 i hi).1)] at h
  exact h
set_option maxHeartbeats 4000000 in
set_option maxRecDepth 100000 in
theorem c_X0_hasGuard {G : GG} {l : Launch} (hfl : l.stackTraces = false) (hG : MW G) {m : Mm} {a : Nat} (ha : 64 ≤ a ∧ a < 75) {i : Int} (hi : -2147483648 ≤ i ∧ i ≤ 2147483647) (hk : 0 ≤ m.1 a 1 ∧ m.1 a 1 ≤ 12) : CT G l yX0_hasGuard cX0_hasGuard 2 (some .boolean) (RM 0 0 0) [.ref a, vI i] m (fun r' m' => r' = some (vI (b2i (decide (0 ≤ i ∧ i < m.1 a 1)))) ∧ m' = m) (fun _ _ => False) := by
  refine CT.of RX0 [(0, .ref a), (1, vI i)] hfl (by decide +kernel) rfl rfl (Nat.le_of_ble_eq_true rfl) ?_
  intro E ok en hml hEl htab
  have hR : e_R E = RM 0 0 0 := en.2.2.2
  have hn0 : 0 < (e_c E).maxLocals := by rw [hml]; decide
  have hn1 : 1 < (e_c E).maxLocals := by rw [hml]; decide
  refine ga_iload_n ok 1 rfl rfl dX0_hasGuard_0 ?_
  refine ga_if_lt ok 16 (by decide) (by omega) dX0_hasGuard_1 (fun c_1 => ?_) (fun c_1 => ?_)
  · refine ga_iconst ok dX0_hasGuard_16 ?_
    exact ga_ireturn ok en rfl (by decide) (by decide) (by decide) dX0_hasGuard_17 ⟨by (first | rw [decide_eq_true ⟨by omega, by omega⟩] | rw [decide_eq_false (fun h => by omega)]); rfl, rfl⟩
  · refine ga_iload_n ok 1 rfl rfl dX0_hasGuard_4 ?_
    refine ga_aload_n ok 0 rfl rfl dX0_hasGuard_5 ?_
    refine gf_X0_17 ok hG (by omega) dX0_hasGuard_6 ?_
    refine ga_icmp_ge ok 16 (by decide) (by omega) (by omega) dX0_hasGuard_9 (fun c_9 => ?_) (fun c_9 => ?_)
    · refine ga_iconst ok dX0_hasGuard_16 ?_
      exact ga_ireturn ok en rfl (by decide) (by decide) (by decide) dX0_hasGuard_17 ⟨by (first | rw [decide_eq_true ⟨by omega, by omega⟩] | rw [decide_eq_false (fun h => by omega)]); rfl, rfl⟩
    · refine ga_iconst ok dX0_hasGuard_12 ?_
      refine ga_goto ok 17 (by decide) dX0_hasGuard_13 ?_
      exact ga_ireturn ok en rfl (by decide) (by decide) (by decide) dX0_hasGuard_17 ⟨by (first | rw [decide_eq_true ⟨by omega, by omega⟩] | rw [decide_eq_false (fun h => by omega)]); rfl, rfl⟩
set_option maxHeartbeats 4000000 in
set_option maxRecDepth 100000 in
theorem c_X0_hasVisitor {G : GG} {l : Launch} (hfl : l.stackTraces = false) (hG : MW G) {m : Mm} {a : Nat} (ha : 64 ≤ a ∧ a < 75) {i : Int} (hi : -2147483648 ≤ i ∧ i ≤ 2147483647) (hk : 0 ≤ m.1 a 4 ∧ m.1 a 4 ≤ 12) : CT G l yX0_hasVisitor cX0_hasVisitor 2 (some .boolean) (RM 0 0 0) [.ref a, vI i] m (fun r' m' => r' = some (vI (b2i (decide (0 ≤ i ∧ i < m.1 a 4)))) ∧ m' = m) (fun _ _ => False) := by
  refine CT.of RX0 [(0, .ref a), (1, vI i)] hfl (by decide +kernel) rfl rfl (Nat.le_of_ble_eq_true rfl) ?_
  intro E ok en hml hEl htab
  have hR : e_R E = RM 0 0 0 := en.2.2.2
  have hn0 : 0 < (e_c E).maxLocals := by rw [hml]; decide
  have hn1 : 1 < (e_c E).maxLocals := by rw [hml]; decide
  refine ga_iload_n ok 1 rfl rfl dX0_hasVisitor_0 ?_
  refine ga_if_lt ok 16 (by decide) (by omega) dX0_hasVisitor_1 (fun c_1 => ?_) (fun c_1 => ?_)
  · refine ga_iconst ok dX0_hasVisitor_16 ?_
    exact ga_ireturn ok en rfl (by decide) (by decide) (by decide) dX0_hasVisitor_17 ⟨by (first | rw [decide_eq_true ⟨by omega, by omega⟩] | rw [decide_eq_false (fun h => by omega)]); rfl, rfl⟩
  · refine ga_iload_n ok 1 rfl rfl dX0_hasVisitor_4 ?_
    refine ga_aload_n ok 0 rfl rfl dX0_hasVisitor_5 ?_
    refine gf_X0_29 ok hG (by omega) dX0_hasVisitor_6 ?_
    refine ga_icmp_ge ok 16 (by decide) (by omega) (by omega) dX0_hasVisitor_9 (fun c_9 => ?_) (fun c_9 => ?_)
    · refine ga_iconst ok dX0_hasVisitor_16 ?_
      exact ga_ireturn ok en rfl (by decide) (by decide) (by decide) dX0_hasVisitor_17 ⟨by (first | rw [decide_eq_true ⟨by omega, by omega⟩] | rw [decide_eq_false (fun h => by omega)]); rfl, rfl⟩
    · refine ga_iconst ok dX0_hasVisitor_12 ?_
      refine ga_goto ok 17 (by decide) dX0_hasVisitor_13 ?_
      exact ga_ireturn ok en rfl (by decide) (by decide) (by decide) dX0_hasVisitor_17 ⟨by (first | rw [decide_eq_true ⟨by omega, by omega⟩] | rw [decide_eq_false (fun h => by omega)]); rfl, rfl⟩
set_option maxHeartbeats 4000000 in
set_option maxRecDepth 100000 in
theorem c_X0_placeAmongLike {G : GG} {l : Launch} (hfl : l.stackTraces = false) (hG : MW G) {m : Mm} {a : Nat} (ha : 64 ≤ a ∧ a < 75) {r : Nat → Int} {T : Int} (hI : gtIs m a r) (hT : gtOk T r) {v : Int} (hv0 : 0 ≤ v ∧ v < r 1) : CT G l yX0_placeAmongLike cX0_placeAmongLike 4 (some .int) (RM 0 0 0) [.ref a, vI v] m (fun r' m' => r' = some (vI (plc r v.toNat)) ∧ m' = m) (fun _ _ => False) := by
  refine CT.of RX0 [(0, .ref a), (1, vI v)] hfl (by decide +kernel) rfl rfl (Nat.le_of_ble_eq_true rfl) ?_
  intro E ok en hml hEl htab
  have hR : e_R E = RM 0 0 0 := en.2.2.2
  have hn0 : 0 < (e_c E).maxLocals := by rw [hml]; decide
  have hn1 : 1 < (e_c E).maxLocals := by rw [hml]; decide
  have hn2 : 2 < (e_c E).maxLocals := by rw [hml]; decide
  have hn3 : 3 < (e_c E).maxLocals := by rw [hml]; decide
  obtain ⟨e1, e4, hv, hgs⟩ := id hI
  obtain ⟨b0, b1, hvb, hgb⟩ := id hT
  have loop : ∀ i : Int, 0 ≤ i ∧ i ≤ v → WA G E 0 0 4 [(3, vI i), (2, vI (zs (fun u => b2i (decide (vF r u = vF r v.toNat))) i.toNat)), (0, .ref a), (1, vI v)] [] m := by
    refine wl1 _ (fun i => (v - i).toNat) _ ?_
    intro i hi ih
    have e9 := zs_n (f := fun u => b2i (decide (vF r u = vF r v.toNat))) hi.1
    refine ga_iload_n ok 3 rfl rfl dX0_placeAmongLike_4 ?_
    refine ga_iload_n ok 1 rfl rfl dX0_placeAmongLike_5 ?_
    refine ga_icmp_ge ok 33 (by decide) (by omega) (by omega) dX0_placeAmongLike_6 (fun c_6 => ?_) (fun c_6 => ?_)
    · refine ga_iload_n ok 2 rfl rfl dX0_placeAmongLike_33 ?_
      exact ga_ireturn ok en rfl rfl (by decide) (by decide) dX0_placeAmongLike_34 ⟨by rw [show i = v by omega]; rfl, rfl⟩
    · refine ga_aload_n ok 0 rfl rfl dX0_placeAmongLike_9 ?_
      refine gf_X0_25 ok hG (by omega) dX0_placeAmongLike_10 ?_
      refine ga_iload_n ok 3 rfl rfl dX0_placeAmongLike_13 ?_
      refine ga_baload_za ok (ar_fr hG (by omega)) (by omega) dX0_placeAmongLike_14 ?_
      rw [(hv i.toNat (by omega)).2]
      have hq1 := (hvb i.toNat (by omega)).2
      refine ga_aload_n ok 0 rfl rfl dX0_placeAmongLike_15 ?_
      refine gf_X0_25 ok hG (by omega) dX0_placeAmongLike_16 ?_
      refine ga_iload_n ok 1 rfl rfl dX0_placeAmongLike_19 ?_
      refine ga_baload_za ok (ar_fr hG (by omega)) (by omega) dX0_placeAmongLike_20 ?_
      rw [(hv v.toNat (by omega)).2]
      have hq2 := (hvb v.toNat (by omega)).2
      refine ga_icmp_ne ok 27 (by decide) (by omega) (by omega) dX0_placeAmongLike_21 (fun c_21 => ?_) (fun c_21 => ?_)
      · have hf : (fun u => b2i (decide (vF r u = vF r v.toNat))) i.toNat = 0 := b2i_0.mpr (decide_eq_false c_21)
        refine ga_iinc ok rfl hn3 dX0_placeAmongLike_27 ?_
        refine ga_goto ok 4 (by decide) dX0_placeAmongLike_30 ?_
        try dsimp only at hf
        rw [hf] at e9
        try rw [Int.add_zero] at e9
        exact WA.re (by exact ⟨rfl, (by rw [e9]; rfl), rfl, rfl, trivial⟩) (ih (i + 1) (by omega) (by omega))
      · have hf : (fun u => b2i (decide (vF r u = vF r v.toNat))) i.toNat = 1 := b2i_1.mpr (decide_eq_true c_21)
        refine ga_iinc ok rfl hn2 dX0_placeAmongLike_24 ?_
        refine ga_iinc ok rfl hn3 dX0_placeAmongLike_27 ?_
        refine ga_goto ok 4 (by decide) dX0_placeAmongLike_30 ?_
        try dsimp only at hf
        rw [hf] at e9
        try rw [Int.add_zero] at e9
        exact WA.re (by exact ⟨rfl, (by rw [e9]; rfl), rfl, rfl, trivial⟩) (ih (i + 1) (by omega) (by omega))
  refine ga_iconst ok dX0_placeAmongLike_0 ?_
  refine ga_istore_n ok 2 rfl hn2 dX0_placeAmongLike_1 ?_
  refine ga_iconst ok dX0_placeAmongLike_2 ?_
  refine ga_istore_n ok 3 rfl hn3 dX0_placeAmongLike_3 ?_
  exact WA.re (by exact ⟨rfl, rfl, rfl, rfl, trivial⟩) (loop 0 (by omega))
set_option maxHeartbeats 4000000 in
set_option maxRecDepth 100000 in
theorem c_X0_countOf {G : GG} {l : Launch} (hfl : l.stackTraces = false) (hG : MW G) {m : Mm} {a : Nat} (ha : 64 ≤ a ∧ a < 75) {r : Nat → Int} {T : Int} (hI : gtIs m a r) (hT : gtOk T r) {fr : Int} (hfr : fr = 0 ∨ fr = 1) : CT G l yX0_countOf cX0_countOf 4 (some .int) (RM 0 0 0) [.ref a, vI fr] m (fun r' m' => r' = some (vI (cof r fr)) ∧ m' = m) (fun _ _ => False) := by
  refine CT.of RX0 [(0, .ref a), (1, vI fr)] hfl (by decide +kernel) rfl rfl (Nat.le_of_ble_eq_true rfl) ?_
  intro E ok en hml hEl htab
  have hR : e_R E = RM 0 0 0 := en.2.2.2
  have hn0 : 0 < (e_c E).maxLocals := by rw [hml]; decide
  have hn1 : 1 < (e_c E).maxLocals := by rw [hml]; decide
  have hn2 : 2 < (e_c E).maxLocals := by rw [hml]; decide
  have hn3 : 3 < (e_c E).maxLocals := by rw [hml]; decide
  obtain ⟨e1, e4, hv, hgs⟩ := id hI
  obtain ⟨b0, b1, hvb, hgb⟩ := id hT
  have loop : ∀ i : Int, 0 ≤ i ∧ i ≤ r 1 → WA G E 0 0 4 [(3, vI i), (2, vI (zs (fun u => b2i (decide (vF r u = fr))) i.toNat)), (0, .ref a), (1, vI fr)] [] m := by
    refine wl1 _ (fun i => (r 1 - i).toNat) _ ?_
    intro i hi ih
    have e9 := zs_n (f := fun u => b2i (decide (vF r u = fr))) hi.1
    refine ga_iload_n ok 3 rfl rfl dX0_countOf_4 ?_
    refine ga_aload_n ok 0 rfl rfl dX0_countOf_5 ?_
    refine gf_X0_29 ok hG (by omega) dX0_countOf_6 ?_
    rw [e4]
    refine ga_icmp_ge ok 31 (by decide) (by omega) (by omega) dX0_countOf_9 (fun c_9 => ?_) (fun c_9 => ?_)
    · refine ga_iload_n ok 2 rfl rfl dX0_countOf_31 ?_
      exact ga_ireturn ok en rfl rfl (by decide) (by decide) dX0_countOf_32 ⟨by rw [show i = r 1 by omega]; rfl, rfl⟩
    · refine ga_aload_n ok 0 rfl rfl dX0_countOf_12 ?_
      refine gf_X0_25 ok hG (by omega) dX0_countOf_13 ?_
      refine ga_iload_n ok 3 rfl rfl dX0_countOf_16 ?_
      refine ga_baload_za ok (ar_fr hG (by omega)) (by omega) dX0_countOf_17 ?_
      rw [(hv i.toNat (by omega)).2]
      have hq1 := (hvb i.toNat (by omega)).2
      refine ga_iload_n ok 1 rfl rfl dX0_countOf_18 ?_
      refine ga_icmp_ne ok 25 (by decide) (by omega) (by omega) dX0_countOf_19 (fun c_19 => ?_) (fun c_19 => ?_)
      · have hf : (fun u => b2i (decide (vF r u = fr))) i.toNat = 0 := b2i_0.mpr (decide_eq_false c_19)
        refine ga_iinc ok rfl hn3 dX0_countOf_25 ?_
        refine ga_goto ok 4 (by decide) dX0_countOf_28 ?_
        try dsimp only at hf
        rw [hf] at e9
        try rw [Int.add_zero] at e9
        exact WA.re (by exact ⟨rfl, (by rw [e9]; rfl), rfl, rfl, trivial⟩) (ih (i + 1) (by omega) (by omega))
      · have hf : (fun u => b2i (decide (vF r u = fr))) i.toNat = 1 := b2i_1.mpr (decide_eq_true c_19)
        refine ga_iinc ok rfl hn2 dX0_countOf_22 ?_
        refine ga_iinc ok rfl hn3 dX0_countOf_25 ?_
        refine ga_goto ok 4 (by decide) dX0_countOf_28 ?_
        try dsimp only at hf
        rw [hf] at e9
        try rw [Int.add_zero] at e9
        exact WA.re (by exact ⟨rfl, (by rw [e9]; rfl), rfl, rfl, trivial⟩) (ih (i + 1) (by omega) (by omega))
  refine ga_iconst ok dX0_countOf_0 ?_
  refine ga_istore_n ok 2 rfl hn2 dX0_countOf_1 ?_
  refine ga_iconst ok dX0_countOf_2 ?_
  refine ga_istore_n ok 3 rfl hn3 dX0_countOf_3 ?_
  exact WA.re (by exact ⟨rfl, rfl, rfl, rfl, trivial⟩) (loop 0 (by omega))
set_option maxHeartbeats 4000000 in
set_option maxRecDepth 100000 in
theorem c_X0_isMistaken {G : GG} {l : Launch} (hfl : l.stackTraces = false) (hG : MW G) {m : Mm} {a : Nat} (ha : 64 ≤ a ∧ a < 75) {r : Nat → Int} {T : Int} (hI : gtIs m a r) (hT : gtOk T r) {g : Int} (hg0 : 0 ≤ g ∧ g < r 0) {v : Int} (hv0 : 0 ≤ v ∧ v < r 1) : CT G l yX0_isMistaken cX0_isMistaken 3 (some .boolean) (RM 2 0 0) [.ref a, vI g, vI v] m (fun r' m' => r' = some (vI (b2i (erB r g.toNat v.toNat))) ∧ m' = m) (fun _ _ => False) := by
  refine CT.of RX0 [(0, .ref a), (1, vI g), (2, vI v)] hfl (by decide +kernel) rfl rfl (Nat.le_of_ble_eq_true rfl) ?_
  intro E ok en hml hEl htab
  have hR : e_R E = RM 2 0 0 := en.2.2.2
  have hn0 : 0 < (e_c E).maxLocals := by rw [hml]; decide
  have hn1 : 1 < (e_c E).maxLocals := by rw [hml]; decide
  have hn2 : 2 < (e_c E).maxLocals := by rw [hml]; decide
  obtain ⟨e1, e4, hv, hgs⟩ := id hI
  obtain ⟨b0, b1, hvb, hgb⟩ := id hT
  refine ga_aload_n ok 0 rfl rfl dX0_isMistaken_0 ?_
  refine gf_X0_11 ok hG (by omega) dX0_isMistaken_1 ?_
  refine ga_iload_n ok 1 rfl rfl dX0_isMistaken_4 ?_
  refine ga_aaload_qa ok (ar_ga hG (by omega)) (by omega) dX0_isMistaken_5 ?_
  refine ga_aload_n ok 0 rfl rfl dX0_isMistaken_6 ?_
  refine gf_X0_21 ok hG (by omega) dX0_isMistaken_7 ?_
  refine ga_iload_n ok 2 rfl rfl dX0_isMistaken_10 ?_
  refine ga_iaload_ia ok (ar_se hG (by omega)) (by omega) dX0_isMistaken_11 ?_
  rw [(hv v.toNat (by omega)).1]
  refine gd_X1_1 ok hG (by omega) lk_X0_41 rfl (c2_X1_admits ok.fl hG (by omega) (by have := (hvb v.toNat (by omega)).1; omega) (hgs g.toNat (by omega)) (hgb g.toNat (by omega))) (by rw [hR]; exact ⟨by decide, by decide, by decide, by decide⟩) (Nat.le_of_ble_eq_true rfl) dX0_isMistaken_12 ?_
  refine ga_aload_n ok 0 rfl rfl dX0_isMistaken_15 ?_
  refine gf_X0_25 ok hG (by omega) dX0_isMistaken_16 ?_
  refine ga_iload_n ok 2 rfl rfl dX0_isMistaken_19 ?_
  refine ga_baload_za ok (ar_fr hG (by omega)) (by omega) dX0_isMistaken_20 ?_
  rw [(hv v.toNat (by omega)).2]
  have hq := (hvb v.toNat (by omega)).2
  have hq2 := b2i_01 (adm (gcn (rg r g.toNat)) (vX r v.toNat))
  refine ga_icmp_eq ok 28 (by decide) (by omega) (by omega) dX0_isMistaken_21 (fun c_21 => ?_) (fun c_21 => ?_)
  · refine ga_iconst ok dX0_isMistaken_28 ?_
    exact ga_ireturn ok en rfl (by decide) (by decide) (by decide) dX0_isMistaken_29 ⟨by unfold erB; (first | rw [decide_eq_true c_21] | rw [decide_eq_false (fun h => h c_21)]); rfl, rfl⟩
  · refine ga_iconst ok dX0_isMistaken_24 ?_
    refine ga_goto ok 29 (by decide) dX0_isMistaken_25 ?_
    exact ga_ireturn ok en rfl (by decide) (by decide) (by decide) dX0_isMistaken_29 ⟨by unfold erB; (first | rw [decide_eq_true c_21] | rw [decide_eq_false (fun h => h c_21)]); rfl, rfl⟩
set_option maxHeartbeats 4000000 in
set_option maxRecDepth 100000 in
theorem c_X0_guardsMistakenAbout {G : GG} {l : Launch} (hfl : l.stackTraces = false) (hG : MW G) {m : Mm} {a : Nat} (ha : 64 ≤ a ∧ a < 75) {r : Nat → Int} {T : Int} (hI : gtIs m a r) (hT : gtOk T r) {v : Int} (hv0 : 0 ≤ v ∧ v < r 1) : CT G l yX0_guardsMistakenAbout cX0_guardsMistakenAbout 4 (some .int) (RM 3 0 0) [.ref a, vI v] m (fun r' m' => r' = some (vI (ofV r v.toNat)) ∧ m' = m) (fun _ _ => False) := by
  refine CT.of RX0 [(0, .ref a), (1, vI v)] hfl (by decide +kernel) rfl rfl (Nat.le_of_ble_eq_true rfl) ?_
  intro E ok en hml hEl htab
  have hR : e_R E = RM 3 0 0 := en.2.2.2
  have hn0 : 0 < (e_c E).maxLocals := by rw [hml]; decide
  have hn1 : 1 < (e_c E).maxLocals := by rw [hml]; decide
  have hn2 : 2 < (e_c E).maxLocals := by rw [hml]; decide
  have hn3 : 3 < (e_c E).maxLocals := by rw [hml]; decide
  obtain ⟨e1, e4, hv, hgs⟩ := id hI
  obtain ⟨b0, b1, hvb, hgb⟩ := id hT
  have loop : ∀ i : Int, 0 ≤ i ∧ i ≤ r 0 → WA G E 0 0 4 [(3, vI i), (2, vI (zs (fun g => b2i (erB r g v.toNat)) i.toNat)), (0, .ref a), (1, vI v)] [] m := by
    refine wl1 _ (fun i => (r 0 - i).toNat) _ ?_
    intro i hi ih
    have e9 := zs_n (f := fun g => b2i (erB r g v.toNat)) hi.1
    refine ga_iload_n ok 3 rfl rfl dX0_guardsMistakenAbout_4 ?_
    refine ga_aload_n ok 0 rfl rfl dX0_guardsMistakenAbout_5 ?_
    refine gf_X0_17 ok hG (by omega) dX0_guardsMistakenAbout_6 ?_
    rw [e1]
    refine ga_icmp_ge ok 30 (by decide) (by omega) (by omega) dX0_guardsMistakenAbout_9 (fun c_9 => ?_) (fun c_9 => ?_)
    · refine ga_iload_n ok 2 rfl rfl dX0_guardsMistakenAbout_30 ?_
      exact ga_ireturn ok en rfl rfl (by decide) (by decide) dX0_guardsMistakenAbout_31 ⟨by rw [show i = r 0 by omega]; rfl, rfl⟩
    · refine ga_aload_n ok 0 rfl rfl dX0_guardsMistakenAbout_12 ?_
      refine ga_iload_n ok 3 rfl rfl dX0_guardsMistakenAbout_13 ?_
      refine ga_iload_n ok 1 rfl rfl dX0_guardsMistakenAbout_14 ?_
      refine gd_X0_2 ok hG (by omega) lk_X0_45 rfl (c_X0_isMistaken ok.fl hG ha hI hT (g := i) (by omega) (v := v) hv0) (by rw [hR]; exact ⟨by decide, by decide, by decide, by decide⟩) (Nat.le_of_ble_eq_true rfl) dX0_guardsMistakenAbout_15 ?_
      refine ga_if_eq ok 24 (by decide) (b2i_rng _) dX0_guardsMistakenAbout_18 (fun c_18 => ?_) (fun c_18 => ?_)
      · have hf : (fun g => b2i (erB r g v.toNat)) i.toNat = 0 := b2i_0.mpr (b2i_0.mp c_18)
        refine ga_iinc ok rfl hn3 dX0_guardsMistakenAbout_24 ?_
        refine ga_goto ok 4 (by decide) dX0_guardsMistakenAbout_27 ?_
        try dsimp only at hf
        rw [hf] at e9
        try rw [Int.add_zero] at e9
        exact WA.re (by exact ⟨rfl, (by rw [e9]; rfl), rfl, rfl, trivial⟩) (ih (i + 1) (by omega) (by omega))
      · have hf : (fun g => b2i (erB r g v.toNat)) i.toNat = 1 := b2i_1.mpr (b2i_n0.mp c_18)
        refine ga_iinc ok rfl hn2 dX0_guardsMistakenAbout_21 ?_
        refine ga_iinc ok rfl hn3 dX0_guardsMistakenAbout_24 ?_
        refine ga_goto ok 4 (by decide) dX0_guardsMistakenAbout_27 ?_
        try dsimp only at hf
        rw [hf] at e9
        try rw [Int.add_zero] at e9
        exact WA.re (by exact ⟨rfl, (by rw [e9]; rfl), rfl, rfl, trivial⟩) (ih (i + 1) (by omega) (by omega))
  refine ga_iconst ok dX0_guardsMistakenAbout_0 ?_
  refine ga_istore_n ok 2 rfl hn2 dX0_guardsMistakenAbout_1 ?_
  refine ga_iconst ok dX0_guardsMistakenAbout_2 ?_
  refine ga_istore_n ok 3 rfl hn3 dX0_guardsMistakenAbout_3 ?_
  exact WA.re (by exact ⟨rfl, rfl, rfl, rfl, trivial⟩) (loop 0 (by omega))
set_option maxHeartbeats 4000000 in
set_option maxRecDepth 100000 in
theorem c_X0_mistakesOf {G : GG} {l : Launch} (hfl : l.stackTraces = false) (hG : MW G) {m : Mm} {a : Nat} (ha : 64 ≤ a ∧ a < 75) {r : Nat → Int} {T : Int} (hI : gtIs m a r) (hT : gtOk T r) {g : Int} (hg0 : 0 ≤ g ∧ g < r 0) : CT G l yX0_mistakesOf cX0_mistakesOf 4 (some .int) (RM 3 0 0) [.ref a, vI g] m (fun r' m' => r' = some (vI (ofG r g.toNat)) ∧ m' = m) (fun _ _ => False) := by
  refine CT.of RX0 [(0, .ref a), (1, vI g)] hfl (by decide +kernel) rfl rfl (Nat.le_of_ble_eq_true rfl) ?_
  intro E ok en hml hEl htab
  have hR : e_R E = RM 3 0 0 := en.2.2.2
  have hn0 : 0 < (e_c E).maxLocals := by rw [hml]; decide
  have hn1 : 1 < (e_c E).maxLocals := by rw [hml]; decide
  have hn2 : 2 < (e_c E).maxLocals := by rw [hml]; decide
  have hn3 : 3 < (e_c E).maxLocals := by rw [hml]; decide
  obtain ⟨e1, e4, hv, hgs⟩ := id hI
  obtain ⟨b0, b1, hvb, hgb⟩ := id hT
  have loop : ∀ i : Int, 0 ≤ i ∧ i ≤ r 1 → WA G E 0 0 4 [(3, vI i), (2, vI (zs (fun v => b2i (erB r g.toNat v)) i.toNat)), (0, .ref a), (1, vI g)] [] m := by
    refine wl1 _ (fun i => (r 1 - i).toNat) _ ?_
    intro i hi ih
    have e9 := zs_n (f := fun v => b2i (erB r g.toNat v)) hi.1
    refine ga_iload_n ok 3 rfl rfl dX0_mistakesOf_4 ?_
    refine ga_aload_n ok 0 rfl rfl dX0_mistakesOf_5 ?_
    refine gf_X0_29 ok hG (by omega) dX0_mistakesOf_6 ?_
    rw [e4]
    refine ga_icmp_ge ok 30 (by decide) (by omega) (by omega) dX0_mistakesOf_9 (fun c_9 => ?_) (fun c_9 => ?_)
    · refine ga_iload_n ok 2 rfl rfl dX0_mistakesOf_30 ?_
      exact ga_ireturn ok en rfl rfl (by decide) (by decide) dX0_mistakesOf_31 ⟨by rw [show i = r 1 by omega]; rfl, rfl⟩
    · refine ga_aload_n ok 0 rfl rfl dX0_mistakesOf_12 ?_
      refine ga_iload_n ok 1 rfl rfl dX0_mistakesOf_13 ?_
      refine ga_iload_n ok 3 rfl rfl dX0_mistakesOf_14 ?_
      refine gd_X0_2 ok hG (by omega) lk_X0_45 rfl (c_X0_isMistaken ok.fl hG ha hI hT (g := g) hg0 (v := i) (by omega)) (by rw [hR]; exact ⟨by decide, by decide, by decide, by decide⟩) (Nat.le_of_ble_eq_true rfl) dX0_mistakesOf_15 ?_
      refine ga_if_eq ok 24 (by decide) (b2i_rng _) dX0_mistakesOf_18 (fun c_18 => ?_) (fun c_18 => ?_)
      · have hf : (fun v => b2i (erB r g.toNat v)) i.toNat = 0 := b2i_0.mpr (b2i_0.mp c_18)
        refine ga_iinc ok rfl hn3 dX0_mistakesOf_24 ?_
        refine ga_goto ok 4 (by decide) dX0_mistakesOf_27 ?_
        try dsimp only at hf
        rw [hf] at e9
        try rw [Int.add_zero] at e9
        exact WA.re (by exact ⟨rfl, (by rw [e9]; rfl), rfl, rfl, trivial⟩) (ih (i + 1) (by omega) (by omega))
      · have hf : (fun v => b2i (erB r g.toNat v)) i.toNat = 1 := b2i_1.mpr (b2i_n0.mp c_18)
        refine ga_iinc ok rfl hn2 dX0_mistakesOf_21 ?_
        refine ga_iinc ok rfl hn3 dX0_mistakesOf_24 ?_
        refine ga_goto ok 4 (by decide) dX0_mistakesOf_27 ?_
        try dsimp only at hf
        rw [hf] at e9
        try rw [Int.add_zero] at e9
        exact WA.re (by exact ⟨rfl, (by rw [e9]; rfl), rfl, rfl, trivial⟩) (ih (i + 1) (by omega) (by omega))
  refine ga_iconst ok dX0_mistakesOf_0 ?_
  refine ga_istore_n ok 2 rfl hn2 dX0_mistakesOf_1 ?_
  refine ga_iconst ok dX0_mistakesOf_2 ?_
  refine ga_istore_n ok 3 rfl hn3 dX0_mistakesOf_3 ?_
  exact WA.re (by exact ⟨rfl, rfl, rfl, rfl, trivial⟩) (loop 0 (by omega))
set_option maxHeartbeats 4000000 in
set_option maxRecDepth 100000 in
theorem c_X0_mistakesOfAll {G : GG} {l : Launch} (hfl : l.stackTraces = false) (hG : MW G) {m : Mm} {a : Nat} (ha : 64 ≤ a ∧ a < 75) {r : Nat → Int} {T : Int} (hI : gtIs m a r) (hT : gtOk T r) : CT G l yX0_mistakesOfAll cX0_mistakesOfAll 3 (some .int) (RM 4 0 0) [.ref a] m (fun r' m' => r' = some (vI (zs (fun g => ofG r g) (r 0).toNat)) ∧ m' = m) (fun _ _ => False) := by
  refine CT.of RX0 [(0, .ref a)] hfl (by decide +kernel) rfl rfl (Nat.le_of_ble_eq_true rfl) ?_
  intro E ok en hml hEl htab
  have hR : e_R E = RM 4 0 0 := en.2.2.2
  have hn0 : 0 < (e_c E).maxLocals := by rw [hml]; decide
  have hn1 : 1 < (e_c E).maxLocals := by rw [hml]; decide
  have hn2 : 2 < (e_c E).maxLocals := by rw [hml]; decide
  obtain ⟨e1, e4, hv, hgs⟩ := id hI
  obtain ⟨b0, b1, hvb, hgb⟩ := id hT
  have loop : ∀ i : Int, 0 ≤ i ∧ i ≤ r 0 → WA G E 0 0 4 [(2, vI i), (1, vI (zs (fun g => ofG r g) i.toNat)), (0, .ref a)] [] m := by
    refine wl1 _ (fun i => (r 0 - i).toNat) _ ?_
    intro i hi ih
    have e9 := zs_n (f := fun g => ofG r g) hi.1
    refine ga_iload_n ok 2 rfl rfl dX0_mistakesOfAll_4 ?_
    refine ga_aload_n ok 0 rfl rfl dX0_mistakesOfAll_5 ?_
    refine gf_X0_17 ok hG (by omega) dX0_mistakesOfAll_6 ?_
    rw [e1]
    refine ga_icmp_ge ok 26 (by decide) (by omega) (by omega) dX0_mistakesOfAll_9 (fun c_9 => ?_) (fun c_9 => ?_)
    · refine ga_iload_n ok 1 rfl rfl dX0_mistakesOfAll_26 ?_
      exact ga_ireturn ok en rfl rfl (by decide) (by decide) dX0_mistakesOfAll_27 ⟨by rw [show i = r 0 by omega], rfl⟩
    · refine ga_iload_n ok 1 rfl rfl dX0_mistakesOfAll_12 ?_
      refine ga_aload_n ok 0 rfl rfl dX0_mistakesOfAll_13 ?_
      refine ga_iload_n ok 2 rfl rfl dX0_mistakesOfAll_14 ?_
      refine gd_X0_1 ok hG (by omega) lk_X0_49 rfl (c_X0_mistakesOf ok.fl hG ha hI hT (g := i) (by omega)) (by rw [hR]; exact ⟨by decide, by decide, by decide, by decide⟩) (Nat.le_of_ble_eq_true rfl) dX0_mistakesOfAll_15 ?_
      refine ga_iadd ok dX0_mistakesOfAll_18 ?_
      refine ga_istore_n ok 1 rfl hn1 dX0_mistakesOfAll_19 ?_
      refine ga_iinc ok rfl hn2 dX0_mistakesOfAll_20 ?_
      refine ga_goto ok 4 (by decide) dX0_mistakesOfAll_23 ?_
      exact WA.re (by exact ⟨rfl, (by rw [e9]; rfl), rfl, trivial⟩) (ih (i + 1) (by omega) (by omega))
  refine ga_iconst ok dX0_mistakesOfAll_0 ?_
  refine ga_istore_n ok 1 rfl hn1 dX0_mistakesOfAll_1 ?_
  refine ga_iconst ok dX0_mistakesOfAll_2 ?_
  refine ga_istore_n ok 2 rfl hn2 dX0_mistakesOfAll_3 ?_
  exact WA.re (by exact ⟨rfl, rfl, rfl, trivial⟩) (loop 0 (by omega))
set_option maxHeartbeats 4000000 in
set_option maxRecDepth 100000 in
theorem c_X0_daysOfAll {G : GG} {l : Launch} (hfl : l.stackTraces = false) (hG : MW G) {m : Mm} {a : Nat} (ha : 64 ≤ a ∧ a < 75) {r : Nat → Int} {T : Int} (hI : gtIs m a r) (hT : gtOk T r) : CT G l yX0_daysOfAll cX0_daysOfAll 3 (some .int) (RM 0 0 0) [.ref a] m (fun r' m' => r' = some (vI (zs (fun g => rg r g 2) (r 0).toNat)) ∧ m' = m) (fun _ _ => False) := by
  refine CT.of RX0 [(0, .ref a)] hfl (by decide +kernel) rfl rfl (Nat.le_of_ble_eq_true rfl) ?_
  intro E ok en hml hEl htab
  have hR : e_R E = RM 0 0 0 := en.2.2.2
  have hn0 : 0 < (e_c E).maxLocals := by rw [hml]; decide
  have hn1 : 1 < (e_c E).maxLocals := by rw [hml]; decide
  have hn2 : 2 < (e_c E).maxLocals := by rw [hml]; decide
  obtain ⟨e1, e4, hv, hgs⟩ := id hI
  obtain ⟨b0, b1, hvb, hgb⟩ := id hT
  have loop : ∀ i : Int, 0 ≤ i ∧ i ≤ r 0 → WA G E 0 0 4 [(2, vI i), (1, vI (zs (fun g => rg r g 2) i.toNat)), (0, .ref a)] [] m := by
    refine wl1 _ (fun i => (r 0 - i).toNat) _ ?_
    intro i hi ih
    have e9 := zs_n (f := fun g => rg r g 2) hi.1
    refine ga_iload_n ok 2 rfl rfl dX0_daysOfAll_4 ?_
    refine ga_aload_n ok 0 rfl rfl dX0_daysOfAll_5 ?_
    refine gf_X0_17 ok hG (by omega) dX0_daysOfAll_6 ?_
    rw [e1]
    refine ga_icmp_ge ok 30 (by decide) (by omega) (by omega) dX0_daysOfAll_9 (fun c_9 => ?_) (fun c_9 => ?_)
    · refine ga_iload_n ok 1 rfl rfl dX0_daysOfAll_30 ?_
      exact ga_ireturn ok en rfl rfl (by decide) (by decide) dX0_daysOfAll_31 ⟨by rw [show i = r 0 by omega], rfl⟩
    · refine ga_iload_n ok 1 rfl rfl dX0_daysOfAll_12 ?_
      refine ga_aload_n ok 0 rfl rfl dX0_daysOfAll_13 ?_
      refine gf_X0_11 ok hG (by omega) dX0_daysOfAll_14 ?_
      refine ga_iload_n ok 2 rfl rfl dX0_daysOfAll_17 ?_
      refine ga_aaload_qa ok (ar_ga hG (by omega)) (by omega) dX0_daysOfAll_18 ?_
      refine gf_X0_53 ok hG (by omega) dX0_daysOfAll_19 ?_
      rw [(hgs i.toNat (by omega)).2.2.1]
      refine ga_iadd ok dX0_daysOfAll_22 ?_
      refine ga_istore_n ok 1 rfl hn1 dX0_daysOfAll_23 ?_
      refine ga_iinc ok rfl hn2 dX0_daysOfAll_24 ?_
      refine ga_goto ok 4 (by decide) dX0_daysOfAll_27 ?_
      exact WA.re (by exact ⟨rfl, (by rw [e9]; rfl), rfl, trivial⟩) (ih (i + 1) (by omega) (by omega))
  refine ga_iconst ok dX0_daysOfAll_0 ?_
  refine ga_istore_n ok 1 rfl hn1 dX0_daysOfAll_1 ?_
  refine ga_iconst ok dX0_daysOfAll_2 ?_
  refine ga_istore_n ok 2 rfl hn2 dX0_daysOfAll_3 ?_
  exact WA.re (by exact ⟨rfl, rfl, rfl, trivial⟩) (loop 0 (by omega))
set_option maxHeartbeats 4000000 in
set_option maxRecDepth 100000 in
theorem c_X0_pushesOfAll {G : GG} {l : Launch} (hfl : l.stackTraces = false) (hG : MW G) {m : Mm} {a : Nat} (ha : 64 ≤ a ∧ a < 75) {r : Nat → Int} {T : Int} (hI : gtIs m a r) (hT : gtOk T r) : CT G l yX0_pushesOfAll cX0_pushesOfAll 3 (some .int) (RM 0 0 0) [.ref a] m (fun r' m' => r' = some (vI (zs (fun g => rg r g 3) (r 0).toNat)) ∧ m' = m) (fun _ _ => False) := by
  refine CT.of RX0 [(0, .ref a)] hfl (by decide +kernel) rfl rfl (Nat.le_of_ble_eq_true rfl) ?_
  intro E ok en hml hEl htab
  have hR : e_R E = RM 0 0 0 := en.2.2.2
  have hn0 : 0 < (e_c E).maxLocals := by rw [hml]; decide
  have hn1 : 1 < (e_c E).maxLocals := by rw [hml]; decide
  have hn2 : 2 < (e_c E).maxLocals := by rw [hml]; decide
  obtain ⟨e1, e4, hv, hgs⟩ := id hI
  obtain ⟨b0, b1, hvb, hgb⟩ := id hT
  have loop : ∀ i : Int, 0 ≤ i ∧ i ≤ r 0 → WA G E 0 0 4 [(2, vI i), (1, vI (zs (fun g => rg r g 3) i.toNat)), (0, .ref a)] [] m := by
    refine wl1 _ (fun i => (r 0 - i).toNat) _ ?_
    intro i hi ih
    have e9 := zs_n (f := fun g => rg r g 3) hi.1
    refine ga_iload_n ok 2 rfl rfl dX0_pushesOfAll_4 ?_
    refine ga_aload_n ok 0 rfl rfl dX0_pushesOfAll_5 ?_
    refine gf_X0_17 ok hG (by omega) dX0_pushesOfAll_6 ?_
    rw [e1]
    refine ga_icmp_ge ok 30 (by decide) (by omega) (by omega) dX0_pushesOfAll_9 (fun c_9 => ?_) (fun c_9 => ?_)
    · refine ga_iload_n ok 1 rfl rfl dX0_pushesOfAll_30 ?_
      exact ga_ireturn ok en rfl rfl (by decide) (by decide) dX0_pushesOfAll_31 ⟨by rw [show i = r 0 by omega], rfl⟩
    · refine ga_iload_n ok 1 rfl rfl dX0_pushesOfAll_12 ?_
      refine ga_aload_n ok 0 rfl rfl dX0_pushesOfAll_13 ?_
      refine gf_X0_11 ok hG (by omega) dX0_pushesOfAll_14 ?_
      refine ga_iload_n ok 2 rfl rfl dX0_pushesOfAll_17 ?_
      refine ga_aaload_qa ok (ar_ga hG (by omega)) (by omega) dX0_pushesOfAll_18 ?_
      refine gf_X0_56 ok hG (by omega) dX0_pushesOfAll_19 ?_
      rw [(hgs i.toNat (by omega)).2.2.2.1]
      refine ga_iadd ok dX0_pushesOfAll_22 ?_
      refine ga_istore_n ok 1 rfl hn1 dX0_pushesOfAll_23 ?_
      refine ga_iinc ok rfl hn2 dX0_pushesOfAll_24 ?_
      refine ga_goto ok 4 (by decide) dX0_pushesOfAll_27 ?_
      exact WA.re (by exact ⟨rfl, (by rw [e9]; rfl), rfl, trivial⟩) (ih (i + 1) (by omega) (by omega))
  refine ga_iconst ok dX0_pushesOfAll_0 ?_
  refine ga_istore_n ok 1 rfl hn1 dX0_pushesOfAll_1 ?_
  refine ga_iconst ok dX0_pushesOfAll_2 ?_
  refine ga_istore_n ok 2 rfl hn2 dX0_pushesOfAll_3 ?_
  exact WA.re (by exact ⟨rfl, rfl, rfl, trivial⟩) (loop 0 (by omega))
set_option maxHeartbeats 4000000 in
set_option maxRecDepth 100000 in
theorem c_X0_votesFor {G : GG} {l : Launch} (hfl : l.stackTraces = false) (hG : MW G) {m : Mm} {a : Nat} (ha : 64 ≤ a ∧ a < 75) {r : Nat → Int} {T : Int} (hI : gtIs m a r) (hT : gtOk T r) {x : Int} (hx : 0 ≤ x ∧ x ≤ 1023) : CT G l yX0_votesFor cX0_votesFor 4 (some .int) (RM 2 0 0) [.ref a, vI x] m (fun r' m' => r' = some (vI (vts r x)) ∧ m' = m) (fun _ _ => False) := by
  refine CT.of RX0 [(0, .ref a), (1, vI x)] hfl (by decide +kernel) rfl rfl (Nat.le_of_ble_eq_true rfl) ?_
  intro E ok en hml hEl htab
  have hR : e_R E = RM 2 0 0 := en.2.2.2
  have hn0 : 0 < (e_c E).maxLocals := by rw [hml]; decide
  have hn1 : 1 < (e_c E).maxLocals := by rw [hml]; decide
  have hn2 : 2 < (e_c E).maxLocals := by rw [hml]; decide
  have hn3 : 3 < (e_c E).maxLocals := by rw [hml]; decide
  obtain ⟨e1, e4, hv, hgs⟩ := id hI
  obtain ⟨b0, b1, hvb, hgb⟩ := id hT
  have loop : ∀ i : Int, 0 ≤ i ∧ i ≤ r 0 → WA G E 0 0 4 [(3, vI i), (2, vI (zs (fun g => b2i (adm (gcn (rg r g)) x)) i.toNat)), (0, .ref a), (1, vI x)] [] m := by
    refine wl1 _ (fun i => (r 0 - i).toNat) _ ?_
    intro i hi ih
    have e9 := zs_n (f := fun g => b2i (adm (gcn (rg r g)) x)) hi.1
    refine ga_iload_n ok 3 rfl rfl dX0_votesFor_4 ?_
    refine ga_aload_n ok 0 rfl rfl dX0_votesFor_5 ?_
    refine gf_X0_17 ok hG (by omega) dX0_votesFor_6 ?_
    rw [e1]
    refine ga_icmp_ge ok 34 (by decide) (by omega) (by omega) dX0_votesFor_9 (fun c_9 => ?_) (fun c_9 => ?_)
    · refine ga_iload_n ok 2 rfl rfl dX0_votesFor_34 ?_
      exact ga_ireturn ok en rfl rfl (by decide) (by decide) dX0_votesFor_35 ⟨by rw [show i = r 0 by omega]; rfl, rfl⟩
    · refine ga_aload_n ok 0 rfl rfl dX0_votesFor_12 ?_
      refine gf_X0_11 ok hG (by omega) dX0_votesFor_13 ?_
      refine ga_iload_n ok 3 rfl rfl dX0_votesFor_16 ?_
      refine ga_aaload_qa ok (ar_ga hG (by omega)) (by omega) dX0_votesFor_17 ?_
      refine ga_iload_n ok 1 rfl rfl dX0_votesFor_18 ?_
      refine gd_X1_1 ok hG (by omega) lk_X0_41 rfl (c2_X1_admits ok.fl hG (by omega) hx (hgs i.toNat (by omega)) (hgb i.toNat (by omega))) (by rw [hR]; exact ⟨by decide, by decide, by decide, by decide⟩) (Nat.le_of_ble_eq_true rfl) dX0_votesFor_19 ?_
      refine ga_if_eq ok 28 (by decide) (b2i_rng _) dX0_votesFor_22 (fun c_22 => ?_) (fun c_22 => ?_)
      · have hf : (fun g => b2i (adm (gcn (rg r g)) x)) i.toNat = 0 := b2i_0.mpr (b2i_0.mp c_22)
        refine ga_iinc ok rfl hn3 dX0_votesFor_28 ?_
        refine ga_goto ok 4 (by decide) dX0_votesFor_31 ?_
        try dsimp only at hf
        rw [hf] at e9
        try rw [Int.add_zero] at e9
        exact WA.re (by exact ⟨rfl, (by rw [e9]; rfl), rfl, rfl, trivial⟩) (ih (i + 1) (by omega) (by omega))
      · have hf : (fun g => b2i (adm (gcn (rg r g)) x)) i.toNat = 1 := b2i_1.mpr (b2i_n0.mp c_22)
        refine ga_iinc ok rfl hn2 dX0_votesFor_25 ?_
        refine ga_iinc ok rfl hn3 dX0_votesFor_28 ?_
        refine ga_goto ok 4 (by decide) dX0_votesFor_31 ?_
        try dsimp only at hf
        rw [hf] at e9
        try rw [Int.add_zero] at e9
        exact WA.re (by exact ⟨rfl, (by rw [e9]; rfl), rfl, rfl, trivial⟩) (ih (i + 1) (by omega) (by omega))
  refine ga_iconst ok dX0_votesFor_0 ?_
  refine ga_istore_n ok 2 rfl hn2 dX0_votesFor_1 ?_
  refine ga_iconst ok dX0_votesFor_2 ?_
  refine ga_istore_n ok 3 rfl hn3 dX0_votesFor_3 ?_
  exact WA.re (by exact ⟨rfl, rfl, rfl, rfl, trivial⟩) (loop 0 (by omega))
set_option maxHeartbeats 4000000 in
set_option maxRecDepth 100000 in
theorem c_X0_admitsByVote {G : GG} {l : Launch} (hfl : l.stackTraces = false) (hG : MW G) {m : Mm} {a : Nat} (ha : 64 ≤ a ∧ a < 75) {r : Nat → Int} {T : Int} (hI : gtIs m a r) (hT : gtOk T r) {x : Int} (hx : 0 ≤ x ∧ x ≤ 1023) : CT G l yX0_admitsByVote cX0_admitsByVote 3 (some .boolean) (RM 3 0 0) [.ref a, vI x] m (fun r' m' => r' = some (vI (b2i (vin r x))) ∧ m' = m) (fun _ _ => False) := by
  refine CT.of RX0 [(0, .ref a), (1, vI x)] hfl (by decide +kernel) rfl rfl (Nat.le_of_ble_eq_true rfl) ?_
  intro E ok en hml hEl htab
  have hR : e_R E = RM 3 0 0 := en.2.2.2
  have hn0 : 0 < (e_c E).maxLocals := by rw [hml]; decide
  have hn1 : 1 < (e_c E).maxLocals := by rw [hml]; decide
  have hn2 : 2 < (e_c E).maxLocals := by rw [hml]; decide
  obtain ⟨e1, e4, hv, hgs⟩ := id hI
  obtain ⟨b0, b1, hvb, hgb⟩ := id hT
  have hvt : 0 ≤ vts r x ∧ vts r x ≤ 4 := by
    have := zs_bd1 (f := fun g => adm (gcn (rg r g)) x) (r 0).toNat
    unfold vts
    omega
  refine ga_aload_n ok 0 rfl rfl dX0_admitsByVote_0 ?_
  refine ga_iload_n ok 1 rfl rfl dX0_admitsByVote_1 ?_
  refine gd_X0_1 ok hG (by omega) lk_X0_63 rfl (c_X0_votesFor ok.fl hG ha hI hT hx) (by rw [hR]; exact ⟨by decide, by decide, by decide, by decide⟩) (Nat.le_of_ble_eq_true rfl) dX0_admitsByVote_2 ?_
  refine ga_istore_n ok 2 rfl hn2 dX0_admitsByVote_5 ?_
  refine ga_iload_n ok 2 rfl rfl dX0_admitsByVote_6 ?_
  refine ga_aload_n ok 0 rfl rfl dX0_admitsByVote_7 ?_
  refine gf_X0_17 ok hG (by omega) dX0_admitsByVote_8 ?_
  rw [e1]
  refine ga_iload_n ok 2 rfl rfl dX0_admitsByVote_11 ?_
  refine ga_isub ok dX0_admitsByVote_12 ?_
  refine ga_icmp_le ok 20 (by decide) (by omega) (by omega) dX0_admitsByVote_13 (fun c_13 => ?_) (fun c_13 => ?_)
  · refine ga_iconst ok dX0_admitsByVote_20 ?_
    exact ga_ireturn ok en rfl (by decide) (by decide) (by decide) dX0_admitsByVote_21 ⟨by unfold vin; (first | rw [decide_eq_true (by omega)] | rw [decide_eq_false (by omega)]); rfl, rfl⟩
  · refine ga_iconst ok dX0_admitsByVote_16 ?_
    refine ga_goto ok 21 (by decide) dX0_admitsByVote_17 ?_
    exact ga_ireturn ok en rfl (by decide) (by decide) (by decide) dX0_admitsByVote_21 ⟨by unfold vin; (first | rw [decide_eq_true (by omega)] | rw [decide_eq_false (by omega)]); rfl, rfl⟩
set_option maxHeartbeats 4000000 in
set_option maxRecDepth 100000 in
theorem c_X0_isAhead {G : GG} {l : Launch} (hfl : l.stackTraces = false) (hG : MW G) {m : Mm} {a : Nat} (ha : 64 ≤ a ∧ a < 75) {r : Nat → Int} {T : Int} (hI : gtIs m a r) (hT : gtOk T r) (hTT : T ≤ 1000000000) {g h : Int} (hg0 : 0 ≤ g ∧ g < r 0) (hh0 : 0 ≤ h ∧ h < r 0) : CT G l yX0_isAhead cX0_isAhead 4 (some .boolean) (RM 4 0 0) [.ref a, vI g, vI h] m (fun r' m' => r' = some (vI (b2i (ahB r g.toNat h.toNat))) ∧ m' = m) (fun _ _ => False) := by
  refine CT.of RX0 [(0, .ref a), (1, vI g), (2, vI h)] hfl (by decide +kernel) rfl rfl (Nat.le_of_ble_eq_true rfl) ?_
  intro E ok en hml hEl htab
  have hR : e_R E = RM 4 0 0 := en.2.2.2
  have hn0 : 0 < (e_c E).maxLocals := by rw [hml]; decide
  have hn1 : 1 < (e_c E).maxLocals := by rw [hml]; decide
  have hn2 : 2 < (e_c E).maxLocals := by rw [hml]; decide
  have hn3 : 3 < (e_c E).maxLocals := by rw [hml]; decide
  obtain ⟨e1, e4, hv, hgs⟩ := id hI
  obtain ⟨b0, b1, hvb, hgb⟩ := id hT
  have hm : ∀ q : Nat, 0 ≤ ofG r q ∧ ofG r q ≤ 12 := fun q => by
    have := zs_bd1 (f := fun v => erB r q v) (r 1).toNat
    unfold ofG
    omega
  have m1 := hm g.toNat
  have m2 := hm h.toNat
  have p1 := (hgb g.toNat (by omega)).2.2.1 3 (by omega) (by omega)
  have p2 := (hgb h.toNat (by omega)).2.2.1 3 (by omega) (by omega)
  refine ga_aload_n ok 0 rfl rfl dX0_isAhead_0 ?_
  refine ga_iload_n ok 1 rfl rfl dX0_isAhead_1 ?_
  refine gd_X0_1 ok hG (by omega) lk_X0_49 rfl (c_X0_mistakesOf ok.fl hG ha hI hT hg0) (by rw [hR]; exact ⟨by decide, by decide, by decide, by decide⟩) (Nat.le_of_ble_eq_true rfl) dX0_isAhead_2 ?_
  refine ga_aload_n ok 0 rfl rfl dX0_isAhead_5 ?_
  refine ga_iload_n ok 2 rfl rfl dX0_isAhead_6 ?_
  refine gd_X0_1 ok hG (by omega) lk_X0_49 rfl (c_X0_mistakesOf ok.fl hG ha hI hT hh0) (by rw [hR]; exact ⟨by decide, by decide, by decide, by decide⟩) (Nat.le_of_ble_eq_true rfl) dX0_isAhead_7 ?_
  refine ga_isub ok dX0_isAhead_10 ?_
  refine ga_istore_n ok 3 rfl hn3 dX0_isAhead_11 ?_
  refine ga_iload_n ok 3 rfl rfl dX0_isAhead_12 ?_
  refine ga_if_ne ok 36 (by decide) (by omega) dX0_isAhead_13 (fun c_13 => ?_) (fun c_13 => ?_)
  · refine ga_iload_n ok 3 rfl rfl dX0_isAhead_36 ?_
    refine ga_if_lt ok 49 (by decide) (by omega) dX0_isAhead_37 (fun c_37 => ?_) (fun c_37 => ?_)
    · refine ga_iconst ok dX0_isAhead_49 ?_
      refine ga_goto ok 54 (by decide) dX0_isAhead_50 ?_
      exact ga_ireturn ok en rfl (by decide) (by decide) (by decide) dX0_isAhead_54 ⟨by first | (exfalso; omega) | (unfold ahB; (first | rw [decide_eq_true (by omega)] | rw [decide_eq_false (by omega)]); rfl), rfl⟩
    · refine ga_iload_n ok 3 rfl rfl dX0_isAhead_40 ?_
      refine ga_if_ne ok 53 (by decide) (by omega) dX0_isAhead_41 (fun c_41 => ?_) (fun c_41 => ?_)
      · refine ga_iconst ok dX0_isAhead_53 ?_
        exact ga_ireturn ok en rfl (by decide) (by decide) (by decide) dX0_isAhead_54 ⟨by first | (exfalso; omega) | (unfold ahB; (first | rw [decide_eq_true (by omega)] | rw [decide_eq_false (by omega)]); rfl), rfl⟩
      · refine ga_iload_n ok 1 rfl rfl dX0_isAhead_44 ?_
        refine ga_iload_n ok 2 rfl rfl dX0_isAhead_45 ?_
        refine ga_icmp_ge ok 53 (by decide) (by omega) (by omega) dX0_isAhead_46 (fun c_46 => ?_) (fun c_46 => ?_)
        · refine ga_iconst ok dX0_isAhead_53 ?_
          exact ga_ireturn ok en rfl (by decide) (by decide) (by decide) dX0_isAhead_54 ⟨by first | (exfalso; omega) | (unfold ahB; (first | rw [decide_eq_true (by omega)] | rw [decide_eq_false (by omega)]); rfl), rfl⟩
        · refine ga_iconst ok dX0_isAhead_49 ?_
          refine ga_goto ok 54 (by decide) dX0_isAhead_50 ?_
          exact ga_ireturn ok en rfl (by decide) (by decide) (by decide) dX0_isAhead_54 ⟨by first | (exfalso; omega) | (unfold ahB; (first | rw [decide_eq_true (by omega)] | rw [decide_eq_false (by omega)]); rfl), rfl⟩
  · refine ga_aload_n ok 0 rfl rfl dX0_isAhead_16 ?_
    refine gf_X0_11 ok hG (by omega) dX0_isAhead_17 ?_
    refine ga_iload_n ok 1 rfl rfl dX0_isAhead_20 ?_
    refine ga_aaload_qa ok (ar_ga hG (by omega)) (by omega) dX0_isAhead_21 ?_
    refine gf_X0_56 ok hG (by omega) dX0_isAhead_22 ?_
    rw [(hgs g.toNat (by omega)).2.2.2.1]
    refine ga_aload_n ok 0 rfl rfl dX0_isAhead_25 ?_
    refine gf_X0_11 ok hG (by omega) dX0_isAhead_26 ?_
    refine ga_iload_n ok 2 rfl rfl dX0_isAhead_29 ?_
    refine ga_aaload_qa ok (ar_ga hG (by omega)) (by omega) dX0_isAhead_30 ?_
    refine gf_X0_56 ok hG (by omega) dX0_isAhead_31 ?_
    rw [(hgs h.toNat (by omega)).2.2.2.1]
    refine ga_isub ok dX0_isAhead_34 ?_
    refine ga_istore_n ok 3 rfl hn3 dX0_isAhead_35 ?_
    refine ga_iload_n ok 3 rfl rfl dX0_isAhead_36 ?_
    refine ga_if_lt ok 49 (by decide) (by omega) dX0_isAhead_37 (fun c_37 => ?_) (fun c_37 => ?_)
    · refine ga_iconst ok dX0_isAhead_49 ?_
      refine ga_goto ok 54 (by decide) dX0_isAhead_50 ?_
      exact ga_ireturn ok en rfl (by decide) (by decide) (by decide) dX0_isAhead_54 ⟨by first | (exfalso; omega) | (unfold ahB; (first | rw [decide_eq_true (by omega)] | rw [decide_eq_false (by omega)]); rfl), rfl⟩
    · refine ga_iload_n ok 3 rfl rfl dX0_isAhead_40 ?_
      refine ga_if_ne ok 53 (by decide) (by omega) dX0_isAhead_41 (fun c_41 => ?_) (fun c_41 => ?_)
      · refine ga_iconst ok dX0_isAhead_53 ?_
        exact ga_ireturn ok en rfl (by decide) (by decide) (by decide) dX0_isAhead_54 ⟨by first | (exfalso; omega) | (unfold ahB; (first | rw [decide_eq_true (by omega)] | rw [decide_eq_false (by omega)]); rfl), rfl⟩
      · refine ga_iload_n ok 1 rfl rfl dX0_isAhead_44 ?_
        refine ga_iload_n ok 2 rfl rfl dX0_isAhead_45 ?_
        refine ga_icmp_ge ok 53 (by decide) (by omega) (by omega) dX0_isAhead_46 (fun c_46 => ?_) (fun c_46 => ?_)
        · refine ga_iconst ok dX0_isAhead_53 ?_
          exact ga_ireturn ok en rfl (by decide) (by decide) (by decide) dX0_isAhead_54 ⟨by first | (exfalso; omega) | (unfold ahB; (first | rw [decide_eq_true (by omega)] | rw [decide_eq_false (by omega)]); rfl), rfl⟩
        · refine ga_iconst ok dX0_isAhead_49 ?_
          refine ga_goto ok 54 (by decide) dX0_isAhead_50 ?_
          exact ga_ireturn ok en rfl (by decide) (by decide) (by decide) dX0_isAhead_54 ⟨by first | (exfalso; omega) | (unfold ahB; (first | rw [decide_eq_true (by omega)] | rw [decide_eq_false (by omega)]); rfl), rfl⟩
set_option maxHeartbeats 4000000 in
set_option maxRecDepth 100000 in
theorem c_X0_guardsAheadOf {G : GG} {l : Launch} (hfl : l.stackTraces = false) (hG : MW G) {m : Mm} {a : Nat} (ha : 64 ≤ a ∧ a < 75) {r : Nat → Int} {T : Int} (hI : gtIs m a r) (hT : gtOk T r) (hTT : T ≤ 1000000000) {g : Int} (hg0 : 0 ≤ g ∧ g < r 0) : CT G l yX0_guardsAheadOf cX0_guardsAheadOf 4 (some .int) (RM 5 0 0) [.ref a, vI g] m (fun r' m' => r' = some (vI (aheadOf r g.toNat)) ∧ m' = m) (fun _ _ => False) := by
  refine CT.of RX0 [(0, .ref a), (1, vI g)] hfl (by decide +kernel) rfl rfl (Nat.le_of_ble_eq_true rfl) ?_
  intro E ok en hml hEl htab
  have hR : e_R E = RM 5 0 0 := en.2.2.2
  have hn0 : 0 < (e_c E).maxLocals := by rw [hml]; decide
  have hn1 : 1 < (e_c E).maxLocals := by rw [hml]; decide
  have hn2 : 2 < (e_c E).maxLocals := by rw [hml]; decide
  have hn3 : 3 < (e_c E).maxLocals := by rw [hml]; decide
  obtain ⟨e1, e4, hv, hgs⟩ := id hI
  obtain ⟨b0, b1, hvb, hgb⟩ := id hT
  have loop : ∀ i : Int, 0 ≤ i ∧ i ≤ r 0 → WA G E 0 0 4 [(3, vI i), (2, vI (zs (fun q => b2i (ahB r q g.toNat)) i.toNat)), (0, .ref a), (1, vI g)] [] m := by
    refine wl1 _ (fun i => (r 0 - i).toNat) _ ?_
    intro i hi ih
    have e9 := zs_n (f := fun q => b2i (ahB r q g.toNat)) hi.1
    refine ga_iload_n ok 3 rfl rfl dX0_guardsAheadOf_4 ?_
    refine ga_aload_n ok 0 rfl rfl dX0_guardsAheadOf_5 ?_
    refine gf_X0_17 ok hG (by omega) dX0_guardsAheadOf_6 ?_
    rw [e1]
    refine ga_icmp_ge ok 30 (by decide) (by omega) (by omega) dX0_guardsAheadOf_9 (fun c_9 => ?_) (fun c_9 => ?_)
    · refine ga_iload_n ok 2 rfl rfl dX0_guardsAheadOf_30 ?_
      exact ga_ireturn ok en rfl rfl (by decide) (by decide) dX0_guardsAheadOf_31 ⟨by rw [show i = r 0 by omega]; rfl, rfl⟩
    · refine ga_aload_n ok 0 rfl rfl dX0_guardsAheadOf_12 ?_
      refine ga_iload_n ok 3 rfl rfl dX0_guardsAheadOf_13 ?_
      refine ga_iload_n ok 1 rfl rfl dX0_guardsAheadOf_14 ?_
      refine gd_X0_2 ok hG (by omega) lk_X0_66 rfl (c_X0_isAhead ok.fl hG ha hI hT hTT (g := i) (h := g) (by omega) hg0) (by rw [hR]; exact ⟨by decide, by decide, by decide, by decide⟩) (Nat.le_of_ble_eq_true rfl) dX0_guardsAheadOf_15 ?_
      refine ga_if_eq ok 24 (by decide) (b2i_rng _) dX0_guardsAheadOf_18 (fun c_18 => ?_) (fun c_18 => ?_)
      · have hf : (fun q => b2i (ahB r q g.toNat)) i.toNat = 0 := b2i_0.mpr (b2i_0.mp c_18)
        refine ga_iinc ok rfl hn3 dX0_guardsAheadOf_24 ?_
        refine ga_goto ok 4 (by decide) dX0_guardsAheadOf_27 ?_
        try dsimp only at hf
        rw [hf] at e9
        try rw [Int.add_zero] at e9
        exact WA.re (by exact ⟨rfl, (by rw [e9]; rfl), rfl, rfl, trivial⟩) (ih (i + 1) (by omega) (by omega))
      · have hf : (fun q => b2i (ahB r q g.toNat)) i.toNat = 1 := b2i_1.mpr (b2i_n0.mp c_18)
        refine ga_iinc ok rfl hn2 dX0_guardsAheadOf_21 ?_
        refine ga_iinc ok rfl hn3 dX0_guardsAheadOf_24 ?_
        refine ga_goto ok 4 (by decide) dX0_guardsAheadOf_27 ?_
        try dsimp only at hf
        rw [hf] at e9
        try rw [Int.add_zero] at e9
        exact WA.re (by exact ⟨rfl, (by rw [e9]; rfl), rfl, rfl, trivial⟩) (ih (i + 1) (by omega) (by omega))
  refine ga_iconst ok dX0_guardsAheadOf_0 ?_
  refine ga_istore_n ok 2 rfl hn2 dX0_guardsAheadOf_1 ?_
  refine ga_iconst ok dX0_guardsAheadOf_2 ?_
  refine ga_istore_n ok 3 rfl hn3 dX0_guardsAheadOf_3 ?_
  exact WA.re (by exact ⟨rfl, rfl, rfl, rfl, trivial⟩) (loop 0 (by omega))
set_option maxHeartbeats 4000000 in
set_option maxRecDepth 100000 in
theorem c_X0_knowing {G : GG} {l : Launch} (hfl : l.stackTraces = false) (hG : MW G) {m : Mm} {a : Nat} (ha : 64 ≤ a ∧ a < 75) {r : Nat → Int} {T : Int} (hI : gtIs m a r) (hT : gtOk T r) {g : Int} (hg0 : 0 ≤ g ∧ g < r 0) {v : Int} (hv0 : 0 ≤ v ∧ v < r 1) : CT G l yX0_knowing cX0_knowing 4 (some .float) (RM 1 0 0) [.ref a, vI g, vI v] m (fun r' m' => r' = some (.float (fq (kno r g.toNat v.toNat))) ∧ m' = m) (fun _ _ => False) := by
  refine CT.of RX0 [(0, .ref a), (1, vI g), (2, vI v)] hfl (by decide +kernel) rfl rfl (Nat.le_of_ble_eq_true rfl) ?_
  intro E ok en hml hEl htab
  have hR : e_R E = RM 1 0 0 := en.2.2.2
  have hn0 : 0 < (e_c E).maxLocals := by rw [hml]; decide
  have hn1 : 1 < (e_c E).maxLocals := by rw [hml]; decide
  have hn2 : 2 < (e_c E).maxLocals := by rw [hml]; decide
  have hn3 : 3 < (e_c E).maxLocals := by rw [hml]; decide
  obtain ⟨e1, e4, hv, hgs⟩ := id hI
  obtain ⟨b0, b1, hvb, hgb⟩ := id hT
  refine ga_aload_n ok 0 rfl rfl dX0_knowing_0 ?_
  refine gf_X0_11 ok hG (by omega) dX0_knowing_1 ?_
  refine ga_iload_n ok 1 rfl rfl dX0_knowing_4 ?_
  refine ga_aaload_qa ok (ar_ga hG (by omega)) (by omega) dX0_knowing_5 ?_
  refine ga_aload_n ok 0 rfl rfl dX0_knowing_6 ?_
  refine gf_X0_21 ok hG (by omega) dX0_knowing_7 ?_
  refine ga_iload_n ok 2 rfl rfl dX0_knowing_10 ?_
  refine ga_iaload_ia ok (ar_se hG (by omega)) (by omega) dX0_knowing_11 ?_
  rw [(hv v.toNat (by omega)).1]
  refine gd_X1_1 ok hG (by omega) lk_X0_59 rfl (c2_X1_marginOf ok.fl hG (by omega) (by have := (hvb v.toNat (by omega)).1; omega) (hgs g.toNat (by omega)) (hgb g.toNat (by omega))) (by rw [hR]; exact ⟨by decide, by decide, by decide, by decide⟩) (Nat.le_of_ble_eq_true rfl) dX0_knowing_12 ?_
  refine ga_fstore_n ok 3 rfl hn3 dX0_knowing_15 ?_
  refine ga_aload_n ok 0 rfl rfl dX0_knowing_16 ?_
  refine gf_X0_25 ok hG (by omega) dX0_knowing_17 ?_
  refine ga_iload_n ok 2 rfl rfl dX0_knowing_20 ?_
  refine ga_baload_za ok (ar_fr hG (by omega)) (by omega) dX0_knowing_21 ?_
  rw [(hv v.toNat (by omega)).2]
  have hq := (hvb v.toNat (by omega)).2
  have hb := mg_bd (c := gcn (rg r g.toNat)) (hgb g.toNat (by omega)).2.2.2.1 (vX r v.toNat)
  refine ga_if_eq ok 29 (by decide) (by omega) dX0_knowing_22 (fun c_22 => ?_) (fun c_22 => ?_)
  · refine ga_fconst0 ok dX0_knowing_29 ?_
    refine ga_fload_n ok 3 rfl rfl dX0_knowing_30 ?_
    have hs : FP.fsub FP.fconst0 (fq (mg (gcn (rg r g.toNat)) (vX r v.toNat))) = fq (- mg (gcn (rg r g.toNat)) (vX r v.toNat)) := by rw [← fq_0, fq_sub (by omega) hb (by omega)]; congr 1; omega
    refine ga_fsub ok dX0_knowing_31 (by rw [hs]; exact fq_n32 (by omega)) ?_
    try rw [hs]
    exact ga_freturn ok en rfl (by decide) (by decide) dX0_knowing_32 ⟨by unfold kno; (first | rw [if_pos (by omega)] | rw [if_neg (by omega)]), rfl⟩
  · refine ga_fload_n ok 3 rfl rfl dX0_knowing_25 ?_
    refine ga_goto ok 32 (by decide) dX0_knowing_26 ?_
    try rw [hs]
    exact ga_freturn ok en rfl (by decide) (by decide) dX0_knowing_32 ⟨by unfold kno; (first | rw [if_pos (by omega)] | rw [if_neg (by omega)]), rfl⟩
set_option maxHeartbeats 4000000 in
set_option maxRecDepth 100000 in
theorem c_X0_visitorWith {G : GG} {l : Launch} (hfl : l.stackTraces = false) (hG : MW G) {m : Mm} {a : Nat} (ha : 64 ≤ a ∧ a < 75) {r : Nat → Int} {T : Int} (hI : gtIs m a r) (hT : gtOk T r) {x : Int} (hx : 0 ≤ x ∧ x ≤ 1023) : CT G l yX0_visitorWith cX0_visitorWith 3 (some .int) (RM 0 0 0) [.ref a, vI x] m (fun r' m' => r' = some (vI (fnd r x (r 1).toNat)) ∧ m' = m) (fun _ _ => False) := by
  refine CT.of RX0 [(0, .ref a), (1, vI x)] hfl (by decide +kernel) rfl rfl (Nat.le_of_ble_eq_true rfl) ?_
  intro E ok en hml hEl htab
  have hR : e_R E = RM 0 0 0 := en.2.2.2
  have hn0 : 0 < (e_c E).maxLocals := by rw [hml]; decide
  have hn1 : 1 < (e_c E).maxLocals := by rw [hml]; decide
  have hn2 : 2 < (e_c E).maxLocals := by rw [hml]; decide
  obtain ⟨e1, e4, hv, hgs⟩ := id hI
  obtain ⟨b0, b1, hvb, hgb⟩ := id hT
  have loop : ∀ i : Int, (0 ≤ i ∧ i ≤ r 1 ∧ ∀ v : Nat, (v : Int) < i → vX r v ≠ x) → WA G E 0 0 2 [(2, vI i), (0, .ref a), (1, vI x)] [] m := by
    refine wl1 _ (fun i => (r 1 - i).toNat) _ ?_
    intro i hi ih
    refine ga_iload_n ok 2 rfl rfl dX0_visitorWith_2 ?_
    refine ga_aload_n ok 0 rfl rfl dX0_visitorWith_3 ?_
    refine gf_X0_29 ok hG (by omega) dX0_visitorWith_4 ?_
    rw [e4]
    refine ga_icmp_ge ok 28 (by decide) (by omega) (by omega) dX0_visitorWith_7 (fun c_7 => ?_) (fun c_7 => ?_)
    · refine ga_iconst ok dX0_visitorWith_28 ?_
      exact ga_ireturn ok en rfl rfl (by decide) (by decide) dX0_visitorWith_29 ⟨by rw [fnd_no (fun v hv9 => hi.2.2 v (by omega))], rfl⟩
    · refine ga_aload_n ok 0 rfl rfl dX0_visitorWith_10 ?_
      refine gf_X0_21 ok hG (by omega) dX0_visitorWith_11 ?_
      refine ga_iload_n ok 2 rfl rfl dX0_visitorWith_14 ?_
      refine ga_iaload_ia ok (ar_se hG (by omega)) (by omega) dX0_visitorWith_15 ?_
      rw [(hv i.toNat (by omega)).1]
      have hq := (hvb i.toNat (by omega)).1
      refine ga_iload_n ok 1 rfl rfl dX0_visitorWith_16 ?_
      refine ga_icmp_ne ok 22 (by decide) (by omega) (by omega) dX0_visitorWith_17 (fun c_17 => ?_) (fun c_17 => ?_)
      · refine ga_iinc ok rfl hn2 dX0_visitorWith_22 ?_
        refine ga_goto ok 2 (by decide) dX0_visitorWith_25 ?_
        exact WA.re (by exact ⟨rfl, rfl, rfl, trivial⟩) (ih (i + 1) ⟨by omega, by omega, fun v hv9 => by
          by_cases e : v = i.toNat
          · subst e; exact c_17
          · exact hi.2.2 v (by omega)⟩ (by omega))
      · refine ga_iload_n ok 2 rfl rfl dX0_visitorWith_20 ?_
        exact ga_ireturn ok en rfl rfl (by decide) (by decide) dX0_visitorWith_21 ⟨by rw [fnd_yes (v := i.toNat) c_17 (fun u hu => hi.2.2 u (by omega)) _ (by omega)]; exact congrArg (fun z => some (vI z)) (by omega), rfl⟩
  refine ga_iconst ok dX0_visitorWith_0 ?_
  refine ga_istore_n ok 2 rfl hn2 dX0_visitorWith_1 ?_
  exact WA.re (by exact ⟨rfl, rfl, rfl, trivial⟩) (loop 0 ⟨by omega, by omega, fun v hv9 => by omega⟩)
set_option maxHeartbeats 4000000 in
set_option maxRecDepth 100000 in
theorem c_X0_marginsMatch {G : GG} {l : Launch} (hfl : l.stackTraces = false) (hG : MW G) {m : Mm} {a : Nat} (ha : 64 ≤ a ∧ a < 75) {r : Nat → Int} {T : Int} (hI : gtIs m a r) (hT : gtOk T r) {g : Int} (hg0 : 0 ≤ g ∧ g < r 0) : CT G l yX0_marginsMatch cX0_marginsMatch 3 (some .boolean) (RM 1 0 0) [.ref a, vI g] m (fun r' m' => r' = some (vI 1) ∧ m' = m) (fun _ _ => False) := by
  refine CT.of RX0 [(0, .ref a), (1, vI g)] hfl (by decide +kernel) rfl rfl (Nat.le_of_ble_eq_true rfl) ?_
  intro E ok en hml hEl htab
  have hR : e_R E = RM 1 0 0 := en.2.2.2
  have hn0 : 0 < (e_c E).maxLocals := by rw [hml]; decide
  have hn1 : 1 < (e_c E).maxLocals := by rw [hml]; decide
  have hn2 : 2 < (e_c E).maxLocals := by rw [hml]; decide
  obtain ⟨e1, e4, hv, hgs⟩ := id hI
  obtain ⟨b0, b1, hvb, hgb⟩ := id hT
  have loop : ∀ i : Int, 0 ≤ i ∧ i ≤ r 1 → WA G E 0 0 2 [(2, vI i), (0, .ref a), (1, vI g)] [] m := by
    refine wl1 _ (fun i => (r 1 - i).toNat) _ ?_
    intro i hi ih
    refine ga_iload_n ok 2 rfl rfl dX0_marginsMatch_2 ?_
    refine ga_aload_n ok 0 rfl rfl dX0_marginsMatch_3 ?_
    refine gf_X0_29 ok hG (by omega) dX0_marginsMatch_4 ?_
    rw [e4]
    refine ga_icmp_ge ok 52 (by decide) (by omega) (by omega) dX0_marginsMatch_7 (fun c_7 => ?_) (fun c_7 => ?_)
    · refine ga_iconst ok dX0_marginsMatch_52 ?_
      exact ga_ireturn ok en rfl (by decide) (by decide) (by decide) dX0_marginsMatch_53 ⟨rfl, rfl⟩
    · refine ga_aload_n ok 0 rfl rfl dX0_marginsMatch_10 ?_
      refine gf_X0_11 ok hG (by omega) dX0_marginsMatch_11 ?_
      refine ga_iload_n ok 1 rfl rfl dX0_marginsMatch_14 ?_
      refine ga_aaload_qa ok (ar_ga hG (by omega)) (by omega) dX0_marginsMatch_15 ?_
      refine ga_aload_n ok 0 rfl rfl dX0_marginsMatch_16 ?_
      refine gf_X0_21 ok hG (by omega) dX0_marginsMatch_17 ?_
      refine ga_iload_n ok 2 rfl rfl dX0_marginsMatch_20 ?_
      refine ga_iaload_ia ok (ar_se hG (by omega)) (by omega) dX0_marginsMatch_21 ?_
      rw [(hv i.toNat (by omega)).1]
      refine gd_X1_1 ok hG (by omega) lk_X0_59 rfl (c2_X1_marginOf ok.fl hG (by omega) (by have := (hvb i.toNat (by omega)).1; omega) (hgs g.toNat (by omega)) (hgb g.toNat (by omega))) (by rw [hR]; exact ⟨by decide, by decide, by decide, by decide⟩) (Nat.le_of_ble_eq_true rfl) dX0_marginsMatch_22 ?_
      refine ga_aload_n ok 0 rfl rfl dX0_marginsMatch_25 ?_
      refine gf_X0_11 ok hG (by omega) dX0_marginsMatch_26 ?_
      refine ga_iload_n ok 1 rfl rfl dX0_marginsMatch_29 ?_
      refine ga_aaload_qa ok (ar_ga hG (by omega)) (by omega) dX0_marginsMatch_30 ?_
      refine ga_aload_n ok 0 rfl rfl dX0_marginsMatch_31 ?_
      refine gf_X0_21 ok hG (by omega) dX0_marginsMatch_32 ?_
      refine ga_iload_n ok 2 rfl rfl dX0_marginsMatch_35 ?_
      refine ga_iaload_ia ok (ar_se hG (by omega)) (by omega) dX0_marginsMatch_36 ?_
      rw [(hv i.toNat (by omega)).1]
      refine gd_X1_1 ok hG (by omega) lk_X0_69 rfl (c2_X1_countedMarginOf ok.fl hG (by omega) (by have := (hvb i.toNat (by omega)).1; omega) (hgs g.toNat (by omega)) (hgb g.toNat (by omega))) (by rw [hR]; exact ⟨by decide, by decide, by decide, by decide⟩) (Nat.le_of_ble_eq_true rfl) dX0_marginsMatch_37 ?_
      have hb := mg_bd (c := gcn (rg r g.toNat)) (hgb g.toNat (by omega)).2.2.2.1 (vX r i.toNat)
      refine ga_fcmp ok dX0_marginsMatch_40 (fq_cmpz hb hb) ?_
      refine ga_if_eq ok 46 (by decide) (cmpz_rng _ _) dX0_marginsMatch_41 (fun c_41 => ?_) (fun c_41 => ?_)
      · refine ga_iinc ok rfl hn2 dX0_marginsMatch_46 ?_
        refine ga_goto ok 2 (by decide) dX0_marginsMatch_49 ?_
        exact WA.re (by exact ⟨rfl, rfl, rfl, trivial⟩) (ih (i + 1) (by omega) (by omega))
      · exact absurd (cmpz_eq.mpr rfl) c_41
  refine ga_iconst ok dX0_marginsMatch_0 ?_
  refine ga_istore_n ok 2 rfl hn2 dX0_marginsMatch_1 ?_
  exact WA.re (by exact ⟨rfl, rfl, rfl, trivial⟩) (loop 0 (by omega))
