/-! THE MODEL'S STATE -/
def YI0 (m : Mm) (g : Gm) : Prop :=
  (m.1 1024 3 = g.hs ∧ (g.hs = 0 ∨ g.hs = 1) ∧ (g.hs = 1 → ∀ k, k < 134 → m.1 1216 k = g.sv k)) ∧
  (m.1 1024 5 = g.kt ∧ (0 ≤ g.kt ∧ g.kt ≤ 8) ∧ ∀ i k : Nat, (i : Int) < g.kt → k < 134 → m.1 1280 (134 * i + k) = g.pa i k) ∧
  (m.1 1024 7 = g.rs ∧ m.1 1024 8 = g.dt ∧ m.1 1024 17 = g.er) ∧
  (m.1 1024 14 = g.tn ∧ (0 ≤ g.tn ∧ g.tn ≤ 60) ∧ ∀ i : Nat, (i : Int) < g.tn → m.1 1472 i = g.tx i) ∧
  (m.1 1024 12 = g.nn ∧ (0 ≤ g.nn ∧ g.nn ≤ 100) ∧ ∀ i : Nat, (i : Int) < g.nn → m.1 1408 i = g.ln i)
def YIs (m : Mm) (g : Gm) : Prop := SR m g.r ∧ YI0 m g
/-- what isn't the model's has not changed -/
def YFr (m m' : Mm) : Prop := ∀ n, (n < 1024 ∨ 1600 ≤ n) → m'.1 n = m.1 n ∧ m'.2 n = m.2 n
theorem YFr.rf {m : Mm} : YFr m m := fun _ _ => ⟨rfl, rfl⟩
theorem YFr.tr {m m1 m2 : Mm} (h1 : YFr m m1) (h2 : YFr m1 m2) : YFr m m2 := fun n h => ⟨(h2 n h).1.trans (h1 n h).1, (h2 n h).2.trans (h1 n h).2⟩
theorem YFr.uI {m m' : Mm} {a i : Nat} {v : Int} (h : YFr m m') (ha : 1024 ≤ a ∧ a < 1600) : YFr m (upI m' a i v) := fun n hn => ⟨by rw [upI_r (by omega)]; exact (h n hn).1, (h n hn).2⟩
theorem YFr.cI {m m' : Mm} {a0 a sp dp c : Nat} (h : YFr m m') (ha : 1024 ≤ a ∧ a < 1600) : YFr m (cpI m' a0 a sp dp c) := fun n hn => ⟨by rw [cpI_r (by omega)]; exact (h n hn).1, (h n hn).2⟩
/-- words that the state does not hold: 6, 9, 15, 16, 19 -/
theorem YI0.u {m : Mm} {g : Gm} {i : Nat} {v : Int} (h : YI0 m g) (hi : i = 6 ∨ i = 9 ∨ i = 15 ∨ i = 16 ∨ i = 19) : YI0 (upI m 1024 i v) g := by
  obtain ⟨⟨a1, a2, a3⟩, ⟨b1, b2, b3⟩, ⟨c1, c2, c3⟩, ⟨d1, d2, d3⟩, ⟨e1, e2, e3⟩⟩ := h
  have w : ∀ j, j ≠ i → (upI m 1024 i v).1 1024 j = m.1 1024 j := fun j hj => upI_no (Or.inr hj)
  refine ⟨⟨by rw [w 3 (by omega)]; exact a1, a2, by rw [upI_r (by omega)]; exact a3⟩, ⟨by rw [w 5 (by omega)]; exact b1, b2, by rw [upI_r (by omega)]; exact b3⟩, ⟨by rw [w 7 (by omega)]; exact c1, by rw [w 8 (by omega)]; exact c2, by rw [w 17 (by omega)]; exact c3⟩, ⟨by rw [w 14 (by omega)]; exact d1, d2, by rw [upI_r (by omega)]; exact d3⟩, ⟨by rw [w 12 (by omega)]; exact e1, e2, by rw [upI_r (by omega)]; exact e3⟩⟩
theorem YI0.o {m m' : Mm} {g : Gm} (h : YI0 m g) (ho : ∀ n, n = 1024 ∨ n = 1216 ∨ n = 1280 ∨ n = 1472 ∨ n = 1408 → m'.1 n = m.1 n) : YI0 m' g := by
  obtain ⟨⟨a1, a2, a3⟩, ⟨b1, b2, b3⟩, ⟨c1, c2, c3⟩, ⟨d1, d2, d3⟩, ⟨e1, e2, e3⟩⟩ := h
  unfold YI0
  rw [ho 1024 (by omega), ho 1216 (by omega), ho 1280 (by omega), ho 1472 (by omega), ho 1408 (by omega)]
  exact ⟨⟨a1, a2, a3⟩, ⟨b1, b2, b3⟩, ⟨c1, c2, c3⟩, ⟨d1, d2, d3⟩, ⟨e1, e2, e3⟩⟩
theorem YI0.s {m : Mm} {g : Gm} {i : Nat} {v : Int} (h : YI0 m g) : YI0 (upI m 1088 i v) g := h.o (fun n hn => upI_r (by omega))
theorem YI0.nw {m : Mm} {g : Gm} {r : Nat → Int} (h : YI0 m g) : YI0 m (nwG g r) := h
/-- a refusal at the model -/
def rsM (m : Mm) (p a b : Int) : Mm := upI (upI (upI (thM m p) 1024 9 1) 1024 7 a) 1024 8 b
theorem YI0.rs {m : Mm} {g : Gm} {p a b : Int} (h : YI0 m g) : YI0 (rsM m p a b) (rfG g a b) := by
  have h2 := (h.u (v := p) (i := 6) (by omega)).u (v := 1) (i := 9) (by omega)
  obtain ⟨⟨a1, a2, a3⟩, ⟨b1, b2, b3⟩, ⟨c1, c2, c3⟩, ⟨d1, d2, d3⟩, ⟨e1, e2, e3⟩⟩ := h2
  have w : ∀ j, j ≠ 7 → j ≠ 8 → (rsM m p a b).1 1024 j = (upI (upI m 1024 6 p) 1024 9 1).1 1024 j := fun j h1 h2 => by unfold rsM; rw [upI_no (Or.inr h2), upI_no (Or.inr h1)]; rfl
  have q : ∀ n, n ≠ 1024 → (rsM m p a b).1 n = (upI (upI m 1024 6 p) 1024 9 1).1 n := fun n hn => by unfold rsM; rw [upI_r hn, upI_r hn]; rfl
  exact ⟨⟨by rw [w 3 (by omega) (by omega)]; exact a1, a2, by rw [q 1216 (by omega)]; exact a3⟩, ⟨by rw [w 5 (by omega) (by omega)]; exact b1, b2, by rw [q 1280 (by omega)]; exact b3⟩, ⟨by unfold rsM; rw [upI_no (by omega), upI_at]; rfl, by unfold rsM; rw [upI_at]; rfl, by rw [w 17 (by omega) (by omega)]; exact c3⟩, ⟨by rw [w 14 (by omega) (by omega)]; exact d1, d2, by rw [q 1472 (by omega)]; exact d3⟩, ⟨by rw [w 12 (by omega) (by omega)]; exact e1, e2, by rw [q 1408 (by omega)]; exact e3⟩⟩
theorem rsM_6 {m : Mm} {p a b : Int} : (rsM m p a b).1 1024 6 = p := by unfold rsM; rw [upI_no (by omega), upI_no (by omega), upI_no (by omega)]; exact thM_at
theorem rsM_9 {m : Mm} {p a b : Int} : (rsM m p a b).1 1024 9 = 1 := by unfold rsM; rw [upI_no (by omega), upI_no (by omega), upI_at]
theorem rsM_r {m : Mm} {p a b : Int} {n : Nat} (h : n ≠ 1024) : (rsM m p a b).1 n = m.1 n := by unfold rsM thM; rw [upI_r h, upI_r h, upI_r h, upI_r h]
theorem YFr.rs {m m' : Mm} {p a b : Int} (h : YFr m m') : YFr m (rsM m' p a b) := (((h.uI (by omega)).uI (by omega)).uI (by omega)).uI (by omega)
/-- what doing leaves: k which exception, q the state, ok once k is 0 -/
def DOk (m m' : Mm) : Prop := m'.1 1536 = m.1 1536 ∧ ∀ j, 9 < j → m'.1 1024 j = m.1 1024 j
theorem DOk.rf {m : Mm} : DOk m m := ⟨rfl, fun _ _ => rfl⟩
theorem DOk.s {m m' : Mm} {i : Nat} {v : Int} (h : DOk m m') : DOk m (upI m' 1088 i v) := ⟨by rw [upI_r (by omega)]; exact h.1, fun j hj => by rw [upI_r (by omega)]; exact h.2 j hj⟩
theorem DOk.c {m m' : Mm} {a0 sp dp c : Nat} (h : DOk m m') : DOk m (cpI m' a0 1088 sp dp c) := ⟨by rw [cpI_r (by omega)]; exact h.1, fun j hj => by rw [cpI_r (by omega)]; exact h.2 j hj⟩
theorem DOk.t {m m' : Mm} {k : Int} (h : DOk m m') : DOk m (thM m' k) := ⟨by unfold thM; rw [upI_r (by omega)]; exact h.1, fun j hj => by unfold thM; rw [upI_no (by omega)]; exact h.2 j hj⟩
theorem DOk.rs {m m' : Mm} {p a b : Int} (h : DOk m m') : DOk m (rsM m' p a b) := by
  have h2 := h.t (k := p)
  unfold rsM
  exact ⟨by rw [upI_r (by omega), upI_r (by omega), upI_r (by omega)]; exact h2.1, fun j hj => by rw [upI_no (by omega), upI_no (by omega), upI_no (by omega)]; exact h2.2 j hj⟩
def DO (m m' : Mm) (k : Int) (q : Gm) : Prop := m'.1 1152 = m.1 1152 ∧ DOk m m' ∧ YFr m m' ∧ m'.1 1024 6 = k ∧ YI0 m' q ∧ (k = 0 → SR m' q.r)
/-- which of a run's two exceptions -/
def RF (m m' : Mm) (k : Int) : Prop := (k = 1 → m'.1 1024 9 = m.1 1024 9) ∧ (k = 2 → m'.1 1024 9 = 1)
theorem kp_nw {g : Gm} {r R : Nat → Int} : kpG (nwG g r) R = nwG (kpG g R) r := by
  unfold kpG
  by_cases h : g.kt = 8
  · rw [if_pos h, if_pos (show (nwG g r).kt = 8 from h)]; rfl
  · rw [if_neg h, if_neg (show ¬ (nwG g r).kt = 8 from h)]; rfl
theorem nw_id {g : Gm} : nwG g g.r = g := rfl
/-- the row before a change comes back, or is kept -/
theorem YIs.back {m : Mm} {g : Gm} {r0 : Nat → Int} (h : YI0 m g) (hb : ∀ k, k < 134 → m.1 1152 k = r0 k) : YIs (cpI m 1152 1088 0 0 134) (nwG g r0) := by
  refine ⟨fun k hk => ?_, h.o (fun n hn => cpI_r (by omega))⟩
  show (cpI m 1152 1088 0 0 134).1 1088 k = r0 k
  simp only [cpI]
  rw [if_pos ⟨trivial, by omega, by omega⟩, show 0 + (k - 0) = k by omega]
  exact hb k hk
theorem YI0.shift {m : Mm} {g : Gm} (h : YI0 m g) (h8 : g.kt = 8) : YI0 (upI (cpI m 1280 1280 134 0 938) 1024 5 7) (mkG g.r g.sv g.hs (fun i => g.pa (i + 1)) 7 g.rs g.dt g.er g.tx g.tn g.ln g.nn) := by
  obtain ⟨⟨a1, a2, a3⟩, ⟨b1, b2, b3⟩, ⟨c1, c2, c3⟩, ⟨d1, d2, d3⟩, ⟨e1, e2, e3⟩⟩ := h
  have w : ∀ j, j ≠ 5 → (upI (cpI m 1280 1280 134 0 938) 1024 5 7).1 1024 j = m.1 1024 j := fun j hj => by rw [upI_no (Or.inr hj), cpI_r (by omega)]
  have q : ∀ n, n ≠ 1024 → n ≠ 1280 → (upI (cpI m 1280 1280 134 0 938) 1024 5 7).1 n = m.1 n := fun n h1 h2 => by rw [upI_r h1, cpI_r h2]
  refine ⟨⟨by rw [w 3 (by omega)]; exact a1, a2, by rw [q 1216 (by omega) (by omega)]; exact a3⟩, ⟨upI_at, by show (0 : Int) ≤ 7 ∧ (7 : Int) ≤ 8; omega, fun i k hi hk => ?_⟩, ⟨by rw [w 7 (by omega)]; exact c1, by rw [w 8 (by omega)]; exact c2, by rw [w 17 (by omega)]; exact c3⟩, ⟨by rw [w 14 (by omega)]; exact d1, d2, by rw [q 1472 (by omega) (by omega)]; exact d3⟩, ⟨by rw [w 12 (by omega)]; exact e1, e2, by rw [q 1408 (by omega) (by omega)]; exact e3⟩⟩
  have hi : (i : Int) < 7 := hi
  rw [upI_r (by omega)]
  show (cpI m 1280 1280 134 0 938).1 1280 (134 * i + k) = g.pa (i + 1) k
  simp only [cpI]
  rw [if_pos ⟨trivial, by omega, by omega⟩, show 134 + (134 * i + k - 0) = 134 * (i + 1) + k by omega]
  exact b3 (i + 1) k (by omega) hk
theorem YI0.put {m : Mm} {g : Gm} {r0 : Nat → Int} (h : YI0 m g) (h8 : g.kt ≤ 7) (hb : ∀ k, k < 134 → m.1 1152 k = r0 k) : YI0 (upI (cpI m 1152 1280 0 (134 * g.kt).toNat 134) 1024 5 (g.kt + 1)) (mkG g.r g.sv g.hs (fun i => if (i : Int) = g.kt then r0 else g.pa i) (g.kt + 1) g.rs g.dt g.er g.tx g.tn g.ln g.nn) := by
  obtain ⟨⟨a1, a2, a3⟩, ⟨b1, b2, b3⟩, ⟨c1, c2, c3⟩, ⟨d1, d2, d3⟩, ⟨e1, e2, e3⟩⟩ := h
  have w : ∀ j, j ≠ 5 → (upI (cpI m 1152 1280 0 (134 * g.kt).toNat 134) 1024 5 (g.kt + 1)).1 1024 j = m.1 1024 j := fun j hj => by rw [upI_no (Or.inr hj), cpI_r (by omega)]
  have q : ∀ n, n ≠ 1024 → n ≠ 1280 → (upI (cpI m 1152 1280 0 (134 * g.kt).toNat 134) 1024 5 (g.kt + 1)).1 n = m.1 n := fun n h1 h2 => by rw [upI_r h1, cpI_r h2]
  refine ⟨⟨by rw [w 3 (by omega)]; exact a1, a2, by rw [q 1216 (by omega) (by omega)]; exact a3⟩, ⟨upI_at, by show 0 ≤ g.kt + 1 ∧ g.kt + 1 ≤ 8; omega, fun i k hi hk => ?_⟩, ⟨by rw [w 7 (by omega)]; exact c1, by rw [w 8 (by omega)]; exact c2, by rw [w 17 (by omega)]; exact c3⟩, ⟨by rw [w 14 (by omega)]; exact d1, d2, by rw [q 1472 (by omega) (by omega)]; exact d3⟩, ⟨by rw [w 12 (by omega)]; exact e1, e2, by rw [q 1408 (by omega) (by omega)]; exact e3⟩⟩
  have hi : (i : Int) < g.kt + 1 := hi
  rw [upI_r (by omega)]
  show (cpI m 1152 1280 0 (134 * g.kt).toNat 134).1 1280 (134 * i + k) = (if (i : Int) = g.kt then r0 else g.pa i) k
  simp only [cpI]
  by_cases e : (i : Int) = g.kt
  · rw [if_pos ⟨trivial, by omega, by omega⟩, if_pos e, show 0 + (134 * i + k - (134 * g.kt).toNat) = k by omega]
    exact hb k hk
  · rw [if_neg (by omega), if_neg e]
    exact b3 i k (by omega) hk
theorem SR.c {m : Mm} {r : Nat → Int} {a0 a sp dp c : Nat} (h : SR m r) (ha : a ≠ 1088) : SR (cpI m a0 a sp dp c) r := fun k hk => by rw [cpI_r (fun e => ha e.symm)]; exact h k hk
set_option maxHeartbeats 4000000 in
set_option maxRecDepth 100000 in
theorem c_X4_fails {G : GG} {l : Launch} (hfl : l.stackTraces = false) (hG : MW G) {m : Mm} {k : Int} : CT G l yX4_fails cX4_fails 2 (some .int) (RM 0 0 0) [.ref 1024, vI k] m (fun r' m' => r' = some (vI 0) ∧ m' = thM m k) (fun _ _ => False) := by
  refine CT.of RX4 [(0, .ref 1024), (1, vI k)] hfl (by decide +kernel) rfl rfl (Nat.le_of_ble_eq_true rfl) ?_
  intro E ok en hml hEl htab
  have hR : e_R E = RM 0 0 0 := en.2.2.2
  have hn0 : 0 < (e_c E).maxLocals := by rw [hml]; decide
  have hn1 : 1 < (e_c E).maxLocals := by rw [hml]; decide
  refine ga_aload_n ok 0 rfl rfl dX4_fails_0 ?_
  refine ga_iload_n ok 1 rfl rfl dX4_fails_1 ?_
  refine gp_X4_39 ok hG rfl dX4_fails_2 ?_
  refine ga_iconst ok dX4_fails_5 ?_
  exact ga_ireturn ok en rfl rfl (by decide) (by decide) dX4_fails_6 ⟨rfl, rfl⟩
set_option maxHeartbeats 4000000 in
set_option maxRecDepth 100000 in
theorem c_X4_refuse {G : GG} {l : Launch} (hfl : l.stackTraces = false) (hG : MW G) {m : Mm} {p a b : Int} : CT G l yX4_refuse cX4_refuse 4 (some .int) (RM 0 0 0) [.ref 1024, vI p, vI a, vI b] m (fun r' m' => r' = some (vI 0) ∧ m' = rsM m p a b) (fun _ _ => False) := by
  refine CT.of RX4 [(0, .ref 1024), (1, vI p), (2, vI a), (3, vI b)] hfl (by decide +kernel) rfl rfl (Nat.le_of_ble_eq_true rfl) ?_
  intro E ok en hml hEl htab
  have hR : e_R E = RM 0 0 0 := en.2.2.2
  have hn0 : 0 < (e_c E).maxLocals := by rw [hml]; decide
  have hn1 : 1 < (e_c E).maxLocals := by rw [hml]; decide
  have hn2 : 2 < (e_c E).maxLocals := by rw [hml]; decide
  have hn3 : 3 < (e_c E).maxLocals := by rw [hml]; decide
  refine ga_aload_n ok 0 rfl rfl dX4_refuse_0 ?_
  refine ga_iload_n ok 1 rfl rfl dX4_refuse_1 ?_
  refine gp_X4_39 ok hG rfl dX4_refuse_2 ?_
  refine ga_aload_n ok 0 rfl rfl dX4_refuse_5 ?_
  refine ga_iconst ok dX4_refuse_6 ?_
  refine gp_X4_51 ok hG rfl (Or.inr rfl) dX4_refuse_7 ?_
  refine ga_aload_n ok 0 rfl rfl dX4_refuse_10 ?_
  refine ga_iload_n ok 2 rfl rfl dX4_refuse_11 ?_
  refine gp_X4_55 ok hG rfl dX4_refuse_12 ?_
  refine ga_aload_n ok 0 rfl rfl dX4_refuse_15 ?_
  refine ga_iload_n ok 3 rfl rfl dX4_refuse_16 ?_
  refine gp_X4_58 ok hG rfl dX4_refuse_17 ?_
  refine ga_iconst ok dX4_refuse_20 ?_
  exact ga_ireturn ok en rfl rfl (by decide) (by decide) dX4_refuse_21 ⟨rfl, rfl⟩
set_option maxHeartbeats 4000000 in
set_option maxRecDepth 100000 in
theorem c_X4_keep {G : GG} {l : Launch} (hfl : l.stackTraces = false) (hG : MW G) {m : Mm}  : CT G l yX4_keep cX4_keep 1 none (RM 0 0 0) [.ref 1024] m (fun r' m' => r' = none ∧ m' = cpI (thM m 0) 1088 1152 0 0 134) (fun _ _ => False) := by
  refine CT.of RX4 [(0, .ref 1024)] hfl (by decide +kernel) rfl rfl (Nat.le_of_ble_eq_true rfl) ?_
  intro E ok en hml hEl htab
  have hR : e_R E = RM 0 0 0 := en.2.2.2
  have hn0 : 0 < (e_c E).maxLocals := by rw [hml]; decide
  refine ga_aload_n ok 0 rfl rfl dX4_keep_0 ?_
  refine ga_iconst ok dX4_keep_1 ?_
  refine gp_X4_39 ok hG rfl dX4_keep_2 ?_
  refine ga_aload_n ok 0 rfl rfl dX4_keep_5 ?_
  refine gf_X4_9 ok hG rfl dX4_keep_6 ?_
  refine ga_iconst ok dX4_keep_9 ?_
  refine ga_aload_n ok 0 rfl rfl dX4_keep_10 ?_
  refine gf_X4_13 ok hG rfl dX4_keep_11 ?_
  refine ga_iconst ok dX4_keep_14 ?_
  refine ga_sipush ok dX4_keep_15 (by decide) ?_
  refine ga_copy_ia ok lc_X4_42 (ar_ms hG rfl) (ar_mb hG rfl) (by omega) (by omega) (by omega) (by omega) (by omega) (by rw [hR]; exact (by decide)) (by rw [hR]; exact Nat.le_of_ble_eq_true rfl) dX4_keep_18 ?_
  exact ga_return ok en rfl (by decide) (by decide) dX4_keep_21 ⟨rfl, rfl⟩
theorem kp8 {g : Gm} {r0 : Nat → Int} (h8 : g.kt = 8) : mkG g.r g.sv g.hs (fun i => if i = 7 then r0 else g.pa (i + 1)) g.kt g.rs g.dt g.er g.tx g.tn g.ln g.nn = mkG g.r g.sv g.hs (fun i => if (i : Int) = 7 then r0 else g.pa (i + 1)) (7 + 1) g.rs g.dt g.er g.tx g.tn g.ln g.nn := by
  rw [h8, show (fun i : Nat => if i = 7 then r0 else g.pa (i + 1)) = (fun i : Nat => if (i : Int) = 7 then r0 else g.pa (i + 1)) from funext (fun i => by
    by_cases e : i = 7
    · rw [if_pos e, if_pos (by omega)]
    · rw [if_neg e, if_neg (by omega)])]
  rfl
set_option maxHeartbeats 4000000 in
set_option maxRecDepth 100000 in
theorem c_X4_ends {G : GG} {l : Launch} (hfl : l.stackTraces = false) (hG : MW G) {m : Mm} {g : Gm} {r0 : Nat → Int} {k : Int} (hY : YI0 m g) (h6 : m.1 1024 6 = k) (hk : 0 ≤ k ∧ k ≤ 3) (hb : ∀ q, q < 134 → m.1 1152 q = r0 q) {a : Int} : CT G l yX4_ends cX4_ends 2 (some .int) (RM 0 0 0) [.ref 1024, vI a] m (fun r' m' => r' = some (vI (if 0 < k then 0 else a)) ∧ YFr m m' ∧ m'.1 1024 6 = k ∧ (0 < k → YIs m' (nwG g r0)) ∧ (k = 0 → SR m g.r → YIs m' (kpG g r0))) (fun _ _ => False) := by
  refine CT.of RX4 [(0, .ref 1024), (1, vI a)] hfl (by decide +kernel) rfl rfl (Nat.le_of_ble_eq_true rfl) ?_
  intro E ok en hml hEl htab
  have hR : e_R E = RM 0 0 0 := en.2.2.2
  have hn0 : 0 < (e_c E).maxLocals := by rw [hml]; decide
  have hn1 : 1 < (e_c E).maxLocals := by rw [hml]; decide
  have k78 := hY.2.1.2.1
  have mid : ∀ (M : Mm) (gg : Gm), YI0 M gg → gg.kt ≤ 7 → (∀ q, q < 134 → M.1 1152 q = r0 q) → M.1 1024 6 = k → YFr m M → (SR m g.r → SR M gg.r) → kpG g r0 = (mkG gg.r gg.sv gg.hs (fun i => if (i : Int) = gg.kt then r0 else gg.pa i) (gg.kt + 1) gg.rs gg.dt gg.er gg.tx gg.tn gg.ln gg.nn) → k = 0 → WA G E 0 0 62 [(0, .ref 1024), (1, vI a)] [] M := by
    intro M gg hY9 h7 hb9 h69 hf9 hsr hkp hk0
    refine ga_aload_n ok 0 rfl rfl dX4_ends_62 ?_
    refine gf_X4_13 ok hG rfl dX4_ends_63 ?_
    refine ga_iconst ok dX4_ends_66 ?_
    refine ga_aload_n ok 0 rfl rfl dX4_ends_67 ?_
    refine gf_X4_19 ok hG rfl dX4_ends_68 ?_
    refine ga_sipush ok dX4_ends_71 (by decide) ?_
    refine ga_aload_n ok 0 rfl rfl dX4_ends_74 ?_
    refine gf_X4_48 ok hG rfl dX4_ends_75 ?_
    first | rw [hY9.2.1.1] | rw [cpI_r (by omega), hY9.2.1.1]
    refine ga_imul ok dX4_ends_78 ?_
    refine ga_sipush ok dX4_ends_79 (by decide) ?_
    have k7 := hY9.2.1.2.1
    refine ga_copy_ia ok lc_X4_42 (ar_mb hG rfl) (ar_mp hG rfl) (by omega) (by omega) (by omega) (by omega) (by omega) (by rw [hR]; exact (by decide)) (by rw [hR]; exact Nat.le_of_ble_eq_true rfl) dX4_ends_82 ?_
    refine ga_aload_n ok 0 rfl rfl dX4_ends_85 ?_
    refine ga_dup ok dX4_ends_86 rfl ?_
    refine gf_X4_48 ok hG rfl dX4_ends_87 ?_
    first | rw [hY9.2.1.1] | rw [cpI_r (by omega), hY9.2.1.1]
    refine ga_iconst ok dX4_ends_90 ?_
    refine ga_iadd ok dX4_ends_91 ?_
    refine gp_X4_48 ok hG rfl dX4_ends_92 ?_
    refine ga_iload_n ok 1 rfl rfl dX4_ends_95 ?_
    exact ga_ireturn ok en rfl rfl (by decide) (by decide) dX4_ends_96 ⟨by rw [if_neg (by omega)], hf9.tr ((YFr.rf.cI (by omega)).uI (by omega)), by rw [upI_no (by omega), cpI_r (by omega)]; exact h69, fun h => absurd h (by omega), fun _ hs => ⟨by rw [hkp]; exact ((hsr hs).c (by omega)).u (by omega), by rw [hkp]; exact hY9.put h7 hb9⟩⟩
  refine ga_aload_n ok 0 rfl rfl dX4_ends_0 ?_
  refine gf_X4_39 ok hG rfl dX4_ends_1 ?_
  rw [h6]
  refine ga_if_le ok 25 (by decide) (by omega) dX4_ends_4 (fun c_4 => ?_) (fun c_4 => ?_)
  · have hk0 : k = 0 := by omega
    refine ga_aload_n ok 0 rfl rfl dX4_ends_25 ?_
    refine gf_X4_48 ok hG rfl dX4_ends_26 ?_
    first | rw [hY.2.1.1] | rw [cpI_r (by omega), hY.2.1.1]
    refine ga_bipush ok dX4_ends_29 (by decide) ?_
    refine ga_icmp_ne ok 62 (by decide) (by omega) (by omega) dX4_ends_31 (fun c_31 => ?_) (fun c_31 => ?_)
    · exact WA.re (by exact ⟨rfl, rfl, trivial⟩) (mid _ g hY (by have := hY.2.1.2.1; omega) hb h6 YFr.rf (fun h => h) (by unfold kpG; rw [if_neg (by omega)]) hk0)
    · refine ga_aload_n ok 0 rfl rfl dX4_ends_34 ?_
      refine gf_X4_19 ok hG rfl dX4_ends_35 ?_
      refine ga_sipush ok dX4_ends_38 (by decide) ?_
      refine ga_aload_n ok 0 rfl rfl dX4_ends_41 ?_
      refine gf_X4_19 ok hG rfl dX4_ends_42 ?_
      refine ga_iconst ok dX4_ends_45 ?_
      refine ga_sipush ok dX4_ends_46 (by decide) ?_
      refine ga_copy_ia ok lc_X4_42 (ar_mp hG rfl) (ar_mp hG rfl) (by omega) (by omega) (by omega) (by omega) (by omega) (by rw [hR]; exact (by decide)) (by rw [hR]; exact Nat.le_of_ble_eq_true rfl) dX4_ends_49 ?_
      refine ga_aload_n ok 0 rfl rfl dX4_ends_52 ?_
      refine ga_dup ok dX4_ends_53 rfl ?_
      refine gf_X4_48 ok hG rfl dX4_ends_54 ?_
      first | rw [hY.2.1.1] | rw [cpI_r (by omega), hY.2.1.1]
      refine ga_iconst ok dX4_ends_57 ?_
      refine ga_isub ok dX4_ends_58 ?_
      refine gp_X4_48 ok hG rfl dX4_ends_59 ?_
      rw [show g.kt - 1 = 7 by omega]
      exact WA.re (by exact ⟨rfl, rfl, trivial⟩) (mid _ _ (hY.shift (by omega)) (by show (7 : Int) ≤ 7; omega) (fun q hq => by rw [upI_r (by omega), cpI_r (by omega)]; exact hb q hq) (by rw [upI_no (by omega), cpI_r (by omega)]; exact h6) ((YFr.rf.cI (by omega)).uI (by omega)) (fun h => (h.c (by omega)).u (by omega)) (by unfold kpG; rw [if_pos (by omega)]; exact kp8 (by omega)) hk0)
  · refine ga_aload_n ok 0 rfl rfl dX4_ends_7 ?_
    refine gf_X4_13 ok hG rfl dX4_ends_8 ?_
    refine ga_iconst ok dX4_ends_11 ?_
    refine ga_aload_n ok 0 rfl rfl dX4_ends_12 ?_
    refine gf_X4_9 ok hG rfl dX4_ends_13 ?_
    refine ga_iconst ok dX4_ends_16 ?_
    refine ga_sipush ok dX4_ends_17 (by decide) ?_
    refine ga_copy_ia ok lc_X4_42 (ar_mb hG rfl) (ar_ms hG rfl) (by omega) (by omega) (by omega) (by omega) (by omega) (by rw [hR]; exact (by decide)) (by rw [hR]; exact Nat.le_of_ble_eq_true rfl) dX4_ends_20 ?_
    refine ga_iconst ok dX4_ends_23 ?_
    exact ga_ireturn ok en rfl rfl (by decide) (by decide) dX4_ends_24 ⟨by rw [if_pos (by omega)], YFr.rf.cI (by omega), by rw [cpI_r (by omega)]; exact h6, fun _ => YIs.back hY hb, fun h => absurd h (by omega)⟩
