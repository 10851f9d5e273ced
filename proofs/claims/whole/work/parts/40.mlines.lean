/-! LINES -/
def putL (q : (Nat → Int) × Int) (c : Int) : (Nat → Int) × Int := (fun i => if (i : Int) = q.2 then c else q.1 i, q.2 + 1)
def ln0 : (Nat → Int) × Int := (fun _ => 0, 0)
def natL : Nat → (Nat → Int) × Int → Int → (Nat → Int) × Int
  | 0, q, v => putL q (48 + v % 10)
  | f + 1, q, v => putL (if 9 < v then natL f q (v / 10) else q) (48 + v % 10)
def numL (q : (Nat → Int) × Int) (v : Int) : (Nat → Int) × Int := if v < 0 then natL 4 (putL q 45) (-v) else natL 4 q v
def vLn (x f : Int) : Nat → (Nat → Int) × Int
  | 0 => putL ln0 (if f = 1 then 43 else 45)
  | k + 1 => if x / 2 ^ k % 2 ^ 1 = 1 then putL (vLn x f k) (97 + k) else vLn x f k
def gLn (c : Nat → Int) : Nat → (Nat → Int) × Int
  | 0 => ln0
  | k + 1 => numL (if k = 0 then gLn c k else putL (gLn c k) 32) (c k)
def lnG (g : Gm) (q : (Nat → Int) × Int) : Gm := mkG g.r g.sv g.hs g.pa g.kt g.rs g.dt g.er g.tx g.tn q.1 q.2
def sp_line (g : Gm) (v : Int) : Int × Int × Gm := if ¬ (0 ≤ v ∧ v < g.r 1) then (1, 0, g) else (0, (vLn (vX g.r v.toNat) (vF g.r v.toNat) 10).2, lnG g (vLn (vX g.r v.toNat) (vF g.r v.toNat) 10))
def sp_guardLine (g : Gm) (n : Int) : Int × Int × Gm := if ¬ (0 ≤ n ∧ n < g.r 0) then (1, 0, g) else (0, (gLn (gcn (rg g.r n.toNat)) 11).2, lnG g (gLn (gcn (rg g.r n.toNat)) 11))
theorem putL_2 {q : (Nat → Int) × Int} {c : Int} : (putL q c).2 = q.2 + 1 := rfl
theorem natL_2 : ∀ (f : Nat) (q : (Nat → Int) × Int) (v : Int), q.2 + 1 ≤ (natL f q v).2 ∧ (natL f q v).2 ≤ q.2 + f + 1
  | 0, q, v => by
    show q.2 + 1 ≤ q.2 + 1 ∧ q.2 + 1 ≤ q.2 + (0 : Nat) + 1
    omega
  | f + 1, q, v => by
    have h := natL_2 f q (v / 10)
    simp only [natL, putL_2]
    by_cases e : 9 < v
    · rw [if_pos e]; omega
    · rw [if_neg e]; omega
theorem numL_2 (q : (Nat → Int) × Int) (v : Int) : q.2 + 1 ≤ (numL q v).2 ∧ (numL q v).2 ≤ q.2 + 6 := by
  unfold numL
  by_cases e : v < 0
  · rw [if_pos e]
    have h := natL_2 4 (putL q 45) (-v)
    rw [putL_2] at h
    omega
  · rw [if_neg e]
    have h := natL_2 4 q v
    omega
theorem vLn_2 (x f : Int) : ∀ k : Nat, 1 ≤ (vLn x f k).2 ∧ (vLn x f k).2 ≤ k + 1
  | 0 => by show (1 : Int) ≤ 0 + 1 ∧ (0 : Int) + 1 ≤ (0 : Nat) + 1; omega
  | k + 1 => by
    have h := vLn_2 x f k
    simp only [vLn]
    by_cases e : x / 2 ^ k % 2 ^ 1 = 1
    · rw [if_pos e, putL_2]; omega
    · rw [if_neg e]; omega
theorem gLn_2 (c : Nat → Int) : ∀ k : Nat, 0 ≤ (gLn c k).2 ∧ (gLn c k).2 ≤ 7 * k
  | 0 => by show (0 : Int) ≤ 0 ∧ (0 : Int) ≤ 7 * (0 : Nat); omega
  | k + 1 => by
    have h := gLn_2 c k
    simp only [gLn]
    by_cases e : k = 0
    · rw [if_pos e]
      have h2 := numL_2 (gLn c k) (c k)
      omega
    · rw [if_neg e]
      have h2 := numL_2 (putL (gLn c k) 32) (c k)
      rw [putL_2] at h2
      omega
/-- the letters of a line are of seven bits -/
def LnOk (q : (Nat → Int) × Int) : Prop := 0 ≤ q.2 ∧ ∀ i : Nat, (i : Int) < q.2 → 0 ≤ q.1 i ∧ q.1 i ≤ 127
theorem LnOk.put {q : (Nat → Int) × Int} {c : Int} (h : LnOk q) (hc : 0 ≤ c ∧ c ≤ 127) : LnOk (putL q c) := by
  refine ⟨by rw [putL_2]; have := h.1; omega, fun i hi => ?_⟩
  rw [putL_2] at hi
  show 0 ≤ (if (i : Int) = q.2 then c else q.1 i) ∧ (if (i : Int) = q.2 then c else q.1 i) ≤ 127
  by_cases e : (i : Int) = q.2
  · rw [if_pos e]; exact hc
  · rw [if_neg e]; exact h.2 i (by omega)
theorem LnOk.nat : ∀ (f : Nat) {q : (Nat → Int) × Int} {v : Int}, LnOk q → 0 ≤ v → LnOk (natL f q v)
  | 0, q, v, h, hv => h.put (by omega)
  | f + 1, q, v, h, hv => by
    simp only [natL]
    refine LnOk.put ?_ (by omega)
    by_cases e : 9 < v
    · rw [if_pos e]; exact LnOk.nat f h (by omega)
    · rw [if_neg e]; exact h
theorem LnOk.num {q : (Nat → Int) × Int} {v : Int} (h : LnOk q) : LnOk (numL q v) := by
  unfold numL
  by_cases e : v < 0
  · rw [if_pos e]; exact LnOk.nat 4 (h.put (by omega)) (by omega)
  · rw [if_neg e]; exact LnOk.nat 4 h (by omega)
theorem LnOk.z : LnOk ln0 := ⟨by show (0 : Int) ≤ 0; omega, fun i hi => by have hi : (i : Int) < 0 := hi; omega⟩
theorem vLn_ok (x f : Int) : ∀ k : Nat, k ≤ 10 → LnOk (vLn x f k)
  | 0, _ => LnOk.z.put (by split <;> omega)
  | k + 1, hk => by
    have h := vLn_ok x f k (by omega)
    simp only [vLn]
    by_cases e : x / 2 ^ k % 2 ^ 1 = 1
    · rw [if_pos e]; exact h.put (by omega)
    · rw [if_neg e]; exact h
theorem gLn_ok (c : Nat → Int) : ∀ k : Nat, LnOk (gLn c k)
  | 0 => LnOk.z
  | k + 1 => by
    have h := gLn_ok c k
    simp only [gLn]
    by_cases e : k = 0
    · rw [if_pos e]; exact h.num
    · rw [if_neg e]; exact (h.put (by omega)).num
theorem b10_pow (f : Nat) : (10 : Int) ^ (f + 1 + 1) = 10 ^ (f + 1) * 10 := Int.pow_succ 10 (f + 1)
/-! LINES OF THE MODEL -/
def LNs (m : Mm) (q : (Nat → Int) × Int) : Prop := m.1 1024 12 = q.2 ∧ 0 ≤ q.2 ∧ ∀ i : Nat, (i : Int) < q.2 → m.1 1408 i = q.1 i
def LF (m m' : Mm) : Prop := (∀ x, x ≠ 1024 → x ≠ 1408 → m'.1 x = m.1 x) ∧ m'.2 = m.2 ∧ ∀ j, j ≠ 12 → m'.1 1024 j = m.1 1024 j
theorem LF.rf {m : Mm} : LF m m := ⟨fun _ _ _ => rfl, rfl, fun _ _ => rfl⟩
theorem LF.tr {m m1 m2 : Mm} (h1 : LF m m1) (h2 : LF m1 m2) : LF m m2 := ⟨fun x a b => (h2.1 x a b).trans (h1.1 x a b), h2.2.1.trans h1.2.1, fun j a => (h2.2.2 j a).trans (h1.2.2 j a)⟩
theorem LF.sr {m m' : Mm} {r : Nat → Int} (h : LF m m') (hs : SR m r) : SR m' r := fun k hk => by rw [h.1 1088 (by omega) (by omega)]; exact hs k hk
theorem LF.y {m m' : Mm} (h : LF m m') : YFr m m' := fun n hn => ⟨h.1 n (by omega) (by omega), by rw [h.2.1]⟩
theorem LNs.put {m : Mm} {q : (Nat → Int) × Int} {c : Int} (h : LNs m q) : LNs (upI (upI m 1408 q.2.toNat c) 1024 12 (q.2 + 1)) (putL q c) ∧ LF m (upI (upI m 1408 q.2.toNat c) 1024 12 (q.2 + 1)) := by
  obtain ⟨h1, h2, h3⟩ := h
  refine ⟨⟨by rw [upI_at]; rfl, by rw [putL_2]; omega, fun i hi => ?_⟩, fun x a b => by rw [upI_r a, upI_r b], rfl, fun j a => by rw [upI_no (by omega), upI_r (by omega)]⟩
  rw [putL_2] at hi
  show _ = if (i : Int) = q.2 then c else q.1 i
  rw [upI_r (by omega)]
  by_cases e : (i : Int) = q.2
  · rw [if_pos e, show i = q.2.toNat by omega, upI_at]
  · rw [if_neg e, upI_no (by omega)]
    exact h3 i (by omega)
theorem LNs.zero {m : Mm} : LNs (upI m 1024 12 0) ln0 := ⟨upI_at, by show (0 : Int) ≤ 0; omega, fun i hi => by have hi : (i : Int) < 0 := hi; omega⟩
theorem YIs.ln {m M : Mm} {g : Gm} {q : (Nat → Int) × Int} (h : YIs m g) (hf : LF m M) (hq : LNs M q) (h100 : q.2 ≤ 100) : YIs M (lnG g q) := by
  refine ⟨hf.sr h.1, ?_⟩
  obtain ⟨⟨a1, a2, a3⟩, ⟨b1, b2, b3⟩, ⟨c1, c2, c3⟩, ⟨d1, d2, d3⟩, ⟨e1, e2, e3⟩⟩ := h.2
  obtain ⟨f1, f0, f2⟩ := hf
  exact ⟨⟨by rw [f2 3 (by omega)]; exact a1, a2, by rw [f1 1216 (by omega) (by omega)]; exact a3⟩, ⟨by rw [f2 5 (by omega)]; exact b1, b2, by rw [f1 1280 (by omega) (by omega)]; exact b3⟩, ⟨by rw [f2 7 (by omega)]; exact c1, by rw [f2 8 (by omega)]; exact c2, by rw [f2 17 (by omega)]; exact c3⟩, ⟨by rw [f2 14 (by omega)]; exact d1, d2, by rw [f1 1472 (by omega) (by omega)]; exact d3⟩, ⟨hq.1, ⟨hq.2.1, h100⟩, hq.2.2⟩⟩
set_option maxHeartbeats 4000000 in
set_option maxRecDepth 100000 in
theorem c_X4_says {G : GG} {l : Launch} (hfl : l.stackTraces = false) (hG : MW G) {m : Mm} {q : (Nat → Int) × Int} (hq : LNs m q) {c : Int} (hc : 0 ≤ c ∧ c ≤ 65535) (hn : q.2 < 100) : CT G l yX4_says cX4_says 2 none (RM 0 0 0) [.ref 1024, vI c] m (fun r' m' => r' = none ∧ LNs m' (putL q c) ∧ LF m m') (fun _ _ => False) := by
  refine CT.of RX4 [(0, .ref 1024), (1, vI c)] hfl (by decide +kernel) rfl rfl (Nat.le_of_ble_eq_true rfl) ?_
  intro E ok en hml hEl htab
  have hR : e_R E = RM 0 0 0 := en.2.2.2
  have hn0 : 0 < (e_c E).maxLocals := by rw [hml]; decide
  have hn1 : 1 < (e_c E).maxLocals := by rw [hml]; decide
  obtain ⟨h12, hq0, hqi⟩ := id hq
  refine ga_aload_n ok 0 rfl rfl dX4_says_0 ?_
  refine gf_X4_25 ok hG rfl dX4_says_1 ?_
  refine ga_aload_n ok 0 rfl rfl dX4_says_4 ?_
  refine gf_X4_196 ok hG rfl dX4_says_5 ?_
  first | rw [h12] | rw [upI_r (by omega), h12]
  refine ga_iload_n ok 1 rfl rfl dX4_says_8 ?_
  refine ga_castore_ca ok (ar_ml hG rfl) (by omega) (narC hc) dX4_says_9 ?_
  refine ga_aload_n ok 0 rfl rfl dX4_says_10 ?_
  refine ga_dup ok dX4_says_11 rfl ?_
  refine gf_X4_196 ok hG rfl dX4_says_12 ?_
  first | rw [h12] | rw [upI_r (by omega), h12]
  refine ga_iconst ok dX4_says_15 ?_
  refine ga_iadd ok dX4_says_16 ?_
  refine gp_X4_196 ok hG rfl dX4_says_17 ?_
  exact ga_return ok en rfl (by decide) (by decide) dX4_says_20 ⟨rfl, hq.put⟩
set_option maxHeartbeats 4000000 in
set_option maxRecDepth 100000 in
theorem c_X4_saysNat {G : GG} {l : Launch} (hfl : l.stackTraces = false) (hG : MW G) : ∀ (f : Nat) {m : Mm} {q : (Nat → Int) × Int} {v : Int}, LNs m q → (0 ≤ v ∧ v < 10 ^ (f + 1)) → (q.2 + f + 1 ≤ 100 ∧ f ≤ 8) → CT G l yX4_saysNumber cX4_saysNumber 2 none (RM (f + 1) 0 0) [.ref 1024, vI v] m (fun r' m' => r' = none ∧ LNs m' (natL f q v) ∧ LF m m') (fun _ _ => False) := by
  intro f
  induction f with
  | zero =>
    intro m q v hq hv hf
    have hv : 0 ≤ v ∧ v < 10 := hv
    have hf : q.2 + (0 : Int) + 1 ≤ 100 := hf.1
    refine CT.of RX4 [(0, .ref 1024), (1, vI v)] hfl (by decide +kernel) rfl rfl (Nat.le_of_ble_eq_true rfl) ?_
    intro E ok en hml hEl htab
    have hR : e_R E = RM (0 + 1) 0 0 := en.2.2.2
    have hn0 : 0 < (e_c E).maxLocals := by rw [hml]; decide
    have hn1 : 1 < (e_c E).maxLocals := by rw [hml]; decide
    obtain ⟨h12, hq0, hqi⟩ := id hq
    refine ga_iload_n ok 1 rfl rfl dX4_saysNumber_0 ?_
    refine ga_if_ge ok 17 (by decide) (by omega) dX4_saysNumber_1 (fun c_1 => ?_) (fun c_1 => ?_)
    · refine ga_iload_n ok 1 rfl rfl dX4_saysNumber_17 ?_
      refine ga_bipush ok dX4_saysNumber_18 (by decide) ?_
      refine ga_icmp_le ok 31 (by decide) (by omega) (by omega) dX4_saysNumber_20 (fun c_20 => ?_) (fun c_20 => ?_)
      · have hn9 : ¬ 9 < v := by omega
        refine ga_aload_n ok 0 rfl rfl dX4_saysNumber_31 ?_
        refine ga_bipush ok dX4_saysNumber_32 (by decide) ?_
        refine ga_iload_n ok 1 rfl rfl dX4_saysNumber_34 ?_
        refine ga_bipush ok dX4_saysNumber_35 (by decide) ?_
        refine ga_irem ok dX4_saysNumber_37 (by omega) (by omega) ?_
        refine ga_iadd ok dX4_saysNumber_38 ?_
        refine ga_i2c ok dX4_saysNumber_39 ?_
        rw [show (48 + v % 10) % 65536 = 48 + v % 10 by omega]
        refine gc_X4_1 ok hG rfl lk_X4_199 rfl (c_X4_says ok.fl hG hq (by omega) (by omega)) (by rw [hR]; exact ⟨by show 10 + 2 * 0 + 1 ≤ 10 + 2 * (0 + 1); omega, by show 8 + (2 + 11) + (300 + 120 * 0) ≤ 300 + 120 * (0 + 1); omega, by exact Nat.zero_le _, by exact Nat.zero_le _⟩) (Nat.le_of_ble_eq_true rfl) dX4_saysNumber_40 (fun r9 m1 hq9 => ?_) (fun _ _ h => h.elim)
        obtain ⟨rfl, hq1, hf1⟩ := hq9
        simp only [Option.toList_none, List.nil_append]
        exact ga_return ok en rfl (by exact Nat.zero_le _) (by exact Nat.zero_le _) dX4_saysNumber_43 ⟨rfl, by simp only [natL]; first | (rw [if_neg hn9]; exact hq1) | (rw [if_pos hn9]; exact hq1) | exact hq1, hf1⟩
      · exfalso; omega
    · exfalso; omega
  | succ f ih =>
    intro m q v hq hv hf
    have hp := b10_pow f
    rw [hp] at hv
    have hmx : v ≤ 2147483647 := by
      have h8 : (10 : Int) ^ (f + 1) * 10 ≤ 10 ^ 9 := by
        rw [← b10_pow f]
        exact_mod_cast Nat.pow_le_pow_right (by decide) (show f + 1 + 1 ≤ 9 by omega)
      have h9 : (10 : Int) ^ 9 = 1000000000 := by decide
      omega
    have hf : q.2 + ((f : Int) + 1) + 1 ≤ 100 ∧ f + 1 ≤ 8 := ⟨by have := hf.1; push_cast at this; omega, hf.2⟩
    refine CT.of RX4 [(0, .ref 1024), (1, vI v)] hfl (by decide +kernel) rfl rfl (Nat.le_of_ble_eq_true rfl) ?_
    intro E ok en hml hEl htab
    have hR : e_R E = RM (f + 1 + 1) 0 0 := en.2.2.2
    have hn0 : 0 < (e_c E).maxLocals := by rw [hml]; decide
    have hn1 : 1 < (e_c E).maxLocals := by rw [hml]; decide
    obtain ⟨h12, hq0, hqi⟩ := id hq
    refine ga_iload_n ok 1 rfl rfl dX4_saysNumber_0 ?_
    refine ga_if_ge ok 17 (by decide) (by omega) dX4_saysNumber_1 (fun c_1 => ?_) (fun c_1 => ?_)
    · refine ga_iload_n ok 1 rfl rfl dX4_saysNumber_17 ?_
      refine ga_bipush ok dX4_saysNumber_18 (by decide) ?_
      refine ga_icmp_le ok 31 (by decide) (by omega) (by omega) dX4_saysNumber_20 (fun c_20 => ?_) (fun c_20 => ?_)
      · have hn9 : ¬ 9 < v := by omega
        refine ga_aload_n ok 0 rfl rfl dX4_saysNumber_31 ?_
        refine ga_bipush ok dX4_saysNumber_32 (by decide) ?_
        refine ga_iload_n ok 1 rfl rfl dX4_saysNumber_34 ?_
        refine ga_bipush ok dX4_saysNumber_35 (by decide) ?_
        refine ga_irem ok dX4_saysNumber_37 (by omega) (by omega) ?_
        refine ga_iadd ok dX4_saysNumber_38 ?_
        refine ga_i2c ok dX4_saysNumber_39 ?_
        rw [show (48 + v % 10) % 65536 = 48 + v % 10 by omega]
        refine gc_X4_1 ok hG rfl lk_X4_199 rfl (c_X4_says ok.fl hG hq (by omega) (by omega)) (by rw [hR]; exact ⟨by show 10 + 2 * 0 + 1 ≤ 10 + 2 * (f + 1 + 1); omega, by show 8 + (2 + 11) + (300 + 120 * 0) ≤ 300 + 120 * (f + 1 + 1); omega, by exact Nat.zero_le _, by exact Nat.zero_le _⟩) (Nat.le_of_ble_eq_true rfl) dX4_saysNumber_40 (fun r9 m1 hq9 => ?_) (fun _ _ h => h.elim)
        obtain ⟨rfl, hq1, hf1⟩ := hq9
        simp only [Option.toList_none, List.nil_append]
        exact ga_return ok en rfl (by exact Nat.zero_le _) (by exact Nat.zero_le _) dX4_saysNumber_43 ⟨rfl, by simp only [natL]; first | (rw [if_neg hn9]; exact hq1) | (rw [if_pos hn9]; exact hq1) | exact hq1, hf1⟩
      · have hn9 : 9 < v := by omega
        refine ga_aload_n ok 0 rfl rfl dX4_saysNumber_23 ?_
        refine ga_iload_n ok 1 rfl rfl dX4_saysNumber_24 ?_
        refine ga_bipush ok dX4_saysNumber_25 (by decide) ?_
        refine ga_idiv ok dX4_saysNumber_27 (by omega) (by omega) ?_
        have ihv := ih (v := v / 10) hq ⟨by omega, by omega⟩ (by omega)
        rw [← hEl] at ihv
        refine gc_X4_1 ok hG rfl lk_X4_203 rfl ihv (by rw [hR]; exact ⟨by show 10 + 2 * (f + 1) + 1 ≤ 10 + 2 * (f + 1 + 1); omega, by show 8 + (2 + 11) + (300 + 120 * (f + 1)) ≤ 300 + 120 * (f + 1 + 1); omega, by exact Nat.le_refl 0, by exact Nat.le_refl 0⟩) (Nat.le_of_ble_eq_true rfl) dX4_saysNumber_28 (fun r9 mA hq9 => ?_) (fun _ _ h => h.elim)
        obtain ⟨rfl, hqA, hfA⟩ := hq9
        simp only [Option.toList_none, List.nil_append]
        have hb1 := natL_2 f q (v / 10)
        refine ga_aload_n ok 0 rfl rfl dX4_saysNumber_31 ?_
        refine ga_bipush ok dX4_saysNumber_32 (by decide) ?_
        refine ga_iload_n ok 1 rfl rfl dX4_saysNumber_34 ?_
        refine ga_bipush ok dX4_saysNumber_35 (by decide) ?_
        refine ga_irem ok dX4_saysNumber_37 (by omega) (by omega) ?_
        refine ga_iadd ok dX4_saysNumber_38 ?_
        refine ga_i2c ok dX4_saysNumber_39 ?_
        rw [show (48 + v % 10) % 65536 = 48 + v % 10 by omega]
        have hb2 := natL_2 f q (v / 10)
        refine gc_X4_1 ok hG rfl lk_X4_199 rfl (c_X4_says ok.fl hG hqA (by omega) (by omega)) (by rw [hR]; exact ⟨by show 10 + 2 * 0 + 1 ≤ 10 + 2 * (f + 1 + 1); omega, by show 8 + (2 + 11) + (300 + 120 * 0) ≤ 300 + 120 * (f + 1 + 1); omega, by exact Nat.zero_le _, by exact Nat.zero_le _⟩) (Nat.le_of_ble_eq_true rfl) dX4_saysNumber_40 (fun r9 m1 hq9 => ?_) (fun _ _ h => h.elim)
        obtain ⟨rfl, hq1, hf1⟩ := hq9
        simp only [Option.toList_none, List.nil_append]
        exact ga_return ok en rfl (by exact Nat.zero_le _) (by exact Nat.zero_le _) dX4_saysNumber_43 ⟨rfl, by simp only [natL]; first | (rw [if_neg hn9]; exact hq1) | (rw [if_pos hn9]; exact hq1) | exact hq1, hfA.tr hf1⟩
    · exfalso; omega
set_option maxHeartbeats 4000000 in
set_option maxRecDepth 100000 in
theorem c_X4_saysNumber {G : GG} {l : Launch} (hfl : l.stackTraces = false) (hG : MW G) {m : Mm} {q : (Nat → Int) × Int} (hq : LNs m q) {v : Int} (hv : -99999 ≤ v ∧ v ≤ 99999) (hn : q.2 + 6 ≤ 100) : CT G l yX4_saysNumber cX4_saysNumber 2 none (RM 6 0 0) [.ref 1024, vI v] m (fun r' m' => r' = none ∧ LNs m' (numL q v) ∧ LF m m') (fun _ _ => False) := by
  refine CT.of RX4 [(0, .ref 1024), (1, vI v)] hfl (by decide +kernel) rfl rfl (Nat.le_of_ble_eq_true rfl) ?_
  intro E ok en hml hEl htab
  have hR : e_R E = RM 6 0 0 := en.2.2.2
  have hn0 : 0 < (e_c E).maxLocals := by rw [hml]; decide
  have hn1 : 1 < (e_c E).maxLocals := by rw [hml]; decide
  obtain ⟨h12, hq0, hqi⟩ := id hq
  refine ga_iload_n ok 1 rfl rfl dX4_saysNumber_0 ?_
  refine ga_if_ge ok 17 (by decide) (by omega) dX4_saysNumber_1 (fun c_1 => ?_) (fun c_1 => ?_)
  · refine ga_iload_n ok 1 rfl rfl dX4_saysNumber_17 ?_
    refine ga_bipush ok dX4_saysNumber_18 (by decide) ?_
    refine ga_icmp_le ok 31 (by decide) (by omega) (by omega) dX4_saysNumber_20 (fun c_20 => ?_) (fun c_20 => ?_)
    · have hn9 : ¬ 9 < v := by omega
      refine ga_aload_n ok 0 rfl rfl dX4_saysNumber_31 ?_
      refine ga_bipush ok dX4_saysNumber_32 (by decide) ?_
      refine ga_iload_n ok 1 rfl rfl dX4_saysNumber_34 ?_
      refine ga_bipush ok dX4_saysNumber_35 (by decide) ?_
      refine ga_irem ok dX4_saysNumber_37 (by omega) (by omega) ?_
      refine ga_iadd ok dX4_saysNumber_38 ?_
      refine ga_i2c ok dX4_saysNumber_39 ?_
      rw [show (48 + v % 10) % 65536 = 48 + v % 10 by omega]
      refine gc_X4_1 ok hG rfl lk_X4_199 rfl (c_X4_says ok.fl hG hq (by omega) (by omega)) (by rw [hR]; exact ⟨by show 10 + 2 * 0 + 1 ≤ 10 + 2 * (6); omega, by show 8 + (2 + 11) + (300 + 120 * 0) ≤ 300 + 120 * (6); omega, by exact Nat.zero_le _, by exact Nat.zero_le _⟩) (Nat.le_of_ble_eq_true rfl) dX4_saysNumber_40 (fun r9 m1 hq9 => ?_) (fun _ _ h => h.elim)
      obtain ⟨rfl, hq1, hf1⟩ := hq9
      simp only [Option.toList_none, List.nil_append]
      exact ga_return ok en rfl (by exact Nat.zero_le _) (by exact Nat.zero_le _) dX4_saysNumber_43 ⟨rfl, by unfold numL; rw [if_neg (by omega)]; simp only [natL]; first | (rw [if_neg hn9]; exact hq1) | (rw [if_pos hn9]; exact hq1) | exact hq1, hf1⟩
    · have hn9 : 9 < v := by omega
      refine ga_aload_n ok 0 rfl rfl dX4_saysNumber_23 ?_
      refine ga_iload_n ok 1 rfl rfl dX4_saysNumber_24 ?_
      refine ga_bipush ok dX4_saysNumber_25 (by decide) ?_
      refine ga_idiv ok dX4_saysNumber_27 (by omega) (by omega) ?_
      refine gc_X4_1 ok hG rfl lk_X4_203 rfl (c_X4_saysNat ok.fl hG 3 (v := v / 10) hq ⟨by omega, by show v / 10 < 10000; omega⟩ ⟨by omega, by omega⟩) (by rw [hR]; exact ⟨by decide, by decide, by decide, by decide⟩) (Nat.le_of_ble_eq_true rfl) dX4_saysNumber_28 (fun r9 mA hq9 => ?_) (fun _ _ h => h.elim)
      obtain ⟨rfl, hqA, hfA⟩ := hq9
      simp only [Option.toList_none, List.nil_append]
      have hb1 := natL_2 3 q (v / 10)
      refine ga_aload_n ok 0 rfl rfl dX4_saysNumber_31 ?_
      refine ga_bipush ok dX4_saysNumber_32 (by decide) ?_
      refine ga_iload_n ok 1 rfl rfl dX4_saysNumber_34 ?_
      refine ga_bipush ok dX4_saysNumber_35 (by decide) ?_
      refine ga_irem ok dX4_saysNumber_37 (by omega) (by omega) ?_
      refine ga_iadd ok dX4_saysNumber_38 ?_
      refine ga_i2c ok dX4_saysNumber_39 ?_
      rw [show (48 + v % 10) % 65536 = 48 + v % 10 by omega]
      have hb2 := natL_2 3 q (v / 10)
      refine gc_X4_1 ok hG rfl lk_X4_199 rfl (c_X4_says ok.fl hG hqA (by omega) (by omega)) (by rw [hR]; exact ⟨by show 10 + 2 * 0 + 1 ≤ 10 + 2 * (6); omega, by show 8 + (2 + 11) + (300 + 120 * 0) ≤ 300 + 120 * (6); omega, by exact Nat.zero_le _, by exact Nat.zero_le _⟩) (Nat.le_of_ble_eq_true rfl) dX4_saysNumber_40 (fun r9 m1 hq9 => ?_) (fun _ _ h => h.elim)
      obtain ⟨rfl, hq1, hf1⟩ := hq9
      simp only [Option.toList_none, List.nil_append]
      exact ga_return ok en rfl (by exact Nat.zero_le _) (by exact Nat.zero_le _) dX4_saysNumber_43 ⟨rfl, by unfold numL; rw [if_neg (by omega)]; simp only [natL]; first | (rw [if_neg hn9]; exact hq1) | (rw [if_pos hn9]; exact hq1) | exact hq1, hfA.tr hf1⟩
  · refine ga_aload_n ok 0 rfl rfl dX4_saysNumber_4 ?_
    refine ga_bipush ok dX4_saysNumber_5 (by decide) ?_
    refine gc_X4_1 ok hG rfl lk_X4_199 rfl (c_X4_says ok.fl hG hq (by omega) (by omega)) (by rw [hR]; exact ⟨by decide, by decide, by decide, by decide⟩) (Nat.le_of_ble_eq_true rfl) dX4_saysNumber_7 (fun r9 mA hq9 => ?_) (fun _ _ h => h.elim)
    obtain ⟨rfl, hqA, hfA⟩ := hq9
    simp only [Option.toList_none, List.nil_append]
    refine ga_aload_n ok 0 rfl rfl dX4_saysNumber_10 ?_
    refine ga_iload_n ok 1 rfl rfl dX4_saysNumber_11 ?_
    refine ga_ineg ok dX4_saysNumber_12 ?_
    refine gc_X4_1 ok hG rfl lk_X4_203 rfl (c_X4_saysNat ok.fl hG 4 (v := -v) hqA ⟨by omega, by show -v < 100000; omega⟩ ⟨by rw [putL_2]; omega, by omega⟩) (by rw [hR]; exact ⟨by decide, by decide, by decide, by decide⟩) (Nat.le_of_ble_eq_true rfl) dX4_saysNumber_13 (fun r9 m1 hq9 => ?_) (fun _ _ h => h.elim)
    obtain ⟨rfl, hq1, hf1⟩ := hq9
    simp only [Option.toList_none, List.nil_append]
    exact ga_return ok en rfl (by decide) (by decide) dX4_saysNumber_16 ⟨rfl, by unfold numL; rw [if_pos (by omega)]; exact hq1, hfA.tr hf1⟩
set_option maxHeartbeats 4000000 in
set_option maxRecDepth 100000 in
theorem c_X4_line {G : GG} {l : Launch} (hfl : l.stackTraces = false) (hG : MW G) {m : Mm} {g : Gm} {T : Int} (hY : YIs m g) (hT : gtOk T g.r) {v : Int} (hvR : -2147483648 ≤ v ∧ v ≤ 2147483647) : CT G l yX4_line cX4_line 3 (some .int) (RM 4 0 0) [.ref 1024, vI v] m (fun r' m' => ∃ v9, r' = some (vI v9) ∧ ((sp_line g v).1 = 0 → v9 = (sp_line g v).2.1) ∧ YIs m' (sp_line g v).2.2 ∧ m'.1 1024 6 = (sp_line g v).1 ∧ YFr m m') (fun _ _ => False) := by
  refine CT.of RX4 [(0, .ref 1024), (1, vI v)] hfl (by decide +kernel) rfl rfl (Nat.le_of_ble_eq_true rfl) ?_
  intro E ok en hml hEl htab
  have hR : e_R E = RM 4 0 0 := en.2.2.2
  have hn0 : 0 < (e_c E).maxLocals := by rw [hml]; decide
  have hn1 : 1 < (e_c E).maxLocals := by rw [hml]; decide
  have hn2 : 2 < (e_c E).maxLocals := by rw [hml]; decide
  have hs := hY.1
  obtain ⟨b0, b1, hvb, hgb⟩ := id hT
  have s0 := hs 0 (by omega)
  have s1 := hs 1 (by omega)
  refine ga_aload_n ok 0 rfl rfl dX4_line_0 ?_
  refine ga_aload_n ok 0 rfl rfl dX4_line_1 ?_
  refine ga_iload_n ok 1 rfl rfl dX4_line_2 ?_
  refine gd_X4_1 ok hG rfl lk_X4_104 rfl (c_X4_isVisitor ok.fl hG hs hT hvR) (by rw [hR]; exact ⟨by decide, by decide, by decide, by decide⟩) (Nat.le_of_ble_eq_true rfl) dX4_line_3 ?_
  refine ga_if_eq ok 13 (by decide) (b2i_rng _) dX4_line_6 (fun c_6 => ?_) (fun c_6 => ?_)
  · have f_6 := of_decide_eq_false (b2i_0.mp c_6)
    refine ga_iconst ok dX4_line_13 ?_
    refine gp_X4_39 ok hG rfl dX4_line_14 ?_
    refine ga_aload_n ok 0 rfl rfl dX4_line_17 ?_
    refine gf_X4_39 ok hG rfl dX4_line_18 ?_
    rw [upI_at]
    refine ga_if_le ok 26 (by decide) (by omega) dX4_line_21 (fun c_21 => ?_) (fun c_21 => ?_)
    · exfalso; omega
    · refine ga_iconst ok dX4_line_24 ?_
      exact ga_ireturn ok en rfl rfl (by decide) (by decide) dX4_line_25 (by
  have hd : (sp_line g v) = (1, 0, g) := by unfold sp_line; rw [if_pos (by omega)]
  rw [hd]
  exact ⟨_, rfl, fun h => absurd (show (1 : Int) = 0 from h) (by decide), ⟨hs.u (by omega), hY.2.u (by omega)⟩, upI_at, YFr.rf.uI (by omega)⟩)
  · have f_6 := of_decide_eq_true (b2i_n0.mp c_6)
    refine ga_iconst ok dX4_line_9 ?_
    refine ga_goto ok 14 (by decide) dX4_line_10 ?_
    refine gp_X4_39 ok hG rfl dX4_line_14 ?_
    refine ga_aload_n ok 0 rfl rfl dX4_line_17 ?_
    refine gf_X4_39 ok hG rfl dX4_line_18 ?_
    rw [upI_at]
    refine ga_if_le ok 26 (by decide) (by omega) dX4_line_21 (fun c_21 => ?_) (fun c_21 => ?_)
    · have hY1 : YIs (thM m 0) g := ⟨hs.t, hY.2.u (by omega)⟩
      have h61 : (thM m 0).1 1024 6 = 0 := thM_at
      have hs1 := hY1.1
      have hx9 : 0 ≤ (vX g.r v.toNat) ∧ (vX g.r v.toNat) ≤ 1023 := by have := hvb v.toNat (by omega); omega
      have loop : ∀ (i : Int) (M : Mm), (0 ≤ i ∧ i ≤ 10 ∧ LNs M (vLn (vX g.r v.toNat) (vF g.r v.toNat) i.toNat) ∧ LF (thM m 0) M) → WA G E 0 0 52 [(2, vI i), (0, .ref 1024), (1, vI v)] [] M := by
        refine wl2 _ (fun i _ => (10 - i).toNat) _ ?_
        intro i M hi ih
        obtain ⟨hi0, hi1, hqM, hfM⟩ := hi
        refine ga_iload_n ok 2 rfl rfl dX4_line_52 ?_
        refine ga_bipush ok dX4_line_53 (by decide) ?_
        refine ga_icmp_ge ok 85 (by decide) (by omega) (by omega) dX4_line_55 (fun c_55 => ?_) (fun c_55 => ?_)
        · refine ga_aload_n ok 0 rfl rfl dX4_line_85 ?_
          refine gf_X4_196 ok hG rfl dX4_line_86 ?_
          rw [hqM.1]
          exact ga_ireturn ok en rfl rfl (by decide) (by decide) dX4_line_89 (by
        have hi9 : i = 10 := by omega
        subst hi9
        have hd : (sp_line g v) = (0, (vLn (vX g.r v.toNat) (vF g.r v.toNat) 10).2, lnG g (vLn (vX g.r v.toNat) (vF g.r v.toNat) 10)) := by unfold sp_line; rw [if_neg (by omega)]
        have hb := vLn_2 (vX g.r v.toNat) (vF g.r v.toNat) 10
        rw [hd]
        exact ⟨_, rfl, fun _ => rfl, hY1.ln hfM hqM (by omega), (hfM.2.2 6 (by omega)).trans h61, (YFr.rf.uI (by omega)).tr hfM.y⟩)
        · refine ga_aload_n ok 0 rfl rfl dX4_line_58 ?_
          refine ga_iload_n ok 1 rfl rfl dX4_line_59 ?_
          refine gd_X4_1 ok hG rfl lk_X4_97 rfl (c_X4_badges ok.fl hG (hfM.sr hs1) hT (v := v) (by omega)) (by rw [hR]; exact ⟨by decide, by decide, by decide, by decide⟩) (Nat.le_of_ble_eq_true rfl) dX4_line_60 ?_
          refine ga_iload_n ok 2 rfl rfl dX4_line_63 ?_
          refine gd_S_2 ok lk_X4_118 (c_X4_has ok.fl hG hx9 (b := i) (by omega)) (by rw [hR]; exact ⟨by decide, by decide, by decide, by decide⟩) (Nat.le_of_ble_eq_true rfl) dX4_line_64 ?_
          refine ga_if_eq ok 79 (by decide) (b2i_rng _) dX4_line_67 (fun c_67 => ?_) (fun c_67 => ?_)
          · have f_67 := b2i_0.mp c_67
            refine ga_iinc ok rfl hn2 dX4_line_79 ?_
            refine ga_goto ok 52 (by decide) dX4_line_82 ?_
            have h9 : ¬ (vX g.r v.toNat) / 2 ^ i.toNat % 2 ^ 1 = 1 := fun e => (of_decide_eq_false f_67) (Or.inr e)
            have e9 : vLn (vX g.r v.toNat) (vF g.r v.toNat) (i + 1).toNat = vLn (vX g.r v.toNat) (vF g.r v.toNat) i.toNat := by
              rw [show (i + 1).toNat = i.toNat + 1 by omega]; simp only [vLn]; rw [if_neg h9]
            exact WA.re (by exact ⟨rfl, rfl, rfl, trivial⟩) (ih (i + 1) M ⟨by omega, by omega, by rw [e9]; exact hqM, hfM⟩ (by omega))
          · have f_67 := b2i_n0.mp c_67
            refine ga_aload_n ok 0 rfl rfl dX4_line_70 ?_
            refine ga_bipush ok dX4_line_71 (by decide) ?_
            refine ga_iload_n ok 2 rfl rfl dX4_line_73 ?_
            refine ga_iadd ok dX4_line_74 ?_
            refine ga_i2c ok dX4_line_75 ?_
            rw [show (97 + i) % 65536 = 97 + i by omega]
            refine gc_X4_1 ok hG rfl lk_X4_199 rfl (c_X4_says ok.fl hG hqM (by omega) (by have := vLn_2 (vX g.r v.toNat) (vF g.r v.toNat) i.toNat; omega)) (by rw [hR]; exact ⟨by decide, by decide, by decide, by decide⟩) (Nat.le_of_ble_eq_true rfl) dX4_line_76 (fun r9 m1 hq9 => ?_) (fun _ _ h => h.elim)
            obtain ⟨rfl, hq1, hf1⟩ := hq9
            simp only [Option.toList_none, List.nil_append]
            refine ga_iinc ok rfl hn2 dX4_line_79 ?_
            refine ga_goto ok 52 (by decide) dX4_line_82 ?_
            have h9 : (vX g.r v.toNat) / 2 ^ i.toNat % 2 ^ 1 = 1 := (of_decide_eq_true f_67).elim (fun e => by omega) id
            have e9 : vLn (vX g.r v.toNat) (vF g.r v.toNat) (i + 1).toNat = putL (vLn (vX g.r v.toNat) (vF g.r v.toNat) i.toNat) (97 + i) := by
              rw [show (i + 1).toNat = i.toNat + 1 by omega]; simp only [vLn]; rw [if_pos h9, show ((i.toNat : Nat) : Int) = i by omega]
            exact WA.re (by exact ⟨rfl, rfl, rfl, trivial⟩) (ih (i + 1) m1 ⟨by omega, by omega, by rw [e9]; exact hq1, hfM.tr hf1⟩ (by omega))
      have hsZ : SR (upI (thM m 0) 1024 12 0) g.r := hs1.u (by omega)
      refine ga_aload_n ok 0 rfl rfl dX4_line_26 ?_
      refine ga_iconst ok dX4_line_27 ?_
      refine gp_X4_196 ok hG rfl dX4_line_28 ?_
      refine ga_aload_n ok 0 rfl rfl dX4_line_31 ?_
      refine ga_aload_n ok 0 rfl rfl dX4_line_32 ?_
      refine ga_iload_n ok 1 rfl rfl dX4_line_33 ?_
      refine gd_X4_1 ok hG rfl lk_X4_128 rfl (c_X4_isFriend ok.fl hG hsZ hT (v := v) (by omega)) (by rw [hR]; exact ⟨by decide, by decide, by decide, by decide⟩) (Nat.le_of_ble_eq_true rfl) dX4_line_34 ?_
      refine ga_if_eq ok 45 (by decide) (b2i_rng _) dX4_line_37 (fun c_37 => ?_) (fun c_37 => ?_)
      · have f_37 := b2i_0.mp c_37
        refine ga_bipush ok dX4_line_45 (by decide) ?_
        refine gc_X4_1 ok hG rfl lk_X4_199 rfl (c_X4_says ok.fl hG (LNs.zero (m := thM m 0)) (by omega) (by show (0 : Int) < 100; omega)) (by rw [hR]; exact ⟨by decide, by decide, by decide, by decide⟩) (Nat.le_of_ble_eq_true rfl) dX4_line_47 (fun r9 m1 hq9 => ?_) (fun _ _ h => h.elim)
        obtain ⟨rfl, hq1, hf1⟩ := hq9
        simp only [Option.toList_none, List.nil_append]
        have hf9 := of_decide_eq_false f_37
        have hq2 : LNs m1 (vLn (vX g.r v.toNat) (vF g.r v.toNat) 0) := by
          show LNs m1 (putL ln0 (if (vF g.r v.toNat) = 1 then 43 else 45))
          rw [if_neg hf9]
          exact hq1
        have hf2 : LF (thM m 0) m1 := LF.tr ⟨fun x a b => upI_r a, rfl, fun j hj => upI_no (by omega)⟩ hf1
        refine ga_iconst ok dX4_line_50 ?_
        refine ga_istore_n ok 2 rfl hn2 dX4_line_51 ?_
        exact WA.re (by exact ⟨rfl, rfl, rfl, trivial⟩) (loop 0 m1 ⟨by omega, by omega, hq2, hf2⟩)
      · have f_37 := b2i_n0.mp c_37
        refine ga_bipush ok dX4_line_40 (by decide) ?_
        refine ga_goto ok 47 (by decide) dX4_line_42 ?_
        refine gc_X4_1 ok hG rfl lk_X4_199 rfl (c_X4_says ok.fl hG (LNs.zero (m := thM m 0)) (by omega) (by show (0 : Int) < 100; omega)) (by rw [hR]; exact ⟨by decide, by decide, by decide, by decide⟩) (Nat.le_of_ble_eq_true rfl) dX4_line_47 (fun r9 m1 hq9 => ?_) (fun _ _ h => h.elim)
        obtain ⟨rfl, hq1, hf1⟩ := hq9
        simp only [Option.toList_none, List.nil_append]
        have hf9 := of_decide_eq_true f_37
        have hq2 : LNs m1 (vLn (vX g.r v.toNat) (vF g.r v.toNat) 0) := by
          show LNs m1 (putL ln0 (if (vF g.r v.toNat) = 1 then 43 else 45))
          rw [if_pos hf9]
          exact hq1
        have hf2 : LF (thM m 0) m1 := LF.tr ⟨fun x a b => upI_r a, rfl, fun j hj => upI_no (by omega)⟩ hf1
        refine ga_iconst ok dX4_line_50 ?_
        refine ga_istore_n ok 2 rfl hn2 dX4_line_51 ?_
        exact WA.re (by exact ⟨rfl, rfl, rfl, trivial⟩) (loop 0 m1 ⟨by omega, by omega, hq2, hf2⟩)
    · exfalso; omega
set_option maxHeartbeats 4000000 in
set_option maxRecDepth 100000 in
theorem c_X4_guardLine {G : GG} {l : Launch} (hfl : l.stackTraces = false) (hG : MW G) {m : Mm} {g : Gm} {T : Int} (hY : YIs m g) (hT : gtOk T g.r) {n : Int} (hnR : -2147483648 ≤ n ∧ n ≤ 2147483647) : CT G l yX4_guardLine cX4_guardLine 3 (some .int) (RM 8 0 0) [.ref 1024, vI n] m (fun r' m' => ∃ v9, r' = some (vI v9) ∧ ((sp_guardLine g n).1 = 0 → v9 = (sp_guardLine g n).2.1) ∧ YIs m' (sp_guardLine g n).2.2 ∧ m'.1 1024 6 = (sp_guardLine g n).1 ∧ YFr m m') (fun _ _ => False) := by
  refine CT.of RX4 [(0, .ref 1024), (1, vI n)] hfl (by decide +kernel) rfl rfl (Nat.le_of_ble_eq_true rfl) ?_
  intro E ok en hml hEl htab
  have hR : e_R E = RM 8 0 0 := en.2.2.2
  have hn0 : 0 < (e_c E).maxLocals := by rw [hml]; decide
  have hn1 : 1 < (e_c E).maxLocals := by rw [hml]; decide
  have hn2 : 2 < (e_c E).maxLocals := by rw [hml]; decide
  have hs := hY.1
  obtain ⟨b0, b1, hvb, hgb⟩ := id hT
  have s0 := hs 0 (by omega)
  have s1 := hs 1 (by omega)
  refine ga_aload_n ok 0 rfl rfl dX4_guardLine_0 ?_
  refine ga_aload_n ok 0 rfl rfl dX4_guardLine_1 ?_
  refine ga_iload_n ok 1 rfl rfl dX4_guardLine_2 ?_
  refine gd_X4_1 ok hG rfl lk_X4_86 rfl (c_X4_isGuard ok.fl hG hs hT hnR) (by rw [hR]; exact ⟨by decide, by decide, by decide, by decide⟩) (Nat.le_of_ble_eq_true rfl) dX4_guardLine_3 ?_
  refine ga_if_eq ok 13 (by decide) (b2i_rng _) dX4_guardLine_6 (fun c_6 => ?_) (fun c_6 => ?_)
  · have f_6 := of_decide_eq_false (b2i_0.mp c_6)
    refine ga_iconst ok dX4_guardLine_13 ?_
    refine gp_X4_39 ok hG rfl dX4_guardLine_14 ?_
    refine ga_aload_n ok 0 rfl rfl dX4_guardLine_17 ?_
    refine gf_X4_39 ok hG rfl dX4_guardLine_18 ?_
    rw [upI_at]
    refine ga_if_le ok 26 (by decide) (by omega) dX4_guardLine_21 (fun c_21 => ?_) (fun c_21 => ?_)
    · exfalso; omega
    · refine ga_iconst ok dX4_guardLine_24 ?_
      exact ga_ireturn ok en rfl rfl (by decide) (by decide) dX4_guardLine_25 (by
  have hd : (sp_guardLine g n) = (1, 0, g) := by unfold sp_guardLine; rw [if_pos (by omega)]
  rw [hd]
  exact ⟨_, rfl, fun h => absurd (show (1 : Int) = 0 from h) (by decide), ⟨hs.u (by omega), hY.2.u (by omega)⟩, upI_at, YFr.rf.uI (by omega)⟩)
  · have f_6 := of_decide_eq_true (b2i_n0.mp c_6)
    refine ga_iconst ok dX4_guardLine_9 ?_
    refine ga_goto ok 14 (by decide) dX4_guardLine_10 ?_
    refine gp_X4_39 ok hG rfl dX4_guardLine_14 ?_
    refine ga_aload_n ok 0 rfl rfl dX4_guardLine_17 ?_
    refine gf_X4_39 ok hG rfl dX4_guardLine_18 ?_
    rw [upI_at]
    refine ga_if_le ok 26 (by decide) (by omega) dX4_guardLine_21 (fun c_21 => ?_) (fun c_21 => ?_)
    · have hY1 : YIs (thM m 0) g := ⟨hs.t, hY.2.u (by omega)⟩
      have h61 : (thM m 0).1 1024 6 = 0 := thM_at
      have hs1 := hY1.1
      have loop : ∀ (i : Int) (M : Mm), (-1 ≤ i ∧ i ≤ 10 ∧ LNs M (gLn (gcn (rg g.r n.toNat)) (i + 1).toNat) ∧ LF (thM m 0) M) → WA G E 0 0 33 [(2, vI i), (0, .ref 1024), (1, vI n)] [] M := by
        refine wl2 _ (fun i _ => (10 - i).toNat) _ ?_
        intro i M hi ih
        obtain ⟨hi0, hi1, hqM, hfM⟩ := hi
        refine ga_iload_n ok 2 rfl rfl dX4_guardLine_33 ?_
        refine ga_bipush ok dX4_guardLine_34 (by decide) ?_
        refine ga_icmp_ge ok 65 (by decide) (by omega) (by omega) dX4_guardLine_36 (fun c_36 => ?_) (fun c_36 => ?_)
        · refine ga_aload_n ok 0 rfl rfl dX4_guardLine_65 ?_
          refine gf_X4_196 ok hG rfl dX4_guardLine_66 ?_
          rw [hqM.1]
          exact ga_ireturn ok en rfl rfl (by decide) (by decide) dX4_guardLine_69 (by
        have hi9 : i = 10 := by omega
        subst hi9
        have hd : (sp_guardLine g n) = (0, (gLn (gcn (rg g.r n.toNat)) 11).2, lnG g (gLn (gcn (rg g.r n.toNat)) 11)) := by unfold sp_guardLine; rw [if_neg (by omega)]
        have hb := gLn_2 (gcn (rg g.r n.toNat)) 11
        rw [hd]
        exact ⟨_, rfl, fun _ => rfl, hY1.ln hfM hqM (by omega), (hfM.2.2 6 (by omega)).trans h61, (YFr.rf.uI (by omega)).tr hfM.y⟩)
        · refine ga_iload_n ok 2 rfl rfl dX4_guardLine_39 ?_
          refine ga_if_lt ok 49 (by decide) (by omega) dX4_guardLine_40 (fun c_40 => ?_) (fun c_40 => ?_)
          · have hqB := hqM
            have hsB := hfM.sr hs1
            refine ga_aload_n ok 0 rfl rfl dX4_guardLine_49 ?_
            refine ga_aload_n ok 0 rfl rfl dX4_guardLine_50 ?_
            refine ga_iload_n ok 1 rfl rfl dX4_guardLine_51 ?_
            refine ga_iload_n ok 2 rfl rfl dX4_guardLine_52 ?_
            refine gd_X4_2 ok hG rfl lk_X4_110 rfl (c_X4_countedOf ok.fl hG hsB hT (g := n) (b := i) (by omega) (by omega)) (by rw [hR]; exact ⟨by decide, by decide, by decide, by decide⟩) (Nat.le_of_ble_eq_true rfl) dX4_guardLine_53 ?_
            have hcb9 : -60000 ≤ (gcn (rg g.r n.toNat)) (i + 1).toNat ∧ (gcn (rg g.r n.toNat)) (i + 1).toNat ≤ 60000 := (hgb n.toNat (by omega)).2.2.2.1 (i + 1).toNat (by omega)
            refine gc_X4_1 ok hG rfl lk_X4_203 rfl (c_X4_saysNumber ok.fl hG hqB (by omega) (by have := gLn_2 (gcn (rg g.r n.toNat)) (i + 1).toNat; first | (rw [putL_2]; omega) | omega)) (by rw [hR]; exact ⟨by decide, by decide, by decide, by decide⟩) (Nat.le_of_ble_eq_true rfl) dX4_guardLine_56 (fun r9 m2 hq9 => ?_) (fun _ _ h => h.elim)
            obtain ⟨rfl, hq2, hf2⟩ := hq9
            simp only [Option.toList_none, List.nil_append]
            refine ga_iinc ok rfl hn2 dX4_guardLine_59 ?_
            refine ga_goto ok 33 (by decide) dX4_guardLine_62 ?_
            have e9 : gLn (gcn (rg g.r n.toNat)) (i + 1 + 1).toNat = numL (gLn (gcn (rg g.r n.toNat)) (i + 1).toNat) ((gcn (rg g.r n.toNat)) (i + 1).toNat) := by
              rw [show (i + 1 + 1).toNat = (i + 1).toNat + 1 by omega]; simp only [gLn]; rw [if_pos (by omega)]
            exact WA.re (by exact ⟨rfl, rfl, rfl, trivial⟩) (ih (i + 1) m2 ⟨by omega, by omega, by rw [e9]; exact hq2, hfM.tr hf2⟩ (by omega))
          · refine ga_aload_n ok 0 rfl rfl dX4_guardLine_43 ?_
            refine ga_bipush ok dX4_guardLine_44 (by decide) ?_
            refine gc_X4_1 ok hG rfl lk_X4_199 rfl (c_X4_says ok.fl hG hqM (by omega) (by have := gLn_2 (gcn (rg g.r n.toNat)) (i + 1).toNat; omega)) (by rw [hR]; exact ⟨by decide, by decide, by decide, by decide⟩) (Nat.le_of_ble_eq_true rfl) dX4_guardLine_46 (fun r9 m1 hq9 => ?_) (fun _ _ h => h.elim)
            obtain ⟨rfl, hq1, hf1⟩ := hq9
            simp only [Option.toList_none, List.nil_append]
            have hqB := hq1
            have hsB := (hfM.tr hf1).sr hs1
            refine ga_aload_n ok 0 rfl rfl dX4_guardLine_49 ?_
            refine ga_aload_n ok 0 rfl rfl dX4_guardLine_50 ?_
            refine ga_iload_n ok 1 rfl rfl dX4_guardLine_51 ?_
            refine ga_iload_n ok 2 rfl rfl dX4_guardLine_52 ?_
            refine gd_X4_2 ok hG rfl lk_X4_110 rfl (c_X4_countedOf ok.fl hG hsB hT (g := n) (b := i) (by omega) (by omega)) (by rw [hR]; exact ⟨by decide, by decide, by decide, by decide⟩) (Nat.le_of_ble_eq_true rfl) dX4_guardLine_53 ?_
            have hcb9 : -60000 ≤ (gcn (rg g.r n.toNat)) (i + 1).toNat ∧ (gcn (rg g.r n.toNat)) (i + 1).toNat ≤ 60000 := (hgb n.toNat (by omega)).2.2.2.1 (i + 1).toNat (by omega)
            refine gc_X4_1 ok hG rfl lk_X4_203 rfl (c_X4_saysNumber ok.fl hG hqB (by omega) (by have := gLn_2 (gcn (rg g.r n.toNat)) (i + 1).toNat; first | (rw [putL_2]; omega) | omega)) (by rw [hR]; exact ⟨by decide, by decide, by decide, by decide⟩) (Nat.le_of_ble_eq_true rfl) dX4_guardLine_56 (fun r9 m2 hq9 => ?_) (fun _ _ h => h.elim)
            obtain ⟨rfl, hq2, hf2⟩ := hq9
            simp only [Option.toList_none, List.nil_append]
            refine ga_iinc ok rfl hn2 dX4_guardLine_59 ?_
            refine ga_goto ok 33 (by decide) dX4_guardLine_62 ?_
            have e9 : gLn (gcn (rg g.r n.toNat)) (i + 1 + 1).toNat = numL (putL (gLn (gcn (rg g.r n.toNat)) (i + 1).toNat) 32) ((gcn (rg g.r n.toNat)) (i + 1).toNat) := by
              rw [show (i + 1 + 1).toNat = (i + 1).toNat + 1 by omega]; simp only [gLn]; rw [if_neg (by omega)]
            exact WA.re (by exact ⟨rfl, rfl, rfl, trivial⟩) (ih (i + 1) m2 ⟨by omega, by omega, by rw [e9]; exact hq2, (hfM.tr hf1).tr hf2⟩ (by omega))
      refine ga_aload_n ok 0 rfl rfl dX4_guardLine_26 ?_
      refine ga_iconst ok dX4_guardLine_27 ?_
      refine gp_X4_196 ok hG rfl dX4_guardLine_28 ?_
      refine ga_iconst ok dX4_guardLine_31 ?_
      refine ga_istore_n ok 2 rfl hn2 dX4_guardLine_32 ?_
      exact WA.re (by exact ⟨rfl, rfl, rfl, trivial⟩) (loop (-1) _ ⟨by omega, by omega, LNs.zero, ⟨fun x a b => upI_r a, rfl, fun j hj => upI_no (by omega)⟩⟩)
    · exfalso; omega
set_option maxHeartbeats 4000000 in
set_option maxRecDepth 100000 in
theorem c_X4_character {G : GG} {l : Launch} (hfl : l.stackTraces = false) (hG : MW G) {m : Mm} {g : Gm} (hY : YIs m g) (hln : LnOk (g.ln, g.nn)) {i : Int} (hiR : -2147483648 ≤ i ∧ i ≤ 2147483647) : CT G l yX4_character cX4_character 2 (some .char) (RM 1 0 0) [.ref 1024, vI i] m (fun r' m' => ∃ v9, r' = some (vI v9) ∧ ((if 0 ≤ i ∧ i < g.nn then (0 : Int) else 1) = 0 → v9 = g.ln i.toNat) ∧ m' = thM m (if 0 ≤ i ∧ i < g.nn then (0 : Int) else 1)) (fun _ _ => False) := by
  refine CT.of RX4 [(0, .ref 1024), (1, vI i)] hfl (by decide +kernel) rfl rfl (Nat.le_of_ble_eq_true rfl) ?_
  intro E ok en hml hEl htab
  have hR : e_R E = RM 1 0 0 := en.2.2.2
  have hn0 : 0 < (e_c E).maxLocals := by rw [hml]; decide
  have hn1 : 1 < (e_c E).maxLocals := by rw [hml]; decide
  obtain ⟨e1, e2, e3⟩ := hY.2.2.2.2.2
  have hln := hln.2
  refine ga_aload_n ok 0 rfl rfl dX4_character_0 ?_
  refine ga_iload_n ok 1 rfl rfl dX4_character_1 ?_
  refine ga_iconst ok dX4_character_2 ?_
  refine ga_aload_n ok 0 rfl rfl dX4_character_3 ?_
  refine gf_X4_196 ok hG rfl dX4_character_4 ?_
  rw [e1]
  refine ga_iconst ok dX4_character_7 ?_
  refine ga_isub ok dX4_character_8 ?_
  refine gd_S_3 ok lk_X4_61 (c_X4_in ok.fl hG (x := i) (a := 0) (b := g.nn - 1) hiR (by omega) (by omega)) (by rw [hR]; exact ⟨by decide, by decide, by decide, by decide⟩) (Nat.le_of_ble_eq_true rfl) dX4_character_9 ?_
  refine ga_if_eq ok 19 (by decide) (b2i_rng _) dX4_character_12 (fun c_12 => ?_) (fun c_12 => ?_)
  · have f_12 := of_decide_eq_false (b2i_0.mp c_12)
    refine ga_iconst ok dX4_character_19 ?_
    refine gp_X4_39 ok hG rfl dX4_character_20 ?_
    refine ga_aload_n ok 0 rfl rfl dX4_character_23 ?_
    refine gf_X4_39 ok hG rfl dX4_character_24 ?_
    rw [upI_at]
    refine ga_if_le ok 35 (by decide) (by omega) dX4_character_27 (fun c_27 => ?_) (fun c_27 => ?_)
    · exfalso; omega
    · refine ga_bipush ok dX4_character_30 (by decide) ?_
      refine ga_goto ok 41 (by decide) dX4_character_32 ?_
      skip
      exact ga_ireturn ok en rfl (narC (by first | omega | decide)) (by decide) (by decide) dX4_character_41 ⟨_, rfl, fun h => by rw [if_neg (show ¬ (0 ≤ i ∧ i < g.nn) by omega)] at h; exact absurd h (by decide), by rw [if_neg (show ¬ (0 ≤ i ∧ i < g.nn) by omega)]; rfl⟩
  · have f_12 := of_decide_eq_true (b2i_n0.mp c_12)
    refine ga_iconst ok dX4_character_15 ?_
    refine ga_goto ok 20 (by decide) dX4_character_16 ?_
    refine gp_X4_39 ok hG rfl dX4_character_20 ?_
    refine ga_aload_n ok 0 rfl rfl dX4_character_23 ?_
    refine gf_X4_39 ok hG rfl dX4_character_24 ?_
    rw [upI_at]
    refine ga_if_le ok 35 (by decide) (by omega) dX4_character_27 (fun c_27 => ?_) (fun c_27 => ?_)
    · refine ga_aload_n ok 0 rfl rfl dX4_character_35 ?_
      refine gf_X4_25 ok hG rfl dX4_character_36 ?_
      refine ga_iload_n ok 1 rfl rfl dX4_character_39 ?_
      refine ga_caload_ca ok (ar_ml hG rfl) (by omega) dX4_character_40 ?_
      rw [upI_r (by omega), e3 i.toNat (by omega)]
      have hl9 : 0 ≤ g.ln i.toNat ∧ g.ln i.toNat ≤ 127 := hln i.toNat (by show ((i.toNat : Nat) : Int) < g.nn; omega)
      exact ga_ireturn ok en rfl (narC (by first | omega | decide)) (by decide) (by decide) dX4_character_41 ⟨_, rfl, fun _ => rfl, by rw [if_pos (show 0 ≤ i ∧ i < g.nn by omega)]; rfl⟩
    · exfalso; omega
