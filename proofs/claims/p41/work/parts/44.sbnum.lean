/-! NUMBERS IN THE BUILDER -/
def nd : Nat → Int → Int
  | 0, _ => 1
  | f + 1, v => if 9 < v then nd f (v / 10) + 1 else 1
theorem nd_1 : ∀ (f : Nat) (v : Int), 1 ≤ nd f v ∧ nd f v ≤ f + 1
  | 0, _ => by show (1 : Int) ≤ 1 ∧ (1 : Int) ≤ (0 : Nat) + 1; omega
  | f + 1, v => by
    have h := nd_1 f (v / 10)
    simp only [nd]
    split <;> omega
theorem nd_4 {v : Int} (h : 0 ≤ v ∧ v ≤ 99999) : nd 4 v = if v < 10 then 1 else if v < 100 then 2 else if v < 1000 then 3 else if v < 10000 then 4 else 5 := by
  simp only [nd]
  by_cases h1 : v < 10
  · rw [if_neg (by omega), if_pos h1]
  · rw [if_pos (by omega), if_neg h1]
    by_cases h2 : v < 100
    · rw [if_neg (by omega), if_pos h2]; rfl
    · rw [if_pos (by omega), if_neg h2]
      by_cases h3 : v < 1000
      · rw [if_neg (by omega), if_pos h3]; rfl
      · rw [if_pos (by omega), if_neg h3]
        by_cases h4 : v < 10000
        · rw [if_neg (by omega), if_pos h4]; rfl
        · rw [if_pos (by omega), if_neg h4]; rfl
theorem natL_nd : ∀ (f : Nat) (q : (Nat → Int) × Int) (v : Int), (natL f q v).2 = q.2 + nd f v
  | 0, q, v => rfl
  | f + 1, q, v => by
    simp only [natL, nd, putL_2]
    by_cases e : 9 < v
    · rw [if_pos e, if_pos e, natL_nd f q (v / 10)]; omega
    · rw [if_neg e, if_neg e]
theorem natL_lo : ∀ (f : Nat) (q : (Nat → Int) × Int) (v : Int) (i : Nat), (i : Int) < q.2 → (natL f q v).1 i = q.1 i
  | 0, q, v, i, h => by
    show (if (i : Int) = q.2 then _ else q.1 i) = _
    rw [if_neg (by omega)]
  | f + 1, q, v, i, h => by
    simp only [natL]
    by_cases e : 9 < v
    · rw [if_pos e]
      have hn := natL_nd f q (v / 10)
      have h1 := nd_1 f (v / 10)
      show (if (i : Int) = (natL f q (v / 10)).2 then _ else (natL f q (v / 10)).1 i) = _
      rw [if_neg (by omega)]
      exact natL_lo f q (v / 10) i h
    · rw [if_neg e]
      show (if (i : Int) = q.2 then _ else q.1 i) = _
      rw [if_neg (by omega)]
/-- the digit at j places from the last -/
theorem natL_hi : ∀ (f : Nat) (q : (Nat → Int) × Int) (v : Int) (j i : Nat), 0 ≤ q.2 → (j : Int) < nd f v → (i : Int) = q.2 + nd f v - 1 - j → (natL f q v).1 i = 48 + v / 10 ^ j % 10
  | 0, q, v, j, i, h0, hj, hi => by
    have hj : (j : Int) < 1 := hj
    have hi : (i : Int) = q.2 + 1 - 1 - j := hi
    have : j = 0 := by omega
    subst this
    show (if (i : Int) = q.2 then 48 + v % 10 else q.1 i) = _
    rw [if_pos (by omega), Int.pow_zero, Int.ediv_one]
  | f + 1, q, v, j, i, h0, hj, hi => by
    simp only [natL, nd] at hj hi ⊢
    by_cases e : 9 < v
    · rw [if_pos e] at hj hi ⊢
      have hn := natL_nd f q (v / 10)
      have h1 := nd_1 f (v / 10)
      show (if (i : Int) = (natL f q (v / 10)).2 then 48 + v % 10 else (natL f q (v / 10)).1 i) = _
      match j with
      | 0 => rw [if_pos (by omega), Int.pow_zero, Int.ediv_one]
      | j + 1 =>
        rw [if_neg (by omega), natL_hi f q (v / 10) j i h0 (by omega) (by omega), Int.ediv_ediv_of_nonneg (by decide), Int.pow_succ, Int.mul_comm]
    · rw [if_neg e] at hj hi ⊢
      have : j = 0 := by omega
      subst this
      show (if (i : Int) = q.2 then 48 + v % 10 else q.1 i) = _
      rw [if_pos (by omega), Int.pow_zero, Int.ediv_one]
/-- how many letters a number has -/
def nsz (v : Int) : Int := if v < 0 then nd 4 (-v) + 1 else nd 4 v
theorem nsz_1 (v : Int) : 1 ≤ nsz v ∧ nsz v ≤ 6 := by
  unfold nsz
  have h1 := nd_1 4 v
  have h2 := nd_1 4 (-v)
  split <;> omega
theorem numL_nsz (q : (Nat → Int) × Int) (v : Int) : (numL q v).2 = q.2 + nsz v := by
  unfold numL nsz
  split
  · rw [natL_nd, putL_2]; omega
  · rw [natL_nd]
def av (v : Int) : Int := if v < 0 then -v else v
/-- a text whose last letters are the number's -/
theorem numL_eq {q : (Nat → Int) × Int} {v : Int} {f : Nat → Int} (h0 : 0 ≤ q.2) (hlo : ∀ i : Nat, (i : Int) < q.2 → f i = q.1 i) (hs : v < 0 → f q.2.toNat = 45) (hd : ∀ j i : Nat, (j : Int) < nd 4 (av v) → (i : Int) = q.2 + nsz v - 1 - j → f i = 48 + av v / 10 ^ j % 10) : ∀ i : Nat, (i : Int) < (numL q v).2 → f i = (numL q v).1 i := by
  intro i hi
  rw [numL_nsz] at hi
  have h1 := nd_1 4 (av v)
  unfold nsz at hi hd
  unfold av at hd h1
  unfold numL
  by_cases e : v < 0
  · rw [if_pos e] at hi hd h1 ⊢
    rcases Int.lt_or_le (i : Int) q.2 with h | h
    · rw [natL_lo 4 _ _ i (by rw [putL_2]; omega), hlo i h]
      show _ = if (i : Int) = q.2 then 45 else q.1 i
      rw [if_neg (by omega)]
    · by_cases h2 : (i : Int) = q.2
      · rw [natL_lo 4 _ _ i (by rw [putL_2]; omega), show i = q.2.toNat by omega, hs e]
        show _ = if ((q.2.toNat : Nat) : Int) = q.2 then 45 else q.1 q.2.toNat
        rw [if_pos (by omega)]
      · have hj : ((q.2 + (nd 4 (-v) + 1) - 1 - i).toNat : Int) = q.2 + (nd 4 (-v) + 1) - 1 - i := Int.toNat_of_nonneg (by omega)
        rw [natL_hi 4 (putL q 45) (-v) (q.2 + (nd 4 (-v) + 1) - 1 - i).toNat i (by rw [putL_2]; omega) (by omega) (by rw [putL_2]; omega), if_pos e] at *
        exact hd _ i (by omega) (by omega)
  · rw [if_neg e] at hi hd h1 ⊢
    rcases Int.lt_or_le (i : Int) q.2 with h | h
    · rw [natL_lo 4 _ _ i h, hlo i h]
    · have hj : ((q.2 + nd 4 v - 1 - i).toNat : Int) = q.2 + nd 4 v - 1 - i := Int.toNat_of_nonneg (by omega)
      rw [natL_hi 4 q v (q.2 + nd 4 v - 1 - i).toNat i h0 (by omega) (by omega)]
      exact hd _ i (by omega) (by omega)
section SBR4
variable {G : GG} {E : EE} {own : String} {b : ByteArray} {k n pc : Nat} {L : List (Nat × Value)} {st : List Value} {m : Mm}
theorem oi_divN {x y : Int} (hx : 0 ≤ x ∧ x ≤ 2147483647) (hy : 0 < y ∧ y ≤ 2147483647) : Int32.ofInt (-x) / Int32.ofInt y = Int32.ofInt (-(x / y)) := by
  have hq : 0 ≤ x / y ∧ x / y ≤ x := ⟨Int.ediv_nonneg hx.1 (by omega), Int.ediv_le_self y hx.1⟩
  rw [← Int32.toInt_inj, Int32.toInt_div, oi_T (by omega), oi_T (by omega), oi_T (by omega), Int.neg_tdiv, Int.tdiv_eq_ediv_of_nonneg hx.1]
  exact Int.bmod_eq_of_le (by omega) (by omega)
theorem ga_idivN (ok : OK0 G E own b) {x y : Int} (d : decode b pc = .ok (.idiv, 1)) (hx : 0 ≤ x ∧ x ≤ 2147483647) (hy : 0 < y ∧ y ≤ 2147483647)
    (kk : WA G E k n (pc + 1) L (vI (-(x / y)) :: st) m) : WA G E k n pc L (vI y :: vI (-x) :: st) m := by
  intro H locs ls hW hS hl
  have h := kk H locs ls hW hS hl
  refine lv_idiv ok.x ok.b d (oi_ne0 hy) ?_
  rw [oi_divN hx hy]
  exact h
/-- the row of digits at the raw address a -/
def DGa (A : Nat → Prop) (f : Nat → Int) (u : State) (a : Nat) : Prop := ∃ cell : Cell, u.heap[a]? = some cell ∧ ¬ A a ∧ u.isArrayOf cell .byte ∧ cell.vm ≠ .unknown ∧ cell.slots.size = 100 ∧ ∀ j, j < 100 → cell.slots[j]? = some (.int (Int32.ofInt (f j)))
theorem gs_dig (ok : OK0 G E own b) (hS : SBW G) {nm : String} {f : Nat → Int} (hD : DGR (g_A G) nm f (e_s E)) {index : Nat} (hlink : Cond.fieldLink own index "java/lang/Integer" nm "[B" ∈ BIG) (d : decode b pc = .ok (.getstatic index, 3)) (kk : ∀ a, DGa (g_A G) f (e_s E) a → WA G E k n (pc + 3) L (.ref (RAW + a) :: st) m) : WA G E k n pc L st m := by
  intro H locs ls hW hS2 hl
  obtain ⟨a, cell, hZ, hh⟩ := hD
  have h := kk a ⟨cell, hh⟩ H locs ls hW hS2 hl
  have e9 : (Value.ref (RAW + a) :: st).map (cv (g_ad G)) = .ref a :: st.map (cv (g_ad G)) := by
    show Value.ref (g_ad G (RAW + a)) :: _ = _
    rw [hS.1]
  rw [e9] at h
  exact va_gets ok.x ok.b hZ hS2 ok.o (ok.w _ hlink) (fun _ h => h) d h
theorem gs_dbald (ok : OK0 G E own b) (hS : SBW G) {a : Nat} {f : Nat → Int} (hD : DGa (g_A G) f (e_s E) a) {i : Int} (hi : 0 ≤ i ∧ i < 100) (d : decode b pc = .ok (.baload, 1)) (kk : WA G E k n (pc + 1) L (vI (f i.toNat) :: st) m) : WA G E k n pc L (vI i :: .ref (RAW + a) :: st) m := by
  intro H locs ls hW hS2 hl
  obtain ⟨cell, h1, h2, h3, h4, h5, h6⟩ := hD
  have e9 : (vI i :: Value.ref (RAW + a) :: st).map (cv (g_ad G)) = vI i :: .ref a :: st.map (cv (g_ad G)) := by
    show vI i :: Value.ref (g_ad G (RAW + a)) :: _ = _
    rw [hS.1]
  rw [e9]
  have hlt : a < (e_s E).heap.size := (Array.getElem?_eq_some_iff.mp h1).1
  refine W.bald (v := vI (f i.toNat)) ok.x ok.b (by rw [hS2.2.1 a hlt h2]; exact h1) h3 h4 (by rw [h5]; exact oi_in (N := 100) ⟨hi.1, by omega⟩ (by omega)) (by rw [oi_cl (N := 100) ⟨hi.1, by omega⟩ (by omega)]; exact h6 i.toNat (by omega)) rfl rfl d (kk H locs ls hW hS2 hl)
theorem upI_bk {i : Nat} {x : Int} (hB : SBk m) (hx : -128 ≤ x ∧ x ≤ 127) : SBk (upI m 961 i x) := by
  obtain ⟨b1, b2, b3, b4, b5⟩ := hB
  unfold SBk
  rw [upI_r (by omega)]
  refine ⟨b1, b2, b3, b4, fun j hj => ?_⟩
  by_cases e : j = i
  · subst e; rw [upI_at]; exact hx
  · rw [upI_no (Or.inr e)]; exact b5 j hj
end SBR4
theorem gs_bastA {G : GG} {E : EE} {own : String} {b : ByteArray} {k n pc : Nat} {L : List (Nat × Value)} {st : List Value} {m : Mm} (ok : OK0 G E own b) (hS : SBW G) (hB : SBk m) {A0 : Int} (hA : A0 = m.1 960 2) {i x : Int} (hi : 0 ≤ i ∧ i < m.1 960 3) (hx : -128 ≤ x ∧ x ≤ 127) (h40 : m.1 960 4 = 0) (d : decode b pc = .ok (.bastore, 1)) (kk : WA G E k n (pc + 1) L st (upI m 961 i.toNat x)) : WA G E k n pc L (vI x :: vI i :: raw A0 :: st) m := by
  subst hA
  exact gs_bast ok hS hB hi hx h40 d kk
/-- t digits have been written, from e downwards -/
def GCp (m : Mm) (a e : Int) (M : Mm) (t cp : Int) : Prop := SBk M ∧ M.1 960 = m.1 960 ∧ cp = e - t ∧ (∀ i : Nat, (i : Int) < cp → M.1 961 i = m.1 961 i) ∧ (∀ j i : Nat, (j : Int) < t → (i : Int) = e - 1 - j → M.1 961 i = 48 + a / 10 ^ j % 10) ∧ XB m M
theorem GCp.st {m M : Mm} {a e t cp c : Int} (h : GCp m a e M t cp) (h0 : 1 ≤ cp) (ht : 0 ≤ t) (hc : c = 48 + a / 10 ^ t.toNat % 10) : GCp m a e (upI M 961 (cp + -1).toNat c) (t + 1) (cp + -1) := by
  obtain ⟨h1, h2, h3, h4, h5, h6⟩ := h
  refine ⟨upI_bk h1 (by omega), by rw [upI_r (by omega)]; exact h2, by omega, fun i hi => ?_, fun j i hj hi => ?_, h6.u (Or.inr rfl)⟩
  · rw [upI_no (by omega)]
    exact h4 i (by omega)
  · by_cases e9 : (j : Int) = t
    · rw [show i = (cp + -1).toNat by omega, upI_at, hc, show j = t.toNat by omega]
    · rw [upI_no (by omega)]
      exact h5 j i (by omega) hi
def Pgc (a t x : Int) : Prop := (t = 0 ∧ x = a) ∨ (t = 2 ∧ x = a / 100 ∧ 100 ≤ a) ∨ (t = 4 ∧ x = a / 10000 ∧ 10000 ≤ a)
theorem Pgc.d {a t x : Int} (h : Pgc a t x) (ha : 0 ≤ a ∧ a ≤ 99999) : dig1 (x % 100).toNat = 48 + a / 10 ^ t.toNat % 10 ∧ dig2 (x % 100).toNat = 48 + a / 10 ^ (t + 1).toNat % 10 := by
  unfold dig1 dig2
  rcases h with ⟨rfl, rfl⟩ | ⟨rfl, rfl, -⟩ | ⟨rfl, rfl, -⟩
  · rw [show (10 : Int) ^ (0 : Int).toNat = 1 from rfl, show (10 : Int) ^ ((0 : Int) + 1).toNat = 10 from rfl]
    omega
  · rw [show (10 : Int) ^ (2 : Int).toNat = 100 from rfl, show (10 : Int) ^ ((2 : Int) + 1).toNat = 1000 from rfl]
    omega
  · rw [show (10 : Int) ^ (4 : Int).toNat = 10000 from rfl, show (10 : Int) ^ ((4 : Int) + 1).toNat = 100000 from rfl]
    omega
theorem Pgc.n {a t x : Int} (h : Pgc a t x) (ha : 0 ≤ a ∧ a ≤ 99999) (hx : 100 ≤ x) : Pgc a (t + 2) (x / 100) := by
  unfold Pgc at *
  omega
theorem Pgc.nd {a t x : Int} (h : Pgc a t x) (ha : 0 ≤ a ∧ a ≤ 99999) (hx : x < 100) : nd 4 a = if x ≤ 9 then t + 1 else t + 2 := by
  unfold Pgc at h
  rw [nd_4 ha]
  by_cases h1 : x ≤ 9
  · rw [if_pos h1]
    split
    · omega
    · split
      · omega
      · split
        · omega
        · split <;> omega
  · rw [if_neg h1]
    split
    · omega
    · split
      · omega
      · split
        · omega
        · split <;> omega
/-- what getChars leaves -/
def GCe (m m' : Mm) (v e : Int) : Prop := SBk m' ∧ m'.1 960 = m.1 960 ∧ (∀ i : Nat, (i : Int) < e - nsz v → m'.1 961 i = m.1 961 i) ∧ (v < 0 → m'.1 961 (e - nsz v).toNat = 45) ∧ (∀ j i : Nat, (j : Int) < nd 4 (av v) → (i : Int) = e - 1 - j → m'.1 961 i = 48 + av v / 10 ^ j % 10) ∧ XB m m'
theorem GCp.e0 {m M : Mm} {v e t cp : Int} (h : GCp m (av v) e M t cp) (ht : nd 4 (av v) = t) (hv : 0 ≤ v) : GCe m M v e ∧ cp = e - nsz v := by
  obtain ⟨h1, h2, h3, h4, h5, h6⟩ := h
  have hn : nsz v = t := by unfold nsz; rw [if_neg (by omega)]; unfold av at ht; rw [if_neg (by omega)] at ht; exact ht
  exact ⟨⟨h1, h2, fun i hi => h4 i (by omega), fun h => absurd h (by omega), fun j i hj hi => h5 j i (by omega) hi, h6⟩, by omega⟩
theorem GCp.e1 {m M : Mm} {v e t cp : Int} (h : GCp m (av v) e M t cp) (ht : nd 4 (av v) = t) (hv : v < 0) (h0 : 1 ≤ cp) : GCe m (upI M 961 (cp + -1).toNat 45) v e ∧ cp + -1 = e - nsz v := by
  obtain ⟨h1, h2, h3, h4, h5, h6⟩ := h
  have hn : nsz v = t + 1 := by unfold nsz; rw [if_pos hv]; unfold av at ht; rw [if_pos hv] at ht; omega
  refine ⟨⟨upI_bk h1 (by omega), by rw [upI_r (by omega)]; exact h2, fun i hi => ?_, fun _ => ?_, fun j i hj hi => ?_, h6.u (Or.inr rfl)⟩, by omega⟩
  · rw [upI_no (by omega)]; exact h4 i (by omega)
  · rw [show (e - nsz v).toNat = (cp + -1).toNat by omega, upI_at]
  · rw [upI_no (by omega)]; exact h5 j i (by omega) hi
set_option maxHeartbeats 4000000 in
set_option maxRecDepth 100000 in
theorem c_J6_stringSize {G : GG} {l : Launch} (hfl : l.stackTraces = false) {P9 : Prop} (hG : P9) (hS : SBW G) {m : Mm} {v : Int} (hv : -99999 ≤ v ∧ v ≤ 99999) : CT G l yJ6_stringSize_0f7a4 cJ6_stringSize_0f7a4 4 (some .int) (RM 0 0 0) [vI v] m (fun r' m' => r' = some (vI (nsz v)) ∧ m' = m) (fun _ _ => False) := by
  refine CT.of RJ6 [(0, vI v)] hfl (by decide +kernel) rfl rfl (Nat.le_of_ble_eq_true rfl) ?_
  intro E ok en hml hEl htab
  have hR : e_R E = RM 0 0 0 := en.2.2.2
  have hn0 : 0 < (e_c E).maxLocals := by rw [hml]; decide
  have hn1 : 1 < (e_c E).maxLocals := by rw [hml]; decide
  have hn2 : 2 < (e_c E).maxLocals := by rw [hml]; decide
  have hn3 : 3 < (e_c E).maxLocals := by rw [hml]; decide
  obtain ⟨a, ha⟩ : ∃ a, a = av v := ⟨_, rfl⟩
  have ha1 : 0 ≤ a ∧ a ≤ 99999 := by rw [ha]; unfold av; split <;> omega
  have hnd := nd_4 ha1
  have mid : ∀ dd : Int, (0 ≤ dd ∧ dd ≤ 1) → nsz v = dd + nd 4 a → WA G E 0 0 11 [(1, vI dd), (0, vI (-a))] [] m := by
    intro dd hdd hns
    have loop : ∀ (i p : Int), ((i = 1 ∧ p = 10) ∨ (i = 2 ∧ p = 100 ∧ 10 ≤ a) ∨ (i = 3 ∧ p = 1000 ∧ 100 ≤ a) ∨ (i = 4 ∧ p = 10000 ∧ 1000 ≤ a) ∨ (i = 5 ∧ p = 100000 ∧ 10000 ≤ a)) → WA G E 0 0 16 [(3, vI i), (2, vI (-p)), (1, vI dd), (0, vI (-a))] [] m := by
      refine wl2 _ (fun i _ => (6 - i).toNat) _ ?_
      intro i p hi ih
      refine ga_iload_n ok 3 rfl rfl dJ6_stringSize_0f7a4_16 ?_
      refine ga_bipush ok dJ6_stringSize_0f7a4_17 (by decide) ?_
      refine ga_icmp_ge ok 42 (by decide) (by omega) (by omega) dJ6_stringSize_0f7a4_19 (fun c_19 => ?_) (fun c_19 => ?_)
      · exfalso; omega
      · refine ga_iload_n ok 0 rfl rfl dJ6_stringSize_0f7a4_22 ?_
        refine ga_iload_n ok 2 rfl rfl dJ6_stringSize_0f7a4_23 ?_
        refine ga_icmp_le ok 31 (by decide) (by omega) (by omega) dJ6_stringSize_0f7a4_24 (fun c_24 => ?_) (fun c_24 => ?_)
        · refine ga_bipush ok dJ6_stringSize_0f7a4_31 (by decide) ?_
          refine ga_iload_n ok 2 rfl rfl dJ6_stringSize_0f7a4_33 ?_
          refine ga_imul ok dJ6_stringSize_0f7a4_34 ?_
          refine ga_istore_n ok 2 rfl hn2 dJ6_stringSize_0f7a4_35 ?_
          refine ga_iinc ok rfl hn3 dJ6_stringSize_0f7a4_36 ?_
          refine ga_goto ok 16 (by decide) dJ6_stringSize_0f7a4_39 ?_
          exact WA.re (by exact ⟨rfl, (by rw [show -(10 * p) = 10 * -p by omega]; rfl), rfl, rfl, trivial⟩) (ih (i + 1) (10 * p) (by omega) (by omega))
        · refine ga_iload_n ok 3 rfl rfl dJ6_stringSize_0f7a4_27 ?_
          refine ga_iload_n ok 1 rfl rfl dJ6_stringSize_0f7a4_28 ?_
          refine ga_iadd ok dJ6_stringSize_0f7a4_29 ?_
          exact ga_ireturn ok en rfl rfl (by decide) (by decide) dJ6_stringSize_0f7a4_30 (by
      have hk : nd 4 a = i := by
        rw [hnd]
        split
        · omega
        · split
          · omega
          · split
            · omega
            · split <;> omega
      exact ⟨by rw [hns, hk, Int.add_comm], rfl⟩)
    refine ga_bipush ok dJ6_stringSize_0f7a4_11 (by decide) ?_
    refine ga_istore_n ok 2 rfl hn2 dJ6_stringSize_0f7a4_13 ?_
    refine ga_iconst ok dJ6_stringSize_0f7a4_14 ?_
    refine ga_istore_n ok 3 rfl hn3 dJ6_stringSize_0f7a4_15 ?_
    exact WA.re (by exact ⟨rfl, rfl, rfl, rfl, trivial⟩) (loop 1 10 (Or.inl ⟨rfl, rfl⟩))
  refine ga_iconst ok dJ6_stringSize_0f7a4_0 ?_
  refine ga_istore_n ok 1 rfl hn1 dJ6_stringSize_0f7a4_1 ?_
  refine ga_iload_n ok 0 rfl rfl dJ6_stringSize_0f7a4_2 ?_
  refine ga_if_lt ok 11 (by decide) (by omega) dJ6_stringSize_0f7a4_3 (fun c_3 => ?_) (fun c_3 => ?_)
  · have ev : a = -v := by rw [ha]; unfold av; rw [if_pos (by omega)]
    exact WA.re (by exact ⟨rfl, (by rw [ev, Int.neg_neg]; rfl), trivial⟩) (mid 1 (by omega) (by unfold nsz; rw [if_pos (by omega), ← ev]; omega))
  · refine ga_iconst ok dJ6_stringSize_0f7a4_6 ?_
    refine ga_istore_n ok 1 rfl hn1 dJ6_stringSize_0f7a4_7 ?_
    refine ga_iload_n ok 0 rfl rfl dJ6_stringSize_0f7a4_8 ?_
    refine ga_ineg ok dJ6_stringSize_0f7a4_9 ?_
    refine ga_istore_n ok 0 rfl hn0 dJ6_stringSize_0f7a4_10 ?_
    have ev : a = v := by rw [ha]; unfold av; rw [if_neg (by omega)]
    exact WA.re (by exact ⟨rfl, (by rw [ev]; rfl), trivial⟩) (mid 0 (by omega) (by unfold nsz; rw [if_neg (by omega), ← ev]; omega))
set_option maxHeartbeats 4000000 in
set_option maxRecDepth 100000 in
theorem c_J6_getChars {G : GG} {l : Launch} (hfl : l.stackTraces = false) {P9 : Prop} (hG : P9) (hS : SBW G) {m : Mm} (hB : SBk m) (h40 : m.1 960 4 = 0) {v : Int} (hv : -99999 ≤ v ∧ v ≤ 99999) {e : Int} (he : nsz v ≤ e ∧ e ≤ m.1 960 3) : CT G l yJ6_getChars_ba4f3 cJ6_getChars_ba4f3 7 (some .int) (RM 0 0 0) [vI v, vI e, raw (m.1 960 2)] m (fun r' m' => r' = some (vI (e - nsz v)) ∧ GCe m m' v e) (fun _ _ => False) := by
  refine CT.of RJ6 [(0, vI v), (1, vI e), (2, raw (m.1 960 2))] hfl (by decide +kernel) rfl rfl (Nat.le_of_ble_eq_true rfl) ?_
  intro E ok en hml hEl htab
  have hR : e_R E = RM 0 0 0 := en.2.2.2
  have hn0 : 0 < (e_c E).maxLocals := by rw [hml]; decide
  have hn1 : 1 < (e_c E).maxLocals := by rw [hml]; decide
  have hn2 : 2 < (e_c E).maxLocals := by rw [hml]; decide
  have hn3 : 3 < (e_c E).maxLocals := by rw [hml]; decide
  have hn4 : 4 < (e_c E).maxLocals := by rw [hml]; decide
  have hn5 : 5 < (e_c E).maxLocals := by rw [hml]; decide
  have hn6 : 6 < (e_c E).maxLocals := by rw [hml]; decide
  obtain ⟨hb1, hb2, hb3, hb4, hb5⟩ := id hB
  obtain ⟨a, ha⟩ : ∃ a, a = av v := ⟨_, rfl⟩
  have ha1 : 0 ≤ a ∧ a ≤ 99999 := by rw [ha]; unfold av; split <;> omega
  have hnd := nd_4 ha1
  have main : ∀ ng : Int, ((ng = 0 ∧ 0 ≤ v ∧ nsz v = nd 4 a) ∨ (ng = 1 ∧ v < 0 ∧ nsz v = nd 4 a + 1)) → ∀ (t x cp : Int) (M : Mm), (Pgc a t x ∧ (0 ≤ x ∧ 0 ≤ t ∧ x ≤ a) ∧ GCp m a e M t cp) → WA G E 0 0 22 [(5, vI cp), (0, vI (-x)), (2, raw (m.1 960 2)), (6, vI ng)] [] M := by
    intro ng hng
    have loop : ∀ (t x cp : Int) (M : Mm), (Pgc a t x ∧ (0 ≤ x ∧ 0 ≤ t ∧ x ≤ a) ∧ GCp m a e M t cp) → WA G E 0 0 22 [(5, vI cp), (0, vI (-x)), (2, raw (m.1 960 2)), (6, vI ng)] [] M := by
      refine wl4 _ (fun _ x _ _ => x.toNat) _ ?_
      intro t x cp M hi ih
      obtain ⟨hP, ⟨hx0, ht0, hxa⟩, hg⟩ := hi
      have hcpe := hg.2.2.1
      have hP2 := hP
      unfold Pgc at hP2
      have hroom : t + 1 ≤ nd 4 a ∧ (9 < x → t + 2 ≤ nd 4 a) ∧ (100 ≤ x → t + 3 ≤ nd 4 a) := by
        rw [hnd]
        split
        · omega
        · split
          · omega
          · split
            · omega
            · split <;> omega
      refine ga_iload_n ok 0 rfl rfl dJ6_getChars_ba4f3_22 ?_
      refine ga_bipush ok dJ6_getChars_ba4f3_23 (by decide) ?_
      refine ga_icmp_gt ok 72 (by decide) (by omega) (by omega) dJ6_getChars_ba4f3_25 (fun c_25 => ?_) (fun c_25 => ?_)
      · have hx100 : x < 100 := by omega
        have hdg := hP.d ha1
        rw [show x % 100 = x by omega] at hdg
        have hndx := hP.nd ha1 (by omega)
        have hr9 : 48 + a / 10 ^ t.toNat % 10 ≤ 57 ∧ 48 ≤ 48 + a / 10 ^ t.toNat % 10 := by omega
        have hr8 : 48 + a / 10 ^ (t + 1).toNat % 10 ≤ 57 ∧ 48 ≤ 48 + a / 10 ^ (t + 1).toNat % 10 := by omega
        refine ga_aload_n ok 2 rfl rfl dJ6_getChars_ba4f3_72 ?_
        refine ga_iinc ok rfl hn5 dJ6_getChars_ba4f3_73 ?_
        refine ga_iload ok rfl dJ6_getChars_ba4f3_76 ?_
        refine gs_dig ok hS (sb_st ok hS).2.2.1 (tb_in 731 (by decide +kernel) (by decide +kernel)) dJ6_getChars_ba4f3_78 (fun a9 hD9 => ?_)
        refine ga_iload_n ok 0 rfl rfl dJ6_getChars_ba4f3_81 ?_
        refine ga_ineg ok dJ6_getChars_ba4f3_82 ?_
        rw [show - -x = x by omega]
        refine gs_dbald ok hS hD9 (by omega) dJ6_getChars_ba4f3_83 ?_
        refine gs_bastA ok hS hg.1 (by rw [hg.2.1]) (by rw [hg.2.1]; omega) (by omega) (by rw [hg.2.1]; exact h40) dJ6_getChars_ba4f3_84 ?_
        have hg1 := hg.st (c := dig1 x.toNat) (by omega) (by omega) hdg.1
        refine ga_iload_n ok 0 rfl rfl dJ6_getChars_ba4f3_85 ?_
        refine ga_bipush ok dJ6_getChars_ba4f3_86 (by decide) ?_
        refine ga_icmp_ge ok 104 (by decide) (by omega) (by omega) dJ6_getChars_ba4f3_88 (fun c_88 => ?_) (fun c_88 => ?_)
        · have hgL := hg1
          rw [if_pos (by omega)] at hndx
          obtain ⟨cq, hcq⟩ : ∃ cq, cq = cp + -1 := ⟨_, rfl⟩
          obtain ⟨tt, htt⟩ : ∃ tt, tt = t + 1 := ⟨_, rfl⟩
          rw [← hcq, ← htt] at hgL
          rw [← hcq]
          have htn : nd 4 (av v) = tt := by rw [← ha]; omega
          rw [ha] at hgL
          have hcqe := hgL.2.2.1
          refine ga_iload ok rfl dJ6_getChars_ba4f3_104 ?_
          refine ga_if_eq ok 118 (by decide) (by omega) dJ6_getChars_ba4f3_106 (fun c_106 => ?_) (fun c_106 => ?_)
          · refine ga_iload ok rfl dJ6_getChars_ba4f3_118 ?_
            exact ga_ireturn ok en rfl rfl (by decide) (by decide) dJ6_getChars_ba4f3_120 (by
      have hf := hgL.e0 htn (by omega)
      exact ⟨by rw [hf.2], hf.1⟩)
          · refine ga_aload_n ok 2 rfl rfl dJ6_getChars_ba4f3_109 ?_
            refine ga_iinc ok rfl hn5 dJ6_getChars_ba4f3_110 ?_
            refine ga_iload ok rfl dJ6_getChars_ba4f3_113 ?_
            refine ga_bipush ok dJ6_getChars_ba4f3_115 (by decide) ?_
            refine gs_bastA ok hS hgL.1 (by rw [hgL.2.1]) (by rw [hgL.2.1]; omega) (by omega) (by rw [hgL.2.1]; exact h40) dJ6_getChars_ba4f3_117 ?_
            refine ga_iload ok rfl dJ6_getChars_ba4f3_118 ?_
            exact ga_ireturn ok en rfl rfl (by decide) (by decide) dJ6_getChars_ba4f3_120 (by
      have hf := hgL.e1 htn (by omega) (by omega)
      exact ⟨by rw [hf.2], hf.1⟩)
        · refine ga_aload_n ok 2 rfl rfl dJ6_getChars_ba4f3_91 ?_
          refine ga_iinc ok rfl hn5 dJ6_getChars_ba4f3_92 ?_
          refine ga_iload ok rfl dJ6_getChars_ba4f3_95 ?_
          refine gs_dig ok hS (sb_st ok hS).2.2.2.1 (tb_in 733 (by decide +kernel) (by decide +kernel)) dJ6_getChars_ba4f3_97 (fun a9 hD9 => ?_)
          refine ga_iload_n ok 0 rfl rfl dJ6_getChars_ba4f3_100 ?_
          refine ga_ineg ok dJ6_getChars_ba4f3_101 ?_
          rw [show - -x = x by omega]
          refine gs_dbald ok hS hD9 (by omega) dJ6_getChars_ba4f3_102 ?_
          refine gs_bastA ok hS hg1.1 (by rw [hg1.2.1]) (by rw [hg1.2.1]; omega) (by omega) (by rw [hg1.2.1]; exact h40) dJ6_getChars_ba4f3_103 ?_
          have hgL := hg1.st (c := dig2 x.toNat) (by omega) (by omega) hdg.2
          rw [if_neg (by omega)] at hndx
          obtain ⟨cq, hcq⟩ : ∃ cq, cq = cp + -1 + -1 := ⟨_, rfl⟩
          obtain ⟨tt, htt⟩ : ∃ tt, tt = t + 1 + 1 := ⟨_, rfl⟩
          rw [← hcq, ← htt] at hgL
          rw [← hcq]
          have htn : nd 4 (av v) = tt := by rw [← ha]; omega
          rw [ha] at hgL
          have hcqe := hgL.2.2.1
          refine ga_iload ok rfl dJ6_getChars_ba4f3_104 ?_
          refine ga_if_eq ok 118 (by decide) (by omega) dJ6_getChars_ba4f3_106 (fun c_106 => ?_) (fun c_106 => ?_)
          · refine ga_iload ok rfl dJ6_getChars_ba4f3_118 ?_
            exact ga_ireturn ok en rfl rfl (by decide) (by decide) dJ6_getChars_ba4f3_120 (by
      have hf := hgL.e0 htn (by omega)
      exact ⟨by rw [hf.2], hf.1⟩)
          · refine ga_aload_n ok 2 rfl rfl dJ6_getChars_ba4f3_109 ?_
            refine ga_iinc ok rfl hn5 dJ6_getChars_ba4f3_110 ?_
            refine ga_iload ok rfl dJ6_getChars_ba4f3_113 ?_
            refine ga_bipush ok dJ6_getChars_ba4f3_115 (by decide) ?_
            refine gs_bastA ok hS hgL.1 (by rw [hgL.2.1]) (by rw [hgL.2.1]; omega) (by omega) (by rw [hgL.2.1]; exact h40) dJ6_getChars_ba4f3_117 ?_
            refine ga_iload ok rfl dJ6_getChars_ba4f3_118 ?_
            exact ga_ireturn ok en rfl rfl (by decide) (by decide) dJ6_getChars_ba4f3_120 (by
      have hf := hgL.e1 htn (by omega) (by omega)
      exact ⟨by rw [hf.2], hf.1⟩)
      · refine ga_iload_n ok 0 rfl rfl dJ6_getChars_ba4f3_28 ?_
        refine ga_bipush ok dJ6_getChars_ba4f3_29 (by decide) ?_
        refine ga_idivN ok dJ6_getChars_ba4f3_31 (by omega) (by omega) ?_
        refine ga_istore_n ok 3 rfl hn3 dJ6_getChars_ba4f3_32 ?_
        refine ga_iload_n ok 3 rfl rfl dJ6_getChars_ba4f3_33 ?_
        refine ga_bipush ok dJ6_getChars_ba4f3_34 (by decide) ?_
        refine ga_imul ok dJ6_getChars_ba4f3_36 ?_
        refine ga_iload_n ok 0 rfl rfl dJ6_getChars_ba4f3_37 ?_
        refine ga_isub ok dJ6_getChars_ba4f3_38 ?_
        rw [show -(x / 100) * 100 - -x = x % 100 by omega]
        have hdg := hP.d ha1
        have hr9 : 48 + a / 10 ^ t.toNat % 10 ≤ 57 ∧ 48 ≤ 48 + a / 10 ^ t.toNat % 10 := by omega
        have hr8 : 48 + a / 10 ^ (t + 1).toNat % 10 ≤ 57 ∧ 48 ≤ 48 + a / 10 ^ (t + 1).toNat % 10 := by omega
        refine ga_istore ok hn4 dJ6_getChars_ba4f3_39 ?_
        refine ga_iload_n ok 3 rfl rfl dJ6_getChars_ba4f3_41 ?_
        refine ga_istore_n ok 0 rfl hn0 dJ6_getChars_ba4f3_42 ?_
        refine ga_aload_n ok 2 rfl rfl dJ6_getChars_ba4f3_43 ?_
        refine ga_iinc ok rfl hn5 dJ6_getChars_ba4f3_44 ?_
        refine ga_iload ok rfl dJ6_getChars_ba4f3_47 ?_
        refine gs_dig ok hS (sb_st ok hS).2.2.1 (tb_in 731 (by decide +kernel) (by decide +kernel)) dJ6_getChars_ba4f3_49 (fun a9 hD9 => ?_)
        refine ga_iload ok rfl dJ6_getChars_ba4f3_52 ?_
        refine gs_dbald ok hS hD9 (by omega) dJ6_getChars_ba4f3_54 ?_
        refine gs_bastA ok hS hg.1 (by rw [hg.2.1]) (by rw [hg.2.1]; omega) (by omega) (by rw [hg.2.1]; exact h40) dJ6_getChars_ba4f3_55 ?_
        have hg1 := hg.st (c := dig1 (x % 100).toNat) (by omega) (by omega) hdg.1
        refine ga_aload_n ok 2 rfl rfl dJ6_getChars_ba4f3_56 ?_
        refine ga_iinc ok rfl hn5 dJ6_getChars_ba4f3_57 ?_
        refine ga_iload ok rfl dJ6_getChars_ba4f3_60 ?_
        refine gs_dig ok hS (sb_st ok hS).2.2.2.1 (tb_in 733 (by decide +kernel) (by decide +kernel)) dJ6_getChars_ba4f3_62 (fun a9 hD9 => ?_)
        refine ga_iload ok rfl dJ6_getChars_ba4f3_65 ?_
        refine gs_dbald ok hS hD9 (by omega) dJ6_getChars_ba4f3_67 ?_
        refine gs_bastA ok hS hg1.1 (by rw [hg1.2.1]) (by rw [hg1.2.1]; omega) (by omega) (by rw [hg1.2.1]; exact h40) dJ6_getChars_ba4f3_68 ?_
        have hg2 := hg1.st (c := dig2 (x % 100).toNat) (by omega) (by omega) hdg.2
        refine ga_goto ok 22 (by decide) dJ6_getChars_ba4f3_69 ?_
        exact WA.re (by exact ⟨rfl, rfl, rfl, rfl, trivial⟩) (ih (t + 2) (x / 100) (cp + -1 + -1) _ ⟨hP.n ha1 (by omega), by omega, by rw [show t + 2 = t + 1 + 1 by omega]; exact hg2⟩ (by omega))
    exact loop
  refine ga_iload_n ok 1 rfl rfl dJ6_getChars_ba4f3_0 ?_
  refine ga_istore ok hn5 dJ6_getChars_ba4f3_1 ?_
  refine ga_iload_n ok 0 rfl rfl dJ6_getChars_ba4f3_3 ?_
  refine ga_if_ge ok 11 (by decide) (by omega) dJ6_getChars_ba4f3_4 (fun c_4 => ?_) (fun c_4 => ?_)
  · refine ga_iconst ok dJ6_getChars_ba4f3_11 ?_
    refine ga_istore ok hn6 dJ6_getChars_ba4f3_12 ?_
    refine ga_iload ok rfl dJ6_getChars_ba4f3_14 ?_
    refine ga_if_ne ok 22 (by decide) (by omega) dJ6_getChars_ba4f3_16 (fun c_16 => ?_) (fun c_16 => ?_)
    · exact absurd rfl c_16
    · refine ga_iload_n ok 0 rfl rfl dJ6_getChars_ba4f3_19 ?_
      refine ga_ineg ok dJ6_getChars_ba4f3_20 ?_
      refine ga_istore_n ok 0 rfl hn0 dJ6_getChars_ba4f3_21 ?_
      have ev : a = v := by rw [ha]; unfold av; rw [if_neg (by omega)]
      exact WA.re (by exact ⟨rfl, (by rw [ev]; rfl), rfl, rfl, trivial⟩) (main 0 (Or.inl ⟨rfl, by omega, by unfold nsz; rw [if_neg (by omega), ← ev]⟩) 0 a e m ⟨Or.inl ⟨rfl, rfl⟩, by omega, ⟨hB, rfl, by omega, fun _ _ => rfl, fun j _ hj => by omega, XB.rf⟩⟩)
  · refine ga_iconst ok dJ6_getChars_ba4f3_7 ?_
    refine ga_goto ok 12 (by decide) dJ6_getChars_ba4f3_8 ?_
    refine ga_istore ok hn6 dJ6_getChars_ba4f3_12 ?_
    refine ga_iload ok rfl dJ6_getChars_ba4f3_14 ?_
    refine ga_if_ne ok 22 (by decide) (by omega) dJ6_getChars_ba4f3_16 (fun c_16 => ?_) (fun c_16 => ?_)
    · have ev : a = -v := by rw [ha]; unfold av; rw [if_pos (by omega)]
      exact WA.re (by exact ⟨rfl, (by rw [ev, Int.neg_neg]; rfl), rfl, rfl, trivial⟩) (main 1 (Or.inr ⟨rfl, by omega, by unfold nsz; rw [if_pos (by omega), ← ev]⟩) 0 a e m ⟨Or.inl ⟨rfl, rfl⟩, by omega, ⟨hB, rfl, by omega, fun _ _ => rfl, fun j _ hj => by omega, XB.rf⟩⟩)
    · exact absurd c_16 (by decide)
