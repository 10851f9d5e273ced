/-! THE START: the world -/
def GG0 (s : State) (D : va_G) (cA : Nat → ClassId) : GG := (adM s.heap.size, D, cA, s.heap.size, dmM, cellOf, sbX s.heap.size cA dmM, fun u => SST (fun q => s.heap.size ≤ q) u)
theorem GG0_mw {s : State} {D : va_G} {cA : Nat → ClassId} : MW (GG0 s D cA) := ⟨rfl, rfl⟩
theorem adM_raw (bs a : Nat) : adM bs (RAW + a) = a := by
  unfold adM
  rw [if_pos (by omega)]
  omega
theorem GG0_sb {s : State} {D : va_G} {cA : Nat → ClassId} : SBW (GG0 s D cA) := ⟨fun a => adM_raw _ a, rfl, fun u h => h⟩
theorem GG0_ad {s : State} {D : va_G} {cA : Nat → ClassId} : ADF (GG0 s D cA) := by
  have hR : RAW = 1000000 := rfl
  have e : ∀ n, n < 2000 → g_ad (GG0 s D cA) n = s.heap.size + off n := fun n hn => adM_lo (by omega)
  refine ⟨fun a ha => ?_, fun a ha => ?_, ?_, ?_, ?_, ?_, fun n hn => ?_, fun a => adM_raw _ a⟩
  · obtain ⟨h1, h2, h3⟩ := off_1 a (by omega) ha.1
    rw [e _ (by omega), e _ (by omega), e _ (by omega), e _ (by omega)]
    omega
  · obtain ⟨⟨h1, h2, h3⟩, h4⟩ := off_2 a (by omega) ha.1
    rw [e _ (by omega), e _ (by omega), e _ (by omega), e _ (by omega)]
    refine ⟨by omega, by omega, by omega, fun j hj => ?_⟩
    rw [e _ (by omega), h4 j hj]
    omega
  · rw [e 64 (by omega), e 65 (by omega), e 66 (by omega), e 576 (by omega), e 364 (by omega), e 640 (by omega), e 960 (by omega), e 0 (by omega)]
    refine ⟨rfl, rfl, rfl, rfl, rfl, rfl, rfl, fun i hi => ?_⟩
    rw [e _ (by omega), off_3 i hi]
    omega
  · rw [e 704 (by omega), e 768 (by omega), e 832 (by omega), e 896 (by omega), e 640 (by omega)]
    exact ⟨rfl, rfl, rfl, rfl⟩
  · rw [e 1024 (by omega), e 1088 (by omega), e 1152 (by omega), e 1216 (by omega), e 1280 (by omega), e 1344 (by omega), e 1408 (by omega), e 1472 (by omega), e 1536 (by omega), e 0 (by omega)]
    exact ⟨rfl, rfl, rfl, rfl, rfl, rfl, rfl, rfl, rfl⟩
  · rw [e 1600 (by omega), e 1664 (by omega), e 0 (by omega)]
    exact ⟨rfl, rfl⟩
  · rw [e n hn]
    show s.heap.size ≤ _
    omega
theorem SST_moved {bs : Nat} {u U : State} (hW : u.WarmedH U.vm) (hk : ∀ q, q < u.heap.size → q < bs → U.heap[q]? = u.heap[q]?) (h : SST (fun q => bs ≤ q) u) : SST (fun q => bs ≤ q) U := by
  have kz : ∀ {C n d : String} {v : Value}, va_Z C n d v (fun q => bs ≤ q) u u.heap → va_Z C n d v (fun q => bs ≤ q) U U.heap := fun hz => (hz.kept (fun a h1 h2 => hk a h1 (Nat.not_le.mp h2))).moved hW.alike
  have kd : ∀ {nm : String} {f : Nat → Int}, DGR (fun q => bs ≤ q) nm f u → DGR (fun q => bs ≤ q) nm f U := fun hd => by
    obtain ⟨a, cell, h1, h2, h3, h4, h5⟩ := hd
    exact ⟨a, cell, kz h1, by rw [hk a (Array.getElem?_eq_some_iff.mp h2).1 (Nat.not_le.mp h3)]; exact h2, h3, State.isArrayOf_alike hW.alike h4, h5⟩
  obtain ⟨h1, ⟨v, hv, h2⟩, h3, h4, h5, h6⟩ := h
  exact ⟨kz h1, ⟨v, hv, kz h2⟩, kd h3, kd h4, word_at hW (Or.inl (by first | rfl | simp [Cond.onTables, Cond.keeps, Cond.steady])) h5, word_at hW (Or.inl (by first | rfl | simp [Cond.onTables, Cond.keeps, Cond.steady])) h6⟩
set_option maxRecDepth 100000 in
theorem dg1_in : ∀ j, j < 100 → FLC[14 + j]? = some (Cond.eq (.elem (.static "java/lang/Integer" "DigitOnes" "[B") (.int (Int32.ofNat j))) (.int (Int32.ofInt (dig1 j)))) := by decide +kernel
set_option maxRecDepth 100000 in
theorem dg2_in : ∀ j, j < 100 → FLC[117 + j]? = some (Cond.eq (.elem (.static "java/lang/Integer" "DigitTens" "[B") (.int (Int32.ofNat j))) (.int (Int32.ofInt (dig2 j)))) := by decide +kernel
set_option maxRecDepth 100000 in
theorem msg_in : ∀ q ∈ msgs, Cond.stringRef q.1 q.2.1 q.2.2 ∈ tables_1 ∧ Cond.exactly (.string q.1 q.2.1) "java/lang/String" ∈ FLC := by decide +kernel
set_option maxRecDepth 100000 in
theorem exc_in : ∀ q ∈ excs, ∀ r ∈ excs, q ≠ r → Cond.not (.castable q r) ∈ FLC := by decide +kernel
theorem SST_of {A9 : Array Value} {s : State} (hT : ∀ w ∈ tables_1, w.before A9 s = true) (hF : ∀ w ∈ FLC, w.before A9 s = true) : SST (fun q => s.heap.size ≤ q) s := by
  have hA : ∀ a : Nat, a < s.heap.size → ¬ (fun q : Nat => s.heap.size ≤ q) a := fun a h => Nat.not_le.mpr h
  refine ⟨va_Zof (hT _ (List.mem_of_getElem? (i := 163) (by decide +kernel))) (hT _ (List.mem_of_getElem? (i := 7) (by decide +kernel))) (eq_int (hF _ (List.mem_of_getElem? (i := 4) (by decide +kernel)))) hA, ?_, dgr_of (hT _ (List.mem_of_getElem? (i := 936) (by decide +kernel))) (hT _ (List.mem_of_getElem? (i := 19) (by decide +kernel))) (hF _ (List.mem_of_getElem? (i := 12) (by decide +kernel))) (hF _ (List.mem_of_getElem? (i := 13) (by decide +kernel))) (fun j hj => hF _ (List.mem_of_getElem? (dg1_in j hj))) hA, dgr_of (hT _ (List.mem_of_getElem? (i := 938) (by decide +kernel))) (hT _ (List.mem_of_getElem? (i := 19) (by decide +kernel))) (hF _ (List.mem_of_getElem? (i := 115) (by decide +kernel))) (hF _ (List.mem_of_getElem? (i := 116) (by decide +kernel))) (fun j hj => hF _ (List.mem_of_getElem? (dg2_in j hj))) hA, ?_, ?_⟩
  · have h := va_Zqof (C := "jdk/internal/util/Preconditions") (n := "SIOOBE_FORMATTER") (d := "Ljava/util/function/BiFunction;") (A := fun q => s.heap.size ≤ q) (hT _ (List.mem_of_getElem? (i := 866) (by decide +kernel))) (hT _ (List.mem_of_getElem? (i := 27) (by decide +kernel))) (hF _ (List.mem_of_getElem? (i := 7) (by decide +kernel))) hA
    rcases h with h | ⟨t, h⟩
    · exact ⟨.null, Or.inl rfl, h⟩
    · exact ⟨.ref t, Or.inr ⟨t, rfl⟩, h⟩
  · exact va_tabs rfl rfl (sel_priv (C := RJ4) (N := 4) (z := yJ5_isLatin1_aae02) (by decide +kernel) rfl (hT _ (List.mem_of_getElem? (i := 154) (by decide +kernel))) (hT _ (List.mem_of_getElem? (i := 816) (by decide +kernel))) (hT _ (List.mem_of_getElem? (i := 817) (by decide +kernel))) (hT _ (List.mem_of_getElem? (i := 851) (by decide +kernel))))
  · exact va_tabs rfl rfl (sel_priv (C := RJ4) (N := 4) (z := yJ5_isLatin1_aae02) (by decide +kernel) rfl (hT _ (List.mem_of_getElem? (i := 154) (by decide +kernel))) (hT _ (List.mem_of_getElem? (i := 820) (by decide +kernel))) (hT _ (List.mem_of_getElem? (i := 821) (by decide +kernel))) (hT _ (List.mem_of_getElem? (i := 851) (by decide +kernel))))
theorem SF_of {A9 : Array Value} {s : State} {D : va_G} {cA : Nat → ClassId} (hK : va_K D vcl (vty cA) s) (hT : ∀ w ∈ tables_1, w.before A9 s = true) (hF : ∀ w ∈ FLC, w.before A9 s = true) : SF (GG0 s D cA) s := by
  have hA : ∀ a : Nat, a < s.heap.size → ¬ g_A (GG0 s D cA) a := fun a h => Nat.not_le.mpr h
  have hR : RAW = 1000000 := rfl
  refine ⟨hK, fun n n' h h' e => adM_inj (Or.inl h) (Or.inl h') e, fun n hn => ⟨?_, ?_⟩, fun m m' n hn h1 h2 => ?_, fun m H H' hx hq => ?_, fun m m' H h1 h2 hx => ?_, vx_Zqof (hT _ (List.mem_of_getElem? (i := 329) (by decide +kernel))) (hT _ (List.mem_of_getElem? (i := 10) (by decide +kernel))) (hF _ (List.mem_of_getElem? (i := 5) (by decide +kernel))) hA, vx_Zqof (hT _ (List.mem_of_getElem? (i := 331) (by decide +kernel))) (hT _ (List.mem_of_getElem? (i := 10) (by decide +kernel))) (hF _ (List.mem_of_getElem? (i := 6) (by decide +kernel))) hA, fun q hq => txt_of (hT _ (msg_in q hq).1) (hF _ (msg_in q hq).2), fun w hw => va_Nw.of (spw_onT hw) (hT w (List.mem_filter.mp hw).1), fun q hq r hr hne => va_Nc.of (hF _ (exc_in q hq r hr hne)), SST_of hT hF, fun u U hW hk h => SST_moved hW hk h⟩
  · have := dm_lt hn
    show s.heap.size ≤ adM s.heap.size n
    rw [adM_lo (by omega)]
    omega
  · have hn : dmM n := hn
    unfold dmM at hn
    omega
  · show cellOf _ _ m n = cellOf _ _ m' n
    unfold cellOf
    simp only [h1, h2]
  · obtain ⟨a1, a2, a3, a4⟩ := hx
    refine ⟨a1.kept (hq _ a1.lt (fun n hn => (a3.2.2.2 n hn).1)), a2.kept (hq _ a2.lt (fun n hn => (a3.2.2.2 n hn).2)), a3, fun h => ?_⟩
    obtain ⟨b1, b2⟩ := a4 h
    exact ⟨b1.kept (hq _ b1.lt (fun n hn => b2.2.2.2 n hn)), b2⟩
  · have hx : sbX s.heap.size cA dmM (adM s.heap.size) D m H := hx
    show sbX s.heap.size cA dmM (adM s.heap.size) D m' H
    unfold sbX sbF at *
    rw [← h1, ← h2]
    exact hx
theorem off_72 : ∀ n, n < 1665 → dmB n = true → off n ≠ 72 := by decide +kernel
def g00 : Gm := mkG (fun _ => 0) (fun _ => 0) 0 (fun _ _ => 0) 0 0 0 (-1) (fun _ => 0) 0 (fun _ => 0) 0
theorem LWS_0 {z : Int} (hz : 0 ≤ z) : LWS 0 (m00 z) g00 := by
  have h64 : ∀ n, n ≠ 0 ∧ n ≠ 960 ∧ n ≠ 1024 → ∀ j, (m00 z).1 n j = 0 := fun n h j => m00_0 h j
  have e0 : ∀ j, j ≠ 10 → (m00 z).1 0 j = 0 := fun j h => by simp [m00, h]
  have e1 : ∀ j, j ≠ 17 → (m00 z).1 1024 j = 0 := fun j h => by simp [m00, h]
  have k0 : (m00 z).1 960 0 = 0 := by simp [m00]
  have k1 : (m00 z).1 960 1 = 0 := by simp [m00]
  have k2 : (m00 z).1 960 2 = z := by simp [m00]
  have k3 : (m00 z).1 960 3 = 16 := by simp [m00]
  have k4 : (m00 z).1 960 4 = 0 := by simp [m00]
  have r0 : g00.r = fun _ => 0 := rfl
  have hg : gtIs (m00 z) 64 g00.r := ⟨h64 64 (by omega) 1, h64 64 (by omega) 4, fun v hv => by have hv : (v : Int) < 0 := hv; omega, fun j hj => by have hj : (j : Int) < 0 := hj; omega⟩
  have ho : gtOk 0 g00.r := ⟨by rw [r0]; decide, by rw [r0]; decide, fun v hv => by have hv : (v : Int) < 0 := hv; omega, fun j hj => by have hj : (j : Int) < 0 := hj; omega⟩
  refine ⟨⟨⟨hg, ho⟩, ⟨e0 3 (by omega), Or.inl rfl, fun h => absurd (show (0 : Int) = 1 from h) (by decide)⟩, ⟨e0 6 (by omega), by decide, by rw [e0 5 (by omega)]; decide, fun i hi => by have hi : (i : Int) < 0 := hi; omega⟩, ⟨⟨by simp [m00]; rfl, e0 11 (by omega), e0 12 (by omega)⟩, by decide, by decide, by decide⟩, ⟨h64 640 (by omega) 1, by decide, fun i hi => by have hi : (i : Int) < 0 := hi; omega⟩, ⟨k0, by decide, fun i hi => by have hi : (i : Int) < 0 := hi; omega⟩⟩, ⟨fun k hk => h64 1088 (by omega) k, ⟨e1 3 (by omega), Or.inl rfl, fun h => absurd (show (0 : Int) = 1 from h) (by decide)⟩, ⟨e1 5 (by omega), by decide, fun i k hi => by have hi : (i : Int) < 0 := hi; omega⟩, ⟨e1 7 (by omega), e1 8 (by omega), by simp [m00]; rfl⟩, ⟨e1 14 (by omega), by decide, fun i hi => by have hi : (i : Int) < 0 := hi; omega⟩, ⟨e1 12 (by omega), by decide, fun i hi => by have hi : (i : Int) < 0 := hi; omega⟩⟩, ⟨⟨by rw [k0, k3]; decide, by rw [k3]; decide, Or.inl k1, by rw [k2]; exact hz, fun i hi => by rw [h64 961 (by omega)]; decide⟩, k4, k0, fun i hi => by have hi : (i : Int) < 0 := hi; omega⟩, ⟨by decide, fun i hi => by have hi : (i : Int) < 0 := hi; omega⟩⟩
