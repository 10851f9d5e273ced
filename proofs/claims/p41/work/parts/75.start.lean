/-! THE START: what the statement and the tables say -/
abbrev FLC : List Cond := flatC (Jvm.Cond.and given_1 narrow_1)
theorem eq_int {A : Array Value} {s : State} {t : Term} {z : Int32} (h : (Cond.eq t (.int z)).before A s = true) : t.eval A s none [] s = some (.int z) := by
  cases hv : t.eval A s none [] s with
  | none => simp [Cond.before, Cond.holds, Cond.value, hv] at h
  | some w =>
    have hz : (Term.int z).eval A s none [] s = some (.int z) := rfl
    simp only [Cond.before, Cond.holds, Cond.value, hv, hz] at h
    cases w <;> simp_all
theorem dgr_of {A9 : Array Value} {s : State} {A : Nat → Prop} {nm : String} {f : Nat → Int} (hl : (Cond.laysStatic "java/lang/Integer" nm "[B").before A9 s = true) (hini : (Cond.initialized "java/lang/Integer").before A9 s = true) (h0 : (Cond.arrayOf (.static "java/lang/Integer" nm "[B") .byte).before A9 s = true) (h1 : (Cond.eq (.length (.static "java/lang/Integer" nm "[B")) (.int 100)).before A9 s = true)
    (h2 : ∀ j : Nat, j < 100 → (Cond.eq (.elem (.static "java/lang/Integer" nm "[B") (.int (Int32.ofNat j))) (.int (Int32.ofInt (f j)))).before A9 s = true) (hA : ∀ a : Nat, a < s.heap.size → ¬ A a) : DGR A nm f s := by
  have hlen := eq_int h1
  obtain ⟨a, cell, ht, harr, hsz⟩ := Term.length_spec hlen
  obtain ⟨hcell, hunk, hst, -⟩ := State.arrayAt?_spec harr
  obtain ⟨hof, -⟩ := Cond.arrayOf_spec h0 ht hcell
  have hsz2 : cell.slots.size = 100 := by
    have h9 := hlen
    simp only [Term.eval, Option.bind_eq_bind] at h9
    simp only [Term.eval, Option.bind_eq_bind] at ht
    rw [ht] at h9
    simp only [Option.bind_some, harr] at h9
    by_cases hlt : cell.slots.size < 2 ^ 31
    · rw [if_pos hlt] at h9
      have h8 : (cell.slots.size.toInt32 : Int32) = 100 := by
        have h7 := Option.some.inj h9
        injection h7
      have e : (cell.slots.size.toInt32).toNatClampNeg = cell.slots.size := nI_clamp hlt
      rw [h8] at e
      exact e.symm.trans (by decide)
    · rw [if_neg hlt] at h9
      cases h9
  refine ⟨a, cell, va_Zof hl hini ht hA, hcell, hA a (Array.getElem?_eq_some_iff.mp hcell).1, hof, hunk, hsz2, fun j hj => ?_⟩
  obtain ⟨a', j', cell', t1, t2, t3, -, t5⟩ := Term.elem_spec (eq_int (h2 j hj))
  cases Option.some.inj (ht.symm.trans t1)
  cases harr.symm.trans t3
  have t6 : Int32.ofNat j = j' := by
    have h7 := Option.some.inj (show some (Value.int (Int32.ofNat j)) = some (.int j') from t2)
    injection h7
  rw [← t6, show (Int32.ofNat j).toNatClampNeg = j from nI_clamp (by omega)] at t5
  exact t5
theorem txt_of {own tx : String} {k : Nat} {A : Array Value} {s : State} (h1 : (Cond.stringRef own k tx).before A s = true) (h2 : (Cond.exactly (.string own k) "java/lang/String").before A s = true) : ∃ a, vk_R own k tx a s := by
  obtain ⟨a, _, _, _, ha, _⟩ := Cond.exactly_spec h2
  exact ⟨a, vk_R.of h1 ha⟩
theorem arr_prim {A : Array Value} {s : State} {ty : FieldType} (h : (Cond.arrayClass ty).before A s = true) (hRA : ∀ cA, s.vm.findClass ("[" ++ ty.toString) = some cA → va_RA s cA ty) : ∃ cA, ArrOfT s cA ty ∧ va_RA s cA ty := by
  obtain ⟨cA, kA, comp, h1, h2, h3⟩ := Cond.arrayClass_spec h
  exact ⟨cA, fun n z => ⟨fun k h => (by cases h), kA, h2, comp, h3⟩, hRA cA h1⟩
theorem arr_obj {s : State} {C : String} (h : va_AO C s) : ∃ cA, ArrOfT s cA (.object C) ∧ va_RA s cA (.object C) := by
  obtain ⟨comp, cA, kA, h1, h2, h3, h4, h5⟩ := Cond.arrayOver_spec h
  exact ⟨cA, fun n z => ⟨fun k h => (by cases h), kA, h3, comp, h4⟩, kA, comp, h3, h4, h1, h5⟩
/-! THE WORLD'S PLACE -/
def gof (k : Nat) : Nat := if k < 3 then 1 + 20 * k else 13 + 20 * k
def jof (j : Nat) : Nat := if j = 44 then 62 else gof (j / 4) + 4 + 4 * (j % 4)
def off (n : Nat) : Nat :=
  if n / 64 = 0 then 0 else if n / 64 = 1 then gof (n - 64) else if n / 64 = 2 then gof (n - 128) + 1 else if n / 64 = 3 then gof (n - 192) + 2 else if n / 64 = 4 then gof (n - 256) + 3
  else if n / 64 = 5 then jof (n - 320) else if n / 64 = 6 then jof (n - 384) + 1 else if n / 64 = 7 then jof (n - 448) + 2 else if n / 64 = 8 then jof (n - 512) + 3
  else if n / 64 = 9 then 61 else if n / 64 < 16 then n / 64 + 56 else n / 64 + 217
def adM (bs n : Nat) : Nat := if RAW ≤ n then n - RAW else bs + off n
def inv (o : Nat) : Nat :=
  if o = 0 then 0 else if o = 61 then 576 else if 62 ≤ o ∧ o < 66 then 364 + 64 * (o - 62) else if 66 ≤ o ∧ o < 72 then 64 * (o - 56) else if 233 ≤ o then 64 * (o - 217)
  else (fun k t => if t < 4 then 64 * (t + 1) + k else 320 + 64 * ((t - 4) % 4) + 4 * k + (t - 4) / 4) ((if o < 61 then (o - 1) / 20 else (o - 13) / 20)) ((if o < 61 then (o - 1) % 20 else (o - 13) % 20))
def dmB (n : Nat) : Bool := n == 0 || (Nat.ble 64 n && Nat.blt n 75) || (Nat.ble 128 n && Nat.blt n 139) || (Nat.ble 192 n && Nat.blt n 203) || (Nat.ble 256 n && Nat.blt n 267) || (Nat.ble 320 n && Nat.blt n 365) || (Nat.ble 384 n && Nat.blt n 429) || (Nat.ble 448 n && Nat.blt n 493) || (Nat.ble 512 n && Nat.blt n 557) || n == 576 || n == 640 || n == 704 || n == 768 || n == 832 || n == 896 || n == 1024 || n == 1088 || n == 1152 || n == 1216 || n == 1280 || n == 1344 || n == 1408 || n == 1472 || n == 1536 || n == 1600 || n == 1664 || n == 960
theorem inv_off : ∀ n, n < 1665 → dmB n = true → inv (off n) = n := by decide +kernel
theorem dmB_of {n : Nat} (h : dmM n ∨ n = 960) : dmB n = true := by
  unfold dmM at h
  simp only [dmB, Bool.or_eq_true, Bool.and_eq_true, beq_iff_eq, Nat.ble_eq, Nat.blt_eq]
  omega
theorem dm_lt {n : Nat} (h : dmM n) : n < 1665 := by unfold dmM at h; omega
theorem adM_lo {bs n : Nat} (h : n < RAW) : adM bs n = bs + off n := if_neg (by omega)
theorem adM_inj {bs n n' : Nat} (h : dmM n ∨ n = 960) (h' : dmM n' ∨ n' = 960) (e : adM bs n = adM bs n') : n = n' := by
  have b : ∀ x, (dmM x ∨ x = 960) → x < 1665 := fun x hx => by
    rcases hx with hx | rfl
    · exact dm_lt hx
    · omega
  have e1 := inv_off n (b n h) (dmB_of h)
  have e2 := inv_off n' (b n' h') (dmB_of h')
  have hR : RAW = 1000000 := rfl
  rw [adM_lo (by have := b n h; omega), adM_lo (by have := b n' h'; omega)] at e
  rw [← e1, ← e2, show off n = off n' by omega]
theorem off_1 : ∀ a, a < 365 → 320 ≤ a → off (a + 64) = off a + 1 ∧ off (a + 128) = off a + 2 ∧ off (a + 192) = off a + 3 := by decide +kernel
theorem off_2 : ∀ a, a < 75 → 64 ≤ a → (off (a + 64) = off a + 1 ∧ off (a + 128) = off a + 2 ∧ off (a + 192) = off a + 3) ∧ ∀ j, j < 4 → off (320 + 4 * (a - 64) + j) = off a + 4 + 4 * j := by decide +kernel
theorem off_3 : ∀ i, i < 8 → off (67 + i) = off 0 + 73 + 20 * i := by decide +kernel
/-! THE START: the world -/
def A0 (s : State) : Nat → Prop := fun q => s.heap.size ≤ q ∨ (fun _ => False) q
theorem A0_no {s : State} : ∀ a : Nat, a < s.heap.size → ¬ A0 s a := fun a h h9 => h9.elim (fun h2 => absurd h2 (Nat.not_le.mpr h)) id
/-- what stands all the time: statics, the script, the texts of the law's -/
def ST9 (A : Nat → Prop) (la lv : Nat → Nat) (sb sl : Nat) (xs : Nat → Int32) (u : State) : Prop := SST A u ∧ (va_X sb sl xs u u.heap ∧ sb < u.heap.size ∧ AO2 u) ∧ ∀ i q, litL[i]? = some q → vk_R RL q.1 q.2.1 (la i) u ∧ STv A u (la i) (lv i) (lch q.2.2) q.2.2.length
theorem ST9.moved {A : Nat → Prop} {la lv : Nat → Nat} {sb sl : Nat} {xs : Nat → Int32} {u U : State} (hsb : ¬ A sb) (hW : u.WarmedH U.vm) (hk : ∀ q, q < u.heap.size → ¬ A q → U.heap[q]? = u.heap[q]?) (h : ST9 A la lv sb sl xs u) : ST9 A la lv sb sl xs U := by
  obtain ⟨h1, ⟨h2, h3, h4⟩, h5⟩ := h
  have h6 := h2.kept (hk sb h3 hsb)
  refine ⟨SST.moved hW hk h1, ⟨h6.moved hW.alike, ?_, AO2.moved hW.alike h4⟩, fun i q hq => ⟨vk_R.warm hW (h5 i q hq).1, STv.moved hW hk (h5 i q hq).2⟩⟩
  obtain ⟨scr, e, -⟩ := h6
  exact (Array.getElem?_eq_some_iff.mp e).1
def GG0 (s : State) (D : va_G) (cA : Nat → ClassId) (la lv : Nat → Nat) (sb sl : Nat) (xs : Nat → Int32) : GG := (adM s.heap.size, D, cA, (s.heap.size, fun _ => False), dmM, cellOf, sbX (A0 s) cA dmM, fun u => ST9 (A0 s) la lv sb sl xs u)
theorem GG0_mw {s : State} {D : va_G} {cA : Nat → ClassId} {la lv : Nat → Nat} {sb sl : Nat} {xs : Nat → Int32} : MW (GG0 s D cA la lv sb sl xs) := ⟨rfl, rfl⟩
theorem adM_raw (bs a : Nat) : adM bs (RAW + a) = a := by
  unfold adM
  rw [if_pos (by omega)]
  omega
theorem GG0_sb {s : State} {D : va_G} {cA : Nat → ClassId} {la lv : Nat → Nat} {sb sl : Nat} {xs : Nat → Int32} : SBW (GG0 s D cA la lv sb sl xs) := ⟨fun a => adM_raw _ a, rfl, fun u h => h.1⟩
theorem GG0_ad {s : State} {D : va_G} {cA : Nat → ClassId} {la lv : Nat → Nat} {sb sl : Nat} {xs : Nat → Int32} : ADF (GG0 s D cA la lv sb sl xs) := by
  have hR : RAW = 1000000 := rfl
  have e : ∀ n, n < 2000 → g_ad (GG0 s D cA la lv sb sl xs) n = s.heap.size + off n := fun n hn => adM_lo (by omega)
  refine ⟨fun a ha => ?_, fun a ha => ?_, ?_, ?_, ?_, ?_, fun n hn => ?_, fun a => adM_raw _ a⟩
  · obtain ⟨h1, h2, h3⟩ := off_1 a (by omega) ha.1
    rw [e _ (by omega), e _ (by omega), e _ (by omega), e _ (by omega)]
    omega
  · obtain ⟨⟨h1, h2, h3⟩, h4⟩ := off_2 a (by omega) ha.1
    rw [e _ (by omega), e _ (by omega), e _ (by omega), e _ (by omega)]
    refine ⟨by omega, by omega, by omega, fun j hj => ?_⟩
    rw [e _ (by omega), h4 j hj]
    omega
  · rw [e 64 (by omega), e 65 (by omega), e 66 (by omega), e 576 (by omega), e 364 (by omega), e 640 (by omega), e 960 (by omega), e 0 (by omega)]
    refine ⟨rfl, rfl, rfl, rfl, rfl, rfl, rfl, fun i hi => ?_⟩
    rw [e _ (by omega), off_3 i hi]
    omega
  · rw [e 704 (by omega), e 768 (by omega), e 832 (by omega), e 896 (by omega), e 640 (by omega)]
    exact ⟨rfl, rfl, rfl, rfl⟩
  · rw [e 1024 (by omega), e 1088 (by omega), e 1152 (by omega), e 1216 (by omega), e 1280 (by omega), e 1344 (by omega), e 1408 (by omega), e 1472 (by omega), e 1536 (by omega), e 0 (by omega)]
    exact ⟨rfl, rfl, rfl, rfl, rfl, rfl, rfl, rfl, rfl⟩
  · rw [e 1600 (by omega), e 1664 (by omega), e 0 (by omega)]
    exact ⟨rfl, rfl⟩
  · rw [e n hn]
    show s.heap.size ≤ _
    omega
set_option maxRecDepth 100000 in
theorem dg1_in : ∀ j, j < 100 → FLC[14 + j]? = some (Cond.eq (.elem (.static "java/lang/Integer" "DigitOnes" "[B") (.int (Int32.ofNat j))) (.int (Int32.ofInt (dig1 j)))) := by decide +kernel
set_option maxRecDepth 100000 in
theorem dg2_in : ∀ j, j < 100 → FLC[117 + j]? = some (Cond.eq (.elem (.static "java/lang/Integer" "DigitTens" "[B") (.int (Int32.ofNat j))) (.int (Int32.ofInt (dig2 j)))) := by decide +kernel
set_option maxRecDepth 100000 in
theorem msg_in : ∀ q ∈ msgs, Cond.stringRef q.1 q.2.1 q.2.2 ∈ tables_1 ∧ Cond.exactly (.string q.1 q.2.1) "java/lang/String" ∈ FLC := by decide +kernel
set_option maxRecDepth 100000 in
theorem exc_in : ∀ q ∈ excs, ∀ r ∈ excs, q ≠ r → Cond.not (.castable q r) ∈ FLC := by decide +kernel
theorem SST_of {A9 : Array Value} {s : State} (hT : ∀ w ∈ tables_1, w.before A9 s = true) (hF : ∀ w ∈ FLC, w.before A9 s = true) : SST (A0 s) s := by
  have hA : ∀ a : Nat, a < s.heap.size → ¬ A0 s a := A0_no
  refine ⟨va_Zof (hT _ (List.mem_of_getElem? (i := 165) (by decide +kernel))) (hT _ (List.mem_of_getElem? (i := 7) (by decide +kernel))) (eq_int (hF _ (List.mem_of_getElem? (i := 4) (by decide +kernel)))) hA, ?_, dgr_of (hT _ (List.mem_of_getElem? (i := 732) (by decide +kernel))) (hT _ (List.mem_of_getElem? (i := 24) (by decide +kernel))) (hF _ (List.mem_of_getElem? (i := 12) (by decide +kernel))) (hF _ (List.mem_of_getElem? (i := 13) (by decide +kernel))) (fun j hj => hF _ (List.mem_of_getElem? (dg1_in j hj))) hA, dgr_of (hT _ (List.mem_of_getElem? (i := 734) (by decide +kernel))) (hT _ (List.mem_of_getElem? (i := 24) (by decide +kernel))) (hF _ (List.mem_of_getElem? (i := 115) (by decide +kernel))) (hF _ (List.mem_of_getElem? (i := 116) (by decide +kernel))) (fun j hj => hF _ (List.mem_of_getElem? (dg2_in j hj))) hA, ?_, ?_, ?_, ?_⟩
  · have h := va_Zqof (C := "jdk/internal/util/Preconditions") (n := "SIOOBE_FORMATTER") (d := "Ljava/util/function/BiFunction;") (A := A0 s) (hT _ (List.mem_of_getElem? (i := 662) (by decide +kernel))) (hT _ (List.mem_of_getElem? (i := 21) (by decide +kernel))) (hF _ (List.mem_of_getElem? (i := 7) (by decide +kernel))) hA
    rcases h with h | ⟨t, h⟩
    · exact ⟨.null, Or.inl rfl, h⟩
    · exact ⟨.ref t, Or.inr ⟨t, rfl⟩, h⟩
  · exact va_tabs rfl rfl (sel_priv (C := RJ4) (N := 4) (z := yJ5_isLatin1_aae02) (by decide +kernel) rfl (hT _ (List.mem_of_getElem? (i := 156) (by decide +kernel))) (hT _ (List.mem_of_getElem? (i := 612) (by decide +kernel))) (hT _ (List.mem_of_getElem? (i := 613) (by decide +kernel))) (hT _ (List.mem_of_getElem? (i := 647) (by decide +kernel))))
  · exact va_tabs rfl rfl (sel_priv (C := RJ4) (N := 4) (z := yJ5_isLatin1_aae02) (by decide +kernel) rfl (hT _ (List.mem_of_getElem? (i := 156) (by decide +kernel))) (hT _ (List.mem_of_getElem? (i := 616) (by decide +kernel))) (hT _ (List.mem_of_getElem? (i := 617) (by decide +kernel))) (hT _ (List.mem_of_getElem? (i := 647) (by decide +kernel))))
  · exact va_tabs rfl rfl (sel_priv (C := RJ4) (N := 4) (z := yJ5_isLatin1_aae02) (by decide +kernel) rfl (hT _ (List.mem_of_getElem? (i := 156) (by decide +kernel))) (hT _ (List.mem_of_getElem? (i := 685) (by decide +kernel))) (hT _ (List.mem_of_getElem? (i := 686) (by decide +kernel))) (hT _ (List.mem_of_getElem? (i := 647) (by decide +kernel))))
  · exact va_tabs rfl rfl (sel_priv (C := RJ4) (N := 4) (z := yJ5_isLatin1_aae02) (by decide +kernel) rfl (hT _ (List.mem_of_getElem? (i := 156) (by decide +kernel))) (hT _ (List.mem_of_getElem? (i := 689) (by decide +kernel))) (hT _ (List.mem_of_getElem? (i := 690) (by decide +kernel))) (hT _ (List.mem_of_getElem? (i := 647) (by decide +kernel))))
theorem lit_of {A9 : Array Value} {s : State} {A : Nat → Prop} {idx : Nat} {tx : String} {l : List Int} (h1 : (Cond.stringRef RL idx tx).before A9 s = true) (h2 : (Cond.exactly (.string RL idx) "java/lang/String").before A9 s = true) (h3 : (Cond.eq (.field (.string RL idx) "java/lang/String" "coder" "B") (.int 0)).before A9 s = true) (h4 : (Cond.arrayOf (.field (.string RL idx) "java/lang/String" "value" "[B") .byte).before A9 s = true) (h5 : (Cond.eq (.length (.field (.string RL idx) "java/lang/String" "value" "[B")) (.int (Int32.ofNat l.length))).before A9 s = true)
    (h6 : ∀ j : Nat, j < l.length → (Cond.eq (.elem (.field (.string RL idx) "java/lang/String" "value" "[B") (.int (Int32.ofNat j))) (.int (Int32.ofInt (lch l j)))).before A9 s = true) (hl : l.length ≤ 100 ∧ ∀ j, j < l.length → 0 ≤ lch l j ∧ lch l j ≤ 127) (hA : ∀ a : Nat, a < s.heap.size → ¬ A a) : ∃ a v, vk_R RL idx tx a s ∧ STv A s a v (lch l) l.length := by
  obtain ⟨a, _, _, _, ha, _⟩ := Cond.exactly_spec h2
  obtain ⟨v, hv, hT⟩ := va_Tof (f := fun j => .int (Int32.ofInt (lch l j))) (by omega) h4 (eq_int h5) (fun j hj => eq_int (h6 j hj)) hA
  exact ⟨a, v, vk_R.of h1 ha, va_Oof h2 ha hA, vk_OFof ha (eq_int h3) hA, vk_OFof ha hv hA, hT, hl.1, hl.2⟩
set_option maxRecDepth 100000 in
theorem lits_of {A9 : Array Value} {s : State} (hT : ∀ w ∈ tables_1, w.before A9 s = true) (hF : ∀ w ∈ FLC, w.before A9 s = true) : ∃ la lv : Nat → Nat, ∀ i q, litL[i]? = some q → vk_R RL q.1 q.2.1 (la i) s ∧ STv (A0 s) s (la i) (lv i) (lch q.2.2) q.2.2.length := by
  obtain ⟨a0, v0, k0⟩ := lit_of (A := A0 s) (idx := 214) (tx := "") (l := []) (hT _ (List.mem_of_getElem? (i := 599) (by decide +kernel))) (hF _ (List.mem_of_getElem? (i := 750) (by decide +kernel))) (hF _ (List.mem_of_getElem? (i := 751) (by decide +kernel))) (hF _ (List.mem_of_getElem? (i := 752) (by decide +kernel))) (hF _ (List.mem_of_getElem? (i := 753) (by decide +kernel))) (fun j hj => absurd hj (Nat.not_lt_zero _)) (lit_ok (214, "", []) (List.mem_of_getElem? (i := 0) rfl)) A0_no
  obtain ⟨a1, v1, k1⟩ := lit_of (A := A0 s) (idx := 226) (tx := " ") (l := [32]) (hT _ (List.mem_of_getElem? (i := 806) (by decide +kernel))) (hF _ (List.mem_of_getElem? (i := 761) (by decide +kernel))) (hF _ (List.mem_of_getElem? (i := 762) (by decide +kernel))) (hF _ (List.mem_of_getElem? (i := 763) (by decide +kernel))) (hF _ (List.mem_of_getElem? (i := 764) (by decide +kernel))) (fun j hj => match j, hj with | 0, _ => (hF _ (List.mem_of_getElem? (i := 765) (by decide +kernel))) | j + 1, h => absurd h (by show ¬ j + 1 < 1; omega)) (lit_ok (226, " ", [32]) (List.mem_of_getElem? (i := 1) rfl)) A0_no
  obtain ⟨a2, v2, k2⟩ := lit_of (A := A0 s) (idx := 276) (tx := "+") (l := [43]) (hT _ (List.mem_of_getElem? (i := 1142) (by decide +kernel))) (hF _ (List.mem_of_getElem? (i := 1030) (by decide +kernel))) (hF _ (List.mem_of_getElem? (i := 1031) (by decide +kernel))) (hF _ (List.mem_of_getElem? (i := 1032) (by decide +kernel))) (hF _ (List.mem_of_getElem? (i := 1033) (by decide +kernel))) (fun j hj => match j, hj with | 0, _ => (hF _ (List.mem_of_getElem? (i := 1034) (by decide +kernel))) | j + 1, h => absurd h (by show ¬ j + 1 < 1; omega)) (lit_ok (276, "+", [43]) (List.mem_of_getElem? (i := 2) rfl)) A0_no
  obtain ⟨a3, v3, k3⟩ := lit_of (A := A0 s) (idx := 278) (tx := "-") (l := [45]) (hT _ (List.mem_of_getElem? (i := 1143) (by decide +kernel))) (hF _ (List.mem_of_getElem? (i := 1035) (by decide +kernel))) (hF _ (List.mem_of_getElem? (i := 1036) (by decide +kernel))) (hF _ (List.mem_of_getElem? (i := 1037) (by decide +kernel))) (hF _ (List.mem_of_getElem? (i := 1038) (by decide +kernel))) (fun j hj => match j, hj with | 0, _ => (hF _ (List.mem_of_getElem? (i := 1039) (by decide +kernel))) | j + 1, h => absurd h (by show ¬ j + 1 < 1; omega)) (lit_ok (278, "-", [45]) (List.mem_of_getElem? (i := 3) rfl)) A0_no
  obtain ⟨a4, v4, k4⟩ := lit_of (A := A0 s) (idx := 309) (tx := "g") (l := [103]) (hT _ (List.mem_of_getElem? (i := 1187) (by decide +kernel))) (hF _ (List.mem_of_getElem? (i := 1066) (by decide +kernel))) (hF _ (List.mem_of_getElem? (i := 1067) (by decide +kernel))) (hF _ (List.mem_of_getElem? (i := 1068) (by decide +kernel))) (hF _ (List.mem_of_getElem? (i := 1069) (by decide +kernel))) (fun j hj => match j, hj with | 0, _ => (hF _ (List.mem_of_getElem? (i := 1070) (by decide +kernel))) | j + 1, h => absurd h (by show ¬ j + 1 < 1; omega)) (lit_ok (309, "g", [103]) (List.mem_of_getElem? (i := 4) rfl)) A0_no
  obtain ⟨a5, v5, k5⟩ := lit_of (A := A0 s) (idx := 311) (tx := ";+") (l := [59, 43]) (hT _ (List.mem_of_getElem? (i := 1188) (by decide +kernel))) (hF _ (List.mem_of_getElem? (i := 1071) (by decide +kernel))) (hF _ (List.mem_of_getElem? (i := 1072) (by decide +kernel))) (hF _ (List.mem_of_getElem? (i := 1073) (by decide +kernel))) (hF _ (List.mem_of_getElem? (i := 1074) (by decide +kernel))) (fun j hj => match j, hj with | 0, _ => (hF _ (List.mem_of_getElem? (i := 1075) (by decide +kernel))) | 1, _ => (hF _ (List.mem_of_getElem? (i := 1076) (by decide +kernel))) | j + 2, h => absurd h (by show ¬ j + 2 < 2; omega)) (lit_ok (311, ";+", [59, 43]) (List.mem_of_getElem? (i := 5) rfl)) A0_no
  obtain ⟨a6, v6, k6⟩ := lit_of (A := A0 s) (idx := 313) (tx := "j;t0:0;d0") (l := [106, 59, 116, 48, 58, 48, 59, 100, 48]) (hT _ (List.mem_of_getElem? (i := 1189) (by decide +kernel))) (hF _ (List.mem_of_getElem? (i := 1077) (by decide +kernel))) (hF _ (List.mem_of_getElem? (i := 1078) (by decide +kernel))) (hF _ (List.mem_of_getElem? (i := 1079) (by decide +kernel))) (hF _ (List.mem_of_getElem? (i := 1080) (by decide +kernel))) (fun j hj => match j, hj with | 0, _ => (hF _ (List.mem_of_getElem? (i := 1081) (by decide +kernel))) | 1, _ => (hF _ (List.mem_of_getElem? (i := 1082) (by decide +kernel))) | 2, _ => (hF _ (List.mem_of_getElem? (i := 1083) (by decide +kernel))) | 3, _ => (hF _ (List.mem_of_getElem? (i := 1084) (by decide +kernel))) | 4, _ => (hF _ (List.mem_of_getElem? (i := 1085) (by decide +kernel))) | 5, _ => (hF _ (List.mem_of_getElem? (i := 1086) (by decide +kernel))) | 6, _ => (hF _ (List.mem_of_getElem? (i := 1087) (by decide +kernel))) | 7, _ => (hF _ (List.mem_of_getElem? (i := 1088) (by decide +kernel))) | 8, _ => (hF _ (List.mem_of_getElem? (i := 1089) (by decide +kernel))) | j + 9, h => absurd h (by show ¬ j + 9 < 9; omega)) (lit_ok (313, "j;t0:0;d0", [106, 59, 116, 48, 58, 48, 59, 100, 48]) (List.mem_of_getElem? (i := 6) rfl)) A0_no
  obtain ⟨a7, v7, k7⟩ := lit_of (A := A0 s) (idx := 315) (tx := ";x") (l := [59, 120]) (hT _ (List.mem_of_getElem? (i := 1190) (by decide +kernel))) (hF _ (List.mem_of_getElem? (i := 1090) (by decide +kernel))) (hF _ (List.mem_of_getElem? (i := 1091) (by decide +kernel))) (hF _ (List.mem_of_getElem? (i := 1092) (by decide +kernel))) (hF _ (List.mem_of_getElem? (i := 1093) (by decide +kernel))) (fun j hj => match j, hj with | 0, _ => (hF _ (List.mem_of_getElem? (i := 1094) (by decide +kernel))) | 1, _ => (hF _ (List.mem_of_getElem? (i := 1095) (by decide +kernel))) | j + 2, h => absurd h (by show ¬ j + 2 < 2; omega)) (lit_ok (315, ";x", [59, 120]) (List.mem_of_getElem? (i := 7) rfl)) A0_no
  refine ⟨fun k => match k with | 0 => a0 | 1 => a1 | 2 => a2 | 3 => a3 | 4 => a4 | 5 => a5 | 6 => a6 | 7 => a7 | _ => a0, fun k => match k with | 0 => v0 | 1 => v1 | 2 => v2 | 3 => v3 | 4 => v4 | 5 => v5 | 6 => v6 | 7 => v7 | _ => v0, fun i q hq => ?_⟩
  match i, hq with
  | 0, hq => cases hq; exact k0
  | 1, hq => cases hq; exact k1
  | 2, hq => cases hq; exact k2
  | 3, hq => cases hq; exact k3
  | 4, hq => cases hq; exact k4
  | 5, hq => cases hq; exact k5
  | 6, hq => cases hq; exact k6
  | 7, hq => cases hq; exact k7
  | k + 8, hq => simp [litL] at hq
theorem SF_of {A9 : Array Value} {s : State} {D : va_G} {cA : Nat → ClassId} {la lv : Nat → Nat} {sb sl : Nat} {xs : Nat → Int32} (hK : va_K D vcl (vty cA) s) (hT : ∀ w ∈ tables_1, w.before A9 s = true) (hF : ∀ w ∈ FLC, w.before A9 s = true) (h9 : ST9 (A0 s) la lv sb sl xs s) : SF (GG0 s D cA la lv sb sl xs) s := by
  have hA : ∀ a : Nat, a < s.heap.size → ¬ g_A (GG0 s D cA la lv sb sl xs) a := A0_no
  have hR : RAW = 1000000 := rfl
  refine ⟨hK, fun n n' h h' e => adM_inj (Or.inl h) (Or.inl h') e, fun n hn => ⟨?_, ?_⟩, fun m m' n hn h1 h2 => ?_, fun m H H' hx hq => ?_, fun m m' H h1 h2 hx => ?_, vx_Zqof (hT _ (List.mem_of_getElem? (i := 274) (by decide +kernel))) (hT _ (List.mem_of_getElem? (i := 9) (by decide +kernel))) (hF _ (List.mem_of_getElem? (i := 5) (by decide +kernel))) hA, vx_Zqof (hT _ (List.mem_of_getElem? (i := 276) (by decide +kernel))) (hT _ (List.mem_of_getElem? (i := 9) (by decide +kernel))) (hF _ (List.mem_of_getElem? (i := 6) (by decide +kernel))) hA, fun q hq => txt_of (hT _ (msg_in q hq).1) (hF _ (msg_in q hq).2), fun w hw => va_Nw.of (spw_onT hw) (hT w (List.mem_filter.mp hw).1), fun q hq r hr hne => va_Nc.of (hF _ (exc_in q hq r hr hne)), h9, fun u U hW hk h => ST9.moved (A0_no sb h9.2.1.2.1) hW hk h, Nat.le_refl _⟩
  · have := dm_lt hn
    refine Or.inl ?_
    show s.heap.size ≤ adM s.heap.size n
    rw [adM_lo (by omega)]
    omega
  · have hn : dmM n := hn
    unfold dmM at hn
    omega
  · show cellOf _ _ m n = cellOf _ _ m' n
    unfold cellOf
    simp only [h1, h2]
  · exact sbX_5 hx hq
  · exact sbX_6 h1 h2 hx
theorem off_72 : ∀ n, n < 1665 → dmB n = true → off n ≠ 72 := by decide +kernel
set_option maxHeartbeats 4000000 in
theorem K_of {A9 : Array Value} {s : State} (hB : ∀ w ∈ BIG, w.before A9 s = true) (hT : ∀ w ∈ tables_1, w.before A9 s = true) : ∃ (D : va_G) (cA : Nat → ClassId), va_K D vcl (vty cA) s := by
  obtain ⟨c0, i0, k0⟩ := u_known (C := RX0) (T := TX0) (N := 5) (n := 5) hB big_X0 (hT _ (List.mem_of_getElem? (i := 41) (by decide +kernel)))
  obtain ⟨c1, i1, k1⟩ := u_known (C := RX1) (T := TX1) (N := 9) (n := 9) hB big_X1 (hT _ (List.mem_of_getElem? (i := 48) (by decide +kernel)))
  obtain ⟨c2, i2, k2⟩ := u_known (C := RX2) (T := TX2) (N := 7) (n := 7) hB big_X2 (hT _ (List.mem_of_getElem? (i := 120) (by decide +kernel)))
  obtain ⟨c3, i3, k3⟩ := u_known (C := RX3) (T := TX3) (N := 13) (n := 13) hB big_X3 (hT _ (List.mem_of_getElem? (i := 33) (by decide +kernel)))
  obtain ⟨c4, i4, k4⟩ := u_known (C := RJ0) (T := TJ0) (N := 4) (n := 4) hB big_J0 (hT _ (List.mem_of_getElem? (i := 388) (by decide +kernel)))
  obtain ⟨c5, i5, k5⟩ := u_known (C := RJ4) (T := TJ4) (N := 4) (n := 4) hB big_J4 (hT _ (List.mem_of_getElem? (i := 156) (by decide +kernel)))
  obtain ⟨a0, p0, q0⟩ := arr_prim (ty := .int) (s := s) (A := A9) (hT _ (List.mem_of_getElem? (i := 92) (by decide +kernel))) (fun _ h => h)
  obtain ⟨a1, p1, q1⟩ := arr_prim (ty := .float) (s := s) (A := A9) (hT _ (List.mem_of_getElem? (i := 94) (by decide +kernel))) (fun _ h => h)
  obtain ⟨a2, p2, q2⟩ := arr_prim (ty := .boolean) (s := s) (A := A9) (hT _ (List.mem_of_getElem? (i := 93) (by decide +kernel))) (fun _ h => h)
  obtain ⟨a3, p3, q3⟩ := arr_prim (ty := .char) (s := s) (A := A9) (hT _ (List.mem_of_getElem? (i := 154) (by decide +kernel))) (fun _ h => h)
  obtain ⟨a4, p4, q4⟩ := arr_obj (s := s) (C := "GateGuards$Guard") (va_AO.of (A := A9) (hT _ (List.mem_of_getElem? (i := 47) (by decide +kernel))))
  obtain ⟨a5, p5, q5⟩ := arr_obj (s := s) (C := "GateGuards$Gate") (va_AO.of (A := A9) (hT _ (List.mem_of_getElem? (i := 116) (by decide +kernel))))
  obtain ⟨a6, p6, q6⟩ := arr_prim (ty := .long) (s := s) (A := A9) (hT _ (List.mem_of_getElem? (i := 1218) (by decide +kernel))) (fun _ h => h)
  obtain ⟨a7, p7, q7⟩ := arr_prim (ty := .long) (s := s) (A := A9) (hT _ (List.mem_of_getElem? (i := 1218) (by decide +kernel))) (fun _ h => h)
  obtain ⟨a8, p8, q8⟩ := arr_prim (ty := .byte) (s := s) (A := A9) (hT _ (List.mem_of_getElem? (i := 187) (by decide +kernel))) (fun _ h => h)
  refine ⟨(fun k => match k with | 0 => c0 | 1 => c1 | 2 => c2 | 3 => c3 | 4 => c4 | 5 => c5 | _ => c0, fun k => match k with | 0 => i0 | 1 => i1 | 2 => i2 | 3 => i3 | 4 => i4 | 5 => i5 | _ => i0), fun k => match k with | 0 => a0 | 1 => a1 | 2 => a2 | 3 => a3 | 4 => a4 | 5 => a5 | 6 => a6 | 7 => a7 | 8 => a8 | _ => a0, ?_, ?_⟩
  · intro k q hq
    match k, hq with
    | 0, hq => cases hq; exact k0
    | 1, hq => cases hq; exact k1
    | 2, hq => cases hq; exact k2
    | 3, hq => cases hq; exact k3
    | 4, hq => cases hq; exact k4
    | 5, hq => cases hq; exact k5
    | k + 6, hq => simp [vcl] at hq
  · intro k q hq
    match k, hq with
    | 0, hq => cases hq; exact ⟨p0, q0⟩
    | 1, hq => cases hq; exact ⟨p1, q1⟩
    | 2, hq => cases hq; exact ⟨p2, q2⟩
    | 3, hq => cases hq; exact ⟨p3, q3⟩
    | 4, hq => cases hq; exact ⟨p4, q4⟩
    | 5, hq => cases hq; exact ⟨p5, q5⟩
    | 6, hq => cases hq; exact ⟨p6, q6⟩
    | 7, hq => cases hq; exact ⟨p7, q7⟩
    | 8, hq => cases hq; exact ⟨p8, q8⟩
    | k + 9, hq => simp [vty] at hq
