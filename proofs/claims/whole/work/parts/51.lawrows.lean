/-! THE LAW'S LOOP: rows -/
def sx (xs : Nat → Int32) (j : Nat) : Int := (xs j).toInt
theorem sx_rng (xs : Nat → Int32) (j : Nat) : -2147483648 ≤ sx xs j ∧ sx xs j ≤ 2147483647 := ⟨Int32.le_toInt _, by have := Int32.toInt_lt (xs j); unfold sx; omega⟩
def SCR (G : GG) (E : EE) (b L : Nat) (xs : Nat → Int32) : Prop := va_X b L xs (e_s E) (e_s E).heap ∧ b < (e_s E).heap.size ∧ ¬ g_A G b ∧ L ≤ 2048
section LAW2
variable {G : GG} {E : EE} {own : String} {b : ByteArray} {k n pc : Nat} {L : List (Nat × Value)} {st : List Value} {m : Mm}
theorem gs_scr (ok : OK0 G E own b) (hS : SBW G) {sb sl : Nat} {xs : Nat → Int32} (hSc : SCR G E sb sl xs) {i : Int} (hi : 0 ≤ i ∧ i < sl) (d : decode b pc = .ok (.iaload, 1)) (kk : WA G E k n (pc + 1) L (vI (sx xs i.toNat) :: st) m) : WA G E k n pc L (vI i :: .ref (RAW + sb) :: st) m := by
  intro H locs ls hW hS2 hl
  obtain ⟨h1, h2, h3, h4⟩ := hSc
  have e9 : (vI i :: Value.ref (RAW + sb) :: st).map (cv (g_ad G)) = vI i :: .ref sb :: st.map (cv (g_ad G)) := by
    show vI i :: Value.ref (g_ad G (RAW + sb)) :: _ = _
    rw [hS.1]
  rw [e9]
  refine va_sld ok.x ok.b h1 h2 h3 hS2 (oi_in hi (by omega)) d ?_
  rw [oi_cl hi (by omega)]
  have h := kk H locs ls hW hS2 hl
  have e8 : vI (sx xs i.toNat) = .int (xs i.toNat) := by show Value.int (Int32.ofInt (xs i.toNat).toInt) = _; rw [Int32.ofInt_toInt]
  rw [e8] at h
  exact h
theorem gs_slen (ok : OK0 G E own b) (hS : SBW G) {sb sl : Nat} {xs : Nat → Int32} (hSc : SCR G E sb sl xs) (d : decode b pc = .ok (.arraylength, 1)) (kk : WA G E k n (pc + 1) L (vI (sl : Int) :: st) m) : WA G E k n pc L (.ref (RAW + sb) :: st) m := by
  intro H locs ls hW hS2 hl
  obtain ⟨h1, h2, h3, h4⟩ := hSc
  have e9 : (Value.ref (RAW + sb) :: st).map (cv (g_ad G)) = .ref sb :: st.map (cv (g_ad G)) := by
    show Value.ref (g_ad G (RAW + sb)) :: _ = _
    rw [hS.1]
  rw [e9]
  refine va_slen ok.x ok.b h1 h2 h3 hS2 d ?_
  have h := kk H locs ls hW hS2 hl
  have e8 : vI (sl : Int) = .int (Int32.ofNat sl) := by
    show Value.int (Int32.ofInt (sl : Int)) = _
    rw [oi_n]; rfl
  rw [e8] at h
  exact h
end LAW2
theorem lcmp_0 {x : Int} : lg_cmp (Int64.ofInt x) (Int64.ofInt x) = Int32.ofInt 0 := by
  unfold lg_cmp
  rw [if_neg (by exact Int64.lt_irrefl), if_pos rfl]
  rfl
theorem n64_to {x : UInt64} (h : vf_n64 x) : FP.Core.val64 x ≠ .nan := by
  unfold vf_n64 at h
  rw [UInt64.le_iff_toNat_le, FP.Core.mask_toNat] at h
  exact (FP.Core.ne_nan x).mpr h
theorem dcmp_0 {x : UInt64} {op : CmpOp} (h : vf_n64 x) : Op.cmpValue (FP.dcmp x x) op = Int32.ofInt 0 := by
  rw [show FP.dcmp x x = some .eq from FP.Core.dcmp_self (n64_to h)]
  rfl
theorem u64_r {x : UInt64} : UInt64.ofNat (x.toNat : Int).toNat = x := by
  show UInt64.ofNat x.toNat = x
  exact UInt64.ofNat_toNat
/-- the class's state and the model's are the same -/
def LWS (T : Int) (m : Mm) (g : Gm) : Prop := XIs T m g ∧ YIs m g ∧ BLs m (g.ln, g.nn) ∧ LnOk (g.ln, g.nn)
theorem YIs.w {m m' : Mm} {g : Gm} (h : YIs m g) (hf : ∀ n, 1024 ≤ n → n ≠ 1600 → n ≠ 1664 → m'.1 n = m.1 n ∧ m'.2 n = m.2 n) : YIs m' g :=
  ⟨fun k hk => by rw [(hf 1088 (by omega) (by omega) (by omega)).1]; exact h.1 k hk, h.2.o (fun n hn => (hf n (by omega) (by omega) (by omega)).1)⟩
theorem BLs.w {m m' : Mm} {q : (Nat → Int) × Int} (h : BLs m q) (h0 : m'.1 960 = m.1 960) (h1 : m'.1 961 = m.1 961) : BLs m' q := by
  unfold BLs SBk at *
  rw [h0, h1]
  exact h
theorem LWS.mono {T T' : Int} {m : Mm} {g : Gm} (h : LWS T m g) (ht : T ≤ T') : LWS T' m g := ⟨h.1.mono ht, h.2⟩
theorem BLs.of {m : Mm} {q q' : (Nat → Int) × Int} (h : BLs m q) (h0 : m.1 960 0 = q'.2) (h1 : ∀ i : Nat, (i : Int) < q'.2 → m.1 961 i = q'.1 i) : BLs m q' := ⟨h.1, h.2.1, h0, h1⟩
theorem LWS.chg {T T' : Int} {m m1 m2 : Mm} {g g' : Gm} (h : LWS T m g) (hX1 : XIs T' m1 g') (hf1 : WFr m m1) (hY2 : YIs m2 g') (hf2 : YFr m1 m2) : LWS T' m2 g' := by
  obtain ⟨hX, hY, hB, hl⟩ := h
  have e0 : m1.1 960 = m.1 960 := (hf1 960 (by omega) (by omega) (by omega)).1
  have e1 : m1.1 961 = m.1 961 := (hf1 961 (by omega) (by omega) (by omega)).1
  obtain ⟨l1, l2, l3⟩ := hX1.2.2.2.2.2
  obtain ⟨k1, k2, k3⟩ := hX.2.2.2.2.2
  have hnn : g'.nn = g.nn := by rw [← l1, ← k1, e0]
  refine ⟨hX1.low (fun n hn => hf2 n (Or.inl hn)), hY2, ?_, ?_⟩
  · exact ((hB.w e0 e1).of (q' := (g'.ln, g'.nn)) l1 l3).w (hf2 960 (Or.inl (by omega))).1 (hf2 961 (Or.inl (by omega))).1
  · refine ⟨l2.1, fun i hi => ?_⟩
    have hi : (i : Int) < g'.nn := hi
    have e9 : g'.ln i = g.ln i := by rw [← l3 i hi, ← k3 i (by omega), e1]
    show 0 ≤ g'.ln i ∧ g'.ln i ≤ 127
    rw [e9]
    exact hl.2 i (by show (i : Int) < g.nn; omega)
theorem LWS.ask {T : Int} {m m1 : Mm} {g : Gm} {K : Int} (h : LWS T m g) (hf1 : WEq m m1) : LWS T (thM m1 K) g := by
  obtain ⟨hX, hY, hB, hl⟩ := h
  have hY1 : YIs m1 g := hY.w (fun n _ b c => hf1 n b c)
  refine ⟨hX.low (fun n hn => ⟨(show (upI m1 1024 6 K).1 n = m1.1 n from upI_r (by omega)).trans (hf1 n (by omega) (by omega)).1, (hf1 n (by omega) (by omega)).2⟩), ⟨hY1.1.t, hY1.2.u (by omega)⟩, ?_, hl⟩
  exact hB.w ((show (upI m1 1024 6 K).1 960 = m1.1 960 from upI_r (by omega)).trans (hf1 960 (by omega) (by omega)).1) ((show (upI m1 1024 6 K).1 961 = m1.1 961 from upI_r (by omega)).trans (hf1 961 (by omega) (by omega)).1)
theorem LWS.lin {T : Int} {m1 m2 : Mm} {g' : Gm} (hX1 : XIs T m1 g') (hB1 : BLs m1 (g'.ln, g'.nn)) (hY2 : YIs m2 g') (hf2 : YFr m1 m2) (hl : LnOk (g'.ln, g'.nn)) : LWS T m2 g' :=
  ⟨hX1.low (fun n hn => hf2 n (Or.inl hn)), hY2, hB1.w (hf2 960 (Or.inl (by omega))).1 (hf2 961 (Or.inl (by omega))).1, hl⟩
theorem sp_line_ok {g : Gm} {v : Int} (h : LnOk (g.ln, g.nn)) : LnOk ((sp_line g v).2.2.ln, (sp_line g v).2.2.nn) := by
  unfold sp_line
  split
  · exact h
  · exact vLn_ok _ _ 10 (by omega)
theorem sp_guardLine_ok {g : Gm} {v : Int} (h : LnOk (g.ln, g.nn)) : LnOk ((sp_guardLine g v).2.2.ln, (sp_guardLine g v).2.2.nn) := by
  unfold sp_guardLine
  split
  · exact h
  · exact gLn_ok _ 11
theorem XIs.rs9 {T : Int} {m : Mm} {g : Gm} (h : XIs T m g) : -2147483648 ≤ m.1 0 11 ∧ m.1 0 11 ≤ 2147483647 := by
  obtain ⟨⟨-, h2, -⟩, -, h3, -⟩ := h.2.2.2.1
  rw [h2]; omega
theorem out_th {m1 : Mm} {K : Int} {a : Nat} (ha : a ≠ 1024) : (thM m1 K).1 a 0 = m1.1 a 0 := by
  show (upI m1 1024 6 K).1 a 0 = _
  rw [upI_r (by omega)]
set_option maxHeartbeats 4000000 in
set_option maxRecDepth 100000 in
theorem c_X4_thrown {G : GG} {l : Launch} (hfl : l.stackTraces = false) (hG : MW G) {m : Mm} : CT G l yX4_thrown cX4_thrown 1 (some .int) (RM 0 0 0) [.ref 1024] m (fun r' m' => r' = some (vI (m.1 1024 6)) ∧ m' = m) (fun _ _ => False) := by
  refine CT.of RX4 [(0, .ref 1024)] hfl (by decide +kernel) rfl rfl (Nat.le_of_ble_eq_true rfl) ?_
  intro E ok en hml hEl htab
  have hR : e_R E = RM 0 0 0 := en.2.2.2
  have hn0 : 0 < (e_c E).maxLocals := by rw [hml]; decide
  refine ga_aload_n ok 0 rfl rfl dX4_thrown_0 ?_
  refine gf_X4_39 ok hG rfl dX4_thrown_1 ?_
  exact ga_ireturn ok en rfl rfl (by decide) (by decide) dX4_thrown_4 ⟨rfl, rfl⟩
