/-! ORDERS -/
def exO (g : Gm) (c a b : Int) : Int × Gm :=
  if c = 103 then (if ¬ (1 ≤ a ∧ a ≤ 64) then (-2, g) else if g.r 0 = 4 then (-1, rfG g 1 4) else (0, nwG g (adG g.r a)))
  else if c = 120 then (if ¬ (0 ≤ a ∧ a < g.r 1) then (-2, g) else (0, nwG g (rmV g.r a.toNat)))
  else if c = 116 then (if ¬ ((0 ≤ a ∧ a < g.r 0) ∧ (0 ≤ b ∧ b < g.r 1)) then (-2, g) else if tOK (rg g.r a.toNat) (vX g.r b.toNat) (vF g.r b.toNat) = true then (0, nwG g (stG g.r a.toNat (tS (rg g.r a.toNat) (vX g.r b.toNat) (vF g.r b.toNat)))) else (-1, rfG g 5 a))
  else if c = 100 then (if ¬ (0 ≤ a ∧ a < g.r 0) then (-2, g) else if g.r 1 = 0 then (-1, rfG g 3 (g.r 0)) else match rnD g.r a.toNat 1 with | some (_, S) => (0, nwG g (stG g.r a.toNat S)) | none => (-1, rfG g 5 a))
  else (if 0 ≤ fnd g.r a (g.r 1).toNat then (-1, rfG g 2 (fnd g.r a (g.r 1).toNat)) else if g.r 1 = 12 then (-1, rfG g 1 12) else (0, nwG g (adV g.r a (b2i (decide (c = 43))))))
def exA (t : Nat → Int) (n : Int) : Nat → Nat → Gm → Int × Gm
  | 0, _, g => (0, g)
  | f + 1, k, g => if (exO g (sgn t n (pS t n k)) (rOrd t n (pS t n k)).1 (rOrd t n (pS t n k)).2.1).1 = 0 then exA t n f (k + 1) (exO g (sgn t n (pS t n k)) (rOrd t n (pS t n k)).1 (rOrd t n (pS t n k)).2.1).2 else exO g (sgn t n (pS t n k)) (rOrd t n (pS t n k)).1 (rOrd t n (pS t n k)).2.1
def rnG (g : Gm) (e : Int) : Gm := mkG g.r g.sv g.hs g.pa g.kt g.rs g.dt e g.tx 0 g.ln g.nn
def sp_run (g : Gm) : Int × Int × Gm :=
  if (pRes g.tx g.tn 60 0).1 = false then (1, 0, rnG g (pRes g.tx g.tn 60 0).2.1)
  else if (exA g.tx g.tn (pRes g.tx g.tn 60 0).2.2 0 (rnG g (-1))).1 = 0 then (0, (pRes g.tx g.tn 60 0).2.2, kpG (exA g.tx g.tn (pRes g.tx g.tn 60 0).2.2 0 (rnG g (-1))).2 g.r)
  else (if (exA g.tx g.tn (pRes g.tx g.tn 60 0).2.2 0 (rnG g (-1))).1 = -2 then 1 else 2, 0, nwG (exA g.tx g.tn (pRes g.tx g.tn 60 0).2.2 0 (rnG g (-1))).2 g.r)
theorem exO_out {g : Gm} {c a b : Int} : (exO g c a b).1 = 0 ∨ (exO g c a b).1 = -1 ∨ (exO g c a b).1 = -2 := by
  unfold exO
  split
  · split
    · exact Or.inr (Or.inr rfl)
    · split
      · exact Or.inr (Or.inl rfl)
      · exact Or.inl rfl
  · split
    · split
      · exact Or.inr (Or.inr rfl)
      · exact Or.inl rfl
    · split
      · split
        · exact Or.inr (Or.inr rfl)
        · split
          · exact Or.inl rfl
          · exact Or.inr (Or.inl rfl)
      · split
        · split
          · exact Or.inr (Or.inr rfl)
          · split
            · exact Or.inr (Or.inl rfl)
            · split
              · exact Or.inl rfl
              · exact Or.inr (Or.inl rfl)
        · split
          · exact Or.inr (Or.inl rfl)
          · split
            · exact Or.inr (Or.inl rfl)
            · exact Or.inl rfl
/-- an order leaves the text, what has been read and the gate before the run as they were -/
def OFr (m m' : Mm) : Prop := (∀ x, (x = 640 ∨ x = 704 ∨ x = 768 ∨ x = 832 ∨ x = 896 ∨ 960 ≤ x) → m'.1 x = m.1 x ∧ m'.2 x = m.2 x) ∧ ∀ R : Nat → Int, R 0 ≤ 4 → gtIs m 65 R → gtIs m' 65 R
theorem OFr.rf {m : Mm} : OFr m m := ⟨fun _ _ => ⟨rfl, rfl⟩, fun _ _ h => h⟩
theorem OFr.tr {m m1 m2 : Mm} (h1 : OFr m m1) (h2 : OFr m1 m2) : OFr m m2 := ⟨fun x h => ⟨(h2.1 x h).1.trans (h1.1 x h).1, (h2.1 x h).2.trans (h1.1 x h).2⟩, fun R h0 h => h2.2 R h0 (h1.2 R h0 h)⟩
theorem gtFr.o {m m' : Mm} (h : gtFr m m' 64) : OFr m m' := ⟨fun x hx => h x (by omega) (by omega) (by omega) (by omega) (by omega) (by omega) (by omega), fun R h0 hR => hR.fr h (by omega) (by omega) (by omega) h0⟩
theorem gFr.o {m m' : Mm} (h : gFr m m' 364) : OFr m m' := ⟨fun x hx => h x (by omega) (by omega) (by omega) (by omega), fun R h0 hR => by
  obtain ⟨e1, e4, hv, hg⟩ := hR
  have k : ∀ n, n = 65 ∨ n = 65 + 128 ∨ n = 65 + 192 → m'.1 n = m.1 n := fun n hn => (h n (by omega) (by omega) (by omega) (by omega)).1
  refine ⟨by rw [k 65 (by omega)]; exact e1, by rw [k 65 (by omega)]; exact e4, fun v hv9 => by rw [k (65 + 128) (by omega), k (65 + 192) (by omega)]; exact hv v hv9, fun j hj => ?_⟩
  exact (hg j hj).fr h (by omega) (by omega) (by omega)⟩
theorem OFr.re {m m' : Mm} {a b : Int} (h : OFr m m') : OFr m (rfM m' a b) := by
  refine ⟨fun x hx => ⟨by unfold rfM; rw [upI_r (by omega), upI_r (by omega)]; exact (h.1 x hx).1, (h.1 x hx).2⟩, fun R h0 hR => ((h.2 R h0 hR).z (by omega) h0 (Or.inl rfl)).z (by omega) h0 (Or.inl rfl)⟩
theorem XIs.rn {T : Int} {m M : Mm} {g : Gm} {k p : Nat} (h : XIs T m g) (hR : RD g.tx g.tn m M k p) {e : Int} (he : -1 ≤ e ∧ e ≤ 60) : XIs T (upI (upI M 0 10 e) 640 1 0) (rnG g e) := by
  obtain ⟨⟨a1, a2⟩, ⟨b1, b2, b3⟩, ⟨c1, c2, c3, c4⟩, ⟨⟨d1, d3, d4⟩, d2, d5⟩, ⟨t1, t2, t3⟩, ⟨l1, l2, l3⟩⟩ := h
  obtain ⟨r1, r2, -, -, -⟩ := hR
  have f : ∀ x, x ≠ 640 → x ≠ 768 → x ≠ 832 → x ≠ 896 → x ≠ 0 → (upI (upI M 0 10 e) 640 1 0).1 x = m.1 x ∧ (upI (upI M 0 10 e) 640 1 0).2 x = m.2 x := fun x q1 q2 q3 q4 q5 => ⟨by rw [upI_r q1, upI_r q5]; exact (r1 x q1 q2 q3 q4).1, (r1 x q1 q2 q3 q4).2⟩
  have z : ∀ (q : Nat) (r : Nat → Int), 64 ≤ q ∧ q < 75 → r 0 ≤ 4 → gtIs m q r → gtIs (upI (upI M 0 10 e) 640 1 0) q r := fun q r hq h0 h => by
    obtain ⟨x1, x4, xv, xg⟩ := h
    exact ⟨by rw [(f q (by omega) (by omega) (by omega) (by omega) (by omega)).1]; exact x1, by rw [(f q (by omega) (by omega) (by omega) (by omega) (by omega)).1]; exact x4, fun v hv9 => by rw [(f (q + 128) (by omega) (by omega) (by omega) (by omega) (by omega)).1, (f (q + 192) (by omega) (by omega) (by omega) (by omega) (by omega)).1]; exact xv v hv9, fun j hj => (xg j hj).kept (f _ (by omega) (by omega) (by omega) (by omega) (by omega)).1 (f _ (by omega) (by omega) (by omega) (by omega) (by omega)).1 (f _ (by omega) (by omega) (by omega) (by omega) (by omega)).2 (f _ (by omega) (by omega) (by omega) (by omega) (by omega)).2⟩
  have k0 : ∀ j, j ≠ 10 → (upI (upI M 0 10 e) 640 1 0).1 0 j = m.1 0 j := fun j hj => by rw [upI_r (by omega), upI_no (by omega), (r1 0 (by omega) (by omega) (by omega) (by omega)).1]
  refine ⟨⟨z 64 _ (by omega) a2.1.2 a1, a2⟩, ⟨by rw [k0 3 (by omega)]; exact b1, b2, fun h => ⟨z 66 _ (by omega) (b3 h).2.1.2 (b3 h).1, (b3 h).2⟩⟩, ⟨by rw [k0 6 (by omega)]; exact c1, c2, by rw [k0 5 (by omega)]; exact c3, fun i hi => ?_⟩, ⟨⟨by rw [upI_r (by omega), upI_at]; rfl, by rw [k0 11 (by omega)]; exact d3, by rw [k0 12 (by omega)]; exact d4⟩, he, d5⟩, ⟨by rw [upI_at]; rfl, by show (0 : Int) ≤ 0 ∧ (0 : Int) ≤ 60; omega, fun i hi => by have hi : (i : Int) < 0 := hi; omega⟩, ⟨by rw [(f 960 (by omega) (by omega) (by omega) (by omega) (by omega)).1]; exact l1, l2, by rw [(f 961 (by omega) (by omega) (by omega) (by omega) (by omega)).1]; exact l3⟩⟩
  rw [k0 5 (by omega)]
  exact ⟨z _ _ (by omega) (c4 i hi).2.1.2 (c4 i hi).1, (c4 i hi).2⟩
theorem pRes_pos {t : Nat → Int} {n : Int} : ∀ f k : Nat, (pS t n k : Int) ≤ n → ((pRes t n f k).2.1 : Int) ≤ n
  | 0, k, h => h
  | f + 1, k, h => by
    have h1 := (rOrd_pos (t := t) h).1
    simp only [pRes]
    split
    · split
      · exact h1
      · split
        · rename_i e
          have := sgn_lt (t := t) (n := n) (p := (rOrd t n (pS t n k)).2.2) (by omega)
          exact pRes_pos f (k + 1) (by show (((rOrd t n (pS t n k)).2.2 + 1 : Nat) : Int) ≤ n; omega)
        · exact h1
    · exact h1
set_option maxHeartbeats 4000000 in
set_option maxRecDepth 100000 in
theorem c_X3_orderGuard {G : GG} {l : Launch} (hfl : l.stackTraces = false) (hG : MW G) {m : Mm} {g : Gm} {T : Int} (hX : XIs T m g) (hT0 : 0 ≤ T ∧ T ≤ 1000000000) {a : Int} (haR : -2147483648 ≤ a ∧ a ≤ 2147483647) : CT G l yX3_orderGuard cX3_orderGuard 2 (some .int) (RM 7 0 0) [.ref 0, vI a] m (fun r' m' => r' = some (vI (exO g 103 a 0).1) ∧ XIs (T + 13) m' (exO g 103 a 0).2 ∧ OFr m m') (fun _ _ => False) := by
  refine CT.of RX3 [(0, .ref 0), (1, vI a)] hfl (by decide +kernel) rfl rfl (Nat.le_of_ble_eq_true rfl) ?_
  intro E ok en hml hEl htab
  have hR : e_R E = RM 7 0 0 := en.2.2.2
  have hn0 : 0 < (e_c E).maxLocals := by rw [hml]; decide
  have hn1 : 1 < (e_c E).maxLocals := by rw [hml]; decide
  have hI := hX.1.1
  have hT := hX.1.2
  obtain ⟨e1, e4, hv, hgs⟩ := id hI
  obtain ⟨b0, b1, hvb, hgb⟩ := id hT
  refine ga_iload_n ok 1 rfl rfl dX3_orderGuard_0 ?_
  refine gd_S_1 ok lk_X3_363 (c_X3_isRate ok.fl hG haR) (by rw [hR]; exact ⟨by decide, by decide, by decide, by decide⟩) (Nat.le_of_ble_eq_true rfl) dX3_orderGuard_1 ?_
  refine ga_if_ne ok 10 (by decide) (b2i_rng _) dX3_orderGuard_4 (fun c_4 => ?_) (fun c_4 => ?_)
  · have f_4 := of_decide_eq_true (b2i_n0.mp c_4)
    refine ga_aload_n ok 0 rfl rfl dX3_orderGuard_10 ?_
    refine gc_X3_0 ok hG rfl lk_X3_71 rfl (c_X3_refusesGuard ok.fl hG hI hT) (by rw [hR]; exact ⟨by decide, by decide, by decide, by decide⟩) (Nat.le_of_ble_eq_true rfl) dX3_orderGuard_11 (fun r9 m9 hq => ?_) (fun _ _ h => h.elim)
    obtain ⟨y9, hy, hy2⟩ : ∃ y9 : Int, r9 = some (vI y9) ∧ ((y9 = 0 ∧ g.r 0 < 4 ∧ m9 = m) ∨ (y9 = 1 ∧ g.r 0 = 4 ∧ m9 = rfM m 1 4)) := by
      rcases hq with ⟨p1, p2, p3⟩ | ⟨p1, p2, p3⟩
      · exact ⟨0, p2, Or.inl ⟨rfl, p1, p3⟩⟩
      · exact ⟨1, p2, Or.inr ⟨rfl, p1, p3⟩⟩
    subst hy
    simp only [Option.toList_some, List.singleton_append]
    refine ga_if_eq ok 19 (by decide) (by omega) dX3_orderGuard_14 (fun c_14 => ?_) (fun c_14 => ?_)
    · obtain ⟨hlt, hm9⟩ : g.r 0 < 4 ∧ m9 = m := by rcases hy2 with h | h; exact ⟨h.2.1, h.2.2⟩; exact absurd h.1 (by omega)
      subst m9
      refine ga_aload_n ok 0 rfl rfl dX3_orderGuard_19 ?_
      refine gf_X3_12 ok hG rfl dX3_orderGuard_20 ?_
      refine ga_iload_n ok 1 rfl rfl dX3_orderGuard_23 ?_
      refine gc_X0_1 ok hG (by omega) lk_X3_86 rfl (c_X0_addGuard ok.fl hG (by omega) hI hT (x := a) (by omega)) (by rw [hR]; exact ⟨by decide, by decide, by decide, by decide⟩) (Nat.le_of_ble_eq_true rfl) dX3_orderGuard_24 (fun r9 m2 hq => ?_) (fun _ _ h => h.elim)
      obtain ⟨hr9, q1, q2⟩ := hq
      subst hr9
      simp only [Option.toList_some, List.singleton_append]
      refine ga_pop ok dX3_orderGuard_27 rfl ?_
      refine ga_iconst ok dX3_orderGuard_28 ?_
      exact ga_ireturn ok en rfl rfl (by decide) (by decide) dX3_orderGuard_29 (by
  have hs : (exO g 103 a 0) = (0, nwG g (adG g.r a)) := by unfold exO; rw [if_pos rfl, if_neg (by omega), if_neg (by omega)]
  rw [hs]
  exact ⟨rfl, hX.now q1 q2 ((gtOk_adG hT hT0.1 (by omega) (by omega)).mono (by omega)) (by omega), q1.o⟩)
    · obtain ⟨hlt, hm9⟩ : g.r 0 = 4 ∧ m9 = rfM m 1 4 := by rcases hy2 with h | h; exact absurd h.1 (by omega); exact ⟨h.2.1, h.2.2⟩
      subst m9
      refine ga_iconst ok dX3_orderGuard_17 ?_
      exact ga_ireturn ok en rfl rfl (by decide) (by decide) dX3_orderGuard_18 (by
  have hs : (exO g 103 a 0) = (-1, rfG g 1 4) := by unfold exO; rw [if_pos rfl, if_neg (by omega), if_pos (by omega)]
  rw [hs]
  exact ⟨rfl, (hX.rf (by omega) (by omega)).mono (by omega), OFr.rf.re⟩)
  · have f_4 := of_decide_eq_false (b2i_0.mp c_4)
    refine ga_bipush ok dX3_orderGuard_7 (by decide) ?_
    exact ga_ireturn ok en rfl rfl (by decide) (by decide) dX3_orderGuard_9 (by
  have hs : (exO g 103 a 0) = (-2, g) := by unfold exO; rw [if_pos rfl, if_pos (by omega)]
  rw [hs]
  exact ⟨rfl, hX.mono (by omega), OFr.rf⟩)
set_option maxHeartbeats 4000000 in
set_option maxRecDepth 100000 in
theorem c_X3_orderVisitor {G : GG} {l : Launch} (hfl : l.stackTraces = false) (hG : MW G) {m : Mm} {g : Gm} {T : Int} (hX : XIs T m g) (hT0 : 0 ≤ T ∧ T ≤ 1000000000) {a : Int} (haR : -2147483648 ≤ a ∧ a ≤ 2147483647) {f : Int} (hf01 : f = 0 ∨ f = 1) (ha1 : 1 ≤ a ∧ a ≤ 1023) : CT G l yX3_orderVisitor cX3_orderVisitor 3 (some .int) (RM 7 0 0) [.ref 0, vI a, vI f] m (fun r' m' => r' = some (vI (exO g (if f = 1 then 43 else 45) a 0).1) ∧ XIs (T + 13) m' (exO g (if f = 1 then 43 else 45) a 0).2 ∧ OFr m m') (fun _ _ => False) := by
  refine CT.of RX3 [(0, .ref 0), (1, vI a), (2, vI f)] hfl (by decide +kernel) rfl rfl (Nat.le_of_ble_eq_true rfl) ?_
  intro E ok en hml hEl htab
  have hR : e_R E = RM 7 0 0 := en.2.2.2
  have hn0 : 0 < (e_c E).maxLocals := by rw [hml]; decide
  have hn1 : 1 < (e_c E).maxLocals := by rw [hml]; decide
  have hn2 : 2 < (e_c E).maxLocals := by rw [hml]; decide
  have hI := hX.1.1
  have hT := hX.1.2
  obtain ⟨e1, e4, hv, hgs⟩ := id hI
  obtain ⟨b0, b1, hvb, hgb⟩ := id hT
  have hcf : (if f = 1 then 43 else 45) = 43 ∨ (if f = 1 then 43 else 45) = 45 := by split; exact Or.inl rfl; exact Or.inr rfl
  refine ga_aload_n ok 0 rfl rfl dX3_orderVisitor_0 ?_
  refine ga_iload_n ok 1 rfl rfl dX3_orderVisitor_1 ?_
  refine gc_X3_1 ok hG rfl lk_X3_119 rfl (c_X3_refusesVisitor ok.fl hG hI hT (x := a) (by omega)) (by rw [hR]; exact ⟨by decide, by decide, by decide, by decide⟩) (Nat.le_of_ble_eq_true rfl) dX3_orderVisitor_2 (fun r9 m9 hq => ?_) (fun _ _ h => h.elim)
  obtain ⟨y9, hy, hy2⟩ : ∃ y9 : Int, r9 = some (vI y9) ∧ ((y9 = 0 ∧ fnd g.r a (g.r 1).toNat < 0 ∧ g.r 1 < 12 ∧ m9 = m) ∨ (y9 = 1 ∧ ∃ u v : Int, exO g (if f = 1 then 43 else 45) a 0 = (-1, rfG g u v) ∧ (0 ≤ u ∧ u ≤ 5) ∧ (0 ≤ v ∧ v ≤ 256) ∧ m9 = rfM m u v)) := by
    have hfb := fnd_bd (r := g.r) (x := a) (g.r 1).toNat
    rcases hq with ⟨p1, p2, p3, p4⟩ | ⟨p1, p3, p4⟩ | ⟨p1, p2, p3, p4⟩
    · exact ⟨0, p3, Or.inl ⟨rfl, p1, p2, p4⟩⟩
    · exact ⟨1, p3, Or.inr ⟨rfl, 2, _, by unfold exO; rw [if_neg (by omega), if_neg (by omega), if_neg (by omega), if_neg (by omega), if_pos (by omega)], by omega, by omega, p4⟩⟩
    · exact ⟨1, p3, Or.inr ⟨rfl, 1, 12, by unfold exO; rw [if_neg (by omega), if_neg (by omega), if_neg (by omega), if_neg (by omega), if_neg (by omega), if_pos (by omega)], by omega, by omega, p4⟩⟩
  subst hy
  simp only [Option.toList_some, List.singleton_append]
  refine ga_if_eq ok 10 (by decide) (by omega) dX3_orderVisitor_5 (fun c_5 => ?_) (fun c_5 => ?_)
  · obtain ⟨hf9, hlt, hm9⟩ : fnd g.r a (g.r 1).toNat < 0 ∧ g.r 1 < 12 ∧ m9 = m := by rcases hy2 with h | h; exact ⟨h.2.1, h.2.2.1, h.2.2.2⟩; exact absurd h.1 (by omega)
    subst m9
    refine ga_aload_n ok 0 rfl rfl dX3_orderVisitor_10 ?_
    refine gf_X3_12 ok hG rfl dX3_orderVisitor_11 ?_
    refine ga_iload_n ok 1 rfl rfl dX3_orderVisitor_14 ?_
    refine ga_iload_n ok 2 rfl rfl dX3_orderVisitor_15 ?_
    refine gc_X0_2 ok hG (by omega) lk_X3_125 rfl (c_X0_addVisitor ok.fl hG (by omega) hI hT (x := a) hf01 (by omega)) (by rw [hR]; exact ⟨by decide, by decide, by decide, by decide⟩) (Nat.le_of_ble_eq_true rfl) dX3_orderVisitor_16 (fun r9 m2 hq => ?_) (fun _ _ h => h.elim)
    obtain ⟨hr9, q1, q2⟩ := hq
    subst hr9
    simp only [Option.toList_some, List.singleton_append]
    refine ga_pop ok dX3_orderVisitor_19 rfl ?_
    refine ga_iconst ok dX3_orderVisitor_20 ?_
    exact ga_ireturn ok en rfl rfl (by decide) (by decide) dX3_orderVisitor_21 (by
  have hs : (exO g (if f = 1 then 43 else 45) a 0) = (0, nwG g (adV g.r a f)) := by
    unfold exO
    rw [if_neg (by omega), if_neg (by omega), if_neg (by omega), if_neg (by omega), if_neg (by omega), if_neg (by omega)]
    congr 3
    rcases hf01 with rfl | rfl <;> rfl
  rw [hs]
  exact ⟨rfl, hX.now q1 q2 ((gtOk_adV hT (by omega) hf01 (by omega)).mono (by omega)) (by omega), q1.o⟩)
  · obtain ⟨u, v, hsp, ha9, hb9, hm9⟩ : ∃ u v : Int, exO g (if f = 1 then 43 else 45) a 0 = (-1, rfG g u v) ∧ (0 ≤ u ∧ u ≤ 5) ∧ (0 ≤ v ∧ v ≤ 256) ∧ m9 = rfM m u v := by rcases hy2 with h | h; exact absurd h.1 (by omega); exact h.2
    subst m9
    refine ga_iconst ok dX3_orderVisitor_8 ?_
    exact ga_ireturn ok en rfl rfl (by decide) (by decide) dX3_orderVisitor_9 (by
  rw [hsp]
  exact ⟨rfl, (hX.rf ha9 hb9).mono (by omega), OFr.rf.re⟩)
set_option maxHeartbeats 4000000 in
set_option maxRecDepth 100000 in
theorem c_X3_orderForgetting {G : GG} {l : Launch} (hfl : l.stackTraces = false) (hG : MW G) {m : Mm} {g : Gm} {T : Int} (hX : XIs T m g) (hT0 : 0 ≤ T ∧ T ≤ 1000000000) {a : Int} (haR : -2147483648 ≤ a ∧ a ≤ 2147483647) : CT G l yX3_orderForgetting cX3_orderForgetting 2 (some .int) (RM 7 0 0) [.ref 0, vI a] m (fun r' m' => r' = some (vI (exO g 120 a 0).1) ∧ XIs (T + 13) m' (exO g 120 a 0).2 ∧ OFr m m') (fun _ _ => False) := by
  refine CT.of RX3 [(0, .ref 0), (1, vI a)] hfl (by decide +kernel) rfl rfl (Nat.le_of_ble_eq_true rfl) ?_
  intro E ok en hml hEl htab
  have hR : e_R E = RM 7 0 0 := en.2.2.2
  have hn0 : 0 < (e_c E).maxLocals := by rw [hml]; decide
  have hn1 : 1 < (e_c E).maxLocals := by rw [hml]; decide
  have hI := hX.1.1
  have hT := hX.1.2
  obtain ⟨e1, e4, hv, hgs⟩ := id hI
  obtain ⟨b0, b1, hvb, hgb⟩ := id hT
  refine ga_aload_n ok 0 rfl rfl dX3_orderForgetting_0 ?_
  refine gf_X3_12 ok hG rfl dX3_orderForgetting_1 ?_
  refine ga_iload_n ok 1 rfl rfl dX3_orderForgetting_4 ?_
  refine gd_X0_1 ok hG (by omega) lk_X3_358 rfl (c_X0_hasVisitor ok.fl hG (by omega) haR (by rw [e4]; omega)) (by rw [hR]; exact ⟨by decide, by decide, by decide, by decide⟩) (Nat.le_of_ble_eq_true rfl) dX3_orderForgetting_5 ?_
  rw [e4]
  refine ga_if_ne ok 14 (by decide) (b2i_rng _) dX3_orderForgetting_8 (fun c_8 => ?_) (fun c_8 => ?_)
  · have f_8 := of_decide_eq_true (b2i_n0.mp c_8)
    refine ga_aload_n ok 0 rfl rfl dX3_orderForgetting_14 ?_
    refine gf_X3_12 ok hG rfl dX3_orderForgetting_15 ?_
    refine ga_iload_n ok 1 rfl rfl dX3_orderForgetting_18 ?_
    refine gc_X0_1 ok hG (by omega) lk_X3_132 rfl (c_X0_removeVisitor ok.fl hG (by omega) hI hT (v := a) (by omega)) (by rw [hR]; exact ⟨by decide, by decide, by decide, by decide⟩) (Nat.le_of_ble_eq_true rfl) dX3_orderForgetting_19 (fun r9 m2 hq => ?_) (fun _ _ h => h.elim)
    obtain ⟨hr9, q1, q2⟩ := hq
    subst hr9
    simp only [Option.toList_some, List.singleton_append]
    refine ga_pop ok dX3_orderForgetting_22 rfl ?_
    refine ga_iconst ok dX3_orderForgetting_23 ?_
    exact ga_ireturn ok en rfl rfl (by decide) (by decide) dX3_orderForgetting_24 (by
  have hs : (exO g 120 a 0) = (0, nwG g (rmV g.r a.toNat)) := by unfold exO; rw [if_neg (by omega), if_pos rfl, if_neg (by omega)]
  rw [hs]
  exact ⟨rfl, hX.now q1 q2 ((gtOk_rmV hT (by omega)).mono (by omega)) (by omega), q1.o⟩)
  · have f_8 := of_decide_eq_false (b2i_0.mp c_8)
    refine ga_bipush ok dX3_orderForgetting_11 (by decide) ?_
    exact ga_ireturn ok en rfl rfl (by decide) (by decide) dX3_orderForgetting_13 (by
  have hs : (exO g 120 a 0) = (-2, g) := by unfold exO; rw [if_neg (by omega), if_pos rfl, if_pos (by omega)]
  rw [hs]
  exact ⟨rfl, hX.mono (by omega), OFr.rf⟩)
set_option maxHeartbeats 4000000 in
set_option maxRecDepth 100000 in
theorem c_X3_orderLesson {G : GG} {l : Launch} (hfl : l.stackTraces = false) (hG : MW G) {m : Mm} {g : Gm} {T : Int} (hX : XIs T m g) (hT0 : 0 ≤ T ∧ T ≤ 1000000000) {a : Int} (haR : -2147483648 ≤ a ∧ a ≤ 2147483647) {b : Int} (hbR : -2147483648 ≤ b ∧ b ≤ 2147483647) : CT G l yX3_orderLesson cX3_orderLesson 3 (some .int) (RM 7 0 0) [.ref 0, vI a, vI b] m (fun r' m' => r' = some (vI (exO g 116 a b).1) ∧ XIs (T + 13) m' (exO g 116 a b).2 ∧ OFr m m') (fun _ _ => False) := by
  refine CT.of RX3 [(0, .ref 0), (1, vI a), (2, vI b)] hfl (by decide +kernel) rfl rfl (Nat.le_of_ble_eq_true rfl) ?_
  intro E ok en hml hEl htab
  have hR : e_R E = RM 7 0 0 := en.2.2.2
  have hn0 : 0 < (e_c E).maxLocals := by rw [hml]; decide
  have hn1 : 1 < (e_c E).maxLocals := by rw [hml]; decide
  have hn2 : 2 < (e_c E).maxLocals := by rw [hml]; decide
  have hI := hX.1.1
  have hT := hX.1.2
  obtain ⟨e1, e4, hv, hgs⟩ := id hI
  obtain ⟨b0, b1, hvb, hgb⟩ := id hT
  refine ga_aload_n ok 0 rfl rfl dX3_orderLesson_0 ?_
  refine gf_X3_12 ok hG rfl dX3_orderLesson_1 ?_
  refine ga_iload_n ok 1 rfl rfl dX3_orderLesson_4 ?_
  refine gd_X0_1 ok hG (by omega) lk_X3_353 rfl (c_X0_hasGuard ok.fl hG (by omega) haR (by rw [e1]; omega)) (by rw [hR]; exact ⟨by decide, by decide, by decide, by decide⟩) (Nat.le_of_ble_eq_true rfl) dX3_orderLesson_5 ?_
  rw [e1]
  refine ga_if_eq ok 22 (by decide) (b2i_rng _) dX3_orderLesson_8 (fun c_8 => ?_) (fun c_8 => ?_)
  · have f_8 := of_decide_eq_false (b2i_0.mp c_8)
    refine ga_bipush ok dX3_orderLesson_22 (by decide) ?_
    exact ga_ireturn ok en rfl rfl (by decide) (by decide) dX3_orderLesson_24 (by
  have hs : (exO g 116 a b) = (-2, g) := by unfold exO; rw [if_neg (by omega), if_neg (by omega), if_pos rfl, if_pos (by omega)]
  rw [hs]
  exact ⟨rfl, hX.mono (by omega), OFr.rf⟩)
  · have f_8 := of_decide_eq_true (b2i_n0.mp c_8)
    refine ga_aload_n ok 0 rfl rfl dX3_orderLesson_11 ?_
    refine gf_X3_12 ok hG rfl dX3_orderLesson_12 ?_
    refine ga_iload_n ok 2 rfl rfl dX3_orderLesson_15 ?_
    refine gd_X0_1 ok hG (by omega) lk_X3_358 rfl (c_X0_hasVisitor ok.fl hG (by omega) hbR (by rw [e4]; omega)) (by rw [hR]; exact ⟨by decide, by decide, by decide, by decide⟩) (Nat.le_of_ble_eq_true rfl) dX3_orderLesson_16 ?_
    rw [e4]
    refine ga_if_ne ok 25 (by decide) (b2i_rng _) dX3_orderLesson_19 (fun c_19 => ?_) (fun c_19 => ?_)
    · have f_19 := of_decide_eq_true (b2i_n0.mp c_19)
      refine ga_aload_n ok 0 rfl rfl dX3_orderLesson_25 ?_
      refine ga_iload_n ok 1 rfl rfl dX3_orderLesson_26 ?_
      refine ga_iload_n ok 2 rfl rfl dX3_orderLesson_27 ?_
      refine gc_X3_2 ok hG rfl lk_X3_222 rfl (c_X3_tryLesson ok.fl hG hI hT (g := a) (v := b) (by omega) (by omega)) (by rw [hR]; exact ⟨by decide, by decide, by decide, by decide⟩) (Nat.le_of_ble_eq_true rfl) dX3_orderLesson_28 (fun r9 mt hq => ?_) (fun _ _ h => h.elim)
      have hb9 := b2i_01 (psS (rg g.r a.toNat) (vX g.r b.toNat) (vF g.r b.toNat))
      obtain ⟨x9, hx9, hc9⟩ : ∃ x9 : Int, r9 = some (vI x9) ∧ -1 ≤ x9 ∧ x9 ≤ 1 ∧ ((0 ≤ x9 ∧ tOK (rg g.r a.toNat) (vX g.r b.toNat) (vF g.r b.toNat) = true ∧ gFr m mt 364 ∧ gIs mt 364 (tS (rg g.r a.toNat) (vX g.r b.toNat) (vF g.r b.toNat))) ∨ (x9 = -1 ∧ tOK (rg g.r a.toNat) (vX g.r b.toNat) (vF g.r b.toNat) = false ∧ ∃ m1, gFr m m1 364 ∧ mt = rfM m1 5 a)) := by
        rcases hq with ⟨p1, p2, p3, p4⟩ | ⟨p1, p2, p3⟩
        · exact ⟨_, p2, by omega, by omega, Or.inl ⟨by omega, p1, p3, p4⟩⟩
        · exact ⟨_, p2, by omega, by omega, Or.inr ⟨rfl, p1, p3⟩⟩
      subst hx9
      simp only [Option.toList_some, List.singleton_append]
      refine ga_iconst ok dX3_orderLesson_31 ?_
      refine ga_icmp_ne ok 37 (by decide) (by omega) (by omega) dX3_orderLesson_32 (fun c_32 => ?_) (fun c_32 => ?_)
      · obtain ⟨ht1, ht2, hf9, ht4⟩ : 0 ≤ x9 ∧ tOK (rg g.r a.toNat) (vX g.r b.toNat) (vF g.r b.toNat) = true ∧ gFr m mt 364 ∧ gIs mt 364 (tS (rg g.r a.toNat) (vX g.r b.toNat) (vF g.r b.toNat)) := by rcases hc9.2.2 with h | h; exact h; exact absurd h.1 (by omega)
        have hX1 := hX.sfr hf9.s
        refine ga_aload_n ok 0 rfl rfl dX3_orderLesson_37 ?_
        refine gf_X3_12 ok hG rfl dX3_orderLesson_38 ?_
        refine gf_X3_93 ok hG (by omega) dX3_orderLesson_41 ?_
        refine ga_iload_n ok 1 rfl rfl dX3_orderLesson_44 ?_
        refine ga_aaload_qa ok (ar_ga hG (by omega)) (by omega) dX3_orderLesson_45 ?_
        refine ga_aload_n ok 0 rfl rfl dX3_orderLesson_46 ?_
        refine gf_X3_40 ok hG rfl dX3_orderLesson_47 ?_
        refine gc_X1_1 ok hG (by omega) lk_X3_228 rfl (c_X1_copyFrom ok.fl hG (by omega) (by omega) (by omega) ht4) (by rw [hR]; exact ⟨by decide, by decide, by decide, by decide⟩) (Nat.le_of_ble_eq_true rfl) dX3_orderLesson_50 (fun r9 m2 hq => ?_) (fun _ _ h => h.elim)
        obtain ⟨rfl, q1, q2⟩ := hq
        simp only [Option.toList_none, List.nil_append]
        refine ga_iconst ok dX3_orderLesson_53 ?_
        exact ga_ireturn ok en rfl rfl (by decide) (by decide) dX3_orderLesson_54 (by
  have hs : (exO g 116 a b) = (0, nwG g (stG g.r a.toNat (tS (rg g.r a.toNat) (vX g.r b.toNat) (vF g.r b.toNat)))) := by unfold exO; rw [if_neg (by omega), if_neg (by omega), if_pos rfl, if_neg (by omega), if_pos ht2]
  rw [hs]
  exact ⟨rfl, hX1.now (gtFr.of (a := 64) (by omega) (j := a.toNat) (by omega) q1) (gtIs.st hX1.1.1 (j := a.toNat) q1 (by omega) b0.2 b1.2 (by omega) q2) ((gtOk_stG (hT.mono (by omega)) (gOk_tS (hgb a.toNat (by omega)) ht2)).mono (by omega)) (by omega), hf9.o.tr (gtFr.o (gtFr.of (a := 64) (by omega) (j := a.toNat) (by omega) q1))⟩)
      · obtain ⟨ht2, mq, hf9, hm3⟩ : tOK (rg g.r a.toNat) (vX g.r b.toNat) (vF g.r b.toNat) = false ∧ ∃ m1, gFr m m1 364 ∧ mt = rfM m1 5 a := by rcases hc9.2.2 with h | h; exact absurd h.1 (by omega); exact h.2
        refine ga_iconst ok dX3_orderLesson_35 ?_
        exact ga_ireturn ok en rfl rfl (by decide) (by decide) dX3_orderLesson_36 (by
  have hs : (exO g 116 a b) = (-1, rfG g 5 a) := by unfold exO; rw [if_neg (by omega), if_neg (by omega), if_pos rfl, if_neg (by omega), if_neg (by rw [ht2]; exact Bool.false_ne_true)]
  rw [hs, hm3]
  exact ⟨rfl, ((hX.sfr hf9.s).rf (by omega) (by omega)).mono (by omega), hf9.o.re⟩)
    · have f_19 := of_decide_eq_false (b2i_0.mp c_19)
      refine ga_bipush ok dX3_orderLesson_22 (by decide) ?_
      exact ga_ireturn ok en rfl rfl (by decide) (by decide) dX3_orderLesson_24 (by
  have hs : (exO g 116 a b) = (-2, g) := by unfold exO; rw [if_neg (by omega), if_neg (by omega), if_pos rfl, if_pos (by omega)]
  rw [hs]
  exact ⟨rfl, hX.mono (by omega), OFr.rf⟩)
set_option maxHeartbeats 4000000 in
set_option maxRecDepth 100000 in
theorem c_X3_orderDay {G : GG} {l : Launch} (hfl : l.stackTraces = false) (hG : MW G) {m : Mm} {g : Gm} {T : Int} (hX : XIs T m g) (hT0 : 0 ≤ T ∧ T ≤ 1000000000) {a : Int} (haR : -2147483648 ≤ a ∧ a ≤ 2147483647) : CT G l yX3_orderDay cX3_orderDay 2 (some .int) (RM 7 0 0) [.ref 0, vI a] m (fun r' m' => r' = some (vI (exO g 100 a 0).1) ∧ XIs (T + 13) m' (exO g 100 a 0).2 ∧ OFr m m') (fun _ _ => False) := by
  refine CT.of RX3 [(0, .ref 0), (1, vI a)] hfl (by decide +kernel) rfl rfl (Nat.le_of_ble_eq_true rfl) ?_
  intro E ok en hml hEl htab
  have hR : e_R E = RM 7 0 0 := en.2.2.2
  have hn0 : 0 < (e_c E).maxLocals := by rw [hml]; decide
  have hn1 : 1 < (e_c E).maxLocals := by rw [hml]; decide
  have hI := hX.1.1
  have hT := hX.1.2
  obtain ⟨e1, e4, hv, hgs⟩ := id hI
  obtain ⟨b0, b1, hvb, hgb⟩ := id hT
  refine ga_aload_n ok 0 rfl rfl dX3_orderDay_0 ?_
  refine gf_X3_12 ok hG rfl dX3_orderDay_1 ?_
  refine ga_iload_n ok 1 rfl rfl dX3_orderDay_4 ?_
  refine gd_X0_1 ok hG (by omega) lk_X3_353 rfl (c_X0_hasGuard ok.fl hG (by omega) haR (by rw [e1]; omega)) (by rw [hR]; exact ⟨by decide, by decide, by decide, by decide⟩) (Nat.le_of_ble_eq_true rfl) dX3_orderDay_5 ?_
  rw [e1]
  refine ga_if_ne ok 14 (by decide) (b2i_rng _) dX3_orderDay_8 (fun c_8 => ?_) (fun c_8 => ?_)
  · have f_8 := of_decide_eq_true (b2i_n0.mp c_8)
    refine ga_aload_n ok 0 rfl rfl dX3_orderDay_14 ?_
    refine ga_iload_n ok 1 rfl rfl dX3_orderDay_15 ?_
    refine ga_iconst ok dX3_orderDay_16 ?_
    refine gc_X3_2 ok hG rfl lk_X3_232 rfl (c_X3_tryDays ok.fl hG hI hT (g := a) (most := 1) (by omega) (by omega)) (by rw [hR]; exact ⟨by decide, by decide, by decide, by decide⟩) (Nat.le_of_ble_eq_true rfl) dX3_orderDay_17 (fun r9 mt hq => ?_) (fun _ _ h => h.elim)
    obtain ⟨x9, hx9, hc9⟩ : ∃ x9 : Int, r9 = some (vI x9) ∧ -1 ≤ x9 ∧ x9 ≤ 1000 ∧ ((0 ≤ x9 ∧ g.r 1 ≠ 0 ∧ ∃ S, rnD g.r a.toNat 1 = some (x9, S) ∧ gOk (T + 13) S ∧ gFr m mt 364 ∧ gIs mt 364 S) ∨ (x9 = -1 ∧ ∃ u v : Int, ((u = 3 ∧ v = g.r 0 ∧ g.r 1 = 0) ∨ (u = 5 ∧ v = a ∧ g.r 1 ≠ 0 ∧ rnD g.r a.toNat 1 = none)) ∧ ∃ m1, SFr m m1 ∧ OFr m m1 ∧ mt = rfM m1 u v)) := by
      rcases hq with ⟨p1, p2, p3⟩ | ⟨p1, d, S, p2, p3, p4, p5⟩ | ⟨p1, p2, p3, mq, p4, p5⟩
      · exact ⟨_, p2, by omega, by omega, Or.inr ⟨rfl, 3, g.r 0, Or.inl ⟨rfl, rfl, p1⟩, m, SFr.rf, OFr.rf, p3⟩⟩
      · have hd := p2
        unfold rnD at hd
        have hb := gOk_dRun (by omega) _ _ _ _ (hgb a.toNat (by omega)) _ _ hd
        have e1n : (1 : Int).toNat = 1 := rfl
        exact ⟨_, p3, by omega, by omega, Or.inl ⟨by omega, p1, S, p2, hb.1.mono (by omega), p4, p5⟩⟩
      · exact ⟨_, p3, by omega, by omega, Or.inr ⟨rfl, 5, a, Or.inr ⟨rfl, rfl, p1, p2⟩, mq, p4.s, p4.o, p5⟩⟩
    subst hx9
    simp only [Option.toList_some, List.singleton_append]
    refine ga_iconst ok dX3_orderDay_20 ?_
    refine ga_icmp_ne ok 26 (by decide) (by omega) (by omega) dX3_orderDay_21 (fun c_21 => ?_) (fun c_21 => ?_)
    · obtain ⟨ht1, hz9, S, hrn, hOS, hf9, ht4⟩ : 0 ≤ x9 ∧ g.r 1 ≠ 0 ∧ ∃ S, rnD g.r a.toNat 1 = some (x9, S) ∧ gOk (T + 13) S ∧ gFr m mt 364 ∧ gIs mt 364 S := by rcases hc9.2.2 with h | h; exact h; exact absurd h.1 (by omega)
      have hX1 := hX.sfr hf9.s
      refine ga_aload_n ok 0 rfl rfl dX3_orderDay_26 ?_
      refine gf_X3_12 ok hG rfl dX3_orderDay_27 ?_
      refine gf_X3_93 ok hG (by omega) dX3_orderDay_30 ?_
      refine ga_iload_n ok 1 rfl rfl dX3_orderDay_33 ?_
      refine ga_aaload_qa ok (ar_ga hG (by omega)) (by omega) dX3_orderDay_34 ?_
      refine ga_aload_n ok 0 rfl rfl dX3_orderDay_35 ?_
      refine gf_X3_40 ok hG rfl dX3_orderDay_36 ?_
      refine gc_X1_1 ok hG (by omega) lk_X3_228 rfl (c_X1_copyFrom ok.fl hG (by omega) (by omega) (by omega) ht4) (by rw [hR]; exact ⟨by decide, by decide, by decide, by decide⟩) (Nat.le_of_ble_eq_true rfl) dX3_orderDay_39 (fun r9 m2 hq => ?_) (fun _ _ h => h.elim)
      obtain ⟨rfl, q1, q2⟩ := hq
      simp only [Option.toList_none, List.nil_append]
      refine ga_iconst ok dX3_orderDay_42 ?_
      exact ga_ireturn ok en rfl rfl (by decide) (by decide) dX3_orderDay_43 (by
  have hs : (exO g 100 a 0) = (0, nwG g (stG g.r a.toNat S)) := by unfold exO; rw [if_neg (by omega), if_neg (by omega), if_neg (by omega), if_pos rfl, if_neg (by omega), if_neg hz9, hrn]
  rw [hs]
  exact ⟨rfl, hX1.now (gtFr.of (a := 64) (by omega) (j := a.toNat) (by omega) q1) (gtIs.st hX1.1.1 (j := a.toNat) q1 (by omega) b0.2 b1.2 (by omega) q2) ((gtOk_stG (hT.mono (by omega)) hOS).mono (by omega)) (by omega), hf9.o.tr (gtFr.o (gtFr.of (a := 64) (by omega) (j := a.toNat) (by omega) q1))⟩)
    · obtain ⟨u, v, hab, mq, hf9, hf8, hm3⟩ : ∃ u v : Int, ((u = 3 ∧ v = g.r 0 ∧ g.r 1 = 0) ∨ (u = 5 ∧ v = a ∧ g.r 1 ≠ 0 ∧ rnD g.r a.toNat 1 = none)) ∧ ∃ m1, SFr m m1 ∧ OFr m m1 ∧ mt = rfM m1 u v := by rcases hc9.2.2 with h | h; exact absurd h.1 (by omega); exact h.2
      refine ga_iconst ok dX3_orderDay_24 ?_
      exact ga_ireturn ok en rfl rfl (by decide) (by decide) dX3_orderDay_25 (by
  have hs : (exO g 100 a 0) = (-1, rfG g u v) := by
    unfold exO
    rcases hab with ⟨e1, e2, e3⟩ | ⟨e1, e2, e3, e4⟩
    · rw [if_neg (by omega), if_neg (by omega), if_neg (by omega), if_pos rfl, if_neg (by omega), if_pos e3, e1, e2]
    · rw [if_neg (by omega), if_neg (by omega), if_neg (by omega), if_pos rfl, if_neg (by omega), if_neg e3, e4, e1, e2]
  have hr9 : (0 ≤ u ∧ u ≤ 5) ∧ (0 ≤ v ∧ v ≤ 256) := by rcases hab with h | h <;> omega
  rw [hs, hm3]
  exact ⟨rfl, ((hX.sfr hf9).rf hr9.1 hr9.2).mono (by omega), hf8.re⟩)
  · have f_8 := of_decide_eq_false (b2i_0.mp c_8)
    refine ga_bipush ok dX3_orderDay_11 (by decide) ?_
    exact ga_ireturn ok en rfl rfl (by decide) (by decide) dX3_orderDay_13 (by
  have hs : (exO g 100 a 0) = (-2, g) := by unfold exO; rw [if_neg (by omega), if_neg (by omega), if_neg (by omega), if_pos rfl, if_pos (by omega)]
  rw [hs]
  exact ⟨rfl, hX.mono (by omega), OFr.rf⟩)
theorem exO_b {g : Gm} {c a b : Int} (h : c ≠ 116) : exO g c a b = exO g c a 0 := by
  unfold exO
  by_cases h1 : c = 103
  · rw [if_pos h1, if_pos h1]
  · rw [if_neg h1, if_neg h1]
    by_cases h2 : c = 120
    · rw [if_pos h2, if_pos h2]
    · rw [if_neg h2, if_neg h2, if_neg h, if_neg h]
set_option maxHeartbeats 4000000 in
set_option maxRecDepth 100000 in
theorem c_X3_carryOut {G : GG} {l : Launch} (hfl : l.stackTraces = false) (hG : MW G) {m : Mm} {g : Gm} {T : Int} (hX : XIs T m g) (hT0 : 0 ≤ T ∧ T ≤ 1000000000) {c : Int} (hc : c = 43 ∨ c = 45 ∨ c = 120 ∨ c = 103 ∨ c = 100 ∨ c = 116) {a : Int} (haR : -2147483648 ≤ a ∧ a ≤ 2147483647) {b : Int} (hbR : -2147483648 ≤ b ∧ b ≤ 2147483647) (hv : (c = 43 ∨ c = 45) → 1 ≤ a ∧ a ≤ 1023) : CT G l yX3_carryOut cX3_carryOut 4 (some .int) (RM 8 0 0) [.ref 0, vI c, vI a, vI b] m (fun r' m' => r' = some (vI (exO g c a b).1) ∧ XIs (T + 13) m' (exO g c a b).2 ∧ OFr m m') (fun _ _ => False) := by
  refine CT.of RX3 [(0, .ref 0), (1, vI c), (2, vI a), (3, vI b)] hfl (by decide +kernel) rfl rfl (Nat.le_of_ble_eq_true rfl) ?_
  intro E ok en hml hEl htab
  have hR : e_R E = RM 8 0 0 := en.2.2.2
  have hn0 : 0 < (e_c E).maxLocals := by rw [hml]; decide
  have hn1 : 1 < (e_c E).maxLocals := by rw [hml]; decide
  have hn2 : 2 < (e_c E).maxLocals := by rw [hml]; decide
  have hn3 : 3 < (e_c E).maxLocals := by rw [hml]; decide
  refine ga_iload_n ok 1 rfl rfl dX3_carryOut_0 ?_
  refine ga_bipush ok dX3_carryOut_1 (by decide) ?_
  refine ga_icmp_ne ok 12 (by decide) (by omega) (by omega) dX3_carryOut_3 (fun c_3 => ?_) (fun c_3 => ?_)
  · refine ga_iload_n ok 1 rfl rfl dX3_carryOut_12 ?_
    refine ga_bipush ok dX3_carryOut_13 (by decide) ?_
    refine ga_icmp_ne ok 24 (by decide) (by omega) (by omega) dX3_carryOut_15 (fun c_15 => ?_) (fun c_15 => ?_)
    · refine ga_iload_n ok 1 rfl rfl dX3_carryOut_24 ?_
      refine ga_bipush ok dX3_carryOut_25 (by decide) ?_
      refine ga_icmp_ne ok 37 (by decide) (by omega) (by omega) dX3_carryOut_27 (fun c_27 => ?_) (fun c_27 => ?_)
      · refine ga_iload_n ok 1 rfl rfl dX3_carryOut_37 ?_
        refine ga_bipush ok dX3_carryOut_38 (by decide) ?_
        refine ga_icmp_ne ok 49 (by decide) (by omega) (by omega) dX3_carryOut_40 (fun c_40 => ?_) (fun c_40 => ?_)
        · refine ga_aload_n ok 0 rfl rfl dX3_carryOut_49 ?_
          refine ga_iload_n ok 2 rfl rfl dX3_carryOut_50 ?_
          refine ga_iload_n ok 1 rfl rfl dX3_carryOut_51 ?_
          refine ga_bipush ok dX3_carryOut_52 (by decide) ?_
          refine ga_icmp_ne ok 61 (by decide) (by omega) (by omega) dX3_carryOut_54 (fun c_54 => ?_) (fun c_54 => ?_)
          · refine ga_iconst ok dX3_carryOut_61 ?_
            refine gc_X3_2 ok hG rfl lk_X3_392 rfl (c_X3_orderVisitor ok.fl hG hX hT0 haR (f := 0) (Or.inl rfl) (hv (by omega))) (by rw [hR]; exact ⟨by decide, by decide, by decide, by decide⟩) (Nat.le_of_ble_eq_true rfl) dX3_carryOut_62 (fun r9 m2 hq => ?_) (fun _ _ h => h.elim)
            obtain ⟨hr9, q1, q2⟩ := hq
            subst hr9
            simp only [Option.toList_some, List.singleton_append]
            have ec : exO g c a b = exO g (if (0 : Int) = 1 then 43 else 45) a 0 := by rw [exO_b (by omega), if_neg (by omega), show c = 45 by omega]
            exact ga_ireturn ok en rfl rfl (by decide) (by decide) dX3_carryOut_65 ⟨by first | (rw [ec]; done) | (rw [ec]; rfl), by rw [ec]; exact q1, q2⟩
          · refine ga_iconst ok dX3_carryOut_57 ?_
            refine ga_goto ok 62 (by decide) dX3_carryOut_58 ?_
            refine gc_X3_2 ok hG rfl lk_X3_392 rfl (c_X3_orderVisitor ok.fl hG hX hT0 haR (f := 1) (Or.inr rfl) (hv (by omega))) (by rw [hR]; exact ⟨by decide, by decide, by decide, by decide⟩) (Nat.le_of_ble_eq_true rfl) dX3_carryOut_62 (fun r9 m2 hq => ?_) (fun _ _ h => h.elim)
            obtain ⟨hr9, q1, q2⟩ := hq
            subst hr9
            simp only [Option.toList_some, List.singleton_append]
            have ec : exO g c a b = exO g (if (1 : Int) = 1 then 43 else 45) a 0 := by rw [exO_b (by omega), if_pos rfl, c_54]
            exact ga_ireturn ok en rfl rfl (by decide) (by decide) dX3_carryOut_65 ⟨by first | (rw [ec]; done) | (rw [ec]; rfl), by rw [ec]; exact q1, q2⟩
        · refine ga_aload_n ok 0 rfl rfl dX3_carryOut_43 ?_
          refine ga_iload_n ok 2 rfl rfl dX3_carryOut_44 ?_
          refine gc_X3_1 ok hG rfl lk_X3_389 rfl (c_X3_orderDay ok.fl hG hX hT0 haR) (by rw [hR]; exact ⟨by decide, by decide, by decide, by decide⟩) (Nat.le_of_ble_eq_true rfl) dX3_carryOut_45 (fun r9 m2 hq => ?_) (fun _ _ h => h.elim)
          obtain ⟨hr9, q1, q2⟩ := hq
          subst hr9
          simp only [Option.toList_some, List.singleton_append]
          have ec : exO g c a b = exO g 100 a 0 := by rw [exO_b (by omega), c_40]
          exact ga_ireturn ok en rfl rfl (by decide) (by decide) dX3_carryOut_48 ⟨by first | (rw [ec]; done) | (rw [ec]; rfl), by rw [ec]; exact q1, q2⟩
      · refine ga_aload_n ok 0 rfl rfl dX3_carryOut_30 ?_
        refine ga_iload_n ok 2 rfl rfl dX3_carryOut_31 ?_
        refine ga_iload_n ok 3 rfl rfl dX3_carryOut_32 ?_
        refine gc_X3_2 ok hG rfl lk_X3_386 rfl (c_X3_orderLesson ok.fl hG hX hT0 haR hbR) (by rw [hR]; exact ⟨by decide, by decide, by decide, by decide⟩) (Nat.le_of_ble_eq_true rfl) dX3_carryOut_33 (fun r9 m2 hq => ?_) (fun _ _ h => h.elim)
        obtain ⟨hr9, q1, q2⟩ := hq
        subst hr9
        simp only [Option.toList_some, List.singleton_append]
        have ec : exO g c a b = exO g 116 a b := by rw [c_27]
        exact ga_ireturn ok en rfl rfl (by decide) (by decide) dX3_carryOut_36 ⟨by first | (rw [ec]; done) | (rw [ec]; rfl), by rw [ec]; exact q1, q2⟩
    · refine ga_aload_n ok 0 rfl rfl dX3_carryOut_18 ?_
      refine ga_iload_n ok 2 rfl rfl dX3_carryOut_19 ?_
      refine gc_X3_1 ok hG rfl lk_X3_383 rfl (c_X3_orderForgetting ok.fl hG hX hT0 haR) (by rw [hR]; exact ⟨by decide, by decide, by decide, by decide⟩) (Nat.le_of_ble_eq_true rfl) dX3_carryOut_20 (fun r9 m2 hq => ?_) (fun _ _ h => h.elim)
      obtain ⟨hr9, q1, q2⟩ := hq
      subst hr9
      simp only [Option.toList_some, List.singleton_append]
      have ec : exO g c a b = exO g 120 a 0 := by rw [exO_b (by omega), c_15]
      exact ga_ireturn ok en rfl rfl (by decide) (by decide) dX3_carryOut_23 ⟨by first | (rw [ec]; done) | (rw [ec]; rfl), by rw [ec]; exact q1, q2⟩
  · refine ga_aload_n ok 0 rfl rfl dX3_carryOut_6 ?_
    refine ga_iload_n ok 2 rfl rfl dX3_carryOut_7 ?_
    refine gc_X3_1 ok hG rfl lk_X3_380 rfl (c_X3_orderGuard ok.fl hG hX hT0 haR) (by rw [hR]; exact ⟨by decide, by decide, by decide, by decide⟩) (Nat.le_of_ble_eq_true rfl) dX3_carryOut_8 (fun r9 m2 hq => ?_) (fun _ _ h => h.elim)
    obtain ⟨hr9, q1, q2⟩ := hq
    subst hr9
    simp only [Option.toList_some, List.singleton_append]
    have ec : exO g c a b = exO g 103 a 0 := by rw [exO_b (by omega), c_3]
    exact ga_ireturn ok en rfl rfl (by decide) (by decide) dX3_carryOut_11 ⟨by first | (rw [ec]; done) | (rw [ec]; rfl), by rw [ec]; exact q1, q2⟩
theorem okO_c {t : Nat → Int} {n : Int} {p : Nat} (hp : (p : Int) ≤ n) (h : okO (rOrd t n p)) : (sgn t n p = 43 ∨ sgn t n p = 45 ∨ sgn t n p = 120 ∨ sgn t n p = 103 ∨ sgn t n p = 100 ∨ sgn t n p = 116) ∧ ((sgn t n p = 43 ∨ sgn t n p = 45) → 1 ≤ (rOrd t n p).1 ∧ (rOrd t n p).1 ≤ 1023) := by
  have h1 : (rOrd t n p).1 ≠ -1 := h.1
  constructor
  · by_cases e1 : sgn t n p = 43 ∨ sgn t n p = 45
    · omega
    · by_cases e2 : sgn t n p = 120 ∨ sgn t n p = 103
      · omega
      · by_cases e3 : sgn t n p = 100
        · omega
        · by_cases e4 : sgn t n p = 116
          · omega
          · unfold rOrd at h1
            rw [if_neg e1, if_neg e2, if_neg e3, if_neg e4] at h1
            exact absurd rfl h1
  · intro e1
    have := sgn_lt (t := t) (n := n) (p := p) (by omega)
    have hb := badV_rng (t := t) (n := n) (p := p + 1) (by omega)
    unfold rOrd at h1 ⊢
    rw [if_pos e1] at h1 ⊢
    have h1 : badV t n (p + 1) ≠ -1 := h1
    show 1 ≤ badV t n (p + 1) ∧ badV t n (p + 1) ≤ 1023
    omega
set_option maxHeartbeats 4000000 in
set_option maxRecDepth 100000 in
theorem c_X3_run {G : GG} {l : Launch} (hfl : l.stackTraces = false) (hG : MW G) {m : Mm} {g : Gm} {T : Int} (hX : XIs T m g) (hT0 : 0 ≤ T ∧ T ≤ 999990000) : CT G l yX3_run cX3_run 4 (some .int) (RM 9 4 24) [.ref 0] m (fun r' m' => (sp_run g).1 = 0 ∧ r' = some (vI (sp_run g).2.1) ∧ XIs (T + 1000) m' (sp_run g).2.2 ∧ XFr m m') (fun X m' => (((sp_run g).1 = 1 ∧ X = "java/lang/IllegalArgumentException") ∨ ((sp_run g).1 = 2 ∧ X = "java/lang/UnsupportedOperationException")) ∧ XIs (T + 1000) m' (sp_run g).2.2 ∧ XFr m m') := by
  refine CT.of RX3 [(0, .ref 0)] hfl (by decide +kernel) rfl rfl (Nat.le_of_ble_eq_true rfl) ?_
  intro E ok en hml hEl htab
  have hR : e_R E = RM 9 4 24 := en.2.2.2
  have hn0 : 0 < (e_c E).maxLocals := by rw [hml]; decide
  have hn1 : 1 < (e_c E).maxLocals := by rw [hml]; decide
  have hn2 : 2 < (e_c E).maxLocals := by rw [hml]; decide
  have hn3 : 3 < (e_c E).maxLocals := by rw [hml]; decide
  have hTX : TX (atM m 0) g.tx g.tn 0 := by
    obtain ⟨t1, t2, t3⟩ := hX.2.2.2.2.1
    unfold atM
    exact ⟨by rw [upI_no (by omega)]; exact t1, upI_at, t2, t2.1, fun i hi => by rw [upI_r (by omega)]; exact t3 i hi⟩
  refine ga_aload_n ok 0 rfl rfl dX3_run_0 ?_
  refine gf_X3_47 ok hG rfl dX3_run_1 ?_
  refine gc_X2_0 ok hG rfl lk_X3_296 rfl (c_X2_read ok.fl hG hTX) (by rw [hR]; exact ⟨by decide, by decide, by decide, by decide⟩) (Nat.le_of_ble_eq_true rfl) dX3_run_4 (fun r9 M1 hq => ?_) (fun _ _ h => h.elim)
  obtain ⟨hr9, kk, hRD, hkk⟩ := hq
  subst hr9
  simp only [Option.toList_some, List.singleton_append]
  obtain ⟨r1, r2, r3, r4, r5⟩ := id hRD
  refine ga_istore_n ok 1 rfl hn1 dX3_run_7 ?_
  refine ga_aload_n ok 0 rfl rfl dX3_run_8 ?_
  refine ga_iload_n ok 1 rfl rfl dX3_run_9 ?_
  refine ga_if_eq ok 17 (by decide) (b2i_rng _) dX3_run_10 (fun c_10 => ?_) (fun c_10 => ?_)
  · have f_10 := b2i_0.mp c_10
    refine ga_aload_n ok 0 rfl rfl dX3_run_17 ?_
    refine gf_X3_47 ok hG rfl dX3_run_18 ?_
    refine gf_X3_299 ok hG rfl dX3_run_21 ?_
    rw [r3]
    refine gp_X3_58 ok hG rfl dX3_run_24 ?_
    refine ga_aload_n ok 0 rfl rfl dX3_run_27 ?_
    refine gf_X3_47 ok hG rfl dX3_run_28 ?_
    refine ga_iconst ok dX3_run_31 ?_
    refine gp_X3_285 ok hG rfl dX3_run_32 ?_
    refine ga_iload_n ok 1 rfl rfl dX3_run_35 ?_
    have hpb := pRes_pos (t := g.tx) (n := g.tn) 60 0 hX.2.2.2.2.1.2.1.1
    have htn := hX.2.2.2.2.1.2.1
    have hX1 := hX.rn hRD (e := (pRes g.tx g.tn 60 0).2.1) (by omega)
    refine ga_if_ne ok 50 (by decide) (b2i_rng _) dX3_run_36 (fun c_36 => ?_) (fun c_36 => ?_)
    · have f_36 := b2i_n0.mp c_36
      exact absurd (b2i_n0.mp c_36) (by rw [b2i_0.mp c_10]; exact Bool.false_ne_true)
    · have f_36 := b2i_0.mp c_36
      exact ga_throwW ok en htab lt_IllegalArgumentException (text := "the text has an error") (by decide +kernel) ⟨by decide, by decide, by decide, by decide⟩ (Nat.le_of_ble_eq_true rfl) dX3_run_39 dX3_run_42 dX3_run_43 dX3_run_46 dX3_run_49 (by
  have hs : (sp_run g) = (1, 0, rnG g (pRes g.tx g.tn 60 0).2.1) := by unfold sp_run; rw [if_pos (b2i_0.mp c_36)]
  rw [hs]
  exact ⟨Or.inl ⟨rfl, rfl⟩, hX1.mono (by omega), ((XFr.tr (fun x hx => r1 x (by omega) (by omega) (by omega) (by omega)) XFr.rf).uI (by omega)).uI (by omega)⟩)
  · have f_10 := b2i_n0.mp c_10
    refine ga_iconst ok dX3_run_13 ?_
    refine ga_goto ok 24 (by decide) dX3_run_14 ?_
    refine gp_X3_58 ok hG rfl dX3_run_24 ?_
    refine ga_aload_n ok 0 rfl rfl dX3_run_27 ?_
    refine gf_X3_47 ok hG rfl dX3_run_28 ?_
    refine ga_iconst ok dX3_run_31 ?_
    refine gp_X3_285 ok hG rfl dX3_run_32 ?_
    refine ga_iload_n ok 1 rfl rfl dX3_run_35 ?_
    have hpb := pRes_pos (t := g.tx) (n := g.tn) 60 0 hX.2.2.2.2.1.2.1.1
    have htn := hX.2.2.2.2.1.2.1
    have hX1 := hX.rn hRD (e := -1) (by omega)
    refine ga_if_ne ok 50 (by decide) (b2i_rng _) dX3_run_36 (fun c_36 => ?_) (fun c_36 => ?_)
    · have f_36 := b2i_n0.mp c_36
      refine ga_aload_n ok 0 rfl rfl dX3_run_50 ?_
      refine gf_X3_16 ok hG rfl dX3_run_51 ?_
      refine ga_aload_n ok 0 rfl rfl dX3_run_54 ?_
      refine gf_X3_12 ok hG rfl dX3_run_55 ?_
      refine gc_X0_1 ok hG (by omega) lk_X3_304 rfl (c_X0_copyFrom ok.fl hG (by omega) (by omega) (by omega) hX1.1.1 hX1.1.2) (by rw [hR]; exact ⟨by decide, by decide, by decide, by decide⟩) (Nat.le_of_ble_eq_true rfl) dX3_run_58 (fun r9 M0 hq => ?_) (fun _ _ h => h.elim)
      obtain ⟨rfl, q1, q2⟩ := hq
      simp only [Option.toList_none, List.nil_append]
      refine ga_iconst ok dX3_run_61 ?_
      refine ga_istore_n ok 2 rfl hn2 dX3_run_62 ?_
      refine ga_iconst ok dX3_run_63 ?_
      refine ga_istore_n ok 3 rfl hn3 dX3_run_64 ?_
      have hok := b2i_n0.mp c_36
      have hX0 : XFr m M0 := (((XFr.tr (fun x hx => r1 x (by omega) (by omega) (by omega) (by omega)) XFr.rf).uI (by omega)).uI (by omega)).tr (q1.x (by omega))
      obtain ⟨hkk1, hkk2⟩ := hkk hok
      have hK : ∀ x, x = 640 ∨ x = 768 ∨ x = 832 ∨ x = 896 → M0.1 x = (upI (upI M1 0 10 (-1)) 640 1 0).1 x := fun x hx => (q1 x (by omega) (by omega) (by omega) (by omega) (by omega) (by omega) (by omega)).1
      have h05 : M0.1 640 5 = ((pRes g.tx g.tn 60 0).2.2 : Int) := by rw [hK 640 (by omega), upI_no (by omega), upI_r (by omega), r4, hkk1]
      have hO : ∀ j : Nat, (j : Int) < ((pRes g.tx g.tn 60 0).2.2 : Int) → M0.1 768 j = sgn g.tx g.tn (pS g.tx g.tn j) ∧ M0.1 832 j = (rOrd g.tx g.tn (pS g.tx g.tn j)).1 ∧ M0.1 896 j = (rOrd g.tx g.tn (pS g.tx g.tn j)).2.1 ∧ okO (rOrd g.tx g.tn (pS g.tx g.tn j)) ∧ (pS g.tx g.tn j : Int) ≤ g.tn := fun j hj => by
        rw [hK 768 (by omega), hK 832 (by omega), hK 896 (by omega), upI_r (by omega), upI_r (by omega), upI_r (by omega), upI_r (by omega), upI_r (by omega), upI_r (by omega)]
        exact r5 j (by omega)
      have h65 : gtIs M0 65 g.r := q2
      have hXM : XIs T M0 (rnG g (-1)) := hX1.sfr q1.s
      have hK20 : (pRes g.tx g.tn 60 0).2.2 ≤ 20 := by omega
      have hT : gtOk T g.r := hX.1.2
      have b0 := hT.1
      have loop : ∀ (i : Int) (out : Int) (M : Mm) (g1 : Gm), (0 ≤ i ∧ i ≤ (pRes g.tx g.tn 60 0).2.2 ∧ (out = 0 ∨ out = -1 ∨ out = -2) ∧ XIs (T + 13 * i) M g1 ∧ OFr M0 M ∧ (out = 0 → (exA g.tx g.tn (pRes g.tx g.tn 60 0).2.2 0 (rnG g (-1))) = exA g.tx g.tn ((pRes g.tx g.tn 60 0).2.2 - i.toNat) i.toNat g1) ∧ (out ≠ 0 → (exA g.tx g.tn (pRes g.tx g.tn 60 0).2.2 0 (rnG g (-1))) = (out, g1))) → WA G E (0 + (RM 5 0 0).cells + (RM 1 0 0).cells) (0 + (RM 5 0 0).slots + (RM 1 0 0).slots) 65 [(3, vI i), (2, vI out), (0, .ref 0), (1, vI 1)] [] M := by
        refine wl4 _ (fun i _ _ _ => ((pRes g.tx g.tn 60 0).2.2 : Int).toNat - i.toNat) _ ?_
        intro i out M g1 hi ih
        obtain ⟨i0, i1, hout, hg1, hfr, hex⟩ := hi
        have fk : ∀ x, (x = 640 ∨ x = 704 ∨ x = 768 ∨ x = 832 ∨ x = 896 ∨ 960 ≤ x) → M.1 x = M0.1 x := fun x hx => (hfr.1 x hx).1
        have f5 : M.1 640 5 = ((pRes g.tx g.tn 60 0).2.2 : Int) := by rw [fk 640 (by omega)]; exact h05
        have hXX : XFr m M := hX0.tr (fun x hx => hfr.1 x (by omega))
        refine ga_iload_n ok 3 rfl rfl dX3_run_65 ?_
        refine ga_aload_n ok 0 rfl rfl dX3_run_66 ?_
        refine gf_X3_47 ok hG rfl dX3_run_67 ?_
        refine gf_X3_306 ok hG rfl dX3_run_70 ?_
        first | rw [f6] | rw [f5]
        refine ga_icmp_ge ok 118 (by decide) (by omega) (by omega) dX3_run_73 (fun c_73 => ?_) (fun c_73 => ?_)
        · have hfin : out = 0 → (exA g.tx g.tn (pRes g.tx g.tn 60 0).2.2 0 (rnG g (-1))) = (0, g1) := fun h0 => by
            rw [hex.1 h0, show (pRes g.tx g.tn 60 0).2.2 - i.toNat = 0 by omega]
            rfl
          refine ga_iload_n ok 2 rfl rfl dX3_run_118 ?_
          refine ga_if_eq ok 133 (by decide) (by omega) dX3_run_119 (fun c_119 => ?_) (fun c_119 => ?_)
          · refine ga_iload_n ok 2 rfl rfl dX3_run_133 ?_
            refine ga_bipush ok dX3_run_134 (by decide) ?_
            refine ga_icmp_ne ok 150 (by decide) (by omega) (by omega) dX3_run_136 (fun c_136 => ?_) (fun c_136 => ?_)
            · refine ga_iload_n ok 2 rfl rfl dX3_run_150 ?_
              refine ga_iconst ok dX3_run_151 ?_
              refine ga_icmp_ne ok 166 (by decide) (by omega) (by omega) dX3_run_152 (fun c_152 => ?_) (fun c_152 => ?_)
              · refine ga_aload_n ok 0 rfl rfl dX3_run_166 ?_
                refine ga_aload_n ok 0 rfl rfl dX3_run_167 ?_
                refine gf_X3_16 ok hG rfl dX3_run_168 ?_
                refine gc_X3_1 ok hG rfl lk_X3_82 rfl (c_X3_keep ok.fl hG hg1 (a := 65) (Or.inr rfl) (hfr.2 g.r b0.2 h65) ((hT : gtOk T g.r).mono (T' := T + 13 * i) (by omega))) (by rw [hR]; exact ⟨by decide, by decide, by decide, by decide⟩) (Nat.le_of_ble_eq_true rfl) dX3_run_171 (fun r9 M2 hq => ?_) (fun _ _ h => h.elim)
                obtain ⟨rfl, k1, k2, k3, k4⟩ := hq
                simp only [Option.toList_none, List.nil_append]
                have f6 : M2.1 640 5 = ((pRes g.tx g.tn 60 0).2.2 : Int) := by rw [k4]; exact f5
                refine ga_aload_n ok 0 rfl rfl dX3_run_174 ?_
                refine gf_X3_47 ok hG rfl dX3_run_175 ?_
                refine gf_X3_306 ok hG rfl dX3_run_178 ?_
                first | rw [f6] | rw [f5]
                exact ga_ireturn ok en rfl rfl (by decide) (by decide) dX3_run_181 (by
        have e0 : out = 0 := by omega
        have hs : (sp_run g) = (0, (((pRes g.tx g.tn 60 0).2.2 : Nat) : Int), kpG (exA g.tx g.tn (pRes g.tx g.tn 60 0).2.2 0 (rnG g (-1))).2 g.r) := by unfold sp_run; rw [if_neg (by rw [hok]; exact Bool.noConfusion), if_pos (by rw [hfin e0])]
        rw [hs, hfin e0]
        exact ⟨rfl, rfl, k1.mono (by omega), hXX.tr k2⟩)
              · exact absurd c_119 (by omega)
            · exact absurd c_119 (by omega)
          · refine ga_aload_n ok 0 rfl rfl dX3_run_122 ?_
            refine gf_X3_12 ok hG rfl dX3_run_123 ?_
            refine ga_aload_n ok 0 rfl rfl dX3_run_126 ?_
            refine gf_X3_16 ok hG rfl dX3_run_127 ?_
            refine gc_X0_1 ok hG (by omega) lk_X3_304 rfl (c_X0_copyFrom ok.fl hG (by omega) (by omega) (by omega) (hfr.2 g.r b0.2 h65) hT) (by rw [hR]; exact ⟨by decide, by decide, by decide, by decide⟩) (Nat.le_of_ble_eq_true rfl) dX3_run_130 (fun r9 M2 hq => ?_) (fun _ _ h => h.elim)
            obtain ⟨rfl, q1, q2⟩ := hq
            simp only [Option.toList_none, List.nil_append]
            have he9 := hex.2 c_119
            have hnow := hg1.now q1 q2 ((hT : gtOk T g.r).mono (T' := T + 13 * i) (by omega)) (by omega)
            refine ga_iload_n ok 2 rfl rfl dX3_run_133 ?_
            refine ga_bipush ok dX3_run_134 (by decide) ?_
            refine ga_icmp_ne ok 150 (by decide) (by omega) (by omega) dX3_run_136 (fun c_136 => ?_) (fun c_136 => ?_)
            · refine ga_iload_n ok 2 rfl rfl dX3_run_150 ?_
              refine ga_iconst ok dX3_run_151 ?_
              refine ga_icmp_ne ok 166 (by decide) (by omega) (by omega) dX3_run_152 (fun c_152 => ?_) (fun c_152 => ?_)
              · exact absurd hout (by omega)
              · exact ga_throwW ok en htab lt_UnsupportedOperationException (text := "an order is refused") (by decide +kernel) ⟨by decide, by decide, by decide, by decide⟩ (Nat.le_of_ble_eq_true rfl) dX3_run_155 dX3_run_158 dX3_run_159 dX3_run_162 dX3_run_165 (by
        have hs : (sp_run g) = (2, 0, nwG (exA g.tx g.tn (pRes g.tx g.tn 60 0).2.2 0 (rnG g (-1))).2 g.r) := by unfold sp_run; rw [if_neg (by rw [hok]; exact Bool.noConfusion), if_neg (by rw [he9]; exact c_119), if_neg (by rw [he9]; exact c_136)]
        rw [hs, he9]
        exact ⟨Or.inr ⟨rfl, rfl⟩, hnow.mono (by omega), hXX.tr (q1.x (by omega))⟩)
            · exact ga_throwW ok en htab lt_IllegalArgumentException (text := "an order tells what is not there or out of range") (by decide +kernel) ⟨by decide, by decide, by decide, by decide⟩ (Nat.le_of_ble_eq_true rfl) dX3_run_139 dX3_run_142 dX3_run_143 dX3_run_146 dX3_run_149 (by
        have hs : (sp_run g) = (1, 0, nwG (exA g.tx g.tn (pRes g.tx g.tn 60 0).2.2 0 (rnG g (-1))).2 g.r) := by unfold sp_run; rw [if_neg (by rw [hok]; exact Bool.noConfusion), if_neg (by rw [he9]; exact c_119), if_pos (by rw [he9]; exact c_136)]
        rw [hs, he9]
        exact ⟨Or.inl ⟨rfl, rfl⟩, hnow.mono (by omega), hXX.tr (q1.x (by omega))⟩)
        · refine ga_iload_n ok 2 rfl rfl dX3_run_76 ?_
          refine ga_if_ne ok 118 (by decide) (by omega) dX3_run_77 (fun c_77 => ?_) (fun c_77 => ?_)
          · skip
            refine ga_iload_n ok 2 rfl rfl dX3_run_118 ?_
            refine ga_if_eq ok 133 (by decide) (by omega) dX3_run_119 (fun c_119 => ?_) (fun c_119 => ?_)
            · exact absurd c_119 c_77
            · refine ga_aload_n ok 0 rfl rfl dX3_run_122 ?_
              refine gf_X3_12 ok hG rfl dX3_run_123 ?_
              refine ga_aload_n ok 0 rfl rfl dX3_run_126 ?_
              refine gf_X3_16 ok hG rfl dX3_run_127 ?_
              refine gc_X0_1 ok hG (by omega) lk_X3_304 rfl (c_X0_copyFrom ok.fl hG (by omega) (by omega) (by omega) (hfr.2 g.r b0.2 h65) hT) (by rw [hR]; exact ⟨by decide, by decide, by decide, by decide⟩) (Nat.le_of_ble_eq_true rfl) dX3_run_130 (fun r9 M2 hq => ?_) (fun _ _ h => h.elim)
              obtain ⟨rfl, q1, q2⟩ := hq
              simp only [Option.toList_none, List.nil_append]
              have he9 := hex.2 c_119
              have hnow := hg1.now q1 q2 ((hT : gtOk T g.r).mono (T' := T + 13 * i) (by omega)) (by omega)
              refine ga_iload_n ok 2 rfl rfl dX3_run_133 ?_
              refine ga_bipush ok dX3_run_134 (by decide) ?_
              refine ga_icmp_ne ok 150 (by decide) (by omega) (by omega) dX3_run_136 (fun c_136 => ?_) (fun c_136 => ?_)
              · refine ga_iload_n ok 2 rfl rfl dX3_run_150 ?_
                refine ga_iconst ok dX3_run_151 ?_
                refine ga_icmp_ne ok 166 (by decide) (by omega) (by omega) dX3_run_152 (fun c_152 => ?_) (fun c_152 => ?_)
                · exact absurd hout (by omega)
                · exact ga_throwW ok en htab lt_UnsupportedOperationException (text := "an order is refused") (by decide +kernel) ⟨by decide, by decide, by decide, by decide⟩ (Nat.le_of_ble_eq_true rfl) dX3_run_155 dX3_run_158 dX3_run_159 dX3_run_162 dX3_run_165 (by
        have hs : (sp_run g) = (2, 0, nwG (exA g.tx g.tn (pRes g.tx g.tn 60 0).2.2 0 (rnG g (-1))).2 g.r) := by unfold sp_run; rw [if_neg (by rw [hok]; exact Bool.noConfusion), if_neg (by rw [he9]; exact c_119), if_neg (by rw [he9]; exact c_136)]
        rw [hs, he9]
        exact ⟨Or.inr ⟨rfl, rfl⟩, hnow.mono (by omega), hXX.tr (q1.x (by omega))⟩)
              · exact ga_throwW ok en htab lt_IllegalArgumentException (text := "an order tells what is not there or out of range") (by decide +kernel) ⟨by decide, by decide, by decide, by decide⟩ (Nat.le_of_ble_eq_true rfl) dX3_run_139 dX3_run_142 dX3_run_143 dX3_run_146 dX3_run_149 (by
        have hs : (sp_run g) = (1, 0, nwG (exA g.tx g.tn (pRes g.tx g.tn 60 0).2.2 0 (rnG g (-1))).2 g.r) := by unfold sp_run; rw [if_neg (by rw [hok]; exact Bool.noConfusion), if_neg (by rw [he9]; exact c_119), if_pos (by rw [he9]; exact c_136)]
        rw [hs, he9]
        exact ⟨Or.inl ⟨rfl, rfl⟩, hnow.mono (by omega), hXX.tr (q1.x (by omega))⟩)
          · obtain ⟨o1, o2, o3, o4, o5⟩ := hO i.toNat (by omega)
            have hkc := okO_c o5 o4
            have hrr := rOrd_rng (t := g.tx) o5
            refine ga_aload_n ok 0 rfl rfl dX3_run_80 ?_
            refine ga_aload_n ok 0 rfl rfl dX3_run_81 ?_
            refine gf_X3_47 ok hG rfl dX3_run_82 ?_
            refine gf_X3_309 ok hG rfl dX3_run_85 ?_
            refine ga_iload_n ok 3 rfl rfl dX3_run_88 ?_
            refine ga_caload_ca ok (ar_ki hG rfl) (by omega) dX3_run_89 ?_
            refine ga_aload_n ok 0 rfl rfl dX3_run_90 ?_
            refine gf_X3_47 ok hG rfl dX3_run_91 ?_
            refine gf_X3_312 ok hG rfl dX3_run_94 ?_
            refine ga_iload_n ok 3 rfl rfl dX3_run_97 ?_
            refine ga_iaload_ia ok (ar_f1 hG rfl) (by omega) dX3_run_98 ?_
            refine ga_aload_n ok 0 rfl rfl dX3_run_99 ?_
            refine gf_X3_47 ok hG rfl dX3_run_100 ?_
            refine gf_X3_315 ok hG rfl dX3_run_103 ?_
            refine ga_iload_n ok 3 rfl rfl dX3_run_106 ?_
            refine ga_iaload_ia ok (ar_f2 hG rfl) (by omega) dX3_run_107 ?_
            rw [fk 768 (by omega), fk 832 (by omega), fk 896 (by omega), o1, o2, o3]
            refine gc_X3_3 ok hG rfl lk_X3_318 rfl (c_X3_carryOut ok.fl hG hg1 ⟨by omega, by omega⟩ hkc.1 (by omega) (by omega) hkc.2) (by rw [hR]; exact ⟨by decide, by decide, by decide, by decide⟩) (Nat.le_of_ble_eq_true rfl) dX3_run_108 (fun r9 M2 hq => ?_) (fun _ _ h => h.elim)
            obtain ⟨hr9, q1, q2⟩ := hq
            subst hr9
            simp only [Option.toList_some, List.singleton_append]
            have h0 : out = 0 := by omega
            have ho9 := exO_out (g := g1) (c := (sgn g.tx g.tn (pS g.tx g.tn i.toNat))) (a := (rOrd g.tx g.tn (pS g.tx g.tn i.toNat)).1) (b := (rOrd g.tx g.tn (pS g.tx g.tn i.toNat)).2.1)
            have e0 := hex.1 h0
            rw [show (pRes g.tx g.tn 60 0).2.2 - i.toNat = ((pRes g.tx g.tn 60 0).2.2 - (i.toNat + 1)) + 1 by omega] at e0
            refine ga_istore_n ok 2 rfl hn2 dX3_run_111 ?_
            refine ga_iinc ok rfl hn3 dX3_run_112 ?_
            refine ga_goto ok 65 (by decide) dX3_run_115 ?_
            exact WA.re (by exact ⟨rfl, rfl, rfl, rfl, trivial⟩) (ih (i + 1) _ M2 _ ⟨by omega, by omega, ho9, by rw [show T + 13 * (i + 1) = T + 13 * i + 13 by omega]; exact q1, hfr.tr q2, fun hz => by
              rw [e0, exA, show (i + 1).toNat = i.toNat + 1 by omega, if_pos hz], fun hz => by
              rw [e0, exA, if_neg hz]⟩ (by omega))
      exact WA.re (by exact ⟨rfl, rfl, rfl, (by rw [hok]; rfl), trivial⟩) (loop 0 0 M0 (rnG g (-1)) ⟨by omega, by omega, Or.inl rfl, hXM.mono (by omega), OFr.rf, fun _ => rfl, fun h => absurd rfl h⟩)
    · have f_36 := b2i_0.mp c_36
      exact absurd (b2i_n0.mp c_10) (by rw [b2i_0.mp c_36]; exact Bool.false_ne_true)
