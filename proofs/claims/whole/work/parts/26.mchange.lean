/-! THE MODEL'S CHANGES -/
def d_guard (g : Gm) (x : Int) : Int × Int × Gm := if ¬ (1 ≤ x ∧ x ≤ 64) then (1, 0, g) else if g.r 0 = 4 then (2, 0, rfG g 1 4) else (0, g.r 0, nwG g (adG g.r x))
def d_sets (g : Gm) (n : Int) (j : Nat) (x : Int) (b : Bool) : Int × Int × Gm := if ¬ (0 ≤ n ∧ n < g.r 0) then (1, 0, g) else if b = false then (2, 0, g) else if rg g.r n.toNat j = x then (3, 0, rfG g 4 x) else (0, rg g.r n.toNat j, nwG g (stG g.r n.toNat (rtS (rg g.r n.toNat) j x)))
def d_visitor (g : Gm) (x f : Int) : Int × Int × Gm := if ¬ (1 ≤ x ∧ x ≤ 1023) then (1, 0, g) else if 0 ≤ fnd g.r x (g.r 1).toNat then (2, 0, rfG g 2 (fnd g.r x (g.r 1).toNat)) else if g.r 1 = 12 then (2, 0, rfG g 1 12) else (0, g.r 1, nwG g (adV g.r x f))
def d_forget (g : Gm) (v : Int) : Int × Int × Gm := if ¬ (0 ≤ v ∧ v < g.r 1) then (1, 0, g) else (0, g.r 1 - 1, nwG g (rmV g.r v.toNat))
/-- the answer of a change out of what doing leaves -/
def fin (g : Gm) (d : Int × Int × Gm) : Int × Int × Gm := (d.1, (if d.1 = 0 then d.2.1 else 0), if d.1 = 0 then kpG d.2.2 g.r else nwG d.2.2 g.r)
theorem fin_guard {g : Gm} {x : Int} : sp_guard g x = fin g (d_guard g x) := by
  unfold sp_guard d_guard fin
  split
  · rfl
  · split
    · rfl
    · exact congrArg (fun q => (0, g.r 0, q)) kp_nw.symm
theorem fin_visitor {g : Gm} {x f : Int} : sp_visitor g x f = fin g (d_visitor g x f) := by
  unfold sp_visitor d_visitor fin
  split
  · rfl
  · split
    · rfl
    · split
      · rfl
      · exact congrArg (fun q => (0, g.r 1, q)) kp_nw.symm
theorem fin_forget {g : Gm} {v : Int} : sp_forget g v = fin g (d_forget g v) := by
  unfold sp_forget d_forget fin
  split
  · rfl
  · exact congrArg (fun q => (0, g.r 1 - 1, q)) kp_nw.symm
theorem fin_rate {g : Gm} {n x : Int} : sp_rate g n x = fin g (d_sets g n 0 x (decide (1 ≤ x ∧ x ≤ 64))) := by
  by_cases h0 : 0 ≤ n ∧ n < g.r 0
  · by_cases h : 1 ≤ x ∧ x ≤ 64
    · by_cases hx : rg g.r n.toNat 0 = x
      · have hd : d_sets g n 0 x (decide (1 ≤ x ∧ x ≤ 64)) = (3, 0, rfG g 4 x) := by unfold d_sets; rw [if_neg (fun e => e h0), decide_eq_true h, if_neg (fun e => Bool.noConfusion e), if_pos hx]
        rw [hd]; unfold sp_rate; rw [if_neg (fun e => e h0), if_neg (fun e => e h), if_pos hx]; rfl
      · have hd : d_sets g n 0 x (decide (1 ≤ x ∧ x ≤ 64)) = (0, rg g.r n.toNat 0, nwG g (stG g.r n.toNat (rtS (rg g.r n.toNat) 0 x))) := by unfold d_sets; rw [if_neg (fun e => e h0), decide_eq_true h, if_neg (fun e => Bool.noConfusion e), if_neg hx]
        rw [hd]; unfold sp_rate; rw [if_neg (fun e => e h0), if_neg (fun e => e h), if_neg hx]
        exact congrArg (fun q => ((0 : Int), rg g.r n.toNat 0, q)) kp_nw.symm
    · have hd : d_sets g n 0 x (decide (1 ≤ x ∧ x ≤ 64)) = (2, 0, g) := by unfold d_sets; rw [if_neg (fun e => e h0), decide_eq_false h, if_pos rfl]
      rw [hd]; unfold sp_rate; rw [if_neg (fun e => e h0), if_pos h]; rfl
  · have hd : d_sets g n 0 x (decide (1 ≤ x ∧ x ≤ 64)) = (1, 0, g) := by unfold d_sets; rw [if_pos h0]
    rw [hd]; unfold sp_rate; rw [if_pos h0]; rfl
theorem fin_caution {g : Gm} {n x : Int} : sp_caution g n x = fin g (d_sets g n 1 x (decide (0 ≤ x ∧ x ≤ 256))) := by
  by_cases h0 : 0 ≤ n ∧ n < g.r 0
  · by_cases h : 0 ≤ x ∧ x ≤ 256
    · by_cases hx : rg g.r n.toNat 1 = x
      · have hd : d_sets g n 1 x (decide (0 ≤ x ∧ x ≤ 256)) = (3, 0, rfG g 4 x) := by unfold d_sets; rw [if_neg (fun e => e h0), decide_eq_true h, if_neg (fun e => Bool.noConfusion e), if_pos hx]
        rw [hd]; unfold sp_caution; rw [if_neg (fun e => e h0), if_neg (fun e => e h), if_pos hx]; rfl
      · have hd : d_sets g n 1 x (decide (0 ≤ x ∧ x ≤ 256)) = (0, rg g.r n.toNat 1, nwG g (stG g.r n.toNat (rtS (rg g.r n.toNat) 1 x))) := by unfold d_sets; rw [if_neg (fun e => e h0), decide_eq_true h, if_neg (fun e => Bool.noConfusion e), if_neg hx]
        rw [hd]; unfold sp_caution; rw [if_neg (fun e => e h0), if_neg (fun e => e h), if_neg hx]
        exact congrArg (fun q => ((0 : Int), rg g.r n.toNat 1, q)) kp_nw.symm
    · have hd : d_sets g n 1 x (decide (0 ≤ x ∧ x ≤ 256)) = (2, 0, g) := by unfold d_sets; rw [if_neg (fun e => e h0), decide_eq_false h, if_pos rfl]
      rw [hd]; unfold sp_caution; rw [if_neg (fun e => e h0), if_pos h]; rfl
  · have hd : d_sets g n 1 x (decide (0 ≤ x ∧ x ≤ 256)) = (1, 0, g) := by unfold d_sets; rw [if_pos h0]
    rw [hd]; unfold sp_caution; rw [if_pos h0]; rfl
theorem keepY {m : Mm} {g : Gm} (h : YIs m g) : YIs (cpI (thM m 0) 1088 1152 0 0 134) g ∧ (cpI (thM m 0) 1088 1152 0 0 134).1 1024 6 = 0 ∧ (∀ q, q < 134 → (cpI (thM m 0) 1088 1152 0 0 134).1 1152 q = g.r q) ∧ YFr m (cpI (thM m 0) 1088 1152 0 0 134) := by
  refine ⟨⟨(h.1.t).c (by omega), (h.2.u (i := 6) (by omega)).o (fun n hn => cpI_r (by omega))⟩, by rw [cpI_r (by omega)]; exact thM_at, fun q hq => ?_, (YFr.rf.uI (by omega)).cI (by omega)⟩
  simp only [cpI]
  rw [if_pos ⟨trivial, by omega, by omega⟩, show 0 + (q - 0) = q by omega]
  exact (h.1.t) q hq
theorem DO.rf {m : Mm} {g : Gm} {k : Int} (hY : YIs m g) (hk : k ≠ 0) : DO m (thM m k) k g := ⟨upI_r (by omega), DOk.rf.t, YFr.rf.uI (by omega), thM_at, hY.2.u (by omega), fun h => absurd h hk⟩
theorem DO.rs {m : Mm} {g : Gm} {k a b : Int} (hY : YIs m g) (hk : k ≠ 0) : DO m (rsM m k a b) k (rfG g a b) := ⟨rsM_r (by omega), DOk.rf.rs, YFr.rf.rs, rsM_6, hY.2.rs, fun h => absurd h hk⟩
theorem RF.th {m : Mm} {k : Int} (hk : k ≠ 2) : RF m (thM m k) k := ⟨fun _ => upI_no (by omega), fun h => absurd h hk⟩
theorem RF.rs {m : Mm} {a b : Int} {k : Int} (hk : k ≠ 1) : RF m (rsM m k a b) k := ⟨fun h => absurd h hk, fun _ => rsM_9⟩
theorem RF.no {m m' : Mm} : RF m m' 0 := ⟨fun h => absurd h (by decide), fun h => absurd h (by decide)⟩
theorem r30 : (0 : Int) ≤ 0 ∧ (0 : Int) ≤ 3 := by decide
theorem r31 : (0 : Int) ≤ 1 ∧ (1 : Int) ≤ 3 := by decide
theorem r32 : (0 : Int) ≤ 2 ∧ (2 : Int) ≤ 3 := by decide
theorem r33 : (0 : Int) ≤ 3 ∧ (3 : Int) ≤ 3 := by decide
theorem d_guard_rng {g : Gm} {x : Int} : 0 ≤ (d_guard g x).1 ∧ (d_guard g x).1 ≤ 3 := by
  unfold d_guard
  split
  · first | exact r30 | exact r31 | exact r32 | exact r33
  · split
    · first | exact r30 | exact r31 | exact r32 | exact r33
    · first | exact r30 | exact r31 | exact r32 | exact r33
theorem d_visitor_rng {g : Gm} {x f : Int} : 0 ≤ (d_visitor g x f).1 ∧ (d_visitor g x f).1 ≤ 3 := by
  unfold d_visitor
  split
  · first | exact r30 | exact r31 | exact r32 | exact r33
  · split
    · first | exact r30 | exact r31 | exact r32 | exact r33
    · split
      · first | exact r30 | exact r31 | exact r32 | exact r33
      · first | exact r30 | exact r31 | exact r32 | exact r33
theorem d_forget_rng {g : Gm} {v : Int} : 0 ≤ (d_forget g v).1 ∧ (d_forget g v).1 ≤ 3 := by
  unfold d_forget
  split
  · first | exact r30 | exact r31 | exact r32 | exact r33
  · first | exact r30 | exact r31 | exact r32 | exact r33
theorem d_sets_rng {g : Gm} {n x : Int} {j : Nat} {b : Bool} : 0 ≤ (d_sets g n j x b).1 ∧ (d_sets g n j x b).1 ≤ 3 := by
  unfold d_sets
  split
  · first | exact r30 | exact r31 | exact r32 | exact r33
  · split
    · first | exact r30 | exact r31 | exact r32 | exact r33
    · split
      · first | exact r30 | exact r31 | exact r32 | exact r33
      · first | exact r30 | exact r31 | exact r32 | exact r33
/-- only the row has changed -/
def OF (m m' : Mm) : Prop := YFr m m' ∧ ∀ n, n ≠ 1088 → m'.1 n = m.1 n
theorem OF.rf {m : Mm} : OF m m := ⟨YFr.rf, fun _ _ => rfl⟩
theorem OF.dk {m m' : Mm} (h : OF m m') : DOk m m' := ⟨h.2 1536 (by omega), fun j _ => by rw [h.2 1024 (by omega)]⟩
theorem OF.uI {m m' : Mm} {i : Nat} {v : Int} (h : OF m m') (_e : 0 ≤ 0) : OF m (upI m' 1088 i v) := ⟨h.1.uI (by omega), fun n hn => by rw [upI_r hn]; exact h.2 n hn⟩
set_option maxHeartbeats 4000000 in
set_option maxRecDepth 100000 in
theorem c_X4_doGuard {G : GG} {l : Launch} (hfl : l.stackTraces = false) (hG : MW G) {m : Mm} {g : Gm} {T : Int} (hY : YIs m g) (hT : gtOk T g.r) (h6 : m.1 1024 6 = 0) {x : Int} (hxR : -2147483648 ≤ x ∧ x ≤ 2147483647) : CT G l yX4_doGuard cX4_doGuard 4 (some .int) (RM 2 0 0) [.ref 1024, vI x] m (fun r' m' => ∃ v9, r' = some (vI v9) ∧ DO m m' (d_guard g x).1 (d_guard g x).2.2 ∧ RF m m' (d_guard g x).1 ∧ ((d_guard g x).1 = 0 → v9 = (d_guard g x).2.1)) (fun _ _ => False) := by
  refine CT.of RX4 [(0, .ref 1024), (1, vI x)] hfl (by decide +kernel) rfl rfl (Nat.le_of_ble_eq_true rfl) ?_
  intro E ok en hml hEl htab
  have hR : e_R E = RM 2 0 0 := en.2.2.2
  have hn0 : 0 < (e_c E).maxLocals := by rw [hml]; decide
  have hn1 : 1 < (e_c E).maxLocals := by rw [hml]; decide
  have hn2 : 2 < (e_c E).maxLocals := by rw [hml]; decide
  have hn3 : 3 < (e_c E).maxLocals := by rw [hml]; decide
  have hs := hY.1
  obtain ⟨b0, b1, hvb, hgb⟩ := id hT
  have s0 := hs 0 (by omega)
  have s1 := hs 1 (by omega)
  refine ga_aload_n ok 0 rfl rfl dX4_doGuard_0 ?_
  refine gf_X4_9 ok hG rfl dX4_doGuard_1 ?_
  refine ga_iconst ok dX4_doGuard_4 ?_
  refine ga_iaload_ia ok (ar_ms hG rfl) (by omega) dX4_doGuard_5 ?_
  rw [show (m.1 1088 (0 : Int).toNat) = g.r 0 from s0]
  refine ga_istore_n ok 2 rfl hn2 dX4_doGuard_6 ?_
  refine ga_iload_n ok 1 rfl rfl dX4_doGuard_7 ?_
  refine ga_iconst ok dX4_doGuard_8 ?_
  refine ga_bipush ok dX4_doGuard_9 (by decide) ?_
  refine gd_S_3 ok lk_X4_61 (c_X4_in ok.fl hG (x := x) (a := 1) (b := 64) hxR (by omega) (by omega)) (by rw [hR]; exact ⟨by decide, by decide, by decide, by decide⟩) (Nat.le_of_ble_eq_true rfl) dX4_doGuard_11 ?_
  refine ga_if_ne ok 23 (by decide) (b2i_rng _) dX4_doGuard_14 (fun c_14 => ?_) (fun c_14 => ?_)
  · have f_14 := of_decide_eq_true (b2i_n0.mp c_14)
    refine ga_iload_n ok 2 rfl rfl dX4_doGuard_23 ?_
    refine ga_iconst ok dX4_doGuard_24 ?_
    refine ga_icmp_ne ok 36 (by decide) (by omega) (by omega) dX4_doGuard_25 (fun c_25 => ?_) (fun c_25 => ?_)
    · refine ga_iconst ok dX4_doGuard_36 ?_
      refine ga_istore_n ok 3 rfl hn3 dX4_doGuard_37 ?_
      have loop : ∀ (i : Int) (M : Mm), (0 ≤ i ∧ i ≤ 27 ∧ OF m M ∧ ∀ k, k < 134 → M.1 1088 k = if 26 + 27 * (g.r 0).toNat ≤ k ∧ (k : Int) < 26 + 27 * g.r 0 + i then nS x (k - (26 + 27 * (g.r 0).toNat)) else g.r k) → WA G E 0 0 38 [(3, vI i), (2, vI (g.r 0)), (0, .ref 1024), (1, vI x)] [] M := by
        refine wl2 _ (fun i _ => (27 - i).toNat) _ ?_
        intro i M hi ih
        obtain ⟨i0, i1, ho, hall⟩ := hi
        have hidx : (26 + 27 * g.r 0 + i).toNat = 26 + 27 * (g.r 0).toNat + i.toNat := by omega
        have hM0 : M.1 1088 (0 : Int).toNat = g.r 0 := by have := hall 0 (by omega); rw [if_neg (by omega)] at this; exact this
        refine ga_iload_n ok 3 rfl rfl dX4_doGuard_38 ?_
        refine ga_bipush ok dX4_doGuard_39 (by decide) ?_
        refine ga_icmp_ge ok 69 (by decide) (by omega) (by omega) dX4_doGuard_41 (fun c_41 => ?_) (fun c_41 => ?_)
        · refine ga_aload_n ok 0 rfl rfl dX4_doGuard_69 ?_
          refine gf_X4_9 ok hG rfl dX4_doGuard_70 ?_
          refine ga_iconst ok dX4_doGuard_73 ?_
          refine ga_dup2 ok dX4_doGuard_74 rfl rfl ?_
          refine ga_iaload_ia ok (ar_ms hG rfl) (by omega) dX4_doGuard_75 ?_
          rw [hM0]
          refine ga_iconst ok dX4_doGuard_76 ?_
          refine ga_iadd ok dX4_doGuard_77 ?_
          refine ga_iastore_ia ok (ar_ms hG rfl) (by omega) dX4_doGuard_78 ?_
          refine ga_iload_n ok 2 rfl rfl dX4_doGuard_79 ?_
          exact ga_ireturn ok en rfl rfl (by decide) (by decide) dX4_doGuard_80 (by
        have hd : (d_guard g x) = (0, g.r 0, nwG g (adG g.r x)) := by unfold d_guard; rw [if_neg (by omega), if_neg (by omega)]
        rw [hd]
        exact ⟨_, rfl, ⟨by rw [upI_r (by omega)]; exact (ho.2 1152 (by omega)), ho.dk.s, ho.1.uI (by omega), by rw [upI_r (by omega), ho.2 1024 (by omega)]; exact h6, hY.2.o (fun n hn => by rw [upI_r (by omega)]; exact ho.2 n (by omega)), fun _ k hk => by
          show _ = adG g.r x k
          unfold adG
          by_cases e : k = 0
          · subst e; rw [if_pos rfl]; exact upI_at
          · rw [upI_no (by omega), if_neg e, hall k hk, show i = 27 by omega]
            by_cases e2 : 26 + 27 * (g.r 0).toNat ≤ k ∧ k < 26 + 27 * ((g.r 0).toNat + 1)
            · rw [if_pos e2, if_pos ⟨e2.1, by omega⟩]
            · rw [if_neg e2, if_neg (fun h => e2 ⟨h.1, by omega⟩)]⟩, RF.no, fun _ => rfl⟩)
        · refine ga_aload_n ok 0 rfl rfl dX4_doGuard_44 ?_
          refine gf_X4_9 ok hG rfl dX4_doGuard_45 ?_
          refine ga_iload_n ok 2 rfl rfl dX4_doGuard_48 ?_
          refine ga_iload_n ok 3 rfl rfl dX4_doGuard_49 ?_
          refine gd_S_2 ok lk_X4_73 (c_X4_at ok.fl hG (g := g.r 0) (k := i) (by omega) (by omega)) (by rw [hR]; exact ⟨by decide, by decide, by decide, by decide⟩) (Nat.le_of_ble_eq_true rfl) dX4_doGuard_50 ?_
          refine ga_iload_n ok 3 rfl rfl dX4_doGuard_53 ?_
          refine ga_if_ne ok 61 (by decide) (by omega) dX4_doGuard_54 (fun c_54 => ?_) (fun c_54 => ?_)
          · refine ga_iconst ok dX4_doGuard_61 ?_
            refine ga_iastore_ia ok (ar_ms hG rfl) (by omega) dX4_doGuard_62 ?_
            refine ga_iinc ok rfl hn3 dX4_doGuard_63 ?_
            refine ga_goto ok 38 (by decide) dX4_doGuard_66 ?_
            exact WA.re (by exact ⟨rfl, rfl, rfl, rfl, trivial⟩) (ih (i + 1) _ ⟨by omega, by omega, ho.uI (by omega), fun k hk => by
              rw [hidx]
              by_cases e : k = 26 + 27 * (g.r 0).toNat + i.toNat
              · subst e
                rw [upI_at, if_pos ⟨by omega, by omega⟩]
                unfold nS
                rw [if_neg (by omega)]
              · rw [upI_no (Or.inr e), hall k hk]
                by_cases e2 : 26 + 27 * (g.r 0).toNat ≤ k ∧ (k : Int) < 26 + 27 * g.r 0 + i
                · rw [if_pos e2, if_pos ⟨by omega, by omega⟩]
                · rw [if_neg e2, if_neg (fun h => e2 ⟨h.1, by omega⟩)]⟩ (by omega))
          · refine ga_iload_n ok 1 rfl rfl dX4_doGuard_57 ?_
            refine ga_goto ok 62 (by decide) dX4_doGuard_58 ?_
            refine ga_iastore_ia ok (ar_ms hG rfl) (by omega) dX4_doGuard_62 ?_
            refine ga_iinc ok rfl hn3 dX4_doGuard_63 ?_
            refine ga_goto ok 38 (by decide) dX4_doGuard_66 ?_
            exact WA.re (by exact ⟨rfl, rfl, rfl, rfl, trivial⟩) (ih (i + 1) _ ⟨by omega, by omega, ho.uI (by omega), fun k hk => by
              rw [hidx]
              by_cases e : k = 26 + 27 * (g.r 0).toNat + i.toNat
              · subst e
                rw [upI_at, if_pos ⟨by omega, by omega⟩]
                unfold nS
                rw [if_pos (by omega)]
              · rw [upI_no (Or.inr e), hall k hk]
                by_cases e2 : 26 + 27 * (g.r 0).toNat ≤ k ∧ (k : Int) < 26 + 27 * g.r 0 + i
                · rw [if_pos e2, if_pos ⟨by omega, by omega⟩]
                · rw [if_neg e2, if_neg (fun h => e2 ⟨h.1, by omega⟩)]⟩ (by omega))
      exact WA.re (by exact ⟨rfl, rfl, rfl, rfl, trivial⟩) (loop 0 m ⟨by omega, by omega, OF.rf, fun k hk => by rw [if_neg (by omega)]; exact hs k hk⟩)
    · refine ga_aload_n ok 0 rfl rfl dX4_doGuard_28 ?_
      refine ga_iconst ok dX4_doGuard_29 ?_
      refine ga_iconst ok dX4_doGuard_30 ?_
      refine ga_iconst ok dX4_doGuard_31 ?_
      refine gd_X4_3 ok hG rfl lk_X4_69 rfl (c_X4_refuse ok.fl hG (p := 2) (a := 1) (b := 4)) (by rw [hR]; exact ⟨by decide, by decide, by decide, by decide⟩) (Nat.le_of_ble_eq_true rfl) dX4_doGuard_32 ?_
      exact ga_ireturn ok en rfl rfl (by decide) (by decide) dX4_doGuard_35 (by
  have hd : (d_guard g x) = (2, 0, rfG g 1 4) := by unfold d_guard; rw [if_neg (by omega), if_pos (by omega)]
  rw [hd]
  exact ⟨_, rfl, DO.rs hY (by decide), RF.rs (by decide), fun h => absurd (show (2 : Int) = 0 from h) (by decide)⟩)
  · have f_14 := of_decide_eq_false (b2i_0.mp c_14)
    refine ga_aload_n ok 0 rfl rfl dX4_doGuard_17 ?_
    refine ga_iconst ok dX4_doGuard_18 ?_
    refine gd_X4_1 ok hG rfl lk_X4_65 rfl (c_X4_fails ok.fl hG (k := 1)) (by rw [hR]; exact ⟨by decide, by decide, by decide, by decide⟩) (Nat.le_of_ble_eq_true rfl) dX4_doGuard_19 ?_
    exact ga_ireturn ok en rfl rfl (by decide) (by decide) dX4_doGuard_22 (by
  have hd : (d_guard g x) = (1, 0, g) := by unfold d_guard; rw [if_pos (by omega)]
  rw [hd]
  exact ⟨_, rfl, DO.rf hY (by decide), RF.th (by decide), fun h => absurd (show (1 : Int) = 0 from h) (by decide)⟩)
set_option maxHeartbeats 4000000 in
set_option maxRecDepth 100000 in
theorem c_X4_guard {G : GG} {l : Launch} (hfl : l.stackTraces = false) (hG : MW G) {m : Mm} {g : Gm} {T : Int} (hY : YIs m g) (hT : gtOk T g.r) {x : Int} (hxR : -2147483648 ≤ x ∧ x ≤ 2147483647) : CT G l yX4_guard cX4_guard 2 (some .int) (RM 12 0 0) [.ref 1024, vI x] m (fun r' m' => ∃ v9, r' = some (vI v9) ∧ ((sp_guard g x).1 = 0 → v9 = (sp_guard g x).2.1) ∧ YIs m' (sp_guard g x).2.2 ∧ m'.1 1024 6 = (sp_guard g x).1 ∧ YFr m m') (fun _ _ => False) := by
  refine CT.of RX4 [(0, .ref 1024), (1, vI x)] hfl (by decide +kernel) rfl rfl (Nat.le_of_ble_eq_true rfl) ?_
  intro E ok en hml hEl htab
  have hR : e_R E = RM 12 0 0 := en.2.2.2
  have hn0 : 0 < (e_c E).maxLocals := by rw [hml]; decide
  have hn1 : 1 < (e_c E).maxLocals := by rw [hml]; decide
  have hs := hY.1
  obtain ⟨b0, b1, hvb, hgb⟩ := id hT
  have s0 := hs 0 (by omega)
  have s1 := hs 1 (by omega)
  refine ga_aload_n ok 0 rfl rfl dX4_guard_0 ?_
  refine gv_X4_0 ok hG rfl lk_X4_77 rfl (c_X4_keep ok.fl hG) (by rw [hR]; exact ⟨by decide, by decide, by decide, by decide⟩) (Nat.le_of_ble_eq_true rfl) dX4_guard_1 ?_
  refine ga_aload_n ok 0 rfl rfl dX4_guard_4 ?_
  refine ga_aload_n ok 0 rfl rfl dX4_guard_5 ?_
  refine ga_iload_n ok 1 rfl rfl dX4_guard_6 ?_
  obtain ⟨y1, y2, y3, y4⟩ := keepY hY
  refine gc_X4_1 ok hG rfl lk_X4_80 rfl (c_X4_doGuard ok.fl hG y1 hT y2 hxR) (by rw [hR]; exact ⟨by decide, by decide, by decide, by decide⟩) (Nat.le_of_ble_eq_true rfl) dX4_guard_7 (fun r9 m2 hq => ?_) (fun _ _ h => h.elim)
  obtain ⟨v9, hr9, hD, -, hv9⟩ := hq
  subst hr9
  obtain ⟨q1, q2, q3, q4, q5, q6⟩ := hD
  simp only [Option.toList_some, List.singleton_append]
  have hk9 : 0 ≤ (d_guard g x).1 ∧ (d_guard g x).1 ≤ 3 := d_guard_rng
  refine gc_X4_1 ok hG rfl lk_X4_83 rfl (c_X4_ends ok.fl hG q5 q4 hk9 (r0 := g.r) (fun q hq => by rw [q1]; exact y3 q hq)) (by rw [hR]; exact ⟨by decide, by decide, by decide, by decide⟩) (Nat.le_of_ble_eq_true rfl) dX4_guard_10 (fun r9 m3 hq => ?_) (fun _ _ h => h.elim)
  obtain ⟨hr9, e2, e3, e4, e5⟩ := hq
  subst hr9
  simp only [Option.toList_some, List.singleton_append]
  exact ga_ireturn ok en rfl rfl (by decide) (by decide) dX4_guard_13 (by
  rw [fin_guard]
  refine ⟨_, rfl, fun h => ?_, ?_, e3, y4.tr (q3.tr e2)⟩
  · have h0 : (d_guard g x).1 = 0 := h
    show (if 0 < (d_guard g x).1 then 0 else v9) = (if (d_guard g x).1 = 0 then (d_guard g x).2.1 else 0)
    rw [if_neg (by omega), if_pos h0]; exact hv9 h0
  · show YIs _ (if (d_guard g x).1 = 0 then kpG (d_guard g x).2.2 g.r else nwG (d_guard g x).2.2 g.r)
    by_cases h0 : (d_guard g x).1 = 0
    · rw [if_pos h0]; exact e5 h0 (q6 h0)
    · rw [if_neg h0]; exact e4 (by omega))
set_option maxHeartbeats 4000000 in
set_option maxRecDepth 100000 in
theorem c_X4_sets {G : GG} {l : Launch} (hfl : l.stackTraces = false) (hG : MW G) {m : Mm} {g : Gm} {T : Int} (hY : YIs m g) (hT : gtOk T g.r) (h6 : m.1 1024 6 = 0) {n : Int} (hnR : -2147483648 ≤ n ∧ n ≤ 2147483647) {x : Int} (hxR : -2147483648 ≤ x ∧ x ≤ 2147483647) {j : Nat} (hj : j < 2) {b : Bool} : CT G l yX4_sets cX4_sets 6 (some .int) (RM 2 0 0) [.ref 1024, vI n, vI (j : Int), vI x, vI (b2i b)] m (fun r' m' => ∃ v9, r' = some (vI v9) ∧ DO m m' (d_sets g n j x b).1 (d_sets g n j x b).2.2 ∧ True ∧ ((d_sets g n j x b).1 = 0 → v9 = (d_sets g n j x b).2.1)) (fun _ _ => False) := by
  refine CT.of RX4 [(0, .ref 1024), (1, vI n), (2, vI (j : Int)), (3, vI x), (4, vI (b2i b))] hfl (by decide +kernel) rfl rfl (Nat.le_of_ble_eq_true rfl) ?_
  intro E ok en hml hEl htab
  have hR : e_R E = RM 2 0 0 := en.2.2.2
  have hn0 : 0 < (e_c E).maxLocals := by rw [hml]; decide
  have hn1 : 1 < (e_c E).maxLocals := by rw [hml]; decide
  have hn2 : 2 < (e_c E).maxLocals := by rw [hml]; decide
  have hn3 : 3 < (e_c E).maxLocals := by rw [hml]; decide
  have hn4 : 4 < (e_c E).maxLocals := by rw [hml]; decide
  have hn5 : 5 < (e_c E).maxLocals := by rw [hml]; decide
  have hs := hY.1
  obtain ⟨b0, b1, hvb, hgb⟩ := id hT
  have s0 := hs 0 (by omega)
  have s1 := hs 1 (by omega)
  refine ga_aload_n ok 0 rfl rfl dX4_sets_0 ?_
  refine ga_iload_n ok 1 rfl rfl dX4_sets_1 ?_
  refine gd_X4_1 ok hG rfl lk_X4_86 rfl (c_X4_isGuard ok.fl hG hs hT hnR) (by rw [hR]; exact ⟨by decide, by decide, by decide, by decide⟩) (Nat.le_of_ble_eq_true rfl) dX4_sets_2 ?_
  refine ga_if_eq ok 13 (by decide) (b2i_rng _) dX4_sets_5 (fun c_5 => ?_) (fun c_5 => ?_)
  · have f_5 := of_decide_eq_false (b2i_0.mp c_5)
    refine ga_aload_n ok 0 rfl rfl dX4_sets_13 ?_
    refine ga_aload_n ok 0 rfl rfl dX4_sets_14 ?_
    refine ga_iload_n ok 1 rfl rfl dX4_sets_15 ?_
    refine gd_X4_1 ok hG rfl lk_X4_86 rfl (c_X4_isGuard ok.fl hG hs hT hnR) (by rw [hR]; exact ⟨by decide, by decide, by decide, by decide⟩) (Nat.le_of_ble_eq_true rfl) dX4_sets_16 ?_
    refine ga_if_eq ok 26 (by decide) (b2i_rng _) dX4_sets_19 (fun c_19 => ?_) (fun c_19 => ?_)
    · have f_19 := of_decide_eq_false (b2i_0.mp c_19)
      refine ga_iconst ok dX4_sets_26 ?_
      refine gd_X4_1 ok hG rfl lk_X4_65 rfl (c_X4_fails ok.fl hG ) (by rw [hR]; exact ⟨by decide, by decide, by decide, by decide⟩) (Nat.le_of_ble_eq_true rfl) dX4_sets_27 ?_
      exact ga_ireturn ok en rfl rfl (by decide) (by decide) dX4_sets_30 (by
  have hd : (d_sets g n j x b) = (1, 0, g) := by unfold d_sets; rw [if_pos (by omega)]
  rw [hd]
  exact ⟨_, rfl, DO.rf hY (by decide), trivial, fun h => absurd (show (1 : Int) = 0 from h) (by decide)⟩)
    · have f_19 := of_decide_eq_true (b2i_n0.mp c_19)
      refine ga_iconst ok dX4_sets_22 ?_
      refine ga_goto ok 27 (by decide) dX4_sets_23 ?_
      refine gd_X4_1 ok hG rfl lk_X4_65 rfl (c_X4_fails ok.fl hG ) (by rw [hR]; exact ⟨by decide, by decide, by decide, by decide⟩) (Nat.le_of_ble_eq_true rfl) dX4_sets_27 ?_
      exact ga_ireturn ok en rfl rfl (by decide) (by decide) dX4_sets_30 (by exfalso; omega)
  · have f_5 := of_decide_eq_true (b2i_n0.mp c_5)
    refine ga_iload ok rfl dX4_sets_8 ?_
    refine ga_if_ne ok 31 (by decide) (b2i_rng _) dX4_sets_10 (fun c_10 => ?_) (fun c_10 => ?_)
    · have f_10 := b2i_n0.mp c_10
      refine ga_aload_n ok 0 rfl rfl dX4_sets_31 ?_
      refine gf_X4_9 ok hG rfl dX4_sets_32 ?_
      refine ga_iload_n ok 1 rfl rfl dX4_sets_35 ?_
      refine ga_iload_n ok 2 rfl rfl dX4_sets_36 ?_
      refine gd_S_2 ok lk_X4_73 (c_X4_at ok.fl hG (g := n) (k := (j : Int)) (by omega) (by omega)) (by rw [hR]; exact ⟨by decide, by decide, by decide, by decide⟩) (Nat.le_of_ble_eq_true rfl) dX4_sets_37 ?_
      refine ga_iaload_ia ok (ar_ms hG rfl) (by omega) dX4_sets_40 ?_
      rw [show (26 + 27 * n + (j : Int)).toNat = 26 + 27 * n.toNat + j by omega]
      rw [hs.g (by omega) (by omega)]
      have hj9 : -2147483648 ≤ rg g.r n.toNat j ∧ rg g.r n.toNat j ≤ 2147483647 := by
        have h9 := hgb n.toNat (by omega)
        have h0 := h9.1
        have h1 := h9.2.1
        rcases (show j = 0 ∨ j = 1 by omega) with rfl | rfl <;> omega
      refine ga_istore ok hn5 dX4_sets_41 ?_
      refine ga_iload ok rfl dX4_sets_43 ?_
      refine ga_iload_n ok 3 rfl rfl dX4_sets_45 ?_
      refine ga_icmp_ne ok 57 (by decide) (by omega) (by omega) dX4_sets_46 (fun c_46 => ?_) (fun c_46 => ?_)
      · refine ga_aload_n ok 0 rfl rfl dX4_sets_57 ?_
        refine gf_X4_9 ok hG rfl dX4_sets_58 ?_
        refine ga_iload_n ok 1 rfl rfl dX4_sets_61 ?_
        refine ga_iload_n ok 2 rfl rfl dX4_sets_62 ?_
        refine gd_S_2 ok lk_X4_73 (c_X4_at ok.fl hG (g := n) (k := (j : Int)) (by omega) (by omega)) (by rw [hR]; exact ⟨by decide, by decide, by decide, by decide⟩) (Nat.le_of_ble_eq_true rfl) dX4_sets_63 ?_
        refine ga_iload_n ok 3 rfl rfl dX4_sets_66 ?_
        refine ga_iastore_ia ok (ar_ms hG rfl) (by omega) dX4_sets_67 ?_
        refine ga_iload ok rfl dX4_sets_68 ?_
        exact ga_ireturn ok en rfl rfl (by decide) (by decide) dX4_sets_70 (by
  have hd : (d_sets g n j x b) = (0, rg g.r n.toNat j, nwG g (stG g.r n.toNat (rtS (rg g.r n.toNat) j x))) := by unfold d_sets; rw [if_neg (by omega), if_neg (by rw [f_10]; exact fun e => Bool.noConfusion e), if_neg c_46]
  rw [hd]
  exact ⟨_, rfl, ⟨upI_r (by omega), DOk.rf.s, YFr.rf.uI (by omega), by rw [upI_r (by omega)]; exact h6, hY.2.s, fun _ k hk => by
    show _ = stG g.r n.toNat (rtS (rg g.r n.toNat) j x) k
    rw [show (26 + 27 * n + (j : Int)).toNat = 26 + 27 * n.toNat + j by omega]
    unfold stG
    by_cases e : k = 26 + 27 * n.toNat + j
    · subst e
      rw [upI_at, if_pos ⟨by omega, by omega⟩]
      unfold rtS
      rw [if_pos (by omega)]
    · rw [upI_no (Or.inr e), hs k hk]
      by_cases e2 : 26 + 27 * n.toNat ≤ k ∧ k < 53 + 27 * n.toNat
      · rw [if_pos e2]
        unfold rtS rg
        rw [if_neg (by omega), show 26 + 27 * n.toNat + (k - (26 + 27 * n.toNat)) = k by omega]
      · rw [if_neg e2]⟩, trivial, fun _ => rfl⟩)
      · refine ga_aload_n ok 0 rfl rfl dX4_sets_49 ?_
        refine ga_iconst ok dX4_sets_50 ?_
        refine ga_iconst ok dX4_sets_51 ?_
        refine ga_iload_n ok 3 rfl rfl dX4_sets_52 ?_
        refine gd_X4_3 ok hG rfl lk_X4_69 rfl (c_X4_refuse ok.fl hG (p := 3) (a := 4) (b := x)) (by rw [hR]; exact ⟨by decide, by decide, by decide, by decide⟩) (Nat.le_of_ble_eq_true rfl) dX4_sets_53 ?_
        exact ga_ireturn ok en rfl rfl (by decide) (by decide) dX4_sets_56 (by
  have hd : (d_sets g n j x b) = (3, 0, rfG g 4 x) := by unfold d_sets; rw [if_neg (by omega), if_neg (by rw [f_10]; exact fun e => Bool.noConfusion e), if_pos c_46]
  rw [hd]
  exact ⟨_, rfl, DO.rs hY (by decide), trivial, fun h => absurd (show (3 : Int) = 0 from h) (by decide)⟩)
    · have f_10 := b2i_0.mp c_10
      refine ga_aload_n ok 0 rfl rfl dX4_sets_13 ?_
      refine ga_aload_n ok 0 rfl rfl dX4_sets_14 ?_
      refine ga_iload_n ok 1 rfl rfl dX4_sets_15 ?_
      refine gd_X4_1 ok hG rfl lk_X4_86 rfl (c_X4_isGuard ok.fl hG hs hT hnR) (by rw [hR]; exact ⟨by decide, by decide, by decide, by decide⟩) (Nat.le_of_ble_eq_true rfl) dX4_sets_16 ?_
      refine ga_if_eq ok 26 (by decide) (b2i_rng _) dX4_sets_19 (fun c_19 => ?_) (fun c_19 => ?_)
      · have f_19 := of_decide_eq_false (b2i_0.mp c_19)
        refine ga_iconst ok dX4_sets_26 ?_
        refine gd_X4_1 ok hG rfl lk_X4_65 rfl (c_X4_fails ok.fl hG ) (by rw [hR]; exact ⟨by decide, by decide, by decide, by decide⟩) (Nat.le_of_ble_eq_true rfl) dX4_sets_27 ?_
        exact ga_ireturn ok en rfl rfl (by decide) (by decide) dX4_sets_30 (by exfalso; omega)
      · have f_19 := of_decide_eq_true (b2i_n0.mp c_19)
        refine ga_iconst ok dX4_sets_22 ?_
        refine ga_goto ok 27 (by decide) dX4_sets_23 ?_
        refine gd_X4_1 ok hG rfl lk_X4_65 rfl (c_X4_fails ok.fl hG ) (by rw [hR]; exact ⟨by decide, by decide, by decide, by decide⟩) (Nat.le_of_ble_eq_true rfl) dX4_sets_27 ?_
        exact ga_ireturn ok en rfl rfl (by decide) (by decide) dX4_sets_30 (by
  have hd : (d_sets g n j x b) = (2, 0, g) := by unfold d_sets; rw [if_neg (by omega), if_pos f_10]
  rw [hd]
  exact ⟨_, rfl, DO.rf hY (by decide), trivial, fun h => absurd (show (2 : Int) = 0 from h) (by decide)⟩)
set_option maxHeartbeats 4000000 in
set_option maxRecDepth 100000 in
theorem c_X4_rate {G : GG} {l : Launch} (hfl : l.stackTraces = false) (hG : MW G) {m : Mm} {g : Gm} {T : Int} (hY : YIs m g) (hT : gtOk T g.r) {n : Int} (hnR : -2147483648 ≤ n ∧ n ≤ 2147483647) {x : Int} (hxR : -2147483648 ≤ x ∧ x ≤ 2147483647) : CT G l yX4_rate cX4_rate 3 (some .int) (RM 12 0 0) [.ref 1024, vI n, vI x] m (fun r' m' => ∃ v9, r' = some (vI v9) ∧ ((sp_rate g n x).1 = 0 → v9 = (sp_rate g n x).2.1) ∧ YIs m' (sp_rate g n x).2.2 ∧ m'.1 1024 6 = (sp_rate g n x).1 ∧ YFr m m') (fun _ _ => False) := by
  refine CT.of RX4 [(0, .ref 1024), (1, vI n), (2, vI x)] hfl (by decide +kernel) rfl rfl (Nat.le_of_ble_eq_true rfl) ?_
  intro E ok en hml hEl htab
  have hR : e_R E = RM 12 0 0 := en.2.2.2
  have hn0 : 0 < (e_c E).maxLocals := by rw [hml]; decide
  have hn1 : 1 < (e_c E).maxLocals := by rw [hml]; decide
  have hn2 : 2 < (e_c E).maxLocals := by rw [hml]; decide
  have hs := hY.1
  obtain ⟨b0, b1, hvb, hgb⟩ := id hT
  have s0 := hs 0 (by omega)
  have s1 := hs 1 (by omega)
  refine ga_aload_n ok 0 rfl rfl dX4_rate_0 ?_
  refine gv_X4_0 ok hG rfl lk_X4_77 rfl (c_X4_keep ok.fl hG) (by rw [hR]; exact ⟨by decide, by decide, by decide, by decide⟩) (Nat.le_of_ble_eq_true rfl) dX4_rate_1 ?_
  refine ga_aload_n ok 0 rfl rfl dX4_rate_4 ?_
  refine ga_aload_n ok 0 rfl rfl dX4_rate_5 ?_
  refine ga_iload_n ok 1 rfl rfl dX4_rate_6 ?_
  refine ga_iconst ok dX4_rate_7 ?_
  refine ga_iload_n ok 2 rfl rfl dX4_rate_8 ?_
  refine ga_iload_n ok 2 rfl rfl dX4_rate_9 ?_
  refine ga_iconst ok dX4_rate_10 ?_
  refine ga_bipush ok dX4_rate_11 (by decide) ?_
  refine gd_S_3 ok lk_X4_61 (c_X4_in ok.fl hG (x := x) (a := 1) (b := 64) hxR (by omega) (by omega)) (by rw [hR]; exact ⟨by decide, by decide, by decide, by decide⟩) (Nat.le_of_ble_eq_true rfl) dX4_rate_13 ?_
  obtain ⟨y1, y2, y3, y4⟩ := keepY hY
  refine gc_X4_4 ok hG rfl lk_X4_90 rfl (c_X4_sets ok.fl hG y1 hT y2 hnR hxR (j := 0) (by omega) (b := (decide (1 ≤ x ∧ x ≤ 64)))) (by rw [hR]; exact ⟨by decide, by decide, by decide, by decide⟩) (Nat.le_of_ble_eq_true rfl) dX4_rate_16 (fun r9 m2 hq => ?_) (fun _ _ h => h.elim)
  obtain ⟨v9, hr9, hD, -, hv9⟩ := hq
  subst hr9
  obtain ⟨q1, q2, q3, q4, q5, q6⟩ := hD
  simp only [Option.toList_some, List.singleton_append]
  have hk9 : 0 ≤ (d_sets g n 0 x (decide (1 ≤ x ∧ x ≤ 64))).1 ∧ (d_sets g n 0 x (decide (1 ≤ x ∧ x ≤ 64))).1 ≤ 3 := d_sets_rng
  refine gc_X4_1 ok hG rfl lk_X4_83 rfl (c_X4_ends ok.fl hG q5 q4 hk9 (r0 := g.r) (fun q hq => by rw [q1]; exact y3 q hq)) (by rw [hR]; exact ⟨by decide, by decide, by decide, by decide⟩) (Nat.le_of_ble_eq_true rfl) dX4_rate_19 (fun r9 m3 hq => ?_) (fun _ _ h => h.elim)
  obtain ⟨hr9, e2, e3, e4, e5⟩ := hq
  subst hr9
  simp only [Option.toList_some, List.singleton_append]
  exact ga_ireturn ok en rfl rfl (by decide) (by decide) dX4_rate_22 (by
  rw [fin_rate]
  refine ⟨_, rfl, fun h => ?_, ?_, e3, y4.tr (q3.tr e2)⟩
  · have h0 : (d_sets g n 0 x (decide (1 ≤ x ∧ x ≤ 64))).1 = 0 := h
    show (if 0 < (d_sets g n 0 x (decide (1 ≤ x ∧ x ≤ 64))).1 then 0 else v9) = (if (d_sets g n 0 x (decide (1 ≤ x ∧ x ≤ 64))).1 = 0 then (d_sets g n 0 x (decide (1 ≤ x ∧ x ≤ 64))).2.1 else 0)
    rw [if_neg (by omega), if_pos h0]; exact hv9 h0
  · show YIs _ (if (d_sets g n 0 x (decide (1 ≤ x ∧ x ≤ 64))).1 = 0 then kpG (d_sets g n 0 x (decide (1 ≤ x ∧ x ≤ 64))).2.2 g.r else nwG (d_sets g n 0 x (decide (1 ≤ x ∧ x ≤ 64))).2.2 g.r)
    by_cases h0 : (d_sets g n 0 x (decide (1 ≤ x ∧ x ≤ 64))).1 = 0
    · rw [if_pos h0]; exact e5 h0 (q6 h0)
    · rw [if_neg h0]; exact e4 (by omega))
set_option maxHeartbeats 4000000 in
set_option maxRecDepth 100000 in
theorem c_X4_caution {G : GG} {l : Launch} (hfl : l.stackTraces = false) (hG : MW G) {m : Mm} {g : Gm} {T : Int} (hY : YIs m g) (hT : gtOk T g.r) {n : Int} (hnR : -2147483648 ≤ n ∧ n ≤ 2147483647) {x : Int} (hxR : -2147483648 ≤ x ∧ x ≤ 2147483647) : CT G l yX4_caution cX4_caution 3 (some .int) (RM 12 0 0) [.ref 1024, vI n, vI x] m (fun r' m' => ∃ v9, r' = some (vI v9) ∧ ((sp_caution g n x).1 = 0 → v9 = (sp_caution g n x).2.1) ∧ YIs m' (sp_caution g n x).2.2 ∧ m'.1 1024 6 = (sp_caution g n x).1 ∧ YFr m m') (fun _ _ => False) := by
  refine CT.of RX4 [(0, .ref 1024), (1, vI n), (2, vI x)] hfl (by decide +kernel) rfl rfl (Nat.le_of_ble_eq_true rfl) ?_
  intro E ok en hml hEl htab
  have hR : e_R E = RM 12 0 0 := en.2.2.2
  have hn0 : 0 < (e_c E).maxLocals := by rw [hml]; decide
  have hn1 : 1 < (e_c E).maxLocals := by rw [hml]; decide
  have hn2 : 2 < (e_c E).maxLocals := by rw [hml]; decide
  have hs := hY.1
  obtain ⟨b0, b1, hvb, hgb⟩ := id hT
  have s0 := hs 0 (by omega)
  have s1 := hs 1 (by omega)
  refine ga_aload_n ok 0 rfl rfl dX4_caution_0 ?_
  refine gv_X4_0 ok hG rfl lk_X4_77 rfl (c_X4_keep ok.fl hG) (by rw [hR]; exact ⟨by decide, by decide, by decide, by decide⟩) (Nat.le_of_ble_eq_true rfl) dX4_caution_1 ?_
  refine ga_aload_n ok 0 rfl rfl dX4_caution_4 ?_
  refine ga_aload_n ok 0 rfl rfl dX4_caution_5 ?_
  refine ga_iload_n ok 1 rfl rfl dX4_caution_6 ?_
  refine ga_iconst ok dX4_caution_7 ?_
  refine ga_iload_n ok 2 rfl rfl dX4_caution_8 ?_
  refine ga_iload_n ok 2 rfl rfl dX4_caution_9 ?_
  refine ga_iconst ok dX4_caution_10 ?_
  refine ga_sipush ok dX4_caution_11 (by decide) ?_
  refine gd_S_3 ok lk_X4_61 (c_X4_in ok.fl hG (x := x) (a := 0) (b := 256) hxR (by omega) (by omega)) (by rw [hR]; exact ⟨by decide, by decide, by decide, by decide⟩) (Nat.le_of_ble_eq_true rfl) dX4_caution_14 ?_
  obtain ⟨y1, y2, y3, y4⟩ := keepY hY
  refine gc_X4_4 ok hG rfl lk_X4_90 rfl (c_X4_sets ok.fl hG y1 hT y2 hnR hxR (j := 1) (by omega) (b := (decide (0 ≤ x ∧ x ≤ 256)))) (by rw [hR]; exact ⟨by decide, by decide, by decide, by decide⟩) (Nat.le_of_ble_eq_true rfl) dX4_caution_17 (fun r9 m2 hq => ?_) (fun _ _ h => h.elim)
  obtain ⟨v9, hr9, hD, -, hv9⟩ := hq
  subst hr9
  obtain ⟨q1, q2, q3, q4, q5, q6⟩ := hD
  simp only [Option.toList_some, List.singleton_append]
  have hk9 : 0 ≤ (d_sets g n 1 x (decide (0 ≤ x ∧ x ≤ 256))).1 ∧ (d_sets g n 1 x (decide (0 ≤ x ∧ x ≤ 256))).1 ≤ 3 := d_sets_rng
  refine gc_X4_1 ok hG rfl lk_X4_83 rfl (c_X4_ends ok.fl hG q5 q4 hk9 (r0 := g.r) (fun q hq => by rw [q1]; exact y3 q hq)) (by rw [hR]; exact ⟨by decide, by decide, by decide, by decide⟩) (Nat.le_of_ble_eq_true rfl) dX4_caution_20 (fun r9 m3 hq => ?_) (fun _ _ h => h.elim)
  obtain ⟨hr9, e2, e3, e4, e5⟩ := hq
  subst hr9
  simp only [Option.toList_some, List.singleton_append]
  exact ga_ireturn ok en rfl rfl (by decide) (by decide) dX4_caution_23 (by
  rw [fin_caution]
  refine ⟨_, rfl, fun h => ?_, ?_, e3, y4.tr (q3.tr e2)⟩
  · have h0 : (d_sets g n 1 x (decide (0 ≤ x ∧ x ≤ 256))).1 = 0 := h
    show (if 0 < (d_sets g n 1 x (decide (0 ≤ x ∧ x ≤ 256))).1 then 0 else v9) = (if (d_sets g n 1 x (decide (0 ≤ x ∧ x ≤ 256))).1 = 0 then (d_sets g n 1 x (decide (0 ≤ x ∧ x ≤ 256))).2.1 else 0)
    rw [if_neg (by omega), if_pos h0]; exact hv9 h0
  · show YIs _ (if (d_sets g n 1 x (decide (0 ≤ x ∧ x ≤ 256))).1 = 0 then kpG (d_sets g n 1 x (decide (0 ≤ x ∧ x ≤ 256))).2.2 g.r else nwG (d_sets g n 1 x (decide (0 ≤ x ∧ x ≤ 256))).2.2 g.r)
    by_cases h0 : (d_sets g n 1 x (decide (0 ≤ x ∧ x ≤ 256))).1 = 0
    · rw [if_pos h0]; exact e5 h0 (q6 h0)
    · rw [if_neg h0]; exact e4 (by omega))
set_option maxHeartbeats 4000000 in
set_option maxRecDepth 100000 in
theorem c_X4_doVisitor {G : GG} {l : Launch} (hfl : l.stackTraces = false) (hG : MW G) {m : Mm} {g : Gm} {T : Int} (hY : YIs m g) (hT : gtOk T g.r) (h6 : m.1 1024 6 = 0) {x : Int} (hxR : -2147483648 ≤ x ∧ x ≤ 2147483647) {f : Int} (hf01 : f = 0 ∨ f = 1) : CT G l yX4_doVisitor cX4_doVisitor 5 (some .int) (RM 2 0 0) [.ref 1024, vI x, vI f] m (fun r' m' => ∃ v9, r' = some (vI v9) ∧ DO m m' (d_visitor g x f).1 (d_visitor g x f).2.2 ∧ RF m m' (d_visitor g x f).1 ∧ ((d_visitor g x f).1 = 0 → v9 = (d_visitor g x f).2.1)) (fun _ _ => False) := by
  refine CT.of RX4 [(0, .ref 1024), (1, vI x), (2, vI f)] hfl (by decide +kernel) rfl rfl (Nat.le_of_ble_eq_true rfl) ?_
  intro E ok en hml hEl htab
  have hR : e_R E = RM 2 0 0 := en.2.2.2
  have hn0 : 0 < (e_c E).maxLocals := by rw [hml]; decide
  have hn1 : 1 < (e_c E).maxLocals := by rw [hml]; decide
  have hn2 : 2 < (e_c E).maxLocals := by rw [hml]; decide
  have hn3 : 3 < (e_c E).maxLocals := by rw [hml]; decide
  have hn4 : 4 < (e_c E).maxLocals := by rw [hml]; decide
  have hs := hY.1
  obtain ⟨b0, b1, hvb, hgb⟩ := id hT
  have s0 := hs 0 (by omega)
  have s1 := hs 1 (by omega)
  refine ga_aload_n ok 0 rfl rfl dX4_doVisitor_0 ?_
  refine gf_X4_9 ok hG rfl dX4_doVisitor_1 ?_
  refine ga_iconst ok dX4_doVisitor_4 ?_
  refine ga_iaload_ia ok (ar_ms hG rfl) (by omega) dX4_doVisitor_5 ?_
  rw [show (m.1 1088 (1 : Int).toNat) = g.r 1 from s1]
  refine ga_istore_n ok 3 rfl hn3 dX4_doVisitor_6 ?_
  refine ga_iload_n ok 1 rfl rfl dX4_doVisitor_7 ?_
  refine gd_S_1 ok lk_X4_94 (c_X4_isSet ok.fl hG hxR) (by rw [hR]; exact ⟨by decide, by decide, by decide, by decide⟩) (Nat.le_of_ble_eq_true rfl) dX4_doVisitor_8 ?_
  refine ga_if_ne ok 20 (by decide) (b2i_rng _) dX4_doVisitor_11 (fun c_11 => ?_) (fun c_11 => ?_)
  · have f_11 := of_decide_eq_true (b2i_n0.mp c_11)
    refine ga_iconst ok dX4_doVisitor_20 ?_
    refine ga_istore ok hn4 dX4_doVisitor_21 ?_
    have loop : ∀ (i : Int), (0 ≤ i ∧ i ≤ g.r 1 ∧ ∀ v : Nat, (v : Int) < i → vX g.r v ≠ x) → WA G E 0 0 23 [(4, vI i), (3, vI (g.r 1)), (0, .ref 1024), (1, vI x), (2, vI f)] [] m := by
      refine wl1 _ (fun i => (g.r 1 - i).toNat) _ ?_
      intro i hi ih
      refine ga_iload ok rfl dX4_doVisitor_23 ?_
      refine ga_iload_n ok 3 rfl rfl dX4_doVisitor_25 ?_
      refine ga_icmp_ge ok 54 (by decide) (by omega) (by omega) dX4_doVisitor_26 (fun c_26 => ?_) (fun c_26 => ?_)
      · refine ga_iload_n ok 3 rfl rfl dX4_doVisitor_54 ?_
        refine ga_bipush ok dX4_doVisitor_55 (by decide) ?_
        refine ga_icmp_ne ok 69 (by decide) (by omega) (by omega) dX4_doVisitor_57 (fun c_57 => ?_) (fun c_57 => ?_)
        · refine ga_aload_n ok 0 rfl rfl dX4_doVisitor_69 ?_
          refine gf_X4_9 ok hG rfl dX4_doVisitor_70 ?_
          refine ga_iconst ok dX4_doVisitor_73 ?_
          refine ga_iconst ok dX4_doVisitor_74 ?_
          refine ga_iload_n ok 3 rfl rfl dX4_doVisitor_75 ?_
          refine ga_imul ok dX4_doVisitor_76 ?_
          refine ga_iadd ok dX4_doVisitor_77 ?_
          refine ga_iload_n ok 1 rfl rfl dX4_doVisitor_78 ?_
          refine ga_iastore_ia ok (ar_ms hG rfl) (by omega) dX4_doVisitor_79 ?_
          refine ga_aload_n ok 0 rfl rfl dX4_doVisitor_80 ?_
          refine gf_X4_9 ok hG rfl dX4_doVisitor_81 ?_
          refine ga_iconst ok dX4_doVisitor_84 ?_
          refine ga_iconst ok dX4_doVisitor_85 ?_
          refine ga_iload_n ok 3 rfl rfl dX4_doVisitor_86 ?_
          refine ga_imul ok dX4_doVisitor_87 ?_
          refine ga_iadd ok dX4_doVisitor_88 ?_
          refine ga_iconst ok dX4_doVisitor_89 ?_
          refine ga_iadd ok dX4_doVisitor_90 ?_
          refine ga_iload_n ok 2 rfl rfl dX4_doVisitor_91 ?_
          refine ga_if_eq ok 99 (by decide) (by omega) dX4_doVisitor_92 (fun c_92 => ?_) (fun c_92 => ?_)
          · refine ga_iconst ok dX4_doVisitor_99 ?_
            refine ga_iastore_ia ok (ar_ms hG rfl) (by omega) dX4_doVisitor_100 ?_
            refine ga_aload_n ok 0 rfl rfl dX4_doVisitor_101 ?_
            refine gf_X4_9 ok hG rfl dX4_doVisitor_102 ?_
            refine ga_iconst ok dX4_doVisitor_105 ?_
            refine ga_dup2 ok dX4_doVisitor_106 rfl rfl ?_
            refine ga_iaload_ia ok (ar_ms hG rfl) (by omega) dX4_doVisitor_107 ?_
            rw [show (upI (upI m 1088 (2 + 2 * g.r 1).toNat x) 1088 (2 + 2 * g.r 1 + 1).toNat _).1 1088 (1 : Int).toNat = g.r 1 from by rw [upI_no (by omega), upI_no (by omega)]; exact s1]
            refine ga_iconst ok dX4_doVisitor_108 ?_
            refine ga_iadd ok dX4_doVisitor_109 ?_
            refine ga_iastore_ia ok (ar_ms hG rfl) (by omega) dX4_doVisitor_110 ?_
            refine ga_iload_n ok 3 rfl rfl dX4_doVisitor_111 ?_
            exact ga_ireturn ok en rfl rfl (by decide) (by decide) dX4_doVisitor_112 (by
      have hd : (d_visitor g x f) = (0, g.r 1, nwG g (adV g.r x f)) := by unfold d_visitor; rw [if_neg (by omega), if_neg (by rw [fnd_no (r := g.r) (x := x) (n := (g.r 1).toNat) (fun v hv9 => hi.2.2 v (by omega))]; omega), if_neg (by omega)]
      rw [hd]
      exact ⟨_, rfl, ⟨by rw [upI_r (by omega), upI_r (by omega), upI_r (by omega)], DOk.rf.s.s.s, ((YFr.rf.uI (by omega)).uI (by omega)).uI (by omega), by rw [upI_r (by omega), upI_r (by omega), upI_r (by omega)]; exact h6, hY.2.s.s.s, fun _ k hk => by
        show _ = adV g.r x f k
        have i2 : (2 + 2 * g.r 1).toNat = 2 + 2 * (g.r 1).toNat := by omega
        have i3 : (2 + 2 * g.r 1 + 1).toNat = 3 + 2 * (g.r 1).toNat := by omega
        have i1 : (1 : Int).toNat = 1 := rfl
        rw [i2, i3, i1]
        unfold adV
        by_cases e1 : k = 1
        · subst e1; rw [upI_at, if_pos rfl]
        · rw [upI_no (Or.inr e1), if_neg e1]
          by_cases e2 : k = 3 + 2 * (g.r 1).toNat
          · subst e2; rw [upI_at, if_neg (by omega), if_pos rfl]; omega
          · rw [upI_no (Or.inr e2)]
            by_cases e3 : k = 2 + 2 * (g.r 1).toNat
            · subst e3; rw [upI_at, if_pos rfl]
            · rw [upI_no (Or.inr e3), if_neg e3, if_neg e2]; exact hs k hk⟩, RF.no, fun _ => rfl⟩)
          · refine ga_iconst ok dX4_doVisitor_95 ?_
            refine ga_goto ok 100 (by decide) dX4_doVisitor_96 ?_
            refine ga_iastore_ia ok (ar_ms hG rfl) (by omega) dX4_doVisitor_100 ?_
            refine ga_aload_n ok 0 rfl rfl dX4_doVisitor_101 ?_
            refine gf_X4_9 ok hG rfl dX4_doVisitor_102 ?_
            refine ga_iconst ok dX4_doVisitor_105 ?_
            refine ga_dup2 ok dX4_doVisitor_106 rfl rfl ?_
            refine ga_iaload_ia ok (ar_ms hG rfl) (by omega) dX4_doVisitor_107 ?_
            rw [show (upI (upI m 1088 (2 + 2 * g.r 1).toNat x) 1088 (2 + 2 * g.r 1 + 1).toNat _).1 1088 (1 : Int).toNat = g.r 1 from by rw [upI_no (by omega), upI_no (by omega)]; exact s1]
            refine ga_iconst ok dX4_doVisitor_108 ?_
            refine ga_iadd ok dX4_doVisitor_109 ?_
            refine ga_iastore_ia ok (ar_ms hG rfl) (by omega) dX4_doVisitor_110 ?_
            refine ga_iload_n ok 3 rfl rfl dX4_doVisitor_111 ?_
            exact ga_ireturn ok en rfl rfl (by decide) (by decide) dX4_doVisitor_112 (by
      have hd : (d_visitor g x f) = (0, g.r 1, nwG g (adV g.r x f)) := by unfold d_visitor; rw [if_neg (by omega), if_neg (by rw [fnd_no (r := g.r) (x := x) (n := (g.r 1).toNat) (fun v hv9 => hi.2.2 v (by omega))]; omega), if_neg (by omega)]
      rw [hd]
      exact ⟨_, rfl, ⟨by rw [upI_r (by omega), upI_r (by omega), upI_r (by omega)], DOk.rf.s.s.s, ((YFr.rf.uI (by omega)).uI (by omega)).uI (by omega), by rw [upI_r (by omega), upI_r (by omega), upI_r (by omega)]; exact h6, hY.2.s.s.s, fun _ k hk => by
        show _ = adV g.r x f k
        have i2 : (2 + 2 * g.r 1).toNat = 2 + 2 * (g.r 1).toNat := by omega
        have i3 : (2 + 2 * g.r 1 + 1).toNat = 3 + 2 * (g.r 1).toNat := by omega
        have i1 : (1 : Int).toNat = 1 := rfl
        rw [i2, i3, i1]
        unfold adV
        by_cases e1 : k = 1
        · subst e1; rw [upI_at, if_pos rfl]
        · rw [upI_no (Or.inr e1), if_neg e1]
          by_cases e2 : k = 3 + 2 * (g.r 1).toNat
          · subst e2; rw [upI_at, if_neg (by omega), if_pos rfl]; omega
          · rw [upI_no (Or.inr e2)]
            by_cases e3 : k = 2 + 2 * (g.r 1).toNat
            · subst e3; rw [upI_at, if_pos rfl]
            · rw [upI_no (Or.inr e3), if_neg e3, if_neg e2]; exact hs k hk⟩, RF.no, fun _ => rfl⟩)
        · refine ga_aload_n ok 0 rfl rfl dX4_doVisitor_60 ?_
          refine ga_iconst ok dX4_doVisitor_61 ?_
          refine ga_iconst ok dX4_doVisitor_62 ?_
          refine ga_bipush ok dX4_doVisitor_63 (by decide) ?_
          refine gd_X4_3 ok hG rfl lk_X4_69 rfl (c_X4_refuse ok.fl hG (p := 2) (a := 1) (b := 12)) (by rw [hR]; exact ⟨by decide, by decide, by decide, by decide⟩) (Nat.le_of_ble_eq_true rfl) dX4_doVisitor_65 ?_
          exact ga_ireturn ok en rfl rfl (by decide) (by decide) dX4_doVisitor_68 (by
      have hd : (d_visitor g x f) = (2, 0, rfG g 1 12) := by unfold d_visitor; rw [if_neg (by omega), if_neg (by rw [fnd_no (r := g.r) (x := x) (n := (g.r 1).toNat) (fun v hv9 => hi.2.2 v (by omega))]; omega), if_pos (by omega)]
      rw [hd]
      exact ⟨_, rfl, DO.rs hY (by decide), RF.rs (by decide), fun h => absurd (show (2 : Int) = 0 from h) (by decide)⟩)
      · refine ga_aload_n ok 0 rfl rfl dX4_doVisitor_29 ?_
        refine ga_iload ok rfl dX4_doVisitor_30 ?_
        refine gd_X4_1 ok hG rfl lk_X4_97 rfl (c_X4_badges ok.fl hG hs hT (v := i) (by omega)) (by rw [hR]; exact ⟨by decide, by decide, by decide, by decide⟩) (Nat.le_of_ble_eq_true rfl) dX4_doVisitor_32 ?_
        refine ga_iload_n ok 1 rfl rfl dX4_doVisitor_35 ?_
        refine ga_icmp_ne ok 48 (by decide) (by have := hvb i.toNat (by omega); omega) (by omega) dX4_doVisitor_36 (fun c_36 => ?_) (fun c_36 => ?_)
        · refine ga_iinc ok rfl hn4 dX4_doVisitor_48 ?_
          refine ga_goto ok 23 (by decide) dX4_doVisitor_51 ?_
          exact WA.re (by exact ⟨rfl, rfl, rfl, rfl, rfl, trivial⟩) (ih (i + 1) ⟨by omega, by omega, fun v hv9 => by
            by_cases e : v = i.toNat
            · subst e; exact c_36
            · exact hi.2.2 v (by omega)⟩ (by omega))
        · refine ga_aload_n ok 0 rfl rfl dX4_doVisitor_39 ?_
          refine ga_iconst ok dX4_doVisitor_40 ?_
          refine ga_iconst ok dX4_doVisitor_41 ?_
          refine ga_iload ok rfl dX4_doVisitor_42 ?_
          refine gd_X4_3 ok hG rfl lk_X4_69 rfl (c_X4_refuse ok.fl hG (p := 2) (a := 2) (b := i)) (by rw [hR]; exact ⟨by decide, by decide, by decide, by decide⟩) (Nat.le_of_ble_eq_true rfl) dX4_doVisitor_44 ?_
          exact ga_ireturn ok en rfl rfl (by decide) (by decide) dX4_doVisitor_47 (by
      have hd : (d_visitor g x f) = (2, 0, rfG g 2 i) := by unfold d_visitor; rw [if_neg (by omega), if_pos (by rw [fnd_yes (v := i.toNat) c_36 (fun u hu => hi.2.2 u (by omega)) (g.r 1).toNat (by omega)]; omega), fnd_yes (v := i.toNat) c_36 (fun u hu => hi.2.2 u (by omega)) (g.r 1).toNat (by omega), show ((i.toNat : Nat) : Int) = i by omega]
      rw [hd]
      exact ⟨_, rfl, DO.rs hY (by decide), RF.rs (by decide), fun h => absurd (show (2 : Int) = 0 from h) (by decide)⟩)
    exact WA.re (by exact ⟨rfl, rfl, rfl, rfl, rfl, trivial⟩) (loop 0 ⟨by omega, by omega, fun v hv9 => by omega⟩)
  · have f_11 := of_decide_eq_false (b2i_0.mp c_11)
    refine ga_aload_n ok 0 rfl rfl dX4_doVisitor_14 ?_
    refine ga_iconst ok dX4_doVisitor_15 ?_
    refine gd_X4_1 ok hG rfl lk_X4_65 rfl (c_X4_fails ok.fl hG (k := 1)) (by rw [hR]; exact ⟨by decide, by decide, by decide, by decide⟩) (Nat.le_of_ble_eq_true rfl) dX4_doVisitor_16 ?_
    exact ga_ireturn ok en rfl rfl (by decide) (by decide) dX4_doVisitor_19 (by
  have hd : (d_visitor g x f) = (1, 0, g) := by unfold d_visitor; rw [if_pos (by omega)]
  rw [hd]
  exact ⟨_, rfl, DO.rf hY (by decide), RF.th (by decide), fun h => absurd (show (1 : Int) = 0 from h) (by decide)⟩)
set_option maxHeartbeats 4000000 in
set_option maxRecDepth 100000 in
theorem c_X4_visitor {G : GG} {l : Launch} (hfl : l.stackTraces = false) (hG : MW G) {m : Mm} {g : Gm} {T : Int} (hY : YIs m g) (hT : gtOk T g.r) {x : Int} (hxR : -2147483648 ≤ x ∧ x ≤ 2147483647) {f : Int} (hf01 : f = 0 ∨ f = 1) : CT G l yX4_visitor cX4_visitor 3 (some .int) (RM 12 0 0) [.ref 1024, vI x, vI f] m (fun r' m' => ∃ v9, r' = some (vI v9) ∧ ((sp_visitor g x f).1 = 0 → v9 = (sp_visitor g x f).2.1) ∧ YIs m' (sp_visitor g x f).2.2 ∧ m'.1 1024 6 = (sp_visitor g x f).1 ∧ YFr m m') (fun _ _ => False) := by
  refine CT.of RX4 [(0, .ref 1024), (1, vI x), (2, vI f)] hfl (by decide +kernel) rfl rfl (Nat.le_of_ble_eq_true rfl) ?_
  intro E ok en hml hEl htab
  have hR : e_R E = RM 12 0 0 := en.2.2.2
  have hn0 : 0 < (e_c E).maxLocals := by rw [hml]; decide
  have hn1 : 1 < (e_c E).maxLocals := by rw [hml]; decide
  have hn2 : 2 < (e_c E).maxLocals := by rw [hml]; decide
  have hs := hY.1
  obtain ⟨b0, b1, hvb, hgb⟩ := id hT
  have s0 := hs 0 (by omega)
  have s1 := hs 1 (by omega)
  refine ga_aload_n ok 0 rfl rfl dX4_visitor_0 ?_
  refine gv_X4_0 ok hG rfl lk_X4_77 rfl (c_X4_keep ok.fl hG) (by rw [hR]; exact ⟨by decide, by decide, by decide, by decide⟩) (Nat.le_of_ble_eq_true rfl) dX4_visitor_1 ?_
  refine ga_aload_n ok 0 rfl rfl dX4_visitor_4 ?_
  refine ga_aload_n ok 0 rfl rfl dX4_visitor_5 ?_
  refine ga_iload_n ok 1 rfl rfl dX4_visitor_6 ?_
  refine ga_iload_n ok 2 rfl rfl dX4_visitor_7 ?_
  obtain ⟨y1, y2, y3, y4⟩ := keepY hY
  refine gc_X4_2 ok hG rfl lk_X4_100 rfl (c_X4_doVisitor ok.fl hG y1 hT y2 hxR hf01) (by rw [hR]; exact ⟨by decide, by decide, by decide, by decide⟩) (Nat.le_of_ble_eq_true rfl) dX4_visitor_8 (fun r9 m2 hq => ?_) (fun _ _ h => h.elim)
  obtain ⟨v9, hr9, hD, -, hv9⟩ := hq
  subst hr9
  obtain ⟨q1, q2, q3, q4, q5, q6⟩ := hD
  simp only [Option.toList_some, List.singleton_append]
  have hk9 : 0 ≤ (d_visitor g x f).1 ∧ (d_visitor g x f).1 ≤ 3 := d_visitor_rng
  refine gc_X4_1 ok hG rfl lk_X4_83 rfl (c_X4_ends ok.fl hG q5 q4 hk9 (r0 := g.r) (fun q hq => by rw [q1]; exact y3 q hq)) (by rw [hR]; exact ⟨by decide, by decide, by decide, by decide⟩) (Nat.le_of_ble_eq_true rfl) dX4_visitor_11 (fun r9 m3 hq => ?_) (fun _ _ h => h.elim)
  obtain ⟨hr9, e2, e3, e4, e5⟩ := hq
  subst hr9
  simp only [Option.toList_some, List.singleton_append]
  exact ga_ireturn ok en rfl rfl (by decide) (by decide) dX4_visitor_14 (by
  rw [fin_visitor]
  refine ⟨_, rfl, fun h => ?_, ?_, e3, y4.tr (q3.tr e2)⟩
  · have h0 : (d_visitor g x f).1 = 0 := h
    show (if 0 < (d_visitor g x f).1 then 0 else v9) = (if (d_visitor g x f).1 = 0 then (d_visitor g x f).2.1 else 0)
    rw [if_neg (by omega), if_pos h0]; exact hv9 h0
  · show YIs _ (if (d_visitor g x f).1 = 0 then kpG (d_visitor g x f).2.2 g.r else nwG (d_visitor g x f).2.2 g.r)
    by_cases h0 : (d_visitor g x f).1 = 0
    · rw [if_pos h0]; exact e5 h0 (q6 h0)
    · rw [if_neg h0]; exact e4 (by omega))
set_option maxHeartbeats 4000000 in
set_option maxRecDepth 100000 in
theorem c_X4_doForget {G : GG} {l : Launch} (hfl : l.stackTraces = false) (hG : MW G) {m : Mm} {g : Gm} {T : Int} (hY : YIs m g) (hT : gtOk T g.r) (h6 : m.1 1024 6 = 0) {v : Int} (hvR : -2147483648 ≤ v ∧ v ≤ 2147483647) : CT G l yX4_doForget cX4_doForget 3 (some .int) (RM 2 0 0) [.ref 1024, vI v] m (fun r' m' => ∃ v9, r' = some (vI v9) ∧ DO m m' (d_forget g v).1 (d_forget g v).2.2 ∧ RF m m' (d_forget g v).1 ∧ ((d_forget g v).1 = 0 → v9 = (d_forget g v).2.1)) (fun _ _ => False) := by
  refine CT.of RX4 [(0, .ref 1024), (1, vI v)] hfl (by decide +kernel) rfl rfl (Nat.le_of_ble_eq_true rfl) ?_
  intro E ok en hml hEl htab
  have hR : e_R E = RM 2 0 0 := en.2.2.2
  have hn0 : 0 < (e_c E).maxLocals := by rw [hml]; decide
  have hn1 : 1 < (e_c E).maxLocals := by rw [hml]; decide
  have hn2 : 2 < (e_c E).maxLocals := by rw [hml]; decide
  have hs := hY.1
  obtain ⟨b0, b1, hvb, hgb⟩ := id hT
  have s0 := hs 0 (by omega)
  have s1 := hs 1 (by omega)
  refine ga_aload_n ok 0 rfl rfl dX4_doForget_0 ?_
  refine ga_iload_n ok 1 rfl rfl dX4_doForget_1 ?_
  refine gd_X4_1 ok hG rfl lk_X4_104 rfl (c_X4_isVisitor ok.fl hG hs hT hvR) (by rw [hR]; exact ⟨by decide, by decide, by decide, by decide⟩) (Nat.le_of_ble_eq_true rfl) dX4_doForget_2 ?_
  refine ga_if_ne ok 14 (by decide) (b2i_rng _) dX4_doForget_5 (fun c_5 => ?_) (fun c_5 => ?_)
  · have f_5 := of_decide_eq_true (b2i_n0.mp c_5)
    refine ga_aload_n ok 0 rfl rfl dX4_doForget_14 ?_
    refine gf_X4_9 ok hG rfl dX4_doForget_15 ?_
    refine ga_iconst ok dX4_doForget_18 ?_
    refine ga_iaload_ia ok (ar_ms hG rfl) (by omega) dX4_doForget_19 ?_
    rw [show (m.1 1088 (1 : Int).toNat) = g.r 1 from s1]
    refine ga_iconst ok dX4_doForget_20 ?_
    refine ga_isub ok dX4_doForget_21 ?_
    refine ga_istore_n ok 2 rfl hn2 dX4_doForget_22 ?_
    refine ga_aload_n ok 0 rfl rfl dX4_doForget_23 ?_
    refine gf_X4_9 ok hG rfl dX4_doForget_24 ?_
    refine ga_iconst ok dX4_doForget_27 ?_
    refine ga_iconst ok dX4_doForget_28 ?_
    refine ga_iload_n ok 1 rfl rfl dX4_doForget_29 ?_
    refine ga_imul ok dX4_doForget_30 ?_
    refine ga_iadd ok dX4_doForget_31 ?_
    refine ga_iconst ok dX4_doForget_32 ?_
    refine ga_iadd ok dX4_doForget_33 ?_
    refine ga_aload_n ok 0 rfl rfl dX4_doForget_34 ?_
    refine gf_X4_9 ok hG rfl dX4_doForget_35 ?_
    refine ga_iconst ok dX4_doForget_38 ?_
    refine ga_iconst ok dX4_doForget_39 ?_
    refine ga_iload_n ok 1 rfl rfl dX4_doForget_40 ?_
    refine ga_imul ok dX4_doForget_41 ?_
    refine ga_iadd ok dX4_doForget_42 ?_
    refine ga_iconst ok dX4_doForget_43 ?_
    refine ga_iload_n ok 2 rfl rfl dX4_doForget_44 ?_
    refine ga_iload_n ok 1 rfl rfl dX4_doForget_45 ?_
    refine ga_isub ok dX4_doForget_46 ?_
    refine ga_imul ok dX4_doForget_47 ?_
    refine ga_copy_ia ok lc_X4_42 (ar_ms hG rfl) (ar_ms hG rfl) (by omega) (by omega) (by omega) (by omega) (by omega) (by rw [hR]; exact (by decide)) (by rw [hR]; exact Nat.le_of_ble_eq_true rfl) dX4_doForget_48 ?_
    refine ga_aload_n ok 0 rfl rfl dX4_doForget_51 ?_
    refine gf_X4_9 ok hG rfl dX4_doForget_52 ?_
    refine ga_iconst ok dX4_doForget_55 ?_
    refine ga_iload_n ok 2 rfl rfl dX4_doForget_56 ?_
    refine ga_iastore_ia ok (ar_ms hG rfl) (by omega) dX4_doForget_57 ?_
    refine ga_iload_n ok 2 rfl rfl dX4_doForget_58 ?_
    exact ga_ireturn ok en rfl rfl (by decide) (by decide) dX4_doForget_59 (by
  have hd : (d_forget g v) = (0, g.r 1 - 1, nwG g (rmV g.r v.toNat)) := by unfold d_forget; rw [if_neg (by omega)]
  rw [hd]
  exact ⟨_, rfl, ⟨by rw [upI_r (by omega), cpI_r (by omega)], DOk.rf.c.s, (YFr.rf.cI (by omega)).uI (by omega), by rw [upI_r (by omega), cpI_r (by omega)]; exact h6, (hY.2.o (fun n hn => cpI_r (by omega))).s, fun _ k hk => by
    show _ = rmV g.r v.toNat k
    unfold rmV
    by_cases e1 : k = 1
    · subst e1; rw [if_pos rfl]; exact upI_at
    · rw [upI_no (by omega), if_neg e1]
      simp only [cpI]
      by_cases e2 : 2 + 2 * v.toNat ≤ k ∧ k < 2 + 2 * ((g.r 1).toNat - 1)
      · rw [if_pos ⟨trivial, by omega, by omega⟩, if_pos e2, show (2 + 2 * v + 2).toNat + (k - (2 + 2 * v).toNat) = k + 2 by omega]
        exact hs (k + 2) (by omega)
      · rw [if_neg (by omega), if_neg e2]; exact hs k hk⟩, RF.no, fun _ => rfl⟩)
  · have f_5 := of_decide_eq_false (b2i_0.mp c_5)
    refine ga_aload_n ok 0 rfl rfl dX4_doForget_8 ?_
    refine ga_iconst ok dX4_doForget_9 ?_
    refine gd_X4_1 ok hG rfl lk_X4_65 rfl (c_X4_fails ok.fl hG (k := 1)) (by rw [hR]; exact ⟨by decide, by decide, by decide, by decide⟩) (Nat.le_of_ble_eq_true rfl) dX4_doForget_10 ?_
    exact ga_ireturn ok en rfl rfl (by decide) (by decide) dX4_doForget_13 (by
  have hd : (d_forget g v) = (1, 0, g) := by unfold d_forget; rw [if_pos (by omega)]
  rw [hd]
  exact ⟨_, rfl, DO.rf hY (by decide), RF.th (by decide), fun h => absurd (show (1 : Int) = 0 from h) (by decide)⟩)
set_option maxHeartbeats 4000000 in
set_option maxRecDepth 100000 in
theorem c_X4_forget {G : GG} {l : Launch} (hfl : l.stackTraces = false) (hG : MW G) {m : Mm} {g : Gm} {T : Int} (hY : YIs m g) (hT : gtOk T g.r) {v : Int} (hvR : -2147483648 ≤ v ∧ v ≤ 2147483647) : CT G l yX4_forget cX4_forget 2 (some .int) (RM 12 0 0) [.ref 1024, vI v] m (fun r' m' => ∃ v9, r' = some (vI v9) ∧ ((sp_forget g v).1 = 0 → v9 = (sp_forget g v).2.1) ∧ YIs m' (sp_forget g v).2.2 ∧ m'.1 1024 6 = (sp_forget g v).1 ∧ YFr m m') (fun _ _ => False) := by
  refine CT.of RX4 [(0, .ref 1024), (1, vI v)] hfl (by decide +kernel) rfl rfl (Nat.le_of_ble_eq_true rfl) ?_
  intro E ok en hml hEl htab
  have hR : e_R E = RM 12 0 0 := en.2.2.2
  have hn0 : 0 < (e_c E).maxLocals := by rw [hml]; decide
  have hn1 : 1 < (e_c E).maxLocals := by rw [hml]; decide
  have hs := hY.1
  obtain ⟨b0, b1, hvb, hgb⟩ := id hT
  have s0 := hs 0 (by omega)
  have s1 := hs 1 (by omega)
  refine ga_aload_n ok 0 rfl rfl dX4_forget_0 ?_
  refine gv_X4_0 ok hG rfl lk_X4_77 rfl (c_X4_keep ok.fl hG) (by rw [hR]; exact ⟨by decide, by decide, by decide, by decide⟩) (Nat.le_of_ble_eq_true rfl) dX4_forget_1 ?_
  refine ga_aload_n ok 0 rfl rfl dX4_forget_4 ?_
  refine ga_aload_n ok 0 rfl rfl dX4_forget_5 ?_
  refine ga_iload_n ok 1 rfl rfl dX4_forget_6 ?_
  obtain ⟨y1, y2, y3, y4⟩ := keepY hY
  refine gc_X4_1 ok hG rfl lk_X4_107 rfl (c_X4_doForget ok.fl hG y1 hT y2 hvR) (by rw [hR]; exact ⟨by decide, by decide, by decide, by decide⟩) (Nat.le_of_ble_eq_true rfl) dX4_forget_7 (fun r9 m2 hq => ?_) (fun _ _ h => h.elim)
  obtain ⟨v9, hr9, hD, -, hv9⟩ := hq
  subst hr9
  obtain ⟨q1, q2, q3, q4, q5, q6⟩ := hD
  simp only [Option.toList_some, List.singleton_append]
  have hk9 : 0 ≤ (d_forget g v).1 ∧ (d_forget g v).1 ≤ 3 := d_forget_rng
  refine gc_X4_1 ok hG rfl lk_X4_83 rfl (c_X4_ends ok.fl hG q5 q4 hk9 (r0 := g.r) (fun q hq => by rw [q1]; exact y3 q hq)) (by rw [hR]; exact ⟨by decide, by decide, by decide, by decide⟩) (Nat.le_of_ble_eq_true rfl) dX4_forget_10 (fun r9 m3 hq => ?_) (fun _ _ h => h.elim)
  obtain ⟨hr9, e2, e3, e4, e5⟩ := hq
  subst hr9
  simp only [Option.toList_some, List.singleton_append]
  exact ga_ireturn ok en rfl rfl (by decide) (by decide) dX4_forget_13 (by
  rw [fin_forget]
  refine ⟨_, rfl, fun h => ?_, ?_, e3, y4.tr (q3.tr e2)⟩
  · have h0 : (d_forget g v).1 = 0 := h
    show (if 0 < (d_forget g v).1 then 0 else v9) = (if (d_forget g v).1 = 0 then (d_forget g v).2.1 else 0)
    rw [if_neg (by omega), if_pos h0]; exact hv9 h0
  · show YIs _ (if (d_forget g v).1 = 0 then kpG (d_forget g v).2.2 g.r else nwG (d_forget g v).2.2 g.r)
    by_cases h0 : (d_forget g v).1 = 0
    · rw [if_pos h0]; exact e5 h0 (q6 h0)
    · rw [if_neg h0]; exact e4 (by omega))
