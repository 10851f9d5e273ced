/-! THE MODEL: UNDO, SNAPSHOT, INPUT -/
theorem YI0.tx {m : Mm} {g : Gm} {c : Int} (h : YI0 m g) (hn : g.tn < 60) : YI0 (upI (upI m 1472 g.tn.toNat c) 1024 14 (g.tn + 1)) (mkG g.r g.sv g.hs g.pa g.kt g.rs g.dt g.er (fun i => if (i : Int) = g.tn then c else g.tx i) (g.tn + 1) g.ln g.nn) := by
  obtain ⟨⟨a1, a2, a3⟩, ⟨b1, b2, b3⟩, ⟨c1, c2, c3⟩, ⟨d1, d2, d3⟩, ⟨e1, e2, e3⟩⟩ := h
  have w : ∀ j, j ≠ 14 → (upI (upI m 1472 g.tn.toNat c) 1024 14 (g.tn + 1)).1 1024 j = m.1 1024 j := fun j hj => by rw [upI_no (Or.inr hj), upI_r (by omega)]
  have q : ∀ n, n ≠ 1024 → n ≠ 1472 → (upI (upI m 1472 g.tn.toNat c) 1024 14 (g.tn + 1)).1 n = m.1 n := fun n h1 h2 => by rw [upI_r h1, upI_r h2]
  refine ⟨⟨by rw [w 3 (by omega)]; exact a1, a2, by rw [q 1216 (by omega) (by omega)]; exact a3⟩, ⟨by rw [w 5 (by omega)]; exact b1, b2, by rw [q 1280 (by omega) (by omega)]; exact b3⟩, ⟨by rw [w 7 (by omega)]; exact c1, by rw [w 8 (by omega)]; exact c2, by rw [w 17 (by omega)]; exact c3⟩, ⟨upI_at, by show 0 ≤ g.tn + 1 ∧ g.tn + 1 ≤ 60; omega, fun i hi => ?_⟩, ⟨by rw [w 12 (by omega)]; exact e1, e2, by rw [q 1408 (by omega) (by omega)]; exact e3⟩⟩
  have hi : (i : Int) < g.tn + 1 := hi
  show (upI (upI m 1472 g.tn.toNat c) 1024 14 (g.tn + 1)).1 1472 i = if (i : Int) = g.tn then c else g.tx i
  rw [upI_r (by omega)]
  by_cases e : (i : Int) = g.tn
  · have : i = g.tn.toNat := by omega
    subst this
    rw [upI_at, if_pos (by omega)]
  · rw [upI_no (by omega), if_neg e]
    exact d3 i (by omega)
theorem YI0.kt {m : Mm} {g : Gm} {k : Int} (h : YI0 m g) (hk : 0 ≤ k ∧ k ≤ g.kt) : YI0 (upI m 1024 5 k) (mkG g.r g.sv g.hs g.pa k g.rs g.dt g.er g.tx g.tn g.ln g.nn) := by
  obtain ⟨⟨a1, a2, a3⟩, ⟨b1, b2, b3⟩, ⟨c1, c2, c3⟩, ⟨d1, d2, d3⟩, ⟨e1, e2, e3⟩⟩ := h
  have w : ∀ j, j ≠ 5 → (upI m 1024 5 k).1 1024 j = m.1 1024 j := fun j hj => upI_no (Or.inr hj)
  exact ⟨⟨by rw [w 3 (by omega)]; exact a1, a2, by rw [upI_r (by omega)]; exact a3⟩, ⟨upI_at, ⟨hk.1, Int.le_trans hk.2 b2.2⟩, fun i j hi hj => by
    have hi : (i : Int) < k := hi
    rw [upI_r (by omega)]; exact b3 i j (by omega) hj⟩, ⟨by rw [w 7 (by omega)]; exact c1, by rw [w 8 (by omega)]; exact c2, by rw [w 17 (by omega)]; exact c3⟩, ⟨by rw [w 14 (by omega)]; exact d1, d2, by rw [upI_r (by omega)]; exact d3⟩, ⟨by rw [w 12 (by omega)]; exact e1, e2, by rw [upI_r (by omega)]; exact e3⟩⟩
theorem YI0.sv {m : Mm} {g : Gm} (h : YI0 m g) (hs : SR m g.r) : YI0 (upI (cpI m 1088 1216 0 0 134) 1024 3 1) (mkG g.r g.r 1 g.pa g.kt g.rs g.dt g.er g.tx g.tn g.ln g.nn) := by
  obtain ⟨⟨a1, a2, a3⟩, ⟨b1, b2, b3⟩, ⟨c1, c2, c3⟩, ⟨d1, d2, d3⟩, ⟨e1, e2, e3⟩⟩ := h
  have w : ∀ j, j ≠ 3 → (upI (cpI m 1088 1216 0 0 134) 1024 3 1).1 1024 j = m.1 1024 j := fun j hj => by rw [upI_no (Or.inr hj), cpI_r (by omega)]
  have q : ∀ n, n ≠ 1024 → n ≠ 1216 → (upI (cpI m 1088 1216 0 0 134) 1024 3 1).1 n = m.1 n := fun n h1 h2 => by rw [upI_r h1, cpI_r h2]
  refine ⟨⟨upI_at, Or.inr rfl, fun _ k hk => ?_⟩, ⟨by rw [w 5 (by omega)]; exact b1, b2, by rw [q 1280 (by omega) (by omega)]; exact b3⟩, ⟨by rw [w 7 (by omega)]; exact c1, by rw [w 8 (by omega)]; exact c2, by rw [w 17 (by omega)]; exact c3⟩, ⟨by rw [w 14 (by omega)]; exact d1, d2, by rw [q 1472 (by omega) (by omega)]; exact d3⟩, ⟨by rw [w 12 (by omega)]; exact e1, e2, by rw [q 1408 (by omega) (by omega)]; exact e3⟩⟩
  show (upI (cpI m 1088 1216 0 0 134) 1024 3 1).1 1216 k = g.r k
  rw [upI_r (by omega)]
  simp only [cpI]
  rw [if_pos ⟨trivial, by omega, by omega⟩, show 0 + (k - 0) = k by omega]
  exact hs k hk
theorem SR.cp {m : Mm} {r : Nat → Int} {a0 sp : Nat} (h : ∀ k, k < 134 → m.1 a0 (sp + k) = r k) : SR (cpI m a0 1088 sp 0 134) r := fun k hk => by
  simp only [cpI]
  rw [if_pos ⟨trivial, by omega, by omega⟩, show sp + (k - 0) = sp + k by omega]
  exact h k hk
set_option maxHeartbeats 4000000 in
set_option maxRecDepth 100000 in
theorem c_X4_append {G : GG} {l : Launch} (hfl : l.stackTraces = false) (hG : MW G) {m : Mm} {g : Gm} (hY : YIs m g) {c : Int} (hc9 : 0 ≤ c ∧ c ≤ 65535) : CT G l yX4_append cX4_append 2 (some .int) (RM 0 0 0) [.ref 1024, vI c] m (fun r' m' => ∃ v9, r' = some (vI v9) ∧ ((sp_append g c).1 = 0 → v9 = (sp_append g c).2.1) ∧ YIs m' (sp_append g c).2.2 ∧ m'.1 1024 6 = (sp_append g c).1 ∧ YFr m m') (fun _ _ => False) := by
  refine CT.of RX4 [(0, .ref 1024), (1, vI c)] hfl (by decide +kernel) rfl rfl (Nat.le_of_ble_eq_true rfl) ?_
  intro E ok en hml hEl htab
  have hR : e_R E = RM 0 0 0 := en.2.2.2
  have hn0 : 0 < (e_c E).maxLocals := by rw [hml]; decide
  have hn1 : 1 < (e_c E).maxLocals := by rw [hml]; decide
  have t9 := hY.2.2.2.2.1.2.1
  have t1 := hY.2.2.2.2.1.1
  refine ga_aload_n ok 0 rfl rfl dX4_append_0 ?_
  refine ga_aload_n ok 0 rfl rfl dX4_append_1 ?_
  refine gf_X4_207 ok hG rfl dX4_append_2 ?_
  first | rw [t1] | rw [upI_at] | rw [upI_no (by omega), t1] | rw [upI_r (by omega), upI_no (by omega), t1]
  refine ga_bipush ok dX4_append_5 (by decide) ?_
  refine ga_icmp_ne ok 14 (by decide) (by omega) (by omega) dX4_append_7 (fun c_7 => ?_) (fun c_7 => ?_)
  · refine ga_iconst ok dX4_append_14 ?_
    refine gp_X4_39 ok hG rfl dX4_append_15 ?_
    refine ga_aload_n ok 0 rfl rfl dX4_append_18 ?_
    refine gf_X4_39 ok hG rfl dX4_append_19 ?_
    rw [upI_at]
    refine ga_if_le ok 27 (by decide) (by omega) dX4_append_22 (fun c_22 => ?_) (fun c_22 => ?_)
    · refine ga_aload_n ok 0 rfl rfl dX4_append_27 ?_
      refine gf_X4_29 ok hG rfl dX4_append_28 ?_
      refine ga_aload_n ok 0 rfl rfl dX4_append_31 ?_
      refine gf_X4_207 ok hG rfl dX4_append_32 ?_
      first | rw [t1] | rw [upI_at] | rw [upI_no (by omega), t1] | rw [upI_r (by omega), upI_no (by omega), t1]
      refine ga_iload_n ok 1 rfl rfl dX4_append_35 ?_
      refine ga_castore_ca ok (ar_mt hG rfl) (by omega) (narC hc9) dX4_append_36 ?_
      refine ga_aload_n ok 0 rfl rfl dX4_append_37 ?_
      refine ga_dup ok dX4_append_38 rfl ?_
      refine gf_X4_207 ok hG rfl dX4_append_39 ?_
      first | rw [t1] | rw [upI_at] | rw [upI_no (by omega), t1] | rw [upI_r (by omega), upI_no (by omega), t1]
      refine ga_iconst ok dX4_append_42 ?_
      refine ga_iadd ok dX4_append_43 ?_
      refine gp_X4_207 ok hG rfl dX4_append_44 ?_
      refine ga_aload_n ok 0 rfl rfl dX4_append_47 ?_
      refine gf_X4_207 ok hG rfl dX4_append_48 ?_
      first | rw [t1] | rw [upI_at] | rw [upI_no (by omega), t1] | rw [upI_r (by omega), upI_no (by omega), t1]
      exact ga_ireturn ok en rfl rfl (by decide) (by decide) dX4_append_51 (by first | (exfalso; omega) | (have hd : (sp_append g c) = (0, g.tn + 1, mkG g.r g.sv g.hs g.pa g.kt g.rs g.dt g.er (fun i => if (i : Int) = g.tn then c else g.tx i) (g.tn + 1) g.ln g.nn) := (by unfold sp_append; rw [if_neg (by omega)]); rw [hd]; exact ⟨_, rfl, fun _ => rfl, ⟨((hY.1.t).u (by omega)).u (by omega), (hY.2.u (i := 6) (by omega)).tx (by omega)⟩, by rw [upI_no (by omega), upI_r (by omega), upI_at], ((YFr.rf.uI (by omega)).uI (by omega)).uI (by omega)⟩))
    · exact absurd c_22 (by omega)
  · refine ga_iconst ok dX4_append_10 ?_
    refine ga_goto ok 15 (by decide) dX4_append_11 ?_
    refine gp_X4_39 ok hG rfl dX4_append_15 ?_
    refine ga_aload_n ok 0 rfl rfl dX4_append_18 ?_
    refine gf_X4_39 ok hG rfl dX4_append_19 ?_
    rw [upI_at]
    refine ga_if_le ok 27 (by decide) (by omega) dX4_append_22 (fun c_22 => ?_) (fun c_22 => ?_)
    · exact absurd c_22 (by omega)
    · refine ga_iconst ok dX4_append_25 ?_
      exact ga_ireturn ok en rfl rfl (by decide) (by decide) dX4_append_26 (by first | (exfalso; omega) | (have hd : (sp_append g c) = (1, 0, g) := (by unfold sp_append; rw [if_pos (by omega)]); rw [hd]; exact ⟨_, rfl, fun h => absurd (show (1 : Int) = 0 from h) (by decide), ⟨hY.1.t, hY.2.u (by omega)⟩, upI_at, YFr.rf.uI (by omega)⟩))
set_option maxHeartbeats 4000000 in
set_option maxRecDepth 100000 in
theorem c_X4_undo {G : GG} {l : Launch} (hfl : l.stackTraces = false) (hG : MW G) {m : Mm} {g : Gm} (hY : YIs m g)  : CT G l yX4_undo cX4_undo 1 (some .int) (RM 0 0 0) [.ref 1024] m (fun r' m' => ∃ v9, r' = some (vI v9) ∧ ((sp_undo g).1 = 0 → v9 = (sp_undo g).2.1) ∧ YIs m' (sp_undo g).2.2 ∧ m'.1 1024 6 = (sp_undo g).1 ∧ YFr m m') (fun _ _ => False) := by
  refine CT.of RX4 [(0, .ref 1024)] hfl (by decide +kernel) rfl rfl (Nat.le_of_ble_eq_true rfl) ?_
  intro E ok en hml hEl htab
  have hR : e_R E = RM 0 0 0 := en.2.2.2
  have hn0 : 0 < (e_c E).maxLocals := by rw [hml]; decide
  have k1 := hY.2.2.1.1
  have k2 := hY.2.2.1.2.1
  refine ga_aload_n ok 0 rfl rfl dX4_undo_0 ?_
  refine ga_aload_n ok 0 rfl rfl dX4_undo_1 ?_
  refine gf_X4_48 ok hG rfl dX4_undo_2 ?_
  first | rw [k1] | rw [cpI_r (by omega), upI_at] | rw [upI_at] | rw [upI_no (by omega), k1]
  refine ga_if_ne ok 12 (by decide) (by omega) dX4_undo_5 (fun c_5 => ?_) (fun c_5 => ?_)
  · refine ga_iconst ok dX4_undo_12 ?_
    refine gp_X4_39 ok hG rfl dX4_undo_13 ?_
    refine ga_aload_n ok 0 rfl rfl dX4_undo_16 ?_
    refine gf_X4_39 ok hG rfl dX4_undo_17 ?_
    rw [upI_at]
    refine ga_if_le ok 25 (by decide) (by omega) dX4_undo_20 (fun c_20 => ?_) (fun c_20 => ?_)
    · refine ga_aload_n ok 0 rfl rfl dX4_undo_25 ?_
      refine ga_dup ok dX4_undo_26 rfl ?_
      refine gf_X4_48 ok hG rfl dX4_undo_27 ?_
      first | rw [k1] | rw [cpI_r (by omega), upI_at] | rw [upI_at] | rw [upI_no (by omega), k1]
      refine ga_iconst ok dX4_undo_30 ?_
      refine ga_isub ok dX4_undo_31 ?_
      refine gp_X4_48 ok hG rfl dX4_undo_32 ?_
      refine ga_aload_n ok 0 rfl rfl dX4_undo_35 ?_
      refine gf_X4_19 ok hG rfl dX4_undo_36 ?_
      refine ga_sipush ok dX4_undo_39 (by decide) ?_
      refine ga_aload_n ok 0 rfl rfl dX4_undo_42 ?_
      refine gf_X4_48 ok hG rfl dX4_undo_43 ?_
      first | rw [k1] | rw [cpI_r (by omega), upI_at] | rw [upI_at] | rw [upI_no (by omega), k1]
      refine ga_imul ok dX4_undo_46 ?_
      refine ga_aload_n ok 0 rfl rfl dX4_undo_47 ?_
      refine gf_X4_9 ok hG rfl dX4_undo_48 ?_
      refine ga_iconst ok dX4_undo_51 ?_
      refine ga_sipush ok dX4_undo_52 (by decide) ?_
      refine ga_copy_ia ok lc_X4_42 (ar_mp hG rfl) (ar_ms hG rfl) (by omega) (by omega) (by omega) (by omega) (by omega) (by rw [hR]; exact (by decide)) (by rw [hR]; exact Nat.le_of_ble_eq_true rfl) dX4_undo_55 ?_
      refine ga_aload_n ok 0 rfl rfl dX4_undo_58 ?_
      refine gf_X4_48 ok hG rfl dX4_undo_59 ?_
      first | rw [k1] | rw [cpI_r (by omega), upI_at] | rw [upI_at] | rw [upI_no (by omega), k1]
      exact ga_ireturn ok en rfl rfl (by decide) (by decide) dX4_undo_62 (by first | (exfalso; omega) | (have hd : (sp_undo g) = (0, g.kt - 1, mkG (g.pa (g.kt - 1).toNat) g.sv g.hs g.pa (g.kt - 1) g.rs g.dt g.er g.tx g.tn g.ln g.nn) := (by unfold sp_undo; rw [if_neg (by omega)]); rw [hd]; exact ⟨_, rfl, fun _ => rfl, ⟨SR.cp (fun k hk => by rw [upI_r (by omega), upI_r (by omega), show (134 * (g.kt - 1)).toNat + k = 134 * (g.kt - 1).toNat + k by omega]; exact hY.2.2.1.2.2 (g.kt - 1).toNat k (by omega) hk), ((hY.2.u (i := 6) (v := 0) (by omega)).kt (k := g.kt - 1) (by omega)).o (fun n hn => cpI_r (by omega))⟩, by rw [cpI_r (by omega), upI_no (by omega), upI_at], ((YFr.rf.uI (by omega)).uI (by omega)).cI (by omega)⟩))
    · exact absurd c_20 (by omega)
  · refine ga_iconst ok dX4_undo_8 ?_
    refine ga_goto ok 13 (by decide) dX4_undo_9 ?_
    refine gp_X4_39 ok hG rfl dX4_undo_13 ?_
    refine ga_aload_n ok 0 rfl rfl dX4_undo_16 ?_
    refine gf_X4_39 ok hG rfl dX4_undo_17 ?_
    rw [upI_at]
    refine ga_if_le ok 25 (by decide) (by omega) dX4_undo_20 (fun c_20 => ?_) (fun c_20 => ?_)
    · exact absurd c_20 (by omega)
    · refine ga_iconst ok dX4_undo_23 ?_
      exact ga_ireturn ok en rfl rfl (by decide) (by decide) dX4_undo_24 (by first | (exfalso; omega) | (have hd : (sp_undo g) = (1, 0, g) := (by unfold sp_undo; rw [if_pos (by omega)]); rw [hd]; exact ⟨_, rfl, fun h => absurd (show (1 : Int) = 0 from h) (by decide), ⟨hY.1.t, hY.2.u (by omega)⟩, upI_at, YFr.rf.uI (by omega)⟩))
set_option maxHeartbeats 4000000 in
set_option maxRecDepth 100000 in
theorem c_X4_save {G : GG} {l : Launch} (hfl : l.stackTraces = false) (hG : MW G) {m : Mm} {g : Gm} (hY : YIs m g)  : CT G l yX4_save cX4_save 1 (some .int) (RM 0 0 0) [.ref 1024] m (fun r' m' => ∃ v9, r' = some (vI v9) ∧ ((sp_save g).1 = 0 → v9 = (sp_save g).2.1) ∧ YIs m' (sp_save g).2.2 ∧ m'.1 1024 6 = (sp_save g).1 ∧ YFr m m') (fun _ _ => False) := by
  refine CT.of RX4 [(0, .ref 1024)] hfl (by decide +kernel) rfl rfl (Nat.le_of_ble_eq_true rfl) ?_
  intro E ok en hml hEl htab
  have hR : e_R E = RM 0 0 0 := en.2.2.2
  have hn0 : 0 < (e_c E).maxLocals := by rw [hml]; decide
  refine ga_aload_n ok 0 rfl rfl dX4_save_0 ?_
  refine ga_iconst ok dX4_save_1 ?_
  refine gp_X4_39 ok hG rfl dX4_save_2 ?_
  refine ga_aload_n ok 0 rfl rfl dX4_save_5 ?_
  refine gf_X4_9 ok hG rfl dX4_save_6 ?_
  refine ga_iconst ok dX4_save_9 ?_
  refine ga_aload_n ok 0 rfl rfl dX4_save_10 ?_
  refine gf_X4_16 ok hG rfl dX4_save_11 ?_
  refine ga_iconst ok dX4_save_14 ?_
  refine ga_sipush ok dX4_save_15 (by decide) ?_
  refine ga_copy_ia ok lc_X4_42 (ar_ms hG rfl) (ar_mv hG rfl) (by omega) (by omega) (by omega) (by omega) (by omega) (by rw [hR]; exact (by decide)) (by rw [hR]; exact Nat.le_of_ble_eq_true rfl) dX4_save_18 ?_
  refine ga_aload_n ok 0 rfl rfl dX4_save_21 ?_
  refine ga_iconst ok dX4_save_22 ?_
  refine gp_X4_245 ok hG rfl (Or.inr rfl) dX4_save_23 ?_
  refine ga_aload_n ok 0 rfl rfl dX4_save_26 ?_
  refine gf_X4_9 ok hG rfl dX4_save_27 ?_
  refine ga_iconst ok dX4_save_30 ?_
  refine ga_iaload_ia ok (ar_ms hG rfl) (by omega) dX4_save_31 ?_
  rw [show (upI (cpI (upI m 1024 6 0) 1088 1216 (0 : Int).toNat (0 : Int).toNat (134 : Int).toNat) 1024 3 1).1 1088 (1 : Int).toNat = g.r 1 from by rw [upI_r (by omega), cpI_r (by omega)]; exact (hY.1.t (k := 0)) 1 (by omega)]
  exact ga_ireturn ok en rfl rfl (by decide) (by decide) dX4_save_32 ⟨_, rfl, fun _ => rfl, ⟨((hY.1.t).c (by omega)).u (by omega), (hY.2.u (i := 6) (by omega)).sv hY.1.t⟩, by rw [upI_no (by omega), cpI_r (by omega), upI_at]; rfl, ((YFr.rf.uI (by omega)).cI (by omega)).uI (by omega)⟩
set_option maxHeartbeats 4000000 in
set_option maxRecDepth 100000 in
theorem c_X4_restore {G : GG} {l : Launch} (hfl : l.stackTraces = false) (hG : MW G) {m : Mm} {g : Gm} (hY : YIs m g)  : CT G l yX4_restore cX4_restore 1 (some .int) (RM 0 0 0) [.ref 1024] m (fun r' m' => ∃ v9, r' = some (vI v9) ∧ ((sp_restore g).1 = 0 → v9 = (sp_restore g).2.1) ∧ YIs m' (sp_restore g).2.2 ∧ m'.1 1024 6 = (sp_restore g).1 ∧ YFr m m') (fun _ _ => False) := by
  refine CT.of RX4 [(0, .ref 1024)] hfl (by decide +kernel) rfl rfl (Nat.le_of_ble_eq_true rfl) ?_
  intro E ok en hml hEl htab
  have hR : e_R E = RM 0 0 0 := en.2.2.2
  have hn0 : 0 < (e_c E).maxLocals := by rw [hml]; decide
  refine ga_aload_n ok 0 rfl rfl dX4_restore_0 ?_
  refine ga_aload_n ok 0 rfl rfl dX4_restore_1 ?_
  refine gf_X4_245 ok hG rfl dX4_restore_2 ?_
  rw [hY.2.1.1]
  have h01 := hY.2.1.2.1
  refine ga_if_eq ok 12 (by decide) (by omega) dX4_restore_5 (fun c_5 => ?_) (fun c_5 => ?_)
  · refine ga_iconst ok dX4_restore_12 ?_
    refine gp_X4_39 ok hG rfl dX4_restore_13 ?_
    refine ga_aload_n ok 0 rfl rfl dX4_restore_16 ?_
    refine gf_X4_39 ok hG rfl dX4_restore_17 ?_
    rw [upI_at]
    refine ga_if_le ok 25 (by decide) (by omega) dX4_restore_20 (fun c_20 => ?_) (fun c_20 => ?_)
    · exact absurd c_20 (by omega)
    · refine ga_iconst ok dX4_restore_23 ?_
      exact ga_ireturn ok en rfl rfl (by decide) (by decide) dX4_restore_24 (by first | (exfalso; omega) | (have hd : (sp_restore g) = (1, 0, g) := (by unfold sp_restore; rw [if_pos (by omega)]); rw [hd]; exact ⟨_, rfl, fun h => absurd (show (1 : Int) = 0 from h) (by decide), ⟨hY.1.t, hY.2.u (by omega)⟩, upI_at, YFr.rf.uI (by omega)⟩))
  · refine ga_iconst ok dX4_restore_8 ?_
    refine ga_goto ok 13 (by decide) dX4_restore_9 ?_
    refine gp_X4_39 ok hG rfl dX4_restore_13 ?_
    refine ga_aload_n ok 0 rfl rfl dX4_restore_16 ?_
    refine gf_X4_39 ok hG rfl dX4_restore_17 ?_
    rw [upI_at]
    refine ga_if_le ok 25 (by decide) (by omega) dX4_restore_20 (fun c_20 => ?_) (fun c_20 => ?_)
    · refine ga_aload_n ok 0 rfl rfl dX4_restore_25 ?_
      refine gf_X4_16 ok hG rfl dX4_restore_26 ?_
      refine ga_iconst ok dX4_restore_29 ?_
      refine ga_aload_n ok 0 rfl rfl dX4_restore_30 ?_
      refine gf_X4_9 ok hG rfl dX4_restore_31 ?_
      refine ga_iconst ok dX4_restore_34 ?_
      refine ga_sipush ok dX4_restore_35 (by decide) ?_
      have hsv : SR (cpI (upI m 1024 6 0) 1216 1088 0 0 134) g.sv := SR.cp (fun k hk => by rw [upI_r (by omega), show 0 + k = k by omega]; exact hY.2.1.2.2 (by omega) k hk)
      refine ga_copy_ia ok lc_X4_42 (ar_mv hG rfl) (ar_ms hG rfl) (by omega) (by omega) (by omega) (by omega) (by omega) (by rw [hR]; exact (by decide)) (by rw [hR]; exact Nat.le_of_ble_eq_true rfl) dX4_restore_38 ?_
      refine ga_aload_n ok 0 rfl rfl dX4_restore_41 ?_
      refine ga_iconst ok dX4_restore_42 ?_
      refine gp_X4_48 ok hG rfl dX4_restore_43 ?_
      refine ga_aload_n ok 0 rfl rfl dX4_restore_46 ?_
      refine gf_X4_9 ok hG rfl dX4_restore_47 ?_
      refine ga_iconst ok dX4_restore_50 ?_
      refine ga_iaload_ia ok (ar_ms hG rfl) (by omega) dX4_restore_51 ?_
      rw [show (upI (cpI (upI m 1024 6 0) 1216 1088 (0 : Int).toNat (0 : Int).toNat (134 : Int).toNat) 1024 5 0).1 1088 (1 : Int).toNat = g.sv 1 from by rw [upI_r (by omega)]; exact hsv 1 (by omega)]
      exact ga_ireturn ok en rfl rfl (by decide) (by decide) dX4_restore_52 (by first | (exfalso; omega) | (have hd : (sp_restore g) = (0, g.sv 1, mkG g.sv g.sv g.hs g.pa 0 g.rs g.dt g.er g.tx g.tn g.ln g.nn) := (by unfold sp_restore; rw [if_neg (by omega)]); rw [hd]; exact ⟨_, rfl, fun _ => rfl, ⟨hsv.u (by omega), (((hY.2.u (i := 6) (v := 0) (by omega)).o (m' := cpI (upI m 1024 6 0) 1216 1088 0 0 134) (fun n hn => cpI_r (by omega))).kt (k := 0) (by have := hY.2.2.1.2.1; omega))⟩, by rw [upI_no (by omega), cpI_r (by omega), upI_at], ((YFr.rf.uI (by omega)).cI (by omega)).uI (by omega)⟩))
    · exact absurd c_20 (by omega)
