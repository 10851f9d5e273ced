/-! THE CONSTRUCTORS OF THE BUILDER AND OF THE CLASS -/
section MAKE4
variable {G : GG} {E : EE} {own : String} {b : ByteArray} {k n pc : Nat} {L : List (Nat × Value)} {st : List Value} {z : Int} {N : Nat} {U : List (Nat × va_E)} {S : Nat → Prop} {fq : Nat}
theorem wb_newU (ok : OK0 G E own b) {atype : ArrayType} {ty : FieldType} {t N' n' : Nat} {e : (Nat → Int32) ⊕ (Nat → Int64) ⊕ (Nat → UInt32) ⊕ (Nat → UInt64) ⊕ (Nat → Option Nat)} {zz : Int} (hty : newarray.typeOf atype = ty) (ht : (vty (g_cA G))[t]? = some (g_cA G t, ty)) (hw : Cond.arrayClass ty ∈ BIG) (hz : 0 ≤ zz ∧ zz ≤ 100000) (hN' : zz.toNat = N') (hb : N' * componentBytes ty ≤ 536870912) (had : g_ad G n' = N)
    (he : vp_cell (g_cA G t) (N', e) = arrV (g_cA G t) N' (fun _ => defaultValue ty)) (hcell : k + 1 ≤ (e_R E).cells) (hslot : n + N' ≤ (e_R E).slots) (d : decode b pc = .ok (.newarray atype, 2))
    (kk : WB G E z (N + 1) (U ++ [(n', .inl (g_cA G t, N', e))]) S fq (k + 1) (n + N') (pc + 2) L (.ref n' :: st)) : WB G E z N U S fq k n pc L (vI zz :: st) := by
  subst hty
  intro H locs ls hN hU hS9 hF hS hl
  have hcl : (Int32.ofInt zz).toNatClampNeg = N' := by rw [oi_z hz.1, ← hN']; exact nI_clamp (by omega)
  refine va_newaK (atype := atype) ok.x ok.b (ok.w _ hw) rfl d rfl (n := Int32.ofInt zz) (N := N') (by rw [oi_z hz.1]; exact nI_pos (by omega)) hcl hb hcell hslot rfl fun H1 cA e1 z1 o1 hAr hNm => ?_
  have hcA : cA = g_cA G t := by
    have h8 := RA_nm (ok.f.1.2 t _ ht).2
    exact Option.some.inj (hNm.symm.trans h8)
  subst hcA
  have h := kk H1 locs ls (by rw [z1, hN]) (fun x hx => by
    rcases List.mem_append.mp hx with hx | hx
    · exact (hU x hx).kept (o1 _ (hU x hx).lt)
    · rw [List.mem_singleton.mp hx]
      show H1[g_ad G n']? = some (vp_cell _ _)
      rw [had, ← hN, e1, he]) (fun x hx => (hS9 x hx).kept (o1 _ (hS9 x hx).lt)) (fun a ha1 ha2 => (o1 a (Nat.lt_of_lt_of_le ha1 hS.1)).trans (hF a ha1 ha2)) (hS_new hS z1 o1) hl
  have e9 : (Value.ref n' :: st).map (cv (g_ad G)) = .ref H.size :: st.map (cv (g_ad G)) := by
    show Value.ref (g_ad G n') :: _ = _
    rw [had, hN]
  rw [e9] at h
  exact h
theorem wb_compact (ok : OK0 G E own b) (hS : SBW G) {index : Nat} (hlink : Cond.fieldLink own index "java/lang/String" "COMPACT_STRINGS" "Z" ∈ BIG) (d : decode b pc = .ok (.getstatic index, 3)) (kk : WB G E z N U S fq k n (pc + 3) L (vI 1 :: st)) : WB G E z N U S fq k n pc L st := by
  intro H locs ls hN hU hS9 hF hS2 hl
  exact va_gets ok.x ok.b (sb_st ok hS).1 hS2 ok.o (ok.w _ hlink) (fun _ h => h) d (kk H locs ls hN hU hS9 hF hS2 hl)
end MAKE4
/-- the builder's two cells -/
def UR (G : GG) : List (Nat × va_E) := [(960, .inr (5, [.ref (g_ad G (RAW + (g_ad G 960 + 1))), vI 0, .int 0, .int 0])), (RAW + (g_ad G 960 + 1), .inl (g_cA G 8, 16, .inl (fun j => Int32.ofInt ((m00 (g_ad G 960 + 1 : Nat)).1 961 j))))]
set_option maxHeartbeats 4000000 in
set_option maxRecDepth 100000 in
theorem i_J5 {G : GG} {l : Launch} (hfl : l.stackTraces = false) (hb0 : g_bs G ≤ g_ad G 960) (hS : SBW G) : CI G l (g_ad G 960 + 1 : Nat) yJ5_init_d00df cJ5_init_d00df 2 (RM 1 1 16) 960 5 [.null, .int 0, .int 0, .int 0] [vI 16] 1 (fun _ => False) (UR G) := by
  refine CI.of RJ5 [(0, .ref 960), (1, vI 16)] hfl (by decide +kernel) rfl rfl rfl (Nat.le_of_ble_eq_true rfl) ?_
  intro E ok ao en hml hEl hin hsz
  have hR : e_R E = RM 1 1 16 := en.2.2.2
  have hbs : g_bs G ≤ g_ad G 960 := hb0
  have hraw : g_ad G (RAW + (g_ad G 960 + 1)) = g_ad G 960 + 1 := hS.1 _
  refine wb_aload_n ok 0 rfl rfl dJ5_init_d00df_0 ?_
  refine wb_obj ok (tb_in 163 (by decide +kernel) (by decide +kernel)) (tb_in 38 (by decide +kernel) (by decide +kernel)) (tb_in 39 (by decide +kernel) (by decide +kernel)) (by rw [hR]; decide) (by rw [hR]; exact Nat.le_of_ble_eq_true rfl) dJ5_init_d00df_1 ?_
  refine wb_compact ok hS (tb_in 164 (by decide +kernel) (by decide +kernel)) dJ5_init_d00df_4 ?_
  refine wb_if_eq ok 25 (by decide) (by omega) dJ5_init_d00df_7 (fun c_7 => absurd c_7 (by decide)) (fun c_7 => ?_)
  refine wb_aload_n ok 0 rfl rfl dJ5_init_d00df_10 ?_
  refine wb_iload_n ok 1 rfl rfl dJ5_init_d00df_11 ?_
  refine wb_newU ok (ty := .byte) (t := 8) (N' := 16) (n' := (RAW + (g_ad G 960 + 1))) (e := .inl (fun j => Int32.ofInt ((m00 (g_ad G 960 + 1 : Nat)).1 961 j))) rfl rfl (tb_in 187 (by decide +kernel) (by decide +kernel)) (by omega) rfl (Nat.le_of_ble_eq_true rfl) hraw (nz_i rfl (by omega)) (by rw [hR]; exact Nat.le_of_ble_eq_true rfl) (by rw [hR]; exact Nat.le_of_ble_eq_true rfl) dJ5_init_d00df_12 ?_
  show WB G E _ _ [_, _] _ _ _ _ _ _ _
  refine wb_putX ok (kf := 0) (ty := tyJ4) rfl big_J4 tyJ4_ok nmJ4 (by decide) (by simp) (tb_in 173 (by decide +kernel) (by decide +kernel)) (fun h => ⟨rfl, hin⟩) rfl rfl (fun x hx => by rw [List.mem_singleton.mp hx]; show g_ad G (RAW + (g_ad G 960 + 1)) ≠ g_ad G 960; omega) (fun _ hn => hn.elim) rfl hbs dJ5_init_d00df_14 ?_
  refine wb_aload_n ok 0 rfl rfl dJ5_init_d00df_17 ?_
  refine wb_iconst ok dJ5_init_d00df_18 ?_
  refine wb_putX ok (kf := 1) (ty := tyJ4) rfl big_J4 tyJ4_ok nmJ4 (by decide) (by simp) (tb_in 174 (by decide +kernel) (by decide +kernel)) (fun h => ⟨rfl, hin⟩) rfl rfl (fun x hx => by rw [List.mem_singleton.mp hx]; show g_ad G (RAW + (g_ad G 960 + 1)) ≠ g_ad G 960; omega) (fun _ hn => hn.elim) rfl hbs dJ5_init_d00df_19 ?_
  refine wb_goto ok 38 (by decide) dJ5_init_d00df_22 ?_
  exact wb_return ok en (by omega) (fun _ hn => hn.elim) (fun x hx => hx) rfl (by exact Nat.le_refl _) (by exact Nat.le_refl _) dJ5_init_d00df_38
theorem li_J4_1 : LinkI RJ4 1 yJ5_init_d00df cJ5_init_d00df 2 1 := ⟨List.forall_mem_cons.mpr ⟨tb_in 160 (by decide +kernel) (by decide +kernel), List.forall_mem_cons.mpr ⟨tb_in 161 (by decide +kernel) (by decide +kernel), List.forall_mem_cons.mpr ⟨tb_in 5 (by decide +kernel) (by decide +kernel), fun _ h => absurd h List.not_mem_nil⟩⟩⟩, tb_in 162 (by decide +kernel) (by decide +kernel), rfl, by decide +kernel⟩
set_option maxHeartbeats 4000000 in
set_option maxRecDepth 100000 in
theorem i_J4 {G : GG} {l : Launch} (hfl : l.stackTraces = false) (hb0 : g_bs G ≤ g_ad G 960) (hS : SBW G) : CI G l (g_ad G 960 + 1 : Nat) yJ4_init_da8c8 cJ4_init_da8c8 1 (RM 2 1 16) 960 5 [.null, .int 0, .int 0, .int 0] [] 1 (fun _ => False) (UR G) := by
  refine CI.of RJ4 [(0, .ref 960)] hfl (by decide +kernel) rfl rfl rfl (Nat.le_of_ble_eq_true rfl) ?_
  intro E ok ao en hml hEl hin hsz
  have hR : e_R E = RM 2 1 16 := en.2.2.2
  refine wb_aload_n ok 0 rfl rfl dJ4_init_da8c8_0 ?_
  refine wb_bipush ok dJ4_init_da8c8_1 (by decide) ?_
  refine wb_callI ok ao (a := 960) (fs0 := [.null, .int 0, .int 0, .int 0]) (U0 := []) [vI 16] li_J4_1 (i_J5 ok.fl hb0 hS) rfl (by rw [hR]; exact ⟨by decide, by decide, by decide, by decide⟩) (Nat.le_of_ble_eq_true rfl) rfl List.mem_cons_self (fun _ h => absurd h List.not_mem_nil) (fun _ hn => hn.elim) (Or.inl rfl) dJ4_init_da8c8_3 ?_
  exact wb_return ok en (by omega) (fun _ hn => hn.elim) (fun x hx => hx) rfl (by exact Nat.le_refl _) (by exact Nat.le_refl _) dJ4_init_da8c8_6
theorem li_X3_11 : LinkI RX3 11 yX0_init cX0_init 2 0 := ⟨List.forall_mem_cons.mpr ⟨tb_in 42 (by decide +kernel) (by decide +kernel), List.forall_mem_cons.mpr ⟨tb_in 43 (by decide +kernel) (by decide +kernel), List.forall_mem_cons.mpr ⟨tb_in 2 (by decide +kernel) (by decide +kernel), fun _ h => absurd h List.not_mem_nil⟩⟩⟩, tb_in 44 (by decide +kernel) (by decide +kernel), rfl, by decide +kernel⟩
theorem ln_X3_39 : LinkNM RX3 39 yX1_init "GateGuards" cX1_init 1 0 := ⟨spw_in 118 (by decide +kernel) rfl, ⟨tb_in 3 (by decide +kernel) (by decide +kernel), tb_in 50 (by decide +kernel) (by decide +kernel)⟩, tb_in 51 (by decide +kernel) (by decide +kernel), rfl, by decide +kernel⟩
theorem ln_X3_46 : LinkNM RX3 46 yX2_init "GateGuards" cX2_init 1 0 := ⟨spw_in 121 (by decide +kernel) rfl, ⟨tb_in 4 (by decide +kernel) (by decide +kernel), tb_in 122 (by decide +kernel) (by decide +kernel)⟩, tb_in 123 (by decide +kernel) (by decide +kernel), rfl, by decide +kernel⟩
theorem li_X3_53 : LinkI RX3 53 yJ4_init_da8c8 cJ4_init_da8c8 1 0 := ⟨List.forall_mem_cons.mpr ⟨tb_in 157 (by decide +kernel) (by decide +kernel), List.forall_mem_cons.mpr ⟨tb_in 158 (by decide +kernel) (by decide +kernel), List.forall_mem_cons.mpr ⟨tb_in 6 (by decide +kernel) (by decide +kernel), fun _ h => absurd h List.not_mem_nil⟩⟩⟩, tb_in 159 (by decide +kernel) (by decide +kernel), rfl, by decide +kernel⟩
def G3 (n : Nat) : Prop := n = 364 ∨ n = 364 + 64 ∨ n = 364 + 128 ∨ n = 364 + 192
def T3 (n : Nat) : Prop := n = 640 ∨ n = 704 ∨ n = 768 ∨ n = 832 ∨ n = 896
def SP (i n : Nat) : Prop := (GT 64 n ∨ GT 65 n ∨ GT 66 n) ∨ (G3 n ∨ T3 n) ∨ ∃ j, j < i ∧ GT (67 + j) n
def SX (n : Nat) : Prop := n = 0 ∨ n = 576 ∨ SP 8 n
theorem G3_bd {G : GG} (hA : ADF G) {n : Nat} (h : G3 n) : g_ad G 0 + 62 ≤ g_ad G n ∧ g_ad G n < g_ad G 0 + 66 := by
  obtain ⟨f1, f2, f3⟩ := hA.1 364 (by omega)
  obtain ⟨-, -, -, -, f0, -⟩ := hA.2.2.1
  rcases h with rfl | rfl | rfl | rfl <;> omega
theorem T3_bd {G : GG} (hA : ADF G) {n : Nat} (h : T3 n) : g_ad G 0 + 66 ≤ g_ad G n ∧ g_ad G n < g_ad G 0 + 71 := by
  obtain ⟨f1, f2, f3, f4⟩ := hA.2.2.2.1
  obtain ⟨-, -, -, -, -, f0, -⟩ := hA.2.2.1
  rcases h with rfl | rfl | rfl | rfl | rfl <;> omega
theorem SP_bd {G : GG} (hA : ADF G) {i n : Nat} (hi : i ≤ 8) (h : SP i n) : g_ad G 0 < g_ad G n ∧ g_ad G n ≠ g_ad G 0 + 61 := by
  obtain ⟨f1, f2, f3, -, -, -, -, f4⟩ := hA.2.2.1
  rcases h with (h | h | h) | (h | h) | ⟨j, hj, h⟩
  · have := GT_bd hA (by omega) h; omega
  · have := GT_bd hA (by omega) h; omega
  · have := GT_bd hA (by omega) h; omega
  · have := G3_bd hA h; omega
  · have := T3_bd hA h; omega
  · have := GT_bd hA (by omega) h
    have := f4 j (by omega)
    omega
set_option maxHeartbeats 8000000 in
set_option maxRecDepth 100000 in
theorem i_X3 {G : GG} {l : Launch} (hfl : l.stackTraces = false) (hG : MW G) (hA : ADF G) (hS : SBW G) : CI G l (g_ad G 960 + 1 : Nat) yX3_init cX3_init 2 (RM 3 232 2483) 0 3 [.null, .null, .null, .int 0, .null, .int 0, .int 0, .null, .null, .null, .int 0, .int 0, .int 0] [] 232 SX (UR G) := by
  refine CI.of RX3 [(0, .ref 0)] hfl (by decide +kernel) rfl rfl rfl (Nat.le_of_ble_eq_true rfl) ?_
  intro E ok ao en hml hEl hin hsz
  have hR : e_R E = RM 3 232 2483 := en.2.2.2
  have hn0 : 0 < (e_c E).maxLocals := by rw [hml]; decide
  have hn1 : 1 < (e_c E).maxLocals := by rw [hml]; decide
  obtain ⟨e1, e2, e3, e4, e5, e6, e7, e8⟩ := hA.2.2.1
  have hbs : g_bs G ≤ g_ad G 0 := hA.2.2.2.2.2.2.1 _ (by omega)
  have hraw : g_ad G (RAW + (g_ad G 960 + 1)) = g_ad G 960 + 1 := hA.2.2.2.2.2.2.2 _
  have hB1 : ∀ n, GT 64 n → g_ad G 0 < g_ad G n := fun n h => by have := GT_bd hA (by omega) h; omega
  have hB2 : ∀ n, GT 65 n → g_ad G 0 < g_ad G n := fun n h => by have := GT_bd hA (by omega) h; omega
  have hB3 : ∀ n, GT 66 n → g_ad G 0 < g_ad G n := fun n h => by have := GT_bd hA (by omega) h; omega
  have hB4 : ∀ n, G3 n → g_ad G 0 < g_ad G n := fun n h => by have := G3_bd hA h; omega
  have hB5 : ∀ n, T3 n → g_ad G 0 < g_ad G n := fun n h => by have := T3_bd hA h; omega
  have hc : g_cell G (m00 (g_ad G 960 + 1 : Nat)) 0 = .inr (3, [.ref (g_ad G 64), .ref (g_ad G 65), .ref (g_ad G 66), vI 0, .ref (g_ad G 576), vI 0, vI 0, .ref (g_ad G 364), .ref (g_ad G 640), .ref (g_ad G 960), vI (-1), vI 0, vI 0]) := by
    rw [cell_X3 hG _ rfl]
    simp [m00]
    exact ⟨rfl, rfl, rfl⟩
  have loop : ∀ i : Int, 0 ≤ i ∧ i ≤ 8 → WB G E (g_ad G 960 + 1 : Nat) (g_ad G 0 + 73 + 20 * i.toNat) ((0, .inr (3, [.ref (g_ad G 64), .ref (g_ad G 65), .ref (g_ad G 66), vI 0, .ref (g_ad G 576), vI 0, vI 0, .ref (g_ad G 364), .ref (g_ad G 640), .ref (g_ad G 960), vI (-1), vI 0, vI 0])) :: (576, .inl (g_cA G 5, 8, .inr (.inr (.inr (.inr (fun j => if j < i.toNat then some (g_ad G (67 + j)) else none)))))) :: UR G) (SP i.toNat) (g_ad G 0) (72 + 20 * i.toNat) (907 + 197 * i.toNat) 111 [(1, vI i), (0, .ref 0)] [] := by
    refine wl1 _ (fun i => (8 - i).toNat) _ ?_
    intro i hi ih
    refine wb_iload_n ok 1 rfl rfl dX3_init_111 ?_
    refine wb_bipush ok dX3_init_112 (by decide) ?_
    refine wb_icmp_ge ok 136 (by decide) (by omega) (by omega) dX3_init_114 (fun c_114 => ?_) (fun c_114 => ?_)
    · have hi8 : i = 8 := by omega
      subst hi8
      refine wb_fin (f' := fun j => some (g_ad G (67 + j))) ((ar_pa hG (a := 576) rfl).2.2.2 _) (fun j hj => if_pos hj) ?_
      exact wb_return ok en (by show g_ad G 0 + 73 + 20 * 8 = _; omega) (fun n hn => by
          rcases hn with rfl | rfl | hn
          · exact Or.inr (by rw [hc]; exact List.mem_cons_self)
          · exact Or.inl (Or.inr rfl)
          · exact Or.inl (Or.inl hn)) (fun x hx => List.mem_cons_of_mem _ hx) rfl (by exact Nat.le_refl _) (by exact Nat.le_refl _) dX3_init_136
    · have hj8 : i.toNat < 8 := by omega
      have hga := e8 i.toNat hj8
      have hgc := cell_X0 hG (m00 (g_ad G 960 + 1 : Nat)) (a := (67 + i.toNat)) (by omega)
      refine wb_aload_n ok 0 rfl rfl dX3_init_117 ?_
      refine wb_getr ok (kf := 4) (r := 576) rfl big_X3 (by decide) (tb_in 192 (by decide +kernel) (by decide +kernel)) rfl dX3_init_118 ?_
      refine wb_iload_n ok 1 rfl rfl dX3_init_121 ?_
      refine wb_new ok (ci := 0) (a := (67 + i.toNat)) (fs := [.null, .int 0, .null, .null, .int 0]) rfl (tb_in 40 (by decide +kernel) (by decide +kernel)) (tb_in 41 (by decide +kernel) (by decide +kernel)) (tb_in 2 (by decide +kernel) (by decide +kernel)) big_X0 tyX0 tyX0_ok (fun j hj => by rcases (show j = 0 ∨ j = 1 ∨ j = 2 ∨ j = 3 ∨ j = 4 by omega) with rfl | rfl | rfl | rfl | rfl <;> rfl) (by omega) (by rw [hR]; show 72 + 20 * i.toNat + 1 ≤ 232; omega) (by rw [hR]; show 907 + 197 * i.toNat + 5 ≤ 2483; omega) dX3_init_122 ?_
      intro hSl hUl
      refine wb_dup ok dX3_init_125 rfl ?_
      refine wb_callI ok ao (a := (67 + i.toNat)) (fs0 := [.null, .int 0, .null, .null, .int 0]) (U0 := (0, .inr (3, [.ref (g_ad G 64), .ref (g_ad G 65), .ref (g_ad G 66), vI 0, .ref (g_ad G 576), vI 0, vI 0, .ref (g_ad G 364), .ref (g_ad G 640), .ref (g_ad G 960), vI (-1), vI 0, vI 0])) :: (576, .inl (g_cA G 5, 8, .inr (.inr (.inr (.inr (fun j => if j < i.toNat then some (g_ad G (67 + j)) else none)))))) :: UR G) [] li_X3_11 (i_X0 ok.fl hG hA (a := (67 + i.toNat)) (by omega)) rfl (by rw [hR]; exact ⟨by decide, by decide, by show 72 + 20 * i.toNat + 1 + 19 ≤ 232; omega, by show 907 + 197 * i.toNat + 5 + 192 ≤ 2483; omega⟩) (Nat.le_of_ble_eq_true rfl) (by omega) (List.mem_append_right _ List.mem_cons_self) (fun x hx => ⟨List.mem_append_left _ hx, by have := hUl x hx; omega⟩) (fun n hn => by have := hSl n hn; omega) (Or.inr (by rw [hsz]; omega)) dX3_init_126 ?_
      have hlow : ∀ n, (SP i.toNat n ∨ GT (67 + i.toNat) n) → g_ad G 0 < g_ad G n ∧ g_ad G n ≠ g_ad G 576 := fun n hn => by
        rcases hn with hn | hn
        · have := SP_bd hA (by omega) hn; omega
        · have := GT_bd hA (by omega) hn; omega
      refine wb_aast ok (ci := 0) (t := 5) (rq := 576) (v := (67 + i.toNat)) (U1 := UR G) (fun x hx => by
        rcases List.mem_cons.mp hx with rfl | hx
        · show g_ad G 960 ≠ g_ad G 576; omega
        · rw [List.mem_singleton.mp hx]
          show g_ad G (RAW + (g_ad G 960 + 1)) ≠ g_ad G 576; omega) rfl rfl (by omega) (by omega) (Or.inr (Or.inl rfl)) hgc (by show g_ad G 0 ≠ g_ad G 576; omega) (fun n hn => (hlow n hn).2) (by rw [hsz]; omega) (by omega) dX3_init_129 ?_
      refine wb_iinc ok rfl hn1 dX3_init_130 ?_
      refine wb_goto ok 111 (by decide) dX3_init_133 ?_
      have ef : va_up (fun j => if j < i.toNat then some (g_ad G (67 + j)) else none) i.toNat (some (g_ad G (67 + i.toNat))) = fun j => if j < (i + 1).toNat then some (g_ad G (67 + j)) else none := by
        funext j
        unfold va_up
        by_cases e : j = i.toNat
        · rw [if_pos e, if_pos (by omega), e]
        · rw [if_neg e]
          show (if j < i.toNat then some (g_ad G (67 + j)) else none) = _
          by_cases e2 : j < i.toNat
          · rw [if_pos e2, if_pos (by omega)]
          · rw [if_neg e2, if_neg (by omega)]
      rw [ef]
      refine WB.wd (by show 72 + 20 * i.toNat + 1 + 19 ≤ 72 + 20 * (i + 1).toNat; omega) (by show 907 + 197 * i.toNat + 5 + 192 ≤ 907 + 197 * (i + 1).toNat; omega) (WB.re (by exact ⟨rfl, rfl, trivial⟩) (WB.to (by omega) (fun x hx => Or.inl hx) (fun n hn => ?_) (ih (i + 1) (by omega) (by omega))))
      rcases hn with hn | hn | ⟨j, hj, hn⟩
      · exact Or.inl (Or.inl (Or.inl hn))
      · exact Or.inl (Or.inl (Or.inr (Or.inl hn)))
      · by_cases e : j = i.toNat
        · rw [e] at hn
          exact Or.inl (Or.inr hn)
        · exact Or.inl (Or.inl (Or.inr (Or.inr ⟨j, by omega, hn⟩)))
  refine wb_aload_n ok 0 rfl rfl dX3_init_0 ?_
  refine wb_obj ok (tb_in 37 (by decide +kernel) (by decide +kernel)) (tb_in 38 (by decide +kernel) (by decide +kernel)) (tb_in 39 (by decide +kernel) (by decide +kernel)) (by rw [hR]; decide) (by rw [hR]; exact Nat.le_of_ble_eq_true rfl) dX3_init_1 ?_
  refine wb_aload_n ok 0 rfl rfl dX3_init_4 ?_
  refine wb_new ok (ci := 0) (a := 64) (fs := [.null, .int 0, .null, .null, .int 0]) rfl (tb_in 40 (by decide +kernel) (by decide +kernel)) (tb_in 41 (by decide +kernel) (by decide +kernel)) (tb_in 2 (by decide +kernel) (by decide +kernel)) big_X0 tyX0 tyX0_ok (fun j hj => by rcases (show j = 0 ∨ j = 1 ∨ j = 2 ∨ j = 3 ∨ j = 4 by omega) with rfl | rfl | rfl | rfl | rfl <;> rfl) (by omega) (by rw [hR]; exact Nat.le_of_ble_eq_true rfl) (by rw [hR]; exact Nat.le_of_ble_eq_true rfl) dX3_init_5 ?_
  intro hSl hUl
  refine wb_dup ok dX3_init_8 rfl ?_
  refine wb_callI ok ao (a := 64) (fs0 := [.null, .int 0, .null, .null, .int 0]) (U0 := [(0, .inr (3, [.null, .null, .null, .int 0, .null, .int 0, .int 0, .null, .null, .null, .int 0, .int 0, .int 0]))]) [] li_X3_11 (i_X0 ok.fl hG hA (a := 64) (by omega)) rfl (by rw [hR]; exact ⟨by decide, by decide, Nat.le_of_ble_eq_true rfl, Nat.le_of_ble_eq_true rfl⟩) (Nat.le_of_ble_eq_true rfl) (by omega) (List.mem_append_right _ List.mem_cons_self) (fun x hx => ⟨List.mem_append_left _ hx, by have := hUl x hx; omega⟩) (fun n hn => by have := hSl n hn; omega) (Or.inr (by rw [hsz]; omega)) dX3_init_9 ?_
  show WB G E _ _ [_] _ _ _ _ _ _ _
  refine wb_putX ok (kf := 0) (ty := tyX3) rfl big_X3 tyX3_ok nmX3 (by decide) (by simp) (tb_in 188 (by decide +kernel) (by decide +kernel)) (fun h => ⟨rfl, hin⟩) rfl rfl (fun _ h => absurd h List.not_mem_nil) (fun n hn => by rcases hn with (hn) | hn <;> first | exact hn.elim | (have := hB1 n hn; omega) | (have := hB2 n hn; omega) | (have := hB3 n hn; omega) | (have := hB4 n hn; omega) | (have := hB5 n hn; omega)) rfl hbs dX3_init_12 ?_
  refine wb_aload_n ok 0 rfl rfl dX3_init_15 ?_
  refine wb_new ok (ci := 0) (a := 65) (fs := [.null, .int 0, .null, .null, .int 0]) rfl (tb_in 40 (by decide +kernel) (by decide +kernel)) (tb_in 41 (by decide +kernel) (by decide +kernel)) (tb_in 2 (by decide +kernel) (by decide +kernel)) big_X0 tyX0 tyX0_ok (fun j hj => by rcases (show j = 0 ∨ j = 1 ∨ j = 2 ∨ j = 3 ∨ j = 4 by omega) with rfl | rfl | rfl | rfl | rfl <;> rfl) (by omega) (by rw [hR]; exact Nat.le_of_ble_eq_true rfl) (by rw [hR]; exact Nat.le_of_ble_eq_true rfl) dX3_init_16 ?_
  intro hSl hUl
  refine wb_dup ok dX3_init_19 rfl ?_
  refine wb_callI ok ao (a := 65) (fs0 := [.null, .int 0, .null, .null, .int 0]) (U0 := [(0, .inr (3, [.ref (g_ad G 64), .null, .null, .int 0, .null, .int 0, .int 0, .null, .null, .null, .int 0, .int 0, .int 0]))]) [] li_X3_11 (i_X0 ok.fl hG hA (a := 65) (by omega)) rfl (by rw [hR]; exact ⟨by decide, by decide, Nat.le_of_ble_eq_true rfl, Nat.le_of_ble_eq_true rfl⟩) (Nat.le_of_ble_eq_true rfl) (by omega) (List.mem_append_right _ List.mem_cons_self) (fun x hx => ⟨List.mem_append_left _ hx, by have := hUl x hx; omega⟩) (fun n hn => by have := hSl n hn; omega) (Or.inr (by rw [hsz]; omega)) dX3_init_20 ?_
  show WB G E _ _ [_] _ _ _ _ _ _ _
  refine wb_putX ok (kf := 1) (ty := tyX3) rfl big_X3 tyX3_ok nmX3 (by decide) (by simp) (tb_in 189 (by decide +kernel) (by decide +kernel)) (fun h => ⟨rfl, hin⟩) rfl rfl (fun _ h => absurd h List.not_mem_nil) (fun n hn => by rcases hn with ((hn) | hn) | hn <;> first | exact hn.elim | (have := hB1 n hn; omega) | (have := hB2 n hn; omega) | (have := hB3 n hn; omega) | (have := hB4 n hn; omega) | (have := hB5 n hn; omega)) rfl hbs dX3_init_23 ?_
  refine wb_aload_n ok 0 rfl rfl dX3_init_26 ?_
  refine wb_new ok (ci := 0) (a := 66) (fs := [.null, .int 0, .null, .null, .int 0]) rfl (tb_in 40 (by decide +kernel) (by decide +kernel)) (tb_in 41 (by decide +kernel) (by decide +kernel)) (tb_in 2 (by decide +kernel) (by decide +kernel)) big_X0 tyX0 tyX0_ok (fun j hj => by rcases (show j = 0 ∨ j = 1 ∨ j = 2 ∨ j = 3 ∨ j = 4 by omega) with rfl | rfl | rfl | rfl | rfl <;> rfl) (by omega) (by rw [hR]; exact Nat.le_of_ble_eq_true rfl) (by rw [hR]; exact Nat.le_of_ble_eq_true rfl) dX3_init_27 ?_
  intro hSl hUl
  refine wb_dup ok dX3_init_30 rfl ?_
  refine wb_callI ok ao (a := 66) (fs0 := [.null, .int 0, .null, .null, .int 0]) (U0 := [(0, .inr (3, [.ref (g_ad G 64), .ref (g_ad G 65), .null, .int 0, .null, .int 0, .int 0, .null, .null, .null, .int 0, .int 0, .int 0]))]) [] li_X3_11 (i_X0 ok.fl hG hA (a := 66) (by omega)) rfl (by rw [hR]; exact ⟨by decide, by decide, Nat.le_of_ble_eq_true rfl, Nat.le_of_ble_eq_true rfl⟩) (Nat.le_of_ble_eq_true rfl) (by omega) (List.mem_append_right _ List.mem_cons_self) (fun x hx => ⟨List.mem_append_left _ hx, by have := hUl x hx; omega⟩) (fun n hn => by have := hSl n hn; omega) (Or.inr (by rw [hsz]; omega)) dX3_init_31 ?_
  show WB G E _ _ [_] _ _ _ _ _ _ _
  refine wb_putX ok (kf := 2) (ty := tyX3) rfl big_X3 tyX3_ok nmX3 (by decide) (by simp) (tb_in 190 (by decide +kernel) (by decide +kernel)) (fun h => ⟨rfl, hin⟩) rfl rfl (fun _ h => absurd h List.not_mem_nil) (fun n hn => by rcases hn with (((hn) | hn) | hn) | hn <;> first | exact hn.elim | (have := hB1 n hn; omega) | (have := hB2 n hn; omega) | (have := hB3 n hn; omega) | (have := hB4 n hn; omega) | (have := hB5 n hn; omega)) rfl hbs dX3_init_34 ?_
  refine wb_aload_n ok 0 rfl rfl dX3_init_37 ?_
  refine wb_iconst ok dX3_init_38 ?_
  refine wb_putX ok (kf := 3) (ty := tyX3) rfl big_X3 tyX3_ok nmX3 (by decide) (by simp) (tb_in 191 (by decide +kernel) (by decide +kernel)) (fun h => ⟨rfl, hin⟩) (nar01 (Or.inl rfl)) rfl (fun _ h => absurd h List.not_mem_nil) (fun n hn => by rcases hn with (((hn) | hn) | hn) | hn <;> first | exact hn.elim | (have := hB1 n hn; omega) | (have := hB2 n hn; omega) | (have := hB3 n hn; omega) | (have := hB4 n hn; omega) | (have := hB5 n hn; omega)) rfl hbs dX3_init_39 ?_
  refine wb_aload_n ok 0 rfl rfl dX3_init_42 ?_
  refine wb_bipush ok dX3_init_43 (by decide) ?_
  refine wb_anew ok (C := "GateGuards$Gate") (t := 5) (N' := 8) (n' := 576) ao.2 (tb_in 40 (by decide +kernel) (by decide +kernel)) rfl (by omega) rfl (by omega) (by rw [hR]; exact Nat.le_of_ble_eq_true rfl) (by rw [hR]; exact Nat.le_of_ble_eq_true rfl) dX3_init_45 ?_
  show WB G E _ _ [_, _] _ _ _ _ _ _ _
  refine wb_putX ok (kf := 4) (ty := tyX3) rfl big_X3 tyX3_ok nmX3 (by decide) (by simp) (tb_in 192 (by decide +kernel) (by decide +kernel)) (fun h => ⟨rfl, hin⟩) rfl rfl (fun x hx => by rw [List.mem_singleton.mp hx]; show g_ad G 576 ≠ g_ad G 0; omega) (fun n hn => by rcases hn with (((hn) | hn) | hn) | hn <;> first | exact hn.elim | (have := hB1 n hn; omega) | (have := hB2 n hn; omega) | (have := hB3 n hn; omega) | (have := hB4 n hn; omega) | (have := hB5 n hn; omega)) rfl hbs dX3_init_48 ?_
  refine wb_aload_n ok 0 rfl rfl dX3_init_51 ?_
  refine wb_iconst ok dX3_init_52 ?_
  refine wb_putX ok (kf := 5) (ty := tyX3) rfl big_X3 tyX3_ok nmX3 (by decide) (by simp) (tb_in 193 (by decide +kernel) (by decide +kernel)) (fun h => ⟨rfl, hin⟩) rfl rfl (fun x hx => by rw [List.mem_singleton.mp hx]; show g_ad G 576 ≠ g_ad G 0; omega) (fun n hn => by rcases hn with (((hn) | hn) | hn) | hn <;> first | exact hn.elim | (have := hB1 n hn; omega) | (have := hB2 n hn; omega) | (have := hB3 n hn; omega) | (have := hB4 n hn; omega) | (have := hB5 n hn; omega)) rfl hbs dX3_init_53 ?_
  refine wb_aload_n ok 0 rfl rfl dX3_init_56 ?_
  refine wb_iconst ok dX3_init_57 ?_
  refine wb_putX ok (kf := 6) (ty := tyX3) rfl big_X3 tyX3_ok nmX3 (by decide) (by simp) (tb_in 194 (by decide +kernel) (by decide +kernel)) (fun h => ⟨rfl, hin⟩) rfl rfl (fun x hx => by rw [List.mem_singleton.mp hx]; show g_ad G 576 ≠ g_ad G 0; omega) (fun n hn => by rcases hn with (((hn) | hn) | hn) | hn <;> first | exact hn.elim | (have := hB1 n hn; omega) | (have := hB2 n hn; omega) | (have := hB3 n hn; omega) | (have := hB4 n hn; omega) | (have := hB5 n hn; omega)) rfl hbs dX3_init_58 ?_
  refine wb_aload_n ok 0 rfl rfl dX3_init_61 ?_
  refine wb_new ok (ci := 1) (a := 364) (fs := [.int 0, .int 0, .null, .null, .null, .int 0, .int 0, .int 0, .int 0]) rfl (tb_in 117 (by decide +kernel) (by decide +kernel)) (tb_in 48 (by decide +kernel) (by decide +kernel)) (tb_in 3 (by decide +kernel) (by decide +kernel)) big_X1 tyX1 tyX1_ok (fun j hj => by rcases (show j = 0 ∨ j = 1 ∨ j = 2 ∨ j = 3 ∨ j = 4 ∨ j = 5 ∨ j = 6 ∨ j = 7 ∨ j = 8 by omega) with rfl | rfl | rfl | rfl | rfl | rfl | rfl | rfl | rfl <;> rfl) (by omega) (by rw [hR]; exact Nat.le_of_ble_eq_true rfl) (by rw [hR]; exact Nat.le_of_ble_eq_true rfl) dX3_init_62 ?_
  intro hSl hUl
  refine wb_dup ok dX3_init_65 rfl ?_
  refine wb_callN ok ao (a := 364) (fs0 := [.int 0, .int 0, .null, .null, .null, .int 0, .int 0, .int 0, .int 0]) (U0 := [(0, .inr (3, [.ref (g_ad G 64), .ref (g_ad G 65), .ref (g_ad G 66), vI 0, .ref (g_ad G 576), vI 0, vI 0, .null, .null, .null, .int 0, .int 0, .int 0])), (576, .inl (g_cA G 5, 8, .inr (.inr (.inr (.inr (fun _ => none))))))]) [] ln_X3_39 (i_X1 ok.fl hG hA (a := 364) (by omega)) rfl (by rw [hR]; exact ⟨by decide, by decide, Nat.le_of_ble_eq_true rfl, Nat.le_of_ble_eq_true rfl⟩) (Nat.le_of_ble_eq_true rfl) (by omega) (List.mem_append_right _ List.mem_cons_self) (fun x hx => ⟨List.mem_append_left _ hx, by have := hUl x hx; omega⟩) (fun n hn => by have := hSl n hn; omega) (Or.inr (by rw [hsz]; omega)) dX3_init_66 ?_
  show WB G E _ _ [_, _] _ _ _ _ _ _ _
  refine wb_putX ok (kf := 7) (ty := tyX3) rfl big_X3 tyX3_ok nmX3 (by decide) (by simp) (tb_in 195 (by decide +kernel) (by decide +kernel)) (fun h => ⟨rfl, hin⟩) rfl rfl (fun x hx => by rw [List.mem_singleton.mp hx]; show g_ad G 576 ≠ g_ad G 0; omega) (fun n hn => by rcases hn with ((((hn) | hn) | hn) | hn) | hn <;> first | exact hn.elim | (have := hB1 n hn; omega) | (have := hB2 n hn; omega) | (have := hB3 n hn; omega) | (have := hB4 n hn; omega) | (have := hB5 n hn; omega)) rfl hbs dX3_init_69 ?_
  refine wb_aload_n ok 0 rfl rfl dX3_init_72 ?_
  refine wb_new ok (ci := 2) (a := 640) (fs := [.null, .int 0, .null, .null, .null, .int 0, .int 0]) rfl (tb_in 119 (by decide +kernel) (by decide +kernel)) (tb_in 120 (by decide +kernel) (by decide +kernel)) (tb_in 4 (by decide +kernel) (by decide +kernel)) big_X2 tyX2 tyX2_ok (fun j hj => by rcases (show j = 0 ∨ j = 1 ∨ j = 2 ∨ j = 3 ∨ j = 4 ∨ j = 5 ∨ j = 6 by omega) with rfl | rfl | rfl | rfl | rfl | rfl | rfl <;> rfl) (by omega) (by rw [hR]; exact Nat.le_of_ble_eq_true rfl) (by rw [hR]; exact Nat.le_of_ble_eq_true rfl) dX3_init_73 ?_
  intro hSl hUl
  refine wb_dup ok dX3_init_76 rfl ?_
  refine wb_callN ok ao (a := 640) (fs0 := [.null, .int 0, .null, .null, .null, .int 0, .int 0]) (U0 := [(0, .inr (3, [.ref (g_ad G 64), .ref (g_ad G 65), .ref (g_ad G 66), vI 0, .ref (g_ad G 576), vI 0, vI 0, .ref (g_ad G 364), .null, .null, .int 0, .int 0, .int 0])), (576, .inl (g_cA G 5, 8, .inr (.inr (.inr (.inr (fun _ => none))))))]) [] ln_X3_46 (i_X2 ok.fl hG hA) rfl (by rw [hR]; exact ⟨by decide, by decide, Nat.le_of_ble_eq_true rfl, Nat.le_of_ble_eq_true rfl⟩) (Nat.le_of_ble_eq_true rfl) (by omega) (List.mem_append_right _ List.mem_cons_self) (fun x hx => ⟨List.mem_append_left _ hx, by have := hUl x hx; omega⟩) (fun n hn => by have := hSl n hn; omega) (Or.inr (by rw [hsz]; omega)) dX3_init_77 ?_
  show WB G E _ _ [_, _] _ _ _ _ _ _ _
  refine wb_putX ok (kf := 8) (ty := tyX3) rfl big_X3 tyX3_ok nmX3 (by decide) (by simp) (tb_in 196 (by decide +kernel) (by decide +kernel)) (fun h => ⟨rfl, hin⟩) rfl rfl (fun x hx => by rw [List.mem_singleton.mp hx]; show g_ad G 576 ≠ g_ad G 0; omega) (fun n hn => by rcases hn with (((((hn) | hn) | hn) | hn) | hn) | hn <;> first | exact hn.elim | (have := hB1 n hn; omega) | (have := hB2 n hn; omega) | (have := hB3 n hn; omega) | (have := hB4 n hn; omega) | (have := hB5 n hn; omega)) rfl hbs dX3_init_80 ?_
  refine wb_aload_n ok 0 rfl rfl dX3_init_83 ?_
  refine wb_new ok (ci := 5) (a := 960) (fs := [.null, .int 0, .int 0, .int 0]) rfl (tb_in 155 (by decide +kernel) (by decide +kernel)) (tb_in 156 (by decide +kernel) (by decide +kernel)) (tb_in 6 (by decide +kernel) (by decide +kernel)) big_J4 tyJ4 tyJ4_ok (fun j hj => by rcases (show j = 0 ∨ j = 1 ∨ j = 2 ∨ j = 3 by omega) with rfl | rfl | rfl | rfl <;> rfl) (by omega) (by rw [hR]; exact Nat.le_of_ble_eq_true rfl) (by rw [hR]; exact Nat.le_of_ble_eq_true rfl) dX3_init_84 ?_
  intro hSl hUl
  refine wb_dup ok dX3_init_87 rfl ?_
  refine wb_callI ok ao (a := 960) (fs0 := [.null, .int 0, .int 0, .int 0]) (U0 := [(0, .inr (3, [.ref (g_ad G 64), .ref (g_ad G 65), .ref (g_ad G 66), vI 0, .ref (g_ad G 576), vI 0, vI 0, .ref (g_ad G 364), .ref (g_ad G 640), .null, .int 0, .int 0, .int 0])), (576, .inl (g_cA G 5, 8, .inr (.inr (.inr (.inr (fun _ => none))))))]) [] li_X3_53 (i_J4 ok.fl (hA.2.2.2.2.2.2.1 960 (by omega)) hS) rfl (by rw [hR]; exact ⟨by decide, by decide, Nat.le_of_ble_eq_true rfl, Nat.le_of_ble_eq_true rfl⟩) (Nat.le_of_ble_eq_true rfl) (by omega) (List.mem_append_right _ List.mem_cons_self) (fun x hx => ⟨List.mem_append_left _ hx, by have := hUl x hx; omega⟩) (fun n hn => by have := hSl n hn; omega) (Or.inr (by rw [hsz]; omega)) dX3_init_88 ?_
  show WB G E _ _ (_ :: _ :: UR G) _ _ _ _ _ _ _
  refine wb_putX ok (kf := 9) (ty := tyX3) rfl big_X3 tyX3_ok nmX3 (by decide) (by simp) (tb_in 197 (by decide +kernel) (by decide +kernel)) (fun h => ⟨rfl, hin⟩) rfl rfl (fun x hx => by
      rcases List.mem_cons.mp hx with rfl | hx
      · show g_ad G 576 ≠ g_ad G 0; omega
      · rcases List.mem_cons.mp hx with rfl | hx
        · show g_ad G 960 ≠ g_ad G 0; omega
        · rw [List.mem_singleton.mp hx]; show g_ad G (RAW + (g_ad G 960 + 1)) ≠ g_ad G 0; omega) (fun n hn => by rcases hn with ((((((hn) | hn) | hn) | hn) | hn) | hn) | hn <;> first | exact hn.elim | (have := hB1 n hn; omega) | (have := hB2 n hn; omega) | (have := hB3 n hn; omega) | (have := hB4 n hn; omega) | (have := hB5 n hn; omega)) rfl hbs dX3_init_91 ?_
  refine wb_aload_n ok 0 rfl rfl dX3_init_94 ?_
  refine wb_iconst ok dX3_init_95 ?_
  refine wb_putX ok (kf := 10) (ty := tyX3) rfl big_X3 tyX3_ok nmX3 (by decide) (by simp) (tb_in 198 (by decide +kernel) (by decide +kernel)) (fun h => ⟨rfl, hin⟩) rfl rfl (fun x hx => by
      rcases List.mem_cons.mp hx with rfl | hx
      · show g_ad G 576 ≠ g_ad G 0; omega
      · rcases List.mem_cons.mp hx with rfl | hx
        · show g_ad G 960 ≠ g_ad G 0; omega
        · rw [List.mem_singleton.mp hx]; show g_ad G (RAW + (g_ad G 960 + 1)) ≠ g_ad G 0; omega) (fun n hn => by rcases hn with ((((((hn) | hn) | hn) | hn) | hn) | hn) | hn <;> first | exact hn.elim | (have := hB1 n hn; omega) | (have := hB2 n hn; omega) | (have := hB3 n hn; omega) | (have := hB4 n hn; omega) | (have := hB5 n hn; omega)) rfl hbs dX3_init_96 ?_
  refine wb_aload_n ok 0 rfl rfl dX3_init_99 ?_
  refine wb_iconst ok dX3_init_100 ?_
  refine wb_putX ok (kf := 11) (ty := tyX3) rfl big_X3 tyX3_ok nmX3 (by decide) (by simp) (tb_in 199 (by decide +kernel) (by decide +kernel)) (fun h => ⟨rfl, hin⟩) rfl rfl (fun x hx => by
      rcases List.mem_cons.mp hx with rfl | hx
      · show g_ad G 576 ≠ g_ad G 0; omega
      · rcases List.mem_cons.mp hx with rfl | hx
        · show g_ad G 960 ≠ g_ad G 0; omega
        · rw [List.mem_singleton.mp hx]; show g_ad G (RAW + (g_ad G 960 + 1)) ≠ g_ad G 0; omega) (fun n hn => by rcases hn with ((((((hn) | hn) | hn) | hn) | hn) | hn) | hn <;> first | exact hn.elim | (have := hB1 n hn; omega) | (have := hB2 n hn; omega) | (have := hB3 n hn; omega) | (have := hB4 n hn; omega) | (have := hB5 n hn; omega)) rfl hbs dX3_init_101 ?_
  refine wb_aload_n ok 0 rfl rfl dX3_init_104 ?_
  refine wb_iconst ok dX3_init_105 ?_
  refine wb_putX ok (kf := 12) (ty := tyX3) rfl big_X3 tyX3_ok nmX3 (by decide) (by simp) (tb_in 200 (by decide +kernel) (by decide +kernel)) (fun h => ⟨rfl, hin⟩) rfl rfl (fun x hx => by
      rcases List.mem_cons.mp hx with rfl | hx
      · show g_ad G 576 ≠ g_ad G 0; omega
      · rcases List.mem_cons.mp hx with rfl | hx
        · show g_ad G 960 ≠ g_ad G 0; omega
        · rw [List.mem_singleton.mp hx]; show g_ad G (RAW + (g_ad G 960 + 1)) ≠ g_ad G 0; omega) (fun n hn => by rcases hn with ((((((hn) | hn) | hn) | hn) | hn) | hn) | hn <;> first | exact hn.elim | (have := hB1 n hn; omega) | (have := hB2 n hn; omega) | (have := hB3 n hn; omega) | (have := hB4 n hn; omega) | (have := hB5 n hn; omega)) rfl hbs dX3_init_106 ?_
  refine wb_iconst ok dX3_init_109 ?_
  refine wb_istore_n ok 1 rfl hn1 dX3_init_110 ?_
  have ef0 : (fun j => if j < (0 : Int).toNat then some (g_ad G (67 + j)) else none) = fun _ => none := by
    funext j
    exact if_neg (by show ¬ j < 0; omega)
  refine WB.wd (by exact Nat.le_of_ble_eq_true rfl) (by exact Nat.le_of_ble_eq_true rfl) (WB.re (by exact ⟨rfl, rfl, trivial⟩) (WB.to (by show g_ad G 0 + 73 + 20 * 0 = _; omega) (fun x hx => Or.inl ?_) (fun n hn => Or.inl ?_) (loop 0 (by omega))))
  · rw [ef0] at hx
    exact hx
  · rcases hn with (hn | hn | hn) | (hn | hn) | ⟨j, hj, _⟩
    · exact Or.inl (Or.inl (Or.inl (Or.inl (Or.inl (Or.inr hn)))))
    · exact Or.inl (Or.inl (Or.inl (Or.inl (Or.inr hn))))
    · exact Or.inl (Or.inl (Or.inl (Or.inr hn)))
    · exact Or.inl (Or.inl (Or.inr hn))
    · exact Or.inl (Or.inr hn)
    · exact absurd hj (Nat.not_lt_zero _)
