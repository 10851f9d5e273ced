/-! THE CONSTRUCTOR OF A GATE -/
def gid (a j : Nat) : Nat := 320 + 4 * (a - 64) + j
def SG (a i n : Nat) : Prop := n = a + 128 ∨ n = a + 192 ∨ ∃ j, j < i ∧ (n = gid a j ∨ n = gid a j + 64 ∨ n = gid a j + 128 ∨ n = gid a j + 192)
def GT (a n : Nat) : Prop := n = a ∨ n = a + 64 ∨ n = a + 128 ∨ n = a + 192 ∨ ∃ j, j < 4 ∧ (n = gid a j ∨ n = gid a j + 64 ∨ n = gid a j + 128 ∨ n = gid a j + 192)
theorem gid_ok {a j : Nat} (ha : 64 ≤ a ∧ a < 75) (hj : j < 4) : 320 ≤ gid a j ∧ gid a j < 365 := by unfold gid; omega
theorem gid_ad {G : GG} (hA : ADF G) {a j : Nat} (ha : 64 ≤ a ∧ a < 75) (hj : j < 4) : g_ad G (gid a j) = g_ad G a + 4 + 4 * j ∧ g_ad G (gid a j + 64) = g_ad G a + 4 + 4 * j + 1 ∧ g_ad G (gid a j + 128) = g_ad G a + 4 + 4 * j + 2 ∧ g_ad G (gid a j + 192) = g_ad G a + 4 + 4 * j + 3 := by
  obtain ⟨e1, e2, e3, e4⟩ := hA.2.1 a ha
  obtain ⟨f1, f2, f3⟩ := hA.1 (gid a j) (gid_ok ha hj)
  have f0 : g_ad G (gid a j) = g_ad G a + 4 + 4 * j := e4 j hj
  omega
theorem SG_bd {G : GG} (hA : ADF G) {a i n : Nat} (ha : 64 ≤ a ∧ a < 75) (hi : i ≤ 4) (h : SG a i n) : g_ad G a + 2 ≤ g_ad G n ∧ g_ad G n < g_ad G a + 4 + 4 * i := by
  obtain ⟨e1, e2, e3, e4⟩ := hA.2.1 a ha
  rcases h with rfl | rfl | ⟨j, hj, h⟩
  · omega
  · omega
  · have g := gid_ad hA ha (show j < 4 by omega)
    rcases h with rfl | rfl | rfl | rfl <;> omega
theorem GT_bd {G : GG} (hA : ADF G) {a n : Nat} (ha : 64 ≤ a ∧ a < 75) (h : GT a n) : g_ad G a ≤ g_ad G n ∧ g_ad G n < g_ad G a + 20 := by
  obtain ⟨e1, e2, e3, e4⟩ := hA.2.1 a ha
  rcases h with rfl | rfl | rfl | rfl | ⟨j, hj, h⟩
  · omega
  · omega
  · omega
  · omega
  · have g := gid_ad hA ha hj
    rcases h with rfl | rfl | rfl | rfl <;> omega
theorem ln_X0_32 : LinkNM RX0 32 yX1_init "GateGuards" cX1_init 1 0 := ⟨spw_in 49 (by decide +kernel) rfl, ⟨tb_in 3 (by decide +kernel) (by decide +kernel), tb_in 50 (by decide +kernel) (by decide +kernel)⟩, tb_in 51 (by decide +kernel) (by decide +kernel), rfl, by decide +kernel⟩
set_option maxHeartbeats 4000000 in
set_option maxRecDepth 100000 in
theorem i_X0 {G : GG} {l : Launch} (hfl : l.stackTraces = false) (hG : MW G) (hA : ADF G) {z : Int} {a : Nat} (ha : 64 ≤ a ∧ a < 75) : CI G l z yX0_init cX0_init 2 (RM 2 19 192) a 0 [.null, .int 0, .null, .null, .int 0] [] 19 (GT a) [] := by
  refine CI.of RX0 [(0, .ref a)] hfl (by decide +kernel) rfl rfl rfl (Nat.le_of_ble_eq_true rfl) ?_
  intro E ok ao en hml hEl hin hsz
  have hR : e_R E = RM 2 19 192 := en.2.2.2
  have hn0 : 0 < (e_c E).maxLocals := by rw [hml]; decide
  have hn1 : 1 < (e_c E).maxLocals := by rw [hml]; decide
  obtain ⟨e1, e2, e3, e4⟩ := hA.2.1 a ha
  have hbs : g_bs G ≤ g_ad G (a) := hA.2.2.2.2.2.2.1 _ (by omega)
  have hc : g_cell G (m00 z) a = .inr (0, [.ref (g_ad G (a + 64)), vI 0, .ref (g_ad G (a + 128)), .ref (g_ad G (a + 192)), vI 0]) := by
    rw [cell_X0 hG _ ha]
    simp only [m00_0 (show a ≠ 0 ∧ a ≠ 960 ∧ a ≠ 1024 by omega)]
    rfl
  have loop : ∀ i : Int, 0 ≤ i ∧ i ≤ 4 → WB G E z (g_ad G a + 4 + 4 * i.toNat) [(a, .inr (0, [.ref (g_ad G (a + 64)), vI 0, .ref (g_ad G (a + 128)), .ref (g_ad G (a + 192)), vI 0])), (a + 64, .inl (g_cA G 4, 4, .inr (.inr (.inr (.inr (fun j => if j < i.toNat then some (g_ad G (gid a j)) else none))))))] (SG a i.toNat) (g_ad G a) (3 + 4 * i.toNat) (28 + 41 * i.toNat) 40 [(1, vI i), (0, .ref a)] [] := by
    refine wl1 _ (fun i => (4 - i).toNat) _ ?_
    intro i hi ih
    refine wb_iload_n ok 1 rfl rfl dX0_init_40 ?_
    refine wb_iconst ok dX0_init_41 ?_
    refine wb_icmp_ge ok 64 (by decide) (by omega) (by omega) dX0_init_42 (fun c_42 => ?_) (fun c_42 => ?_)
    · have hi4 : i = 4 := by omega
      subst hi4
      refine wb_fin (f' := fun j => some (g_ad G (gid a j))) ?_ (fun j hj => if_pos hj) ?_
      · have h := (ar_ga hG (a := a + 64) (by omega)).2.2.2 (m00 z)
        rw [show a + 64 - 128 = a - 64 by omega] at h
        exact h
      · exact wb_return ok en (by show g_ad G a + 4 + 4 * 4 = _; omega) (fun n hn => by
          rcases hn with rfl | rfl | rfl | rfl | hn
          · exact Or.inr (by rw [hc]; exact List.mem_cons_self)
          · exact Or.inl (Or.inr rfl)
          · exact Or.inl (Or.inl (Or.inl rfl))
          · exact Or.inl (Or.inl (Or.inr (Or.inl rfl)))
          · exact Or.inl (Or.inl (Or.inr (Or.inr hn)))) (fun _ h => absurd h List.not_mem_nil) rfl (by exact Nat.le_refl _) (by exact Nat.le_refl _) dX0_init_64
    · have hj4 : i.toNat < 4 := by omega
      have hgr := gid_ok ha hj4
      have hga := gid_ad hA ha hj4
      have hgc := cell_X1 hG (m00 z) hgr
      have hi0 : ((i.toNat : Nat) : Int) = i := by omega
      refine wb_aload_n ok 0 rfl rfl dX0_init_45 ?_
      refine wb_getr ok (kf := 0) (r := a + 64) rfl big_X0 (by decide) (tb_in 95 (by decide +kernel) (by decide +kernel)) rfl dX0_init_46 ?_
      refine wb_iload_n ok 1 rfl rfl dX0_init_49 ?_
      refine wb_new ok (ci := 1) (a := (gid a i.toNat)) (fs := [.int 0, .int 0, .null, .null, .null, .int 0, .int 0, .int 0, .int 0]) rfl (tb_in 46 (by decide +kernel) (by decide +kernel)) (tb_in 48 (by decide +kernel) (by decide +kernel)) (tb_in 3 (by decide +kernel) (by decide +kernel)) big_X1 tyX1 tyX1_ok (fun j hj => by rcases (show j = 0 ∨ j = 1 ∨ j = 2 ∨ j = 3 ∨ j = 4 ∨ j = 5 ∨ j = 6 ∨ j = 7 ∨ j = 8 by omega) with rfl | rfl | rfl | rfl | rfl | rfl | rfl | rfl | rfl <;> rfl) (by omega) (by rw [hR]; show 3 + 4 * i.toNat + 1 ≤ 19; omega) (by rw [hR]; show 28 + 41 * i.toNat + 9 ≤ 192; omega) dX0_init_50 ?_
      intro hSl hUl
      refine wb_dup ok dX0_init_53 rfl ?_
      refine wb_callN ok ao (a := (gid a i.toNat)) (fs0 := [.int 0, .int 0, .null, .null, .null, .int 0, .int 0, .int 0, .int 0]) (U0 := [(a, .inr (0, [.ref (g_ad G (a + 64)), vI 0, .ref (g_ad G (a + 128)), .ref (g_ad G (a + 192)), vI 0])), (a + 64, .inl (g_cA G 4, 4, .inr (.inr (.inr (.inr (fun j => if j < i.toNat then some (g_ad G (gid a j)) else none))))))]) [] ln_X0_32 (i_X1 ok.fl hG hA hgr) rfl (by rw [hR]; exact ⟨by decide, by decide, by show 3 + 4 * i.toNat + 1 + 3 ≤ 19; omega, by show 28 + 41 * i.toNat + 9 + 32 ≤ 192; omega⟩) (Nat.le_of_ble_eq_true rfl) (by omega) (List.mem_append_right _ List.mem_cons_self) (fun x hx => ⟨List.mem_append_left _ hx, by
        rcases List.mem_cons.mp hx with rfl | hx
        · show g_ad G a ≠ _
          omega
        · rw [List.mem_singleton.mp hx]
          show g_ad G (a + 64) ≠ _
          omega⟩) (fun n hn => by have := SG_bd hA ha (by omega) hn; omega) (Or.inr (by rw [hsz]; omega)) dX0_init_54 ?_
      have hlow : ∀ n, (SG a i.toNat n ∨ n = (gid a i.toNat) ∨ n = (gid a i.toNat) + 64 ∨ n = (gid a i.toNat) + 128 ∨ n = (gid a i.toNat) + 192) → g_ad G a + 2 ≤ g_ad G n := fun n hn => by
        rcases hn with hn | rfl | rfl | rfl | rfl
        · exact (SG_bd hA ha (by omega) hn).1
        · omega
        · omega
        · omega
        · omega
      refine wb_aast ok (ci := 1) (t := 4) (rq := a + 64) (v := (gid a i.toNat)) (U1 := []) (fun _ h => absurd h List.not_mem_nil) rfl rfl (by omega) (by omega) (Or.inr (Or.inl rfl)) hgc (by show g_ad G a ≠ g_ad G (a + 64); omega) (fun n hn => by have := hlow n hn; omega) (by rw [hsz]; omega) (by omega) dX0_init_57 ?_
      refine wb_iinc ok rfl hn1 dX0_init_58 ?_
      refine wb_goto ok 40 (by decide) dX0_init_61 ?_
      have ef : va_up (fun j => if j < i.toNat then some (g_ad G (gid a j)) else none) i.toNat (some (g_ad G (gid a i.toNat))) = fun j => if j < (i + 1).toNat then some (g_ad G (gid a j)) else none := by
        funext j
        unfold va_up
        by_cases e : j = i.toNat
        · rw [if_pos e, if_pos (by omega), e]
        · rw [if_neg e]
          show (if j < i.toNat then some (g_ad G (gid a j)) else none) = _
          by_cases e2 : j < i.toNat
          · rw [if_pos e2, if_pos (by omega)]
          · rw [if_neg e2, if_neg (by omega)]
      rw [ef]
      refine WB.wd (by show 3 + 4 * i.toNat + 1 + 3 ≤ 3 + 4 * (i + 1).toNat; omega) (by show 28 + 41 * i.toNat + 9 + 32 ≤ 28 + 41 * (i + 1).toNat; omega) (WB.re (by exact ⟨rfl, rfl, trivial⟩) (WB.to (by omega) (fun x hx => Or.inl hx) (fun n hn => ?_) (ih (i + 1) (by omega) (by omega))))
      rcases hn with hn | hn | ⟨j, hj, hn⟩
      · exact Or.inl (Or.inl (Or.inl hn))
      · exact Or.inl (Or.inl (Or.inr (Or.inl hn)))
      · by_cases e : j = i.toNat
        · rw [e] at hn
          exact Or.inl (Or.inr hn)
        · exact Or.inl (Or.inl (Or.inr (Or.inr ⟨j, by omega, hn⟩)))
  refine wb_aload_n ok 0 rfl rfl dX0_init_0 ?_
  refine wb_obj ok (tb_in 45 (by decide +kernel) (by decide +kernel)) (tb_in 38 (by decide +kernel) (by decide +kernel)) (tb_in 39 (by decide +kernel) (by decide +kernel)) (by rw [hR]; decide) (by rw [hR]; exact Nat.le_of_ble_eq_true rfl) dX0_init_1 ?_
  refine wb_aload_n ok 0 rfl rfl dX0_init_4 ?_
  refine wb_iconst ok dX0_init_5 ?_
  refine wb_anew ok (C := "GateGuards$Guard") (t := 4) (N' := 4) (n' := a + 64) ao.1 (tb_in 46 (by decide +kernel) (by decide +kernel)) rfl (by omega) rfl (by omega) (by rw [hR]; exact Nat.le_of_ble_eq_true rfl) (by rw [hR]; exact Nat.le_of_ble_eq_true rfl) dX0_init_6 ?_
  show WB G E z _ [_, _] _ _ _ _ _ _ _
  refine wb_putX ok (kf := 0) (ty := tyX0) rfl big_X0 tyX0_ok nmX0 (by decide) (by simp) (tb_in 95 (by decide +kernel) (by decide +kernel)) (fun h => ⟨rfl, hin⟩) rfl rfl (fun x hx => by rw [List.mem_singleton.mp hx]; show g_ad G (a + 64) ≠ g_ad G (a); omega) (fun _ hn => hn.elim) rfl hbs dX0_init_9 ?_
  refine wb_aload_n ok 0 rfl rfl dX0_init_12 ?_
  refine wb_iconst ok dX0_init_13 ?_
  refine wb_putX ok (kf := 1) (ty := tyX0) rfl big_X0 tyX0_ok nmX0 (by decide) (by simp) (tb_in 97 (by decide +kernel) (by decide +kernel)) (fun h => ⟨rfl, hin⟩) rfl rfl (fun x hx => by rw [List.mem_singleton.mp hx]; show g_ad G (a + 64) ≠ g_ad G (a); omega) (fun _ hn => hn.elim) rfl hbs dX0_init_14 ?_
  refine wb_aload_n ok 0 rfl rfl dX0_init_17 ?_
  refine wb_bipush ok dX0_init_18 (by decide) ?_
  refine wb_newa ok (ty := .int) (t := 0) (N' := 12) (n' := a + 128) rfl rfl (tb_in 92 (by decide +kernel) (by decide +kernel)) (by omega) rfl (Nat.le_of_ble_eq_true rfl) (by omega) ((ar_se hG (a := a + 128) (by omega)).2.2 (m00 z)) (nz_i rfl (by omega)) (by rw [hR]; exact Nat.le_of_ble_eq_true rfl) (by rw [hR]; exact Nat.le_of_ble_eq_true rfl) dX0_init_20 ?_
  refine wb_putX ok (kf := 2) (ty := tyX0) rfl big_X0 tyX0_ok nmX0 (by decide) (by simp) (tb_in 99 (by decide +kernel) (by decide +kernel)) (fun h => ⟨rfl, hin⟩) rfl rfl (fun x hx => by rw [List.mem_singleton.mp hx]; show g_ad G (a + 64) ≠ g_ad G (a); omega) (fun n hn => by rcases hn with (hn) | rfl <;> first | exact hn.elim | omega) rfl hbs dX0_init_22 ?_
  refine wb_aload_n ok 0 rfl rfl dX0_init_25 ?_
  refine wb_bipush ok dX0_init_26 (by decide) ?_
  refine wb_newa ok (ty := .boolean) (t := 2) (N' := 12) (n' := a + 192) rfl rfl (tb_in 93 (by decide +kernel) (by decide +kernel)) (by omega) rfl (Nat.le_of_ble_eq_true rfl) (by omega) ((ar_fr hG (a := a + 192) (by omega)).2.2 (m00 z)) (nz_i rfl (by omega)) (by rw [hR]; exact Nat.le_of_ble_eq_true rfl) (by rw [hR]; exact Nat.le_of_ble_eq_true rfl) dX0_init_28 ?_
  refine wb_putX ok (kf := 3) (ty := tyX0) rfl big_X0 tyX0_ok nmX0 (by decide) (by simp) (tb_in 101 (by decide +kernel) (by decide +kernel)) (fun h => ⟨rfl, hin⟩) rfl rfl (fun x hx => by rw [List.mem_singleton.mp hx]; show g_ad G (a + 64) ≠ g_ad G (a); omega) (fun n hn => by rcases hn with ((hn) | rfl) | rfl <;> first | exact hn.elim | omega) rfl hbs dX0_init_30 ?_
  refine wb_aload_n ok 0 rfl rfl dX0_init_33 ?_
  refine wb_iconst ok dX0_init_34 ?_
  refine wb_putX ok (kf := 4) (ty := tyX0) rfl big_X0 tyX0_ok nmX0 (by decide) (by simp) (tb_in 103 (by decide +kernel) (by decide +kernel)) (fun h => ⟨rfl, hin⟩) rfl rfl (fun x hx => by rw [List.mem_singleton.mp hx]; show g_ad G (a + 64) ≠ g_ad G (a); omega) (fun n hn => by rcases hn with ((hn) | rfl) | rfl <;> first | exact hn.elim | omega) rfl hbs dX0_init_35 ?_
  refine wb_iconst ok dX0_init_38 ?_
  refine wb_istore_n ok 1 rfl hn1 dX0_init_39 ?_
  have ef0 : (fun j => if j < (0 : Int).toNat then some (g_ad G (gid a j)) else none) = fun _ => none := by
    funext j
    exact if_neg (by show ¬ j < 0; omega)
  refine WB.wd (by exact Nat.le_refl 3) (by exact Nat.le_refl 28) (WB.re (by exact ⟨rfl, rfl, trivial⟩) (WB.to (by show g_ad G a + 4 + 4 * 0 = _; omega) (fun x hx => Or.inl ?_) (fun n hn => ?_) (loop 0 (by omega))))
  · rw [ef0] at hx
    exact hx
  · rcases hn with hn | hn | ⟨j, hj, _⟩
    · exact Or.inl (Or.inl (Or.inr hn))
    · exact Or.inl (Or.inr hn)
    · exact absurd hj (Nat.not_lt_zero _)
