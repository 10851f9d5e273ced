/-! THE LAW BEGINS -/
theorem li_L_135 : LinkI RL 135 yX3_init cX3_init 2 0 := ⟨List.forall_mem_cons.mpr ⟨tb_in 32 (by decide +kernel) (by decide +kernel), List.forall_mem_cons.mpr ⟨tb_in 33 (by decide +kernel) (by decide +kernel), List.forall_mem_cons.mpr ⟨tb_in 1 (by decide +kernel) (by decide +kernel), fun _ h => absurd h List.not_mem_nil⟩⟩⟩, tb_in 34 (by decide +kernel) (by decide +kernel), rfl, by decide +kernel⟩
theorem li_L_138 : LinkI RL 138 yX4_init cX4_init 1 0 := ⟨List.forall_mem_cons.mpr ⟨tb_in 1232 (by decide +kernel) (by decide +kernel), List.forall_mem_cons.mpr ⟨tb_in 1233 (by decide +kernel) (by decide +kernel), List.forall_mem_cons.mpr ⟨tb_in 9 (by decide +kernel) (by decide +kernel), fun _ h => absurd h List.not_mem_nil⟩⟩⟩, tb_in 1234 (by decide +kernel) (by decide +kernel), rfl, by decide +kernel⟩
set_option maxHeartbeats 4000000 in
theorem K_of {A9 : Array Value} {s : State} (hB : ∀ w ∈ BIG, w.before A9 s = true) (hT : ∀ w ∈ tables_1, w.before A9 s = true) : ∃ (D : va_G) (cA : Nat → ClassId), va_K D vcl (vty cA) s := by
  obtain ⟨c0, i0, k0⟩ := u_known (C := RX0) (T := TX0) (N := 5) (n := 5) hB big_X0 (hT _ (List.mem_of_getElem? (i := 39) (by decide +kernel)))
  obtain ⟨c1, i1, k1⟩ := u_known (C := RX1) (T := TX1) (N := 9) (n := 9) hB big_X1 (hT _ (List.mem_of_getElem? (i := 46) (by decide +kernel)))
  obtain ⟨c2, i2, k2⟩ := u_known (C := RX2) (T := TX2) (N := 7) (n := 7) hB big_X2 (hT _ (List.mem_of_getElem? (i := 118) (by decide +kernel)))
  obtain ⟨c3, i3, k3⟩ := u_known (C := RX3) (T := TX3) (N := 13) (n := 13) hB big_X3 (hT _ (List.mem_of_getElem? (i := 31) (by decide +kernel)))
  obtain ⟨c4, i4, k4⟩ := u_known (C := RX4) (T := TX4) (N := 20) (n := 20) hB big_X4 (hT _ (List.mem_of_getElem? (i := 1231) (by decide +kernel)))
  obtain ⟨c5, i5, k5⟩ := u_known (C := RJ4) (T := TJ4) (N := 4) (n := 4) hB big_J4 (hT _ (List.mem_of_getElem? (i := 154) (by decide +kernel)))
  obtain ⟨a0, p0, q0⟩ := arr_prim (ty := .int) (s := s) (A := A9) (hT _ (List.mem_of_getElem? (i := 90) (by decide +kernel))) (fun _ h => h)
  obtain ⟨a1, p1, q1⟩ := arr_prim (ty := .float) (s := s) (A := A9) (hT _ (List.mem_of_getElem? (i := 92) (by decide +kernel))) (fun _ h => h)
  obtain ⟨a2, p2, q2⟩ := arr_prim (ty := .boolean) (s := s) (A := A9) (hT _ (List.mem_of_getElem? (i := 91) (by decide +kernel))) (fun _ h => h)
  obtain ⟨a3, p3, q3⟩ := arr_prim (ty := .char) (s := s) (A := A9) (hT _ (List.mem_of_getElem? (i := 152) (by decide +kernel))) (fun _ h => h)
  obtain ⟨a4, p4, q4⟩ := arr_obj (s := s) (C := "GateGuards$Guard") (va_AO.of (A := A9) (hT _ (List.mem_of_getElem? (i := 45) (by decide +kernel))))
  obtain ⟨a5, p5, q5⟩ := arr_obj (s := s) (C := "GateGuards$Gate") (va_AO.of (A := A9) (hT _ (List.mem_of_getElem? (i := 114) (by decide +kernel))))
  obtain ⟨a6, p6, q6⟩ := arr_prim (ty := .long) (s := s) (A := A9) (hT _ (List.mem_of_getElem? (i := 1651) (by decide +kernel))) (fun _ h => h)
  obtain ⟨a7, p7, q7⟩ := arr_prim (ty := .double) (s := s) (A := A9) (hT _ (List.mem_of_getElem? (i := 1652) (by decide +kernel))) (fun _ h => h)
  obtain ⟨a8, p8, q8⟩ := arr_prim (ty := .byte) (s := s) (A := A9) (hT _ (List.mem_of_getElem? (i := 185) (by decide +kernel))) (fun _ h => h)
  refine ⟨(fun k => match k with | 0 => c0 | 1 => c1 | 2 => c2 | 3 => c3 | 4 => c4 | 5 => c5 | _ => c0, fun k => match k with | 0 => i0 | 1 => i1 | 2 => i2 | 3 => i3 | 4 => i4 | 5 => i5 | _ => i0), fun k => match k with | 0 => a0 | 1 => a1 | 2 => a2 | 3 => a3 | 4 => a4 | 5 => a5 | 6 => a6 | 7 => a7 | 8 => a8 | _ => a0, ?_, ?_⟩
  · intro k q hq
    match k, hq with
    | 0, hq => cases hq; exact k0
    | 1, hq => cases hq; exact k1
    | 2, hq => cases hq; exact k2
    | 3, hq => cases hq; exact k3
    | 4, hq => cases hq; exact k4
    | 5, hq => cases hq; exact k5
    | k + 6, hq => simp [vcl] at hq
  · intro k q hq
    match k, hq with
    | 0, hq => cases hq; exact ⟨p0, q0⟩
    | 1, hq => cases hq; exact ⟨p1, q1⟩
    | 2, hq => cases hq; exact ⟨p2, q2⟩
    | 3, hq => cases hq; exact ⟨p3, q3⟩
    | 4, hq => cases hq; exact ⟨p4, q4⟩
    | 5, hq => cases hq; exact ⟨p5, q5⟩
    | 6, hq => cases hq; exact ⟨p6, q6⟩
    | 7, hq => cases hq; exact ⟨p7, q7⟩
    | 8, hq => cases hq; exact ⟨p8, q8⟩
    | k + 9, hq => simp [vty] at hq
theorem WB.toWA {G : GG} {E : EE} {k n pc : Nat} {L : List (Nat × Value)} {st : List Value} {N : Nat} {U : List (Nat × va_E)} {S : Nat → Prop} {fq : Nat} (hG : MW G) (hA : ADF G) (hS : SBW G) (hinj : ∀ n, dmM n → g_ad G n ≠ g_ad G 960 ∧ g_ad G n ≠ g_ad G 960 + 1) (hd : ∀ n, dmM n → S n) (hU : ∀ x ∈ UR G, x ∈ U) (w : WA G E k n pc L st (m00 (g_ad G 960 + 1 : Nat))) : WB G E (g_ad G 960 + 1 : Nat) N U S fq k n pc L st := by
  intro H locs ls h1 h2 h3 h4 h5 h6
  have hraw : g_ad G (RAW + (g_ad G 960 + 1)) = g_ad G 960 + 1 := hA.2.2.2.2.2.2.2 _
  have hbs : g_bs G ≤ g_ad G 960 := hA.2.2.2.2.2.2.1 _ (by omega)
  have k2 : (m00 (g_ad G 960 + 1 : Nat)).1 960 2 = (g_ad G 960 + 1 : Nat) := by simp [m00]
  have k3 : (m00 (g_ad G 960 + 1 : Nat)).1 960 3 = 16 := by simp [m00]
  have k4 : (m00 (g_ad G 960 + 1 : Nat)).1 960 4 = 0 := by simp [m00]
  have ks : sbF (m00 (g_ad G 960 + 1 : Nat)) = [.ref (g_ad G 960 + 1), vI 0, .int 0, .int 0] := by
    unfold sbF
    rw [k2]
    simp [m00]
    rfl
  have u1 := h2 _ (hU _ List.mem_cons_self)
  have u2 := h2 _ (hU _ (List.mem_cons_of_mem _ List.mem_cons_self))
  dsimp only at u1 u2
  rw [hraw] at u1 u2
  refine w H locs ls ⟨fun n hn => h3 n (hd n (by rw [← hG.1]; exact hn)), ?_⟩ h5 h6
  rw [hS.2.1]
  refine ⟨by rw [ks]; exact u1, by rw [k2, k3]; exact u2, ⟨hbs, by rw [k2]; show g_bs G ≤ g_ad G 960 + 1; omega, by rw [k2]; show g_ad G 960 + 1 ≠ g_ad G 960; omega, fun n hn => by rw [k2]; exact hinj n (by rw [← hG.1]; exact hn)⟩, fun h => by rw [k4] at h; exact absurd h (by decide)⟩
theorem SX_all {n : Nat} (h : dmM n) : ((((False ∨ SX n) ∨ (n = 1024 ∨ n = 1088 ∨ n = 1152 ∨ n = 1216 ∨ n = 1280 ∨ n = 1344 ∨ n = 1408 ∨ n = 1472 ∨ n = 1536)) ∨ n = 1600) ∨ n = 1664) := by
  have hgt : ∀ a, GT a n → 64 ≤ a ∧ a < 75 → SX n := fun a ha hb => by
    refine Or.inr (Or.inr ?_)
    by_cases e : a < 67
    · rcases (show a = 64 ∨ a = 65 ∨ a = 66 by omega) with rfl | rfl | rfl
      · exact Or.inl (Or.inl ha)
      · exact Or.inl (Or.inr (Or.inl ha))
      · exact Or.inl (Or.inr (Or.inr ha))
    · exact Or.inr (Or.inr ⟨a - 67, by omega, by rw [show 67 + (a - 67) = a by omega]; exact ha⟩)
  have hx : SX n → ((((False ∨ SX n) ∨ (n = 1024 ∨ n = 1088 ∨ n = 1152 ∨ n = 1216 ∨ n = 1280 ∨ n = 1344 ∨ n = 1408 ∨ n = 1472 ∨ n = 1536)) ∨ n = 1600) ∨ n = 1664) := fun h => Or.inl (Or.inl (Or.inl (Or.inr h)))
  unfold dmM at h
  rcases h with h | h | h | h | h | h | h | h | h | h | h | h | h | h | h | h
  · exact hx (Or.inl h)
  · exact hx (hgt n (Or.inl rfl) h)
  · exact hx (hgt (n - 64) (Or.inr (Or.inl (by omega))) (by omega))
  · exact hx (hgt (n - 128) (Or.inr (Or.inr (Or.inl (by omega)))) (by omega))
  · exact hx (hgt (n - 192) (Or.inr (Or.inr (Or.inr (Or.inl (by omega))))) (by omega))
  · by_cases e : n = 364
    · exact hx (Or.inr (Or.inr (Or.inr (Or.inl (Or.inl (Or.inl e))))))
    · exact hx (hgt (64 + (n - 320) / 4) (Or.inr (Or.inr (Or.inr (Or.inr ⟨(n - 320) % 4, by omega, Or.inl (by unfold gid; omega)⟩)))) (by omega))
  · by_cases e : n = 364 + 64
    · exact hx (Or.inr (Or.inr (Or.inr (Or.inl (Or.inl (Or.inr (Or.inl e)))))))
    · exact hx (hgt (64 + (n - 384) / 4) (Or.inr (Or.inr (Or.inr (Or.inr ⟨(n - 384) % 4, by omega, Or.inr (Or.inl (by unfold gid; omega))⟩)))) (by omega))
  · by_cases e : n = 364 + 128
    · exact hx (Or.inr (Or.inr (Or.inr (Or.inl (Or.inl (Or.inr (Or.inr (Or.inl e))))))))
    · exact hx (hgt (64 + (n - 448) / 4) (Or.inr (Or.inr (Or.inr (Or.inr ⟨(n - 448) % 4, by omega, Or.inr (Or.inr (Or.inl (by unfold gid; omega)))⟩)))) (by omega))
  · by_cases e : n = 364 + 192
    · exact hx (Or.inr (Or.inr (Or.inr (Or.inl (Or.inl (Or.inr (Or.inr (Or.inr e))))))))
    · exact hx (hgt (64 + (n - 512) / 4) (Or.inr (Or.inr (Or.inr (Or.inr ⟨(n - 512) % 4, by omega, Or.inr (Or.inr (Or.inr (by unfold gid; omega)))⟩)))) (by omega))
  · exact hx (Or.inr (Or.inl h))
  · exact hx (Or.inr (Or.inr (Or.inr (Or.inl (Or.inr (Or.inl h))))))
  · exact hx (Or.inr (Or.inr (Or.inr (Or.inl (Or.inr (Or.inr (Or.inl h)))))))
  · exact hx (Or.inr (Or.inr (Or.inr (Or.inl (Or.inr (Or.inr (Or.inr (Or.inl h))))))))
  · exact hx (Or.inr (Or.inr (Or.inr (Or.inl (Or.inr (Or.inr (Or.inr (Or.inr (Or.inl h)))))))))
  · exact hx (Or.inr (Or.inr (Or.inr (Or.inl (Or.inr (Or.inr (Or.inr (Or.inr (Or.inr h)))))))))
  · omega
set_option maxHeartbeats 8000000 in
set_option maxRecDepth 100000 in
theorem law_start {G : GG} {E : EE} (ok : OK0 G E RL cL_law) (ao : AO2 (e_s E)) (hG : MW G) (hA : ADF G) (hS : SBW G) (hml : (e_c E).maxLocals = 9) (hR : e_R E = room_1) {sb sl : Nat} {xs : Nat → Int32} (hSc : SCR G E sb sl xs) (h00 : g_ad G 0 = (e_s E).heap.size) (hinj : ∀ n, dmM n → g_ad G n ≠ g_ad G 960 ∧ g_ad G n ≠ g_ad G 960 + 1)
    (hend : ∀ (i : Int) (m : Mm), WA G E 603072 7223402 2500 [(0, .ref (RAW + sb)), (1, .ref 0), (2, .ref 1024), (3, .ref 1600), (4, .ref 1664), (5, vI i)] [] m) : WB G E (g_ad G 960 + 1 : Nat) (e_s E).heap.size [] (fun _ => False) (e_s E).heap.size 0 0 0 [(0, .ref (RAW + sb))] [] := by
  have hn1 : 1 < (e_c E).maxLocals := by rw [hml]; decide
  have hn2 : 2 < (e_c E).maxLocals := by rw [hml]; decide
  have hn3 : 3 < (e_c E).maxLocals := by rw [hml]; decide
  have hn4 : 4 < (e_c E).maxLocals := by rw [hml]; decide
  have hn5 : 5 < (e_c E).maxLocals := by rw [hml]; decide
  have e1 := hA.2.2.2.2.1.1
  have e2 := hA.2.2.2.2.2.1
  refine wb_new ok (ci := 3) (a := 0) (fs := [.null, .null, .null, .int 0, .null, .int 0, .int 0, .null, .null, .null, .int 0, .int 0, .int 0]) rfl (tb_in 30 (by decide +kernel) (by decide +kernel)) (tb_in 31 (by decide +kernel) (by decide +kernel)) (tb_in 1 (by decide +kernel) (by decide +kernel)) big_X3 tyX3 tyX3_ok (fun j hj => by rcases (show j = 0 ∨ j = 1 ∨ j = 2 ∨ j = 3 ∨ j = 4 ∨ j = 5 ∨ j = 6 ∨ j = 7 ∨ j = 8 ∨ j = 9 ∨ j = 10 ∨ j = 11 ∨ j = 12 by omega) with rfl | rfl | rfl | rfl | rfl | rfl | rfl | rfl | rfl | rfl | rfl | rfl | rfl <;> rfl) (h00) (by rw [hR]; exact Nat.le_of_ble_eq_true rfl) (by rw [hR]; exact Nat.le_of_ble_eq_true rfl) dL_law_0 ?_
  intro hSl hUl
  refine wb_dup ok dL_law_3 rfl ?_
  refine wb_callI ok ao (a := 0) (fs0 := [.null, .null, .null, .int 0, .null, .int 0, .int 0, .null, .null, .null, .int 0, .int 0, .int 0]) (U0 := []) [] li_L_135 (i_X3 ok.fl hG hA hS) rfl (by rw [hR]; exact ⟨by decide, by decide, Nat.le_of_ble_eq_true rfl, Nat.le_of_ble_eq_true rfl⟩) (Nat.le_of_ble_eq_true rfl) (by omega) (List.mem_append_right _ List.mem_cons_self) (fun _ h => absurd h List.not_mem_nil) (fun _ hn => hn.elim) (Or.inr (by omega)) dL_law_4 ?_
  refine wb_astore_n ok 1 rfl hn1 dL_law_7 ?_
  refine wb_new ok (ci := 4) (a := 1024) (fs := [.null, .null, .null, .int 0, .null, .int 0, .int 0, .int 0, .int 0, .int 0, .null, .null, .int 0, .null, .int 0, .int 0, .int 0, .int 0, .null, .int 0]) rfl (tb_in 1230 (by decide +kernel) (by decide +kernel)) (tb_in 1231 (by decide +kernel) (by decide +kernel)) (tb_in 9 (by decide +kernel) (by decide +kernel)) big_X4 tyX4 tyX4_ok (fun j hj => by rcases (show j = 0 ∨ j = 1 ∨ j = 2 ∨ j = 3 ∨ j = 4 ∨ j = 5 ∨ j = 6 ∨ j = 7 ∨ j = 8 ∨ j = 9 ∨ j = 10 ∨ j = 11 ∨ j = 12 ∨ j = 13 ∨ j = 14 ∨ j = 15 ∨ j = 16 ∨ j = 17 ∨ j = 18 ∨ j = 19 by omega) with rfl | rfl | rfl | rfl | rfl | rfl | rfl | rfl | rfl | rfl | rfl | rfl | rfl | rfl | rfl | rfl | rfl | rfl | rfl | rfl <;> rfl) (by omega) (by rw [hR]; exact Nat.le_of_ble_eq_true rfl) (by rw [hR]; exact Nat.le_of_ble_eq_true rfl) dL_law_8 ?_
  intro hSl hUl
  refine wb_dup ok dL_law_11 rfl ?_
  refine wb_callI ok ao (a := 1024) (fs0 := [.null, .null, .null, .int 0, .null, .int 0, .int 0, .int 0, .int 0, .int 0, .null, .null, .int 0, .null, .int 0, .int 0, .int 0, .int 0, .null, .int 0]) (U0 := UR G) [] li_L_138 (i_X4 ok.fl hG hA) rfl (by rw [hR]; exact ⟨by decide, by decide, Nat.le_of_ble_eq_true rfl, Nat.le_of_ble_eq_true rfl⟩) (Nat.le_of_ble_eq_true rfl) (by omega) (List.mem_append_right _ List.mem_cons_self) (fun x hx => ⟨List.mem_append_left _ hx, by have := hUl x hx; omega⟩) (fun n hn => by have := hSl n hn; omega) (Or.inr (by omega)) dL_law_12 ?_
  refine wb_astore_n ok 2 rfl hn2 dL_law_15 ?_
  refine wb_iconst ok dL_law_16 ?_
  refine wb_newa ok (ty := .long) (t := 6) (N' := 1) (n' := 1600) rfl rfl (tb_in 1651 (by decide +kernel) (by decide +kernel)) (by omega) rfl (Nat.le_of_ble_eq_true rfl) (by omega) ((ar_lo hG (a := 1600) rfl).2.2 _) (by rw [vp_cell_l]; exact arrV_cong (fun j _ => by rw [m00_0 (by omega)]; rfl)) (by rw [hR]; exact Nat.le_of_ble_eq_true rfl) (by rw [hR]; exact Nat.le_of_ble_eq_true rfl) dL_law_17 ?_
  refine wb_astore_n ok 3 rfl hn3 dL_law_19 ?_
  refine wb_iconst ok dL_law_20 ?_
  refine wb_newa ok (ty := .double) (t := 7) (N' := 1) (n' := 1664) rfl rfl (tb_in 1652 (by decide +kernel) (by decide +kernel)) (by omega) rfl (Nat.le_of_ble_eq_true rfl) (by omega) ((ar_ld hG (a := 1664) rfl).2.2 _) (by rw [vp_cell_d]; exact arrV_cong (fun j _ => by rw [m00_0 (by omega)]; rfl)) (by rw [hR]; exact Nat.le_of_ble_eq_true rfl) (by rw [hR]; exact Nat.le_of_ble_eq_true rfl) dL_law_21 ?_
  refine wb_astore ok hn4 dL_law_23 ?_
  refine wb_iconst ok dL_law_25 ?_
  refine wb_istore ok hn5 dL_law_26 ?_
  refine WB.toWA hG hA hS hinj (fun n hn => SX_all hn) (fun x hx => List.mem_append_left _ hx) ?_
  refine WA.wd (k2 := 244 + 24 * 0) (n2 := 4466 + 9206 * 0) (Nat.le_of_ble_eq_true rfl) (Nat.le_of_ble_eq_true rfl) (WA.re (L' := [(0, .ref (RAW + sb)), (1, .ref 0), (2, .ref 1024), (3, .ref 1600), (4, .ref 1664), (5, vI 0)]) (by exact ⟨rfl, rfl, rfl, rfl, rfl, rfl, trivial⟩) ?_)
  exact law_loop ok hG hS hml hR hSc (T0 := 0) ⟨by decide, by decide⟩ (k0 := 244) (n0 := 4466) (Nat.le_of_ble_eq_true rfl) (Nat.le_of_ble_eq_true rfl) hend 0 0 (m00 (g_ad G 960 + 1 : Nat)) g00 ⟨by omega, by omega, by omega, LWS_0 (by omega)⟩
