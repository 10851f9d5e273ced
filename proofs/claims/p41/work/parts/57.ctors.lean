/-! CONSTRUCTORS: calls of a nest mate's; where the cells lie -/
def LinkNM (own : String) (idx : Nat) (y : MethodName) (host : String) (bytes : ByteArray) (maxL : Nat) (na : Nat) : Prop :=
  Cond.methodLinkNest own idx y host ∈ SPW ∧ (Cond.initialized y.cls ∈ BIG ∧ Cond.instanceMethod y ∈ BIG) ∧ Cond.code y bytes maxL none ∈ BIG ∧ y.name = "<init>" ∧ (y.cls ≠ "java/lang/invoke/MethodHandle" ∧ y.cls ≠ "java/lang/invoke/VarHandle" ∧ (parseMethodDescriptor y.desc).map (fun d => d.parameters.length) = some na)
section MAKE3
variable {G : GG} {E : EE} {own : String} {b : ByteArray} {k n pc : Nat} {L : List (Nat × Value)} {st : List Value} {z : Int} {N : Nat} {U : List (Nat × va_E)} {S : Nat → Prop} {fq : Nat}
theorem wb_callN (ok : OK0 G E own b) (ao : AO2 (e_s E)) {y : MethodName} {bytes : ByteArray} {maxL idx na : Nat} {rm : Room} {a ci dN : Nat} {fs0 : List Value} {Sa : Nat → Prop} {Ur U0 : List (Nat × va_E)} (as : List Value) {host : String} (lk : LinkNM own idx y host bytes maxL na) (hC : CI G (e_l E) z y bytes maxL rm a ci fs0 as dN Sa Ur) (hna : as.length = na) (hf : Fits (e_R E) rm maxL k n) (hw : (st.map fun v => v.category).sum ≤ 8)
    (hN : N = g_ad G a + 1) (hUa : (a, .inr (ci, fs0)) ∈ U) (hU0 : ∀ x ∈ U0, x ∈ U ∧ g_ad G x.1 ≠ g_ad G a) (hSn : ∀ n, S n → g_ad G n ≠ g_ad G a) (hfa : g_ad G a = fq ∨ (e_s E).heap.size ≤ g_ad G a)
    (d : decode b pc = .ok (.invokespecial idx, 3)) (kk : WB G E z (N + dN) (U0 ++ Ur) (fun n => S n ∨ Sa n) fq (k + rm.cells) (n + rm.slots) (pc + 3) L st) : WB G E z N U S fq k n pc L (as.reverse ++ .ref a :: st) := by
  obtain ⟨f1, f2, f3, f4⟩ := hf
  intro H locs ls h1 h2 h3 h4 h5 h6 T hT X
  obtain ⟨lk0, lk1, lk2, lk3, lk4⟩ := lk
  have hSP := ok.f.2.2.2.2.2.2.2.2.2.1
  have cw := va_cnB (R := e_R E) (s := e_s E) (args := e_a E) (own := own) (host := host) (index := idx) (y := y) (bytes := bytes) (maxL := maxL) (ret := none) (Ts := BIG) (ws := Cond.code y bytes maxL none :: BIG) (ws' := BIG) (rm := rm) (mc := rm.cells) (ms := rm.slots) na ok.w (big_in (fun w hw => by
    rcases List.mem_cons.mp hw with h | h
    · rw [h]; exact lk2
    · exact h)) rfl rfl rfl (hSP _ lk0) (ok.w _ lk1.1) lk4 ⟨f1, f2⟩
  have hr := va_runIN (p := e_p E) (l := e_l E) (e := e_e E) (R := e_R E) (s := e_s E) (m := e_m E) (args := e_a E) (below := e_b E) (meth := e_t E) (c := e_c E) (H := H) (locs := locs) (cells := k) (slots := n) (b := g_ad G a) (As := as.map (cv (g_ad G))) (rest := st.map (cv (g_ad G))) (g := F0 (e_m E) pc ls ((as.reverse ++ .ref a :: st).map (cv (g_ad G)))) ⟨ok.x, ok.b, rfl, ok.o, ok.w⟩ hC ⟨cw, lk3, ok.w _ lk1.2⟩ ⟨blind_PI G a ci fs0 as, fun U hU hWm => ⟨rfl, SF.moved hWm (by rw [hU]; exact h5.1) (fun q q1 q2 => by rw [hU]; exact h5.2.1 q q1 q2) ok.f, AO2.moved hWm.alike ao, by rw [hU, h1, hN], by rw [hU]; exact h2 _ hUa⟩⟩ rfl (by rw [List.length_map]; exact hna) h6.1 (by simp [cv]) (by have := sum_cv (g_ad G) st; exact lv_room (by omega)) d ⟨f3, f4⟩
  obtain ⟨v, st₀, t, T', Lc, h0, X', hL, e1, e2, ⟨hv, ⟨q1, q2, q3, q4⟩, hF⟩, hst⟩ := hr T hT X
  obtain ⟨k1, k2, k3⟩ := vx_keep h0 e1 h5 (fun q _ h => h) (fun q h => h) hL hF
  have hv' : v = none := by injection hv
  subst hv'
  have hlo : ∀ q, q < H.size → q ≠ g_ad G a → T'.heap[q]? = H[q]? := fun q ha hb => by rw [e1, q4 q (by rw [h0]; exact ha) hb, h0]
  have hA : ∀ x ∈ U0 ++ Ur, va_at (g_D G) vcl (g_ad G x.1, x.2) T'.heap := fun x hx => by
    rcases List.mem_append.mp hx with hx | hx
    · obtain ⟨u1, u2⟩ := hU0 x hx
      exact (h2 x u1).kept (hlo _ (h2 x u1).lt u2)
    · rw [e1]; exact q3 x hx
  have hB : ∀ x, S x ∨ Sa x → va_at (g_D G) vcl (g_ad G x, g_cell G (m00 z) x) T'.heap := fun x hx => by
    rcases hx with hx | hx
    · exact (h3 x hx).kept (hlo _ (h3 x hx).lt (hSn x hx))
    · rw [e1]; exact q2 x hx
  have hC9 : ∀ q, q < (e_s E).heap.size → q ≠ fq → T'.heap[q]? = (e_s E).heap[q]? := fun q ha hb => by
    rw [hlo q (Nat.lt_of_lt_of_le ha h5.1) (fun e => by rcases hfa with h | h <;> omega)]
    exact h4 q ha hb
  obtain ⟨t2, a1, b1⟩ := kk T'.heap (locs ++ Lc) ls (by rw [e1, q1, hN]) hA hB hC9 k3 h6 T' rfl X'
  exact ⟨t2, hst t2 a1, b1⟩
end MAKE3
/-- where the cells lie -/
def ADF (G : GG) : Prop :=
  (∀ a, 320 ≤ a ∧ a < 365 → g_ad G (a + 64) = g_ad G a + 1 ∧ g_ad G (a + 128) = g_ad G a + 2 ∧ g_ad G (a + 192) = g_ad G a + 3) ∧
  (∀ a, 64 ≤ a ∧ a < 75 → g_ad G (a + 64) = g_ad G a + 1 ∧ g_ad G (a + 128) = g_ad G a + 2 ∧ g_ad G (a + 192) = g_ad G a + 3 ∧ ∀ j, j < 4 → g_ad G (320 + 4 * (a - 64) + j) = g_ad G a + 4 + 4 * j) ∧
  (g_ad G 64 = g_ad G 0 + 1 ∧ g_ad G 65 = g_ad G 0 + 21 ∧ g_ad G 66 = g_ad G 0 + 41 ∧ g_ad G 576 = g_ad G 0 + 61 ∧ g_ad G 364 = g_ad G 0 + 62 ∧ g_ad G 640 = g_ad G 0 + 66 ∧ g_ad G 960 = g_ad G 0 + 71 ∧ ∀ i, i < 8 → g_ad G (67 + i) = g_ad G 0 + 73 + 20 * i) ∧
  (g_ad G 704 = g_ad G 640 + 1 ∧ g_ad G 768 = g_ad G 640 + 2 ∧ g_ad G 832 = g_ad G 640 + 3 ∧ g_ad G 896 = g_ad G 640 + 4) ∧
  (g_ad G 1024 = g_ad G 0 + 233 ∧ g_ad G 1088 = g_ad G 1024 + 1 ∧ g_ad G 1152 = g_ad G 1024 + 2 ∧ g_ad G 1216 = g_ad G 1024 + 3 ∧ g_ad G 1280 = g_ad G 1024 + 4 ∧ g_ad G 1344 = g_ad G 1024 + 5 ∧ g_ad G 1408 = g_ad G 1024 + 6 ∧ g_ad G 1472 = g_ad G 1024 + 7 ∧ g_ad G 1536 = g_ad G 1024 + 8) ∧
  (g_ad G 1600 = g_ad G 0 + 242 ∧ g_ad G 1664 = g_ad G 0 + 243) ∧ (∀ n, n < 2000 → g_bs G ≤ g_ad G n) ∧ ∀ a, g_ad G (RAW + a) = a
theorem m00_0 {z : Int} {n : Nat} (h : n ≠ 0 ∧ n ≠ 960 ∧ n ≠ 1024) (j : Nat) : (m00 z).1 n j = 0 := by
  obtain ⟨h1, h2, h3⟩ := h
  simp [m00, h1, h2, h3]
theorem nz_i {G : GG} {t len n : Nat} {z : Int} {ty : FieldType} (hd : defaultValue ty = .int 0) (hn : n ≠ 0 ∧ n ≠ 960 ∧ n ≠ 1024) : vp_cell (g_cA G t) (len, .inl (fun j => Int32.ofInt ((m00 z).1 n j))) = arrV (g_cA G t) len (fun _ => defaultValue ty) := by
  rw [vp_cell_i, hd]
  refine arrV_cong (fun j _ => ?_)
  rw [m00_0 hn]
  rfl
set_option maxHeartbeats 4000000 in
set_option maxRecDepth 100000 in
theorem i_X1 {G : GG} {l : Launch} (hfl : l.stackTraces = false) (hG : MW G) (hA : ADF G) {z : Int} {a : Nat} (ha : 320 ≤ a ∧ a < 365) : CI G l z yX1_init cX1_init 1 (RM 1 3 32) a 1 [.int 0, .int 0, .null, .null, .null, .int 0, .int 0, .int 0, .int 0] [] 3 (fun n => n = a ∨ n = a + 64 ∨ n = a + 128 ∨ n = a + 192) [] := by
  refine CI.of RX1 [(0, .ref a)] hfl (by decide +kernel) rfl rfl rfl (Nat.le_of_ble_eq_true rfl) ?_
  intro E ok ao en hml hEl hin hsz
  have hR : e_R E = RM 1 3 32 := en.2.2.2
  have hn0 : 0 < (e_c E).maxLocals := by rw [hml]; decide
  obtain ⟨e1, e2, e3⟩ := hA.1 a ha
  have hbs : g_bs G ≤ g_ad G (a) := hA.2.2.2.2.2.2.1 _ (by omega)
  have hc : g_cell G (m00 z) a = .inr (1, [vI 0, vI 0, .ref (g_ad G (a + 64)), .ref (g_ad G (a + 128)), .ref (g_ad G (a + 192)), vI 0, vI 0, vI 0, vI 0]) := by
    rw [cell_X1 hG _ ha]
    simp only [m00_0 (show a ≠ 0 ∧ a ≠ 960 ∧ a ≠ 1024 by omega)]
    rfl
  refine wb_aload_n ok 0 rfl rfl dX1_init_0 ?_
  refine wb_obj ok (tb_in 52 (by decide +kernel) (by decide +kernel)) (tb_in 38 (by decide +kernel) (by decide +kernel)) (tb_in 39 (by decide +kernel) (by decide +kernel)) (by rw [hR]; decide) (by rw [hR]; exact Nat.le_of_ble_eq_true rfl) dX1_init_1 ?_
  refine wb_aload_n ok 0 rfl rfl dX1_init_4 ?_
  refine wb_iconst ok dX1_init_5 ?_
  refine wb_putX ok (kf := 0) (ty := tyX1) rfl big_X1 tyX1_ok nmX1 (by decide) (by simp) (tb_in 53 (by decide +kernel) (by decide +kernel)) (fun h => ⟨rfl, hin⟩) rfl rfl (fun _ h => absurd h List.not_mem_nil) (fun _ hn => hn.elim) rfl hbs dX1_init_6 ?_
  refine wb_aload_n ok 0 rfl rfl dX1_init_9 ?_
  refine wb_iconst ok dX1_init_10 ?_
  refine wb_putX ok (kf := 1) (ty := tyX1) rfl big_X1 tyX1_ok nmX1 (by decide) (by simp) (tb_in 55 (by decide +kernel) (by decide +kernel)) (fun h => ⟨rfl, hin⟩) rfl rfl (fun _ h => absurd h List.not_mem_nil) (fun _ hn => hn.elim) rfl hbs dX1_init_11 ?_
  refine wb_aload_n ok 0 rfl rfl dX1_init_14 ?_
  refine wb_bipush ok dX1_init_15 (by decide) ?_
  refine wb_newa ok (ty := .float) (t := 1) (N' := 11) (n' := a + 64) rfl rfl (tb_in 94 (by decide +kernel) (by decide +kernel)) (by omega) rfl (Nat.le_of_ble_eq_true rfl) (by omega) ((ar_we hG (a := a + 64) (by omega)).2.2 (m00 z)) rfl (by rw [hR]; exact Nat.le_of_ble_eq_true rfl) (by rw [hR]; exact Nat.le_of_ble_eq_true rfl) dX1_init_17 ?_
  refine wb_putX ok (kf := 2) (ty := tyX1) rfl big_X1 tyX1_ok nmX1 (by decide) (by simp) (tb_in 57 (by decide +kernel) (by decide +kernel)) (fun h => ⟨rfl, hin⟩) rfl rfl (fun _ h => absurd h List.not_mem_nil) (fun n hn => by rcases hn with (hn) | rfl <;> first | exact hn.elim | omega) rfl hbs dX1_init_19 ?_
  refine wb_aload_n ok 0 rfl rfl dX1_init_22 ?_
  refine wb_bipush ok dX1_init_23 (by decide) ?_
  refine wb_newa ok (ty := .int) (t := 0) (N' := 11) (n' := a + 128) rfl rfl (tb_in 92 (by decide +kernel) (by decide +kernel)) (by omega) rfl (Nat.le_of_ble_eq_true rfl) (by omega) ((ar_co hG (a := a + 128) (by omega)).2.2 (m00 z)) (nz_i rfl (by omega)) (by rw [hR]; exact Nat.le_of_ble_eq_true rfl) (by rw [hR]; exact Nat.le_of_ble_eq_true rfl) dX1_init_25 ?_
  refine wb_putX ok (kf := 3) (ty := tyX1) rfl big_X1 tyX1_ok nmX1 (by decide) (by simp) (tb_in 59 (by decide +kernel) (by decide +kernel)) (fun h => ⟨rfl, hin⟩) rfl rfl (fun _ h => absurd h List.not_mem_nil) (fun n hn => by rcases hn with ((hn) | rfl) | rfl <;> first | exact hn.elim | omega) rfl hbs dX1_init_27 ?_
  refine wb_aload_n ok 0 rfl rfl dX1_init_30 ?_
  refine wb_bipush ok dX1_init_31 (by decide) ?_
  refine wb_newa ok (ty := .float) (t := 1) (N' := 10) (n' := a + 192) rfl rfl (tb_in 94 (by decide +kernel) (by decide +kernel)) (by omega) rfl (Nat.le_of_ble_eq_true rfl) (by omega) ((ar_su hG (a := a + 192) (by omega)).2.2 (m00 z)) rfl (by rw [hR]; exact Nat.le_of_ble_eq_true rfl) (by rw [hR]; exact Nat.le_of_ble_eq_true rfl) dX1_init_33 ?_
  refine wb_putX ok (kf := 4) (ty := tyX1) rfl big_X1 tyX1_ok nmX1 (by decide) (by simp) (tb_in 61 (by decide +kernel) (by decide +kernel)) (fun h => ⟨rfl, hin⟩) rfl rfl (fun _ h => absurd h List.not_mem_nil) (fun n hn => by rcases hn with (((hn) | rfl) | rfl) | rfl <;> first | exact hn.elim | omega) rfl hbs dX1_init_35 ?_
  refine wb_aload_n ok 0 rfl rfl dX1_init_38 ?_
  refine wb_iconst ok dX1_init_39 ?_
  refine wb_putX ok (kf := 5) (ty := tyX1) rfl big_X1 tyX1_ok nmX1 (by decide) (by simp) (tb_in 63 (by decide +kernel) (by decide +kernel)) (fun h => ⟨rfl, hin⟩) rfl rfl (fun _ h => absurd h List.not_mem_nil) (fun n hn => by rcases hn with (((hn) | rfl) | rfl) | rfl <;> first | exact hn.elim | omega) rfl hbs dX1_init_40 ?_
  refine wb_aload_n ok 0 rfl rfl dX1_init_43 ?_
  refine wb_iconst ok dX1_init_44 ?_
  refine wb_putX ok (kf := 6) (ty := tyX1) rfl big_X1 tyX1_ok nmX1 (by decide) (by simp) (tb_in 66 (by decide +kernel) (by decide +kernel)) (fun h => ⟨rfl, hin⟩) rfl rfl (fun _ h => absurd h List.not_mem_nil) (fun n hn => by rcases hn with (((hn) | rfl) | rfl) | rfl <;> first | exact hn.elim | omega) rfl hbs dX1_init_45 ?_
  refine wb_aload_n ok 0 rfl rfl dX1_init_48 ?_
  refine wb_iconst ok dX1_init_49 ?_
  refine wb_putX ok (kf := 7) (ty := tyX1) rfl big_X1 tyX1_ok nmX1 (by decide) (by simp) (tb_in 69 (by decide +kernel) (by decide +kernel)) (fun h => ⟨rfl, hin⟩) rfl rfl (fun _ h => absurd h List.not_mem_nil) (fun n hn => by rcases hn with (((hn) | rfl) | rfl) | rfl <;> first | exact hn.elim | omega) rfl hbs dX1_init_50 ?_
  refine wb_aload_n ok 0 rfl rfl dX1_init_53 ?_
  refine wb_iconst ok dX1_init_54 ?_
  refine wb_putX ok (kf := 8) (ty := tyX1) rfl big_X1 tyX1_ok nmX1 (by decide) (by simp) (tb_in 71 (by decide +kernel) (by decide +kernel)) (fun h => ⟨rfl, hin⟩) rfl rfl (fun _ h => absurd h List.not_mem_nil) (fun n hn => by rcases hn with (((hn) | rfl) | rfl) | rfl <;> first | exact hn.elim | omega) rfl hbs dX1_init_55 ?_
  exact wb_return ok en (by omega) (fun n hn => by rcases hn with rfl | rfl | rfl | rfl; exact Or.inr (by rw [hc]; exact List.mem_cons_self); exact Or.inl (Or.inl (Or.inl (Or.inr rfl))); exact Or.inl (Or.inl (Or.inr rfl)); exact Or.inl (Or.inr rfl)) (fun _ h => absurd h List.not_mem_nil) rfl (by exact Nat.le_refl _) (by exact Nat.le_refl _) dX1_init_58
set_option maxHeartbeats 4000000 in
set_option maxRecDepth 100000 in
theorem i_X2 {G : GG} {l : Launch} (hfl : l.stackTraces = false) (hG : MW G) (hA : ADF G) {z : Int}  : CI G l z yX2_init cX2_init 1 (RM 1 4 240) 640 2 [.null, .int 0, .null, .null, .null, .int 0, .int 0] [] 4 (fun n => n = 640 ∨ n = 704 ∨ n = 768 ∨ n = 832 ∨ n = 896) [] := by
  refine CI.of RX2 [(0, .ref 640)] hfl (by decide +kernel) rfl rfl rfl (Nat.le_of_ble_eq_true rfl) ?_
  intro E ok ao en hml hEl hin hsz
  have hR : e_R E = RM 1 4 240 := en.2.2.2
  have hn0 : 0 < (e_c E).maxLocals := by rw [hml]; decide
  obtain ⟨e1, e2, e3, e4⟩ := hA.2.2.2.1
  have hbs : g_bs G ≤ g_ad G (640) := hA.2.2.2.2.2.2.1 _ (by omega)
  have hc : g_cell G (m00 z) 640 = .inr (2, [.ref (g_ad G 704), vI 0, .ref (g_ad G 768), .ref (g_ad G 832), .ref (g_ad G 896), vI 0, vI 0]) := by
    rw [cell_X2 hG _ rfl]
    simp only [m00_0 (show (640 : Nat) ≠ 0 ∧ (640 : Nat) ≠ 960 ∧ (640 : Nat) ≠ 1024 by omega)]
    rfl
  refine wb_aload_n ok 0 rfl rfl dX2_init_0 ?_
  refine wb_obj ok (tb_in 124 (by decide +kernel) (by decide +kernel)) (tb_in 38 (by decide +kernel) (by decide +kernel)) (tb_in 39 (by decide +kernel) (by decide +kernel)) (by rw [hR]; decide) (by rw [hR]; exact Nat.le_of_ble_eq_true rfl) dX2_init_1 ?_
  refine wb_aload_n ok 0 rfl rfl dX2_init_4 ?_
  refine wb_bipush ok dX2_init_5 (by decide) ?_
  refine wb_newa ok (ty := .char) (t := 3) (N' := 60) (n' := 704) rfl rfl (tb_in 154 (by decide +kernel) (by decide +kernel)) (by omega) rfl (Nat.le_of_ble_eq_true rfl) (by omega) ((ar_sg hG (a := 704) (by omega)).2.2 (m00 z)) (nz_i rfl (by omega)) (by rw [hR]; exact Nat.le_of_ble_eq_true rfl) (by rw [hR]; exact Nat.le_of_ble_eq_true rfl) dX2_init_7 ?_
  refine wb_putX ok (kf := 0) (ty := tyX2) rfl big_X2 tyX2_ok nmX2 (by decide) (by simp) (tb_in 125 (by decide +kernel) (by decide +kernel)) (fun h => ⟨rfl, hin⟩) rfl rfl (fun _ h => absurd h List.not_mem_nil) (fun n hn => by rcases hn with (hn) | rfl <;> first | exact hn.elim | omega) rfl hbs dX2_init_9 ?_
  refine wb_aload_n ok 0 rfl rfl dX2_init_12 ?_
  refine wb_iconst ok dX2_init_13 ?_
  refine wb_putX ok (kf := 1) (ty := tyX2) rfl big_X2 tyX2_ok nmX2 (by decide) (by simp) (tb_in 127 (by decide +kernel) (by decide +kernel)) (fun h => ⟨rfl, hin⟩) rfl rfl (fun _ h => absurd h List.not_mem_nil) (fun n hn => by rcases hn with (hn) | rfl <;> first | exact hn.elim | omega) rfl hbs dX2_init_14 ?_
  refine wb_aload_n ok 0 rfl rfl dX2_init_17 ?_
  refine wb_bipush ok dX2_init_18 (by decide) ?_
  refine wb_newa ok (ty := .char) (t := 3) (N' := 60) (n' := 768) rfl rfl (tb_in 154 (by decide +kernel) (by decide +kernel)) (by omega) rfl (Nat.le_of_ble_eq_true rfl) (by omega) ((ar_ki hG (a := 768) (by omega)).2.2 (m00 z)) (nz_i rfl (by omega)) (by rw [hR]; exact Nat.le_of_ble_eq_true rfl) (by rw [hR]; exact Nat.le_of_ble_eq_true rfl) dX2_init_20 ?_
  refine wb_putX ok (kf := 2) (ty := tyX2) rfl big_X2 tyX2_ok nmX2 (by decide) (by simp) (tb_in 129 (by decide +kernel) (by decide +kernel)) (fun h => ⟨rfl, hin⟩) rfl rfl (fun _ h => absurd h List.not_mem_nil) (fun n hn => by rcases hn with ((hn) | rfl) | rfl <;> first | exact hn.elim | omega) rfl hbs dX2_init_22 ?_
  refine wb_aload_n ok 0 rfl rfl dX2_init_25 ?_
  refine wb_bipush ok dX2_init_26 (by decide) ?_
  refine wb_newa ok (ty := .int) (t := 0) (N' := 60) (n' := 832) rfl rfl (tb_in 92 (by decide +kernel) (by decide +kernel)) (by omega) rfl (Nat.le_of_ble_eq_true rfl) (by omega) ((ar_f1 hG (a := 832) (by omega)).2.2 (m00 z)) (nz_i rfl (by omega)) (by rw [hR]; exact Nat.le_of_ble_eq_true rfl) (by rw [hR]; exact Nat.le_of_ble_eq_true rfl) dX2_init_28 ?_
  refine wb_putX ok (kf := 3) (ty := tyX2) rfl big_X2 tyX2_ok nmX2 (by decide) (by simp) (tb_in 131 (by decide +kernel) (by decide +kernel)) (fun h => ⟨rfl, hin⟩) rfl rfl (fun _ h => absurd h List.not_mem_nil) (fun n hn => by rcases hn with (((hn) | rfl) | rfl) | rfl <;> first | exact hn.elim | omega) rfl hbs dX2_init_30 ?_
  refine wb_aload_n ok 0 rfl rfl dX2_init_33 ?_
  refine wb_bipush ok dX2_init_34 (by decide) ?_
  refine wb_newa ok (ty := .int) (t := 0) (N' := 60) (n' := 896) rfl rfl (tb_in 92 (by decide +kernel) (by decide +kernel)) (by omega) rfl (Nat.le_of_ble_eq_true rfl) (by omega) ((ar_f2 hG (a := 896) (by omega)).2.2 (m00 z)) (nz_i rfl (by omega)) (by rw [hR]; exact Nat.le_of_ble_eq_true rfl) (by rw [hR]; exact Nat.le_of_ble_eq_true rfl) dX2_init_36 ?_
  refine wb_putX ok (kf := 4) (ty := tyX2) rfl big_X2 tyX2_ok nmX2 (by decide) (by simp) (tb_in 133 (by decide +kernel) (by decide +kernel)) (fun h => ⟨rfl, hin⟩) rfl rfl (fun _ h => absurd h List.not_mem_nil) (fun n hn => by rcases hn with ((((hn) | rfl) | rfl) | rfl) | rfl <;> first | exact hn.elim | omega) rfl hbs dX2_init_38 ?_
  refine wb_aload_n ok 0 rfl rfl dX2_init_41 ?_
  refine wb_iconst ok dX2_init_42 ?_
  refine wb_putX ok (kf := 5) (ty := tyX2) rfl big_X2 tyX2_ok nmX2 (by decide) (by simp) (tb_in 135 (by decide +kernel) (by decide +kernel)) (fun h => ⟨rfl, hin⟩) rfl rfl (fun _ h => absurd h List.not_mem_nil) (fun n hn => by rcases hn with ((((hn) | rfl) | rfl) | rfl) | rfl <;> first | exact hn.elim | omega) rfl hbs dX2_init_43 ?_
  refine wb_aload_n ok 0 rfl rfl dX2_init_46 ?_
  refine wb_iconst ok dX2_init_47 ?_
  refine wb_putX ok (kf := 6) (ty := tyX2) rfl big_X2 tyX2_ok nmX2 (by decide) (by simp) (tb_in 137 (by decide +kernel) (by decide +kernel)) (fun h => ⟨rfl, hin⟩) rfl rfl (fun _ h => absurd h List.not_mem_nil) (fun n hn => by rcases hn with ((((hn) | rfl) | rfl) | rfl) | rfl <;> first | exact hn.elim | omega) rfl hbs dX2_init_48 ?_
  exact wb_return ok en (by omega) (fun n hn => by rcases hn with rfl | rfl | rfl | rfl | rfl; exact Or.inr (by rw [hc]; exact List.mem_cons_self); exact Or.inl (Or.inl (Or.inl (Or.inl (Or.inr rfl)))); exact Or.inl (Or.inl (Or.inl (Or.inr rfl))); exact Or.inl (Or.inl (Or.inr rfl)); exact Or.inl (Or.inr rfl)) (fun _ h => absurd h List.not_mem_nil) rfl (by exact Nat.le_refl _) (by exact Nat.le_refl _) dX2_init_51
