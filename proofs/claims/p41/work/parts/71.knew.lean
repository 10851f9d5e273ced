/-! WHAT GUARDS KNOW -/
theorem kno_t {r : Nat → Int} {g v : Nat} (h : vF r v = 1) : kno r g v = mg (gcn (rg r g)) (vX r v) := if_pos h
theorem kno_f {r : Nat → Int} {g v : Nat} (h : vF r v ≠ 1) : kno r g v = 0 - mg (gcn (rg r g)) (vX r v) := by
  unfold kno
  rw [if_neg h]
  omega
theorem erB_1 {r : Nat → Int} {g v : Nat} (h : ¬ (b2i (adm (gcn (rg r g)) (vX r v)) = vF r v)) : b2i (erB r g v) = 1 := b2i_1.mpr (decide_eq_true h)
theorem erB_0 {r : Nat → Int} {g v : Nat} (h : b2i (adm (gcn (rg r g)) (vX r v)) = vF r v) : b2i (erB r g v) = 0 := b2i_0.mpr (decide_eq_false (fun h9 => h9 h))
theorem adm_1 {c : Nat → Int} {x : Int} (h : 0 < mg c x) : b2i (adm c x) = 1 := b2i_1.mpr (decide_eq_true h)
theorem adm_0 {c : Nat → Int} {x : Int} (h : mg c x ≤ 0) : b2i (adm c x) = 0 := b2i_0.mpr (decide_eq_false (by omega))
theorem clo_s {r : Nat → Int} {g n : Nat} : clo r g (n + 1) = if kno r g n < kno r g (clo r g n) then n else clo r g n := rfl
theorem gtOk.vs {T : Int} {r : Nat → Int} (h : gtOk T r) {v : Int} (hv : 0 ≤ v ∧ v < r 1) : (1 ≤ vX r v.toNat ∧ vX r v.toNat ≤ 1023) ∧ (vF r v.toNat = 0 ∨ vF r v.toNat = 1) := h.2.2.1 v.toNat (by omega)
theorem qv_0 {r : Nat → Int} {v : Int} (hv : 0 ≤ v ∧ v < r 1) : q_visitorOf r v 0 = vX r v.toNat := by unfold q_visitorOf; rw [if_pos hv, if_pos (by omega)]; rfl
theorem qv_1 {r : Nat → Int} {v : Int} (hv : 0 ≤ v ∧ v < r 1) : q_visitorOf r v 1 = vF r v.toNat := by unfold q_visitorOf; rw [if_pos hv, if_pos (by omega)]; rfl
theorem qo_1 {r : Nat → Int} {n : Int} (hn : 0 ≤ n ∧ n < r 0) : q_of r n 1 = rg r n.toNat 1 := by unfold q_of; rw [if_pos hn, if_pos (by omega)]; rfl
theorem qo_2 {r : Nat → Int} {n : Int} (hn : 0 ≤ n ∧ n < r 0) : q_of r n 2 = rg r n.toNat 2 := by unfold q_of; rw [if_pos hn, if_pos (by omega)]; rfl
theorem qo_3 {r : Nat → Int} {n : Int} (hn : 0 ≤ n ∧ n < r 0) : q_of r n 3 = rg r n.toNat 3 := by unfold q_of; rw [if_pos hn, if_pos (by omega)]; rfl
theorem qo_4 {r : Nat → Int} {n : Int} (hn : 0 ≤ n ∧ n < r 0) : q_of r n 4 = ofG r n.toNat := by unfold q_of; rw [if_pos hn, if_pos (by omega)]; rfl
set_option maxHeartbeats 3000000 in
set_option maxRecDepth 100000 in
theorem c_L_knew {G : GG} {l : Launch} (hfl : l.stackTraces = false) (hG : MW G) (hS : SBW G) {m : Mm} {Xs : XS} {g : Gm} {T : Int} (hX : LWX T m g) (hT0 : 0 ≤ T ∧ T ≤ 100000000) : CL G l yL_knew cL_knew 16 (some .boolean) (RM 13 1400 9000) [.ref 0] m (Xs) (fun r' m' Xs' => r' = some (vI 1) ∧ m' = m ∧ Xs' = Xs) := by
  refine CL.of RL [(0, .ref 0)] hfl (by decide +kernel) rfl rfl (Nat.le_of_ble_eq_true rfl) ?_
  intro E ok0 en hml hEl hnam
  have hR : e_R E = RM 13 1400 9000 := en.2.2.2
  have ok : ∀ {Xs : XS}, OK0 (GX G Xs) E RL cL_knew := fun {_} => ok0.gx
  have hn0 : 0 < (e_c E).maxLocals := by rw [hml]; decide
  have hn1 : 1 < (e_c E).maxLocals := by rw [hml]; decide
  have hn2 : 2 < (e_c E).maxLocals := by rw [hml]; decide
  have hn3 : 3 < (e_c E).maxLocals := by rw [hml]; decide
  have hn4 : 4 < (e_c E).maxLocals := by rw [hml]; decide
  have hn5 : 5 < (e_c E).maxLocals := by rw [hml]; decide
  have hn6 : 6 < (e_c E).maxLocals := by rw [hml]; decide
  have hn7 : 7 < (e_c E).maxLocals := by rw [hml]; decide
  have hn8 : 8 < (e_c E).maxLocals := by rw [hml]; decide
  have hn9 : 9 < (e_c E).maxLocals := by rw [hml]; decide
  have hn10 : 10 < (e_c E).maxLocals := by rw [hml]; decide
  have hn11 : 11 < (e_c E).maxLocals := by rw [hml]; decide
  have hn12 : 12 < (e_c E).maxLocals := by rw [hml]; decide
  have hn13 : 13 < (e_c E).maxLocals := by rw [hml]; decide
  have hn14 : 14 < (e_c E).maxLocals := by rw [hml]; decide
  have hn15 : 15 < (e_c E).maxLocals := by rw [hml]; decide
  have h04 : 0 ≤ g.r 0 ∧ g.r 0 ≤ 4 := hX.O.1
  have h12 : 0 ≤ g.r 1 ∧ g.r 1 ≤ 12 := hX.O.2.1
  refine ga_aload_n ok 0 rfl rfl dL_knew_0 ?_
  refine ga_iconst ok dL_knew_1 ?_
  refine gl_callV ok0 hG hS [vI 1] lk_L_168 rfl hX.h40 (fun G9 hG9 hS9 => (c_X3_account ok0.fl hG9 hX.I hX.O (what := 1) (by omega)).nox (fun _ _ h => by have := h.1.2; omega)) rfl (by rw [hR]; exact ⟨by decide, by decide, by simp only [RM]; omega, by simp only [RM]; omega⟩) (Nat.le_of_ble_eq_true rfl) dL_knew_2 (fun r9 m1 hq9 => ?_)
  obtain ⟨-, rfl, hm9⟩ := hq9
  subst m1
  simp only [Option.toList_some, List.singleton_append]
  rw [if_pos trivial]
  refine ga_istore_n ok 1 rfl hn1 dL_knew_5 ?_
  refine ga_iconst ok dL_knew_6 ?_
  refine ga_istore_n ok 2 rfl hn2 dL_knew_7 ?_
  refine ga_iconst ok dL_knew_8 ?_
  refine ga_istore_n ok 3 rfl hn3 dL_knew_9 ?_
  refine ga_iconst ok dL_knew_10 ?_
  refine ga_istore ok hn4 dL_knew_11 ?_
  refine ga_iconst ok dL_knew_13 ?_
  refine ga_istore ok hn5 dL_knew_14 ?_
  have loopG : ∀ (n al pu da : Int), ((0 ≤ n ∧ n ≤ g.r 0) ∧ al = zs (fun u => ofG g.r u) n.toNat ∧ pu = zs (fun u => rg g.r u 3) n.toNat ∧ da = zs (fun u => rg g.r u 2) n.toNat) → WA (GX G Xs) E (1 + 300 * n.toNat) (6 + 2100 * n.toNat) 16 [(5, vI n), (4, vI da), (3, vI pu), (2, vI al), (1, vI (g.r 1)), (0, .ref 0)] [] m := by
    refine wl4 _ (fun n _ _ _ => (g.r 0 - n).toNat) _ ?_
    intro n al pu da hn9 ih
    obtain ⟨hn, hal, hpu, hda⟩ := hn9
    refine ga_iload ok rfl dL_knew_16 ?_
    refine ga_aload_n ok 0 rfl rfl dL_knew_18 ?_
    refine ga_iconst ok dL_knew_19 ?_
    refine gl_callV ok0 hG hS [vI 0] lk_L_168 rfl hX.h40 (fun G9 hG9 hS9 => (c_X3_account ok0.fl hG9 hX.I hX.O (what := 0) (by omega)).nox (fun _ _ h => by have := h.1.2; omega)) rfl (by rw [hR]; exact ⟨by decide, by decide, by simp only [RM]; omega, by simp only [RM]; omega⟩) (Nat.le_of_ble_eq_true rfl) dL_knew_20 (fun r9 m1 hq9 => ?_)
    obtain ⟨-, rfl, hm9⟩ := hq9
    subst m1
    simp only [Option.toList_some, List.singleton_append]
    rw [if_pos trivial]
    refine ga_icmp_ge ok 342 (by decide) (by omega) (by omega) dL_knew_23 (fun c_23 => ?_) (fun c_23 => ?_)
    · have hn0 : n = g.r 0 := by omega
      have hb2 := zs_bd (f := fun u => rg g.r u 2) (c := T) n.toNat (fun k hk => (hX.O.2.2.2 k (by omega)).2.2.1 2 (by omega) (by omega))
      have hb3 := zs_bd (f := fun u => rg g.r u 3) (c := T) n.toNat (fun k hk => (hX.O.2.2.2 k (by omega)).2.2.1 3 (by omega) (by omega))
      have hb4 := zs_bd (f := fun u => ofG g.r u) (c := 12) n.toNat (fun k hk => by
        have h := zs_bd1 (f := erB g.r k) (g.r 1).toNat
        have e9 : ofG g.r k = zs (fun u => b2i (erB g.r k u)) (g.r 1).toNat := rfl
        show 0 ≤ ofG g.r k ∧ ofG g.r k ≤ 12
        omega)
      rw [← hda] at hb2
      rw [← hpu] at hb3
      rw [← hal] at hb4
      have hz9 : ((n.toNat : Nat) : Int) * T ≤ 4 * T := Int.mul_le_mul_of_nonneg_right (by omega) (by omega)
      refine ga_aload_n ok 0 rfl rfl dL_knew_342 ?_
      refine ga_iconst ok dL_knew_343 ?_
      refine gl_callV ok0 hG hS [vI 4] lk_L_168 rfl hX.h40 (fun G9 hG9 hS9 => (c_X3_account ok0.fl hG9 hX.I hX.O (what := 4) (by omega)).nox (fun _ _ h => by have := h.1.2; omega)) rfl (by rw [hR]; exact ⟨by decide, by decide, by simp only [RM]; omega, by simp only [RM]; omega⟩) (Nat.le_of_ble_eq_true rfl) dL_knew_344 (fun r9 m1 hq9 => ?_)
      obtain ⟨-, rfl, hm9⟩ := hq9
      subst m1
      rw [show (if (4 : Int) = 0 then g.r 0 else if (4 : Int) = 1 then g.r 1 else if (4 : Int) = 2 then cof g.r 1 else if (4 : Int) = 3 then cof g.r 0 else if (4 : Int) = 4 then zs (fun u => rg g.r u 2) (g.r 0).toNat else if (4 : Int) = 5 then zs (fun u => rg g.r u 3) (g.r 0).toNat else if (4 : Int) = 6 then zs (fun u => ofG g.r u) (g.r 0).toNat else if (4 : Int) = 7 then m.1 640 1 else m.1 0 6) = da from by rw [hda, show n.toNat = (g.r 0).toNat by omega]; rfl]
      simp only [Option.toList_some, List.singleton_append]
      refine ga_iload ok rfl dL_knew_347 ?_
      refine ga_icmp_ne ok 401 (by decide) (by omega) (by omega) dL_knew_349 (fun c_349 => ?_) (fun c_349 => ?_)
      · exact absurd rfl c_349
      · refine ga_aload_n ok 0 rfl rfl dL_knew_352 ?_
        refine ga_iconst ok dL_knew_353 ?_
        refine gl_callV ok0 hG hS [vI 5] lk_L_168 rfl hX.h40 (fun G9 hG9 hS9 => (c_X3_account ok0.fl hG9 hX.I hX.O (what := 5) (by omega)).nox (fun _ _ h => by have := h.1.2; omega)) rfl (by rw [hR]; exact ⟨by decide, by decide, by simp only [RM]; omega, by simp only [RM]; omega⟩) (Nat.le_of_ble_eq_true rfl) dL_knew_354 (fun r9 m1 hq9 => ?_)
        obtain ⟨-, rfl, hm9⟩ := hq9
        subst m1
        rw [show (if (5 : Int) = 0 then g.r 0 else if (5 : Int) = 1 then g.r 1 else if (5 : Int) = 2 then cof g.r 1 else if (5 : Int) = 3 then cof g.r 0 else if (5 : Int) = 4 then zs (fun u => rg g.r u 2) (g.r 0).toNat else if (5 : Int) = 5 then zs (fun u => rg g.r u 3) (g.r 0).toNat else if (5 : Int) = 6 then zs (fun u => ofG g.r u) (g.r 0).toNat else if (5 : Int) = 7 then m.1 640 1 else m.1 0 6) = pu from by rw [hpu, show n.toNat = (g.r 0).toNat by omega]; rfl]
        simp only [Option.toList_some, List.singleton_append]
        refine ga_iload_n ok 3 rfl rfl dL_knew_357 ?_
        refine ga_icmp_ne ok 401 (by decide) (by omega) (by omega) dL_knew_358 (fun c_358 => ?_) (fun c_358 => ?_)
        · exact absurd rfl c_358
        · refine ga_aload_n ok 0 rfl rfl dL_knew_361 ?_
          refine ga_bipush ok dL_knew_362 (by decide) ?_
          refine gl_callV ok0 hG hS [vI 6] lk_L_168 rfl hX.h40 (fun G9 hG9 hS9 => (c_X3_account ok0.fl hG9 hX.I hX.O (what := 6) (by omega)).nox (fun _ _ h => by have := h.1.2; omega)) rfl (by rw [hR]; exact ⟨by decide, by decide, by simp only [RM]; omega, by simp only [RM]; omega⟩) (Nat.le_of_ble_eq_true rfl) dL_knew_364 (fun r9 m1 hq9 => ?_)
          obtain ⟨-, rfl, hm9⟩ := hq9
          subst m1
          rw [show (if (6 : Int) = 0 then g.r 0 else if (6 : Int) = 1 then g.r 1 else if (6 : Int) = 2 then cof g.r 1 else if (6 : Int) = 3 then cof g.r 0 else if (6 : Int) = 4 then zs (fun u => rg g.r u 2) (g.r 0).toNat else if (6 : Int) = 5 then zs (fun u => rg g.r u 3) (g.r 0).toNat else if (6 : Int) = 6 then zs (fun u => ofG g.r u) (g.r 0).toNat else if (6 : Int) = 7 then m.1 640 1 else m.1 0 6) = al from by rw [hal, show n.toNat = (g.r 0).toNat by omega]; rfl]
          simp only [Option.toList_some, List.singleton_append]
          refine ga_iload_n ok 2 rfl rfl dL_knew_367 ?_
          refine ga_icmp_ne ok 401 (by decide) (by omega) (by omega) dL_knew_368 (fun c_368 => ?_) (fun c_368 => ?_)
          · exact absurd rfl c_368
          · refine ga_aload_n ok 0 rfl rfl dL_knew_371 ?_
            refine ga_aload_n ok 0 rfl rfl dL_knew_372 ?_
            refine ga_iconst ok dL_knew_373 ?_
            refine gl_callV ok0 hG hS [vI 0] lk_L_168 rfl hX.h40 (fun G9 hG9 hS9 => (c_X3_account ok0.fl hG9 hX.I hX.O (what := 0) (by omega)).nox (fun _ _ h => by have := h.1.2; omega)) rfl (by rw [hR]; exact ⟨by decide, by decide, by simp only [RM]; omega, by simp only [RM]; omega⟩) (Nat.le_of_ble_eq_true rfl) dL_knew_374 (fun r9 m1 hq9 => ?_)
            obtain ⟨-, rfl, hm9⟩ := hq9
            subst m1
            simp only [Option.toList_some, List.singleton_append]
            rw [if_pos trivial]
            refine gl_callT ok0 hG hS [.ref 0, vI (g.r 0)] lw_L_263 hX.h40 (fun G9 hG9 hS9 => w_closest ok0.fl hG9 hS9 hX (by omega) (by omega)) rfl (by rw [hR]; exact ⟨by decide, by decide, by simp only [RM]; omega, by simp only [RM]; omega⟩) (Nat.le_of_ble_eq_true rfl) dL_knew_377 (fun r9 m1 hq9 => ?_)
            obtain ⟨rfl, hm9⟩ := hq9
            subst m1
            simp only [Option.toList_some, List.singleton_append]
            rw [show q_closest g.r (g.r 0) = -11 from by unfold q_closest; exact if_neg (by omega)]
            refine ga_bipush ok dL_knew_380 (by decide) ?_
            refine ga_icmp_ne ok 401 (by decide) (by omega) (by omega) dL_knew_382 (fun c_382 => ?_) (fun c_382 => ?_)
            · exact absurd rfl c_382
            · refine ga_aload_n ok 0 rfl rfl dL_knew_385 ?_
              refine ga_iconst ok dL_knew_386 ?_
              refine ga_bipush ok dL_knew_387 (by decide) ?_
              refine gl_callT ok0 hG hS [.ref 0, vI (-1), vI 9] lw_L_245 hX.h40 (fun G9 hG9 hS9 => w_of ok0.fl hG9 hS9 hX (by omega) (by omega) (by omega)) rfl (by rw [hR]; exact ⟨by decide, by decide, by simp only [RM]; omega, by simp only [RM]; omega⟩) (Nat.le_of_ble_eq_true rfl) dL_knew_389 (fun r9 m1 hq9 => ?_)
              obtain ⟨rfl, hm9⟩ := hq9
              subst m1
              simp only [Option.toList_some, List.singleton_append]
              rw [show q_of g.r (-1) 9 = -11 from by unfold q_of; exact if_neg (by omega)]
              refine ga_bipush ok dL_knew_392 (by decide) ?_
              refine ga_icmp_ne ok 401 (by decide) (by omega) (by omega) dL_knew_394 (fun c_394 => ?_) (fun c_394 => ?_)
              · exact absurd rfl c_394
              · refine ga_iconst ok dL_knew_397 ?_
                refine ga_goto ok 402 (by decide) dL_knew_398 ?_
                exact gl_ireturn ok0 en rfl (nar01 (Or.inr rfl)) (by first | decide | (simp only [RM]; omega)) (by first | decide | (simp only [RM]; omega)) dL_knew_402 ⟨rfl, rfl, rfl⟩
    · have hn1 : 0 ≤ n ∧ n < g.r 0 := by omega
      refine ga_aload_n ok 0 rfl rfl dL_knew_26 ?_
      refine ga_iload ok rfl dL_knew_27 ?_
      refine gl_callL ok0 [.ref 0, vI n] lk_L_207 (c_L_counts ok0.fl hG hS hX (by omega) hn1) rfl (by rw [hR]; exact ⟨by decide, by decide, by simp only [RM]; omega, by simp only [RM]; omega⟩) (Nat.le_of_ble_eq_true rfl) dL_knew_29 (fun r9 m9 X9 hq9 => ?_)
      obtain ⟨hm9, q, f, rfl, hxs, hfc0⟩ := hq9
      subst m9
      subst X9
      simp only [Option.toList_some, List.singleton_append]
      obtain ⟨c, hc⟩ : ∃ c, c = gcn (rg g.r n.toNat) := ⟨_, rfl⟩
      have hfc : ∀ j, j < 11 → f j = c j := fun j hj => by rw [hfc0 j hj, hc]
      have hcB : cBd c := by rw [hc]; exact cBd.of hX.O hn1
      have hcb : cBd f := fun i hi => by rw [hfc i hi]; exact hcB i hi
      have hmem : (q, iA G 11 f) ∈ (q, iA G 11 f) :: Xs := List.mem_cons_self
      have hca := (hX.O.rg hn1).2.1
      refine ga_astore ok hn6 dL_knew_32 ?_
      refine ga_iconst ok dL_knew_34 ?_
      refine ga_istore ok hn7 dL_knew_35 ?_
      refine ga_bipush ok dL_knew_37 (by decide) ?_
      refine ga_istore ok hn8 dL_knew_39 ?_
      refine ga_fconst0 ok dL_knew_41 ?_
      refine ga_fstore ok hn9 dL_knew_42 ?_
      refine ga_iconst ok dL_knew_44 ?_
      refine ga_istore ok hn10 dL_knew_45 ?_
      have loopV : ∀ (v mi cl : Int) (le : UInt32), ((0 ≤ v ∧ v ≤ g.r 1) ∧ mi = zs (fun u => b2i (erB g.r n.toNat u)) v.toNat ∧ (v = 0 → cl = -13) ∧ (v ≠ 0 → cl = ((clo g.r n.toNat v.toNat : Nat) : Int) ∧ le = fq (kno g.r n.toNat (clo g.r n.toNat v.toNat)))) → WA (GX G ((q, iA G 11 f) :: Xs)) E (300 * n.toNat + 30 + 11 * v.toNat) (2100 * n.toNat + 200 + 70 * v.toNat) 47 [(10, vI v), (9, .float le), (8, vI cl), (7, vI mi), (6, .ref (RAW + q)), (0, .ref 0), (1, vI (g.r 1)), (2, vI al), (3, vI pu), (4, vI da), (5, vI n)] [] m := by
        refine wl4 _ (fun v _ _ _ => (g.r 1 - v).toNat) _ ?_
        intro v mi cl le hv9 loopV
        obtain ⟨hv, hmi, hle⟩ := hv9
        refine ga_iload ok rfl dL_knew_47 ?_
        refine ga_iload_n ok 1 rfl rfl dL_knew_49 ?_
        refine ga_icmp_ge ok 247 (by decide) (by omega) (by omega) dL_knew_50 (fun c_50 => ?_) (fun c_50 => ?_)
        · clear loopV
          refine ga_iload_n ok 2 rfl rfl dL_knew_247 ?_
          refine ga_iload ok rfl dL_knew_248 ?_
          refine ga_iadd ok dL_knew_250 ?_
          refine ga_istore_n ok 2 rfl hn2 dL_knew_251 ?_
          refine ga_iload_n ok 3 rfl rfl dL_knew_252 ?_
          refine ga_aload_n ok 0 rfl rfl dL_knew_253 ?_
          refine ga_iload ok rfl dL_knew_254 ?_
          refine ga_iconst ok dL_knew_256 ?_
          refine gl_callT ok0 hG hS [.ref 0, vI n, vI 3] lw_L_245 hX.h40 (fun G9 hG9 hS9 => w_of ok0.fl hG9 hS9 hX (by omega) (by omega) (by omega)) rfl (by rw [hR]; exact ⟨by decide, by decide, by simp only [RM]; omega, by simp only [RM]; omega⟩) (Nat.le_of_ble_eq_true rfl) dL_knew_257 (fun r9 m1 hq9 => ?_)
          obtain ⟨rfl, hm9⟩ := hq9
          subst m1
          simp only [Option.toList_some, List.singleton_append]
          rw [qo_3 hn1]
          refine ga_iadd ok dL_knew_260 ?_
          refine ga_istore_n ok 3 rfl hn3 dL_knew_261 ?_
          refine ga_iload ok rfl dL_knew_262 ?_
          refine ga_aload_n ok 0 rfl rfl dL_knew_264 ?_
          refine ga_iload ok rfl dL_knew_265 ?_
          refine ga_iconst ok dL_knew_267 ?_
          refine gl_callT ok0 hG hS [.ref 0, vI n, vI 2] lw_L_245 hX.h40 (fun G9 hG9 hS9 => w_of ok0.fl hG9 hS9 hX (by omega) (by omega) (by omega)) rfl (by rw [hR]; exact ⟨by decide, by decide, by simp only [RM]; omega, by simp only [RM]; omega⟩) (Nat.le_of_ble_eq_true rfl) dL_knew_268 (fun r9 m1 hq9 => ?_)
          obtain ⟨rfl, hm9⟩ := hq9
          subst m1
          simp only [Option.toList_some, List.singleton_append]
          rw [qo_2 hn1]
          refine ga_iadd ok dL_knew_271 ?_
          refine ga_istore ok hn4 dL_knew_272 ?_
          refine ga_aload_n ok 0 rfl rfl dL_knew_274 ?_
          refine ga_iload ok rfl dL_knew_275 ?_
          refine gl_callT ok0 hG hS [.ref 0, vI n] lw_L_263 hX.h40 (fun G9 hG9 hS9 => w_closest ok0.fl hG9 hS9 hX (by omega) (by omega)) rfl (by rw [hR]; exact ⟨by decide, by decide, by simp only [RM]; omega, by simp only [RM]; omega⟩) (Nat.le_of_ble_eq_true rfl) dL_knew_277 (fun r9 m1 hq9 => ?_)
          obtain ⟨rfl, hm9⟩ := hq9
          subst m1
          simp only [Option.toList_some, List.singleton_append]
          have hcl : q_closest g.r n = cl := by
            unfold q_closest
            rw [if_pos hn1]
            by_cases h9 : g.r 1 ≠ 0
            · rw [if_pos h9, (hle.2 (by omega)).1, show v.toNat = (g.r 1).toNat by omega]
            · rw [if_neg h9, hle.1 (by omega)]
          have hclr : -2147483648 ≤ cl ∧ cl ≤ 2147483647 := by
            by_cases h9 : v = 0
            · rw [hle.1 h9]; omega
            · rw [(hle.2 h9).1]
              have := clo_lt (r := g.r) (g := n.toNat) (v.toNat - 1)
              rw [show v.toNat - 1 + 1 = v.toNat by omega] at this
              omega
          rw [hcl]
          refine ga_iload ok rfl dL_knew_280 ?_
          refine ga_icmp_ne ok 334 (by decide) hclr hclr dL_knew_282 (fun c_282 => ?_) (fun c_282 => ?_)
          · exact absurd rfl c_282
          · refine ga_aload_n ok 0 rfl rfl dL_knew_285 ?_
            refine ga_iload ok rfl dL_knew_286 ?_
            refine ga_iconst ok dL_knew_288 ?_
            refine gl_callT ok0 hG hS [.ref 0, vI n, vI 4] lw_L_245 hX.h40 (fun G9 hG9 hS9 => w_of ok0.fl hG9 hS9 hX (by omega) (by omega) (by omega)) rfl (by rw [hR]; exact ⟨by decide, by decide, by simp only [RM]; omega, by simp only [RM]; omega⟩) (Nat.le_of_ble_eq_true rfl) dL_knew_289 (fun r9 m1 hq9 => ?_)
            obtain ⟨rfl, hm9⟩ := hq9
            subst m1
            simp only [Option.toList_some, List.singleton_append]
            have hmi9 : ofG g.r n.toNat = mi := by rw [hmi, show v.toNat = (g.r 1).toNat by omega]; rfl
            have hmib : 0 ≤ mi ∧ mi ≤ 12 := by rw [← hmi9]; have := zs_bd1 (f := erB g.r n.toNat) (g.r 1).toNat; exact ⟨this.1, by have h9 := this.2; have e9 : ofG g.r n.toNat = zs (fun k => b2i (erB g.r n.toNat k)) (g.r 1).toNat := rfl; omega⟩
            rw [qo_4 hn1, hmi9]
            refine ga_iload ok rfl dL_knew_292 ?_
            refine ga_icmp_ne ok 334 (by decide) (by omega) (by omega) dL_knew_294 (fun c_294 => ?_) (fun c_294 => ?_)
            · exact absurd rfl c_294
            · refine ga_aload_n ok 0 rfl rfl dL_knew_297 ?_
              refine ga_iload ok rfl dL_knew_298 ?_
              refine ga_bipush ok dL_knew_300 (by decide) ?_
              refine gl_callT ok0 hG hS [.ref 0, vI n, vI 7] lw_L_245 hX.h40 (fun G9 hG9 hS9 => w_of ok0.fl hG9 hS9 hX (by omega) (by omega) (by omega)) rfl (by rw [hR]; exact ⟨by decide, by decide, by simp only [RM]; omega, by simp only [RM]; omega⟩) (Nat.le_of_ble_eq_true rfl) dL_knew_302 (fun r9 m1 hq9 => ?_)
              obtain ⟨rfl, hm9⟩ := hq9
              subst m1
              simp only [Option.toList_some, List.singleton_append]
              rw [show q_of g.r n 7 = -12 from by unfold q_of; rw [if_pos hn1]; exact if_neg (by omega)]
              refine ga_bipush ok dL_knew_305 (by decide) ?_
              refine ga_icmp_ne ok 334 (by decide) (by omega) (by omega) dL_knew_307 (fun c_307 => ?_) (fun c_307 => ?_)
              · exact absurd rfl c_307
              · refine ga_aload_n ok 0 rfl rfl dL_knew_310 ?_
                refine ga_iload ok rfl dL_knew_311 ?_
                refine ga_iload_n ok 1 rfl rfl dL_knew_313 ?_
                refine gl_callT ok0 hG hS [.ref 0, vI n, vI (g.r 1)] lw_L_254 hX.h40 (fun G9 hG9 hS9 => w_knowsBits ok0.fl hG9 hS9 hX (by omega) (by omega) (by omega)) rfl (by rw [hR]; exact ⟨by decide, by decide, by simp only [RM]; omega, by simp only [RM]; omega⟩) (Nat.le_of_ble_eq_true rfl) dL_knew_314 (fun r9 m1 hq9 => ?_)
                obtain ⟨rfl, hm9⟩ := hq9
                subst m1
                simp only [Option.toList_some, List.singleton_append]
                rw [show q_knowsBits g.r n (g.r 1) = -11 from by unfold q_knowsBits; rw [if_pos hn1]; exact if_neg (by omega)]
                refine ga_bipush ok dL_knew_317 (by decide) ?_
                refine ga_icmp_ne ok 334 (by decide) (by omega) (by omega) dL_knew_319 (fun c_319 => ?_) (fun c_319 => ?_)
                · exact absurd rfl c_319
                · refine ga_aload_n ok 0 rfl rfl dL_knew_322 ?_
                  refine ga_iload ok rfl dL_knew_323 ?_
                  refine ga_iconst ok dL_knew_325 ?_
                  refine gl_callT ok0 hG hS [.ref 0, vI n, vI (-1)] lw_L_257 hX.h40 (fun G9 hG9 hS9 => w_wouldPush ok0.fl hG9 hS9 hX (by omega) (by omega) (by omega)) rfl (by rw [hR]; exact ⟨by decide, by decide, by simp only [RM]; omega, by simp only [RM]; omega⟩) (Nat.le_of_ble_eq_true rfl) dL_knew_326 (fun r9 m1 hq9 => ?_)
                  obtain ⟨rfl, hm9⟩ := hq9
                  subst m1
                  simp only [Option.toList_some, List.singleton_append]
                  rw [show q_wouldPush g.r n (-1) = -11 from by unfold q_wouldPush; rw [if_pos hn1]; exact if_neg (by omega)]
                  refine ga_bipush ok dL_knew_329 (by decide) ?_
                  refine ga_icmp_eq ok 336 (by decide) (by omega) (by omega) dL_knew_331 (fun c_331 => ?_) (fun c_331 => ?_)
                  · refine ga_iinc ok rfl hn5 dL_knew_336 ?_
                    refine ga_goto ok 16 (by decide) dL_knew_339 ?_
                    refine WA.wd (k2 := (1 + 300 * (n + 1).toNat)) (n2 := (6 + 2100 * (n + 1).toNat)) (by first | omega | (simp only [RM]; omega)) (by first | omega | (simp only [RM]; omega)) ?_
                    refine WA.drop (Xs' := [_]) ?_
                    exact WA.re (by exact ⟨rfl, rfl, rfl, rfl, rfl, rfl, trivial⟩) (ih (n + 1) _ _ _ ⟨by omega, by rw [zs_n hn.1, hal, hmi, show v.toNat = (g.r 1).toNat by omega]; rfl, by rw [zs_n hn.1, hpu], by rw [zs_n hn.1, hda]⟩ (by omega))
                  · exact absurd rfl c_331
        · have hv1 : 0 ≤ v ∧ v < g.r 1 := by omega
          refine ga_aload_n ok 0 rfl rfl dL_knew_53 ?_
          refine ga_iload ok rfl dL_knew_54 ?_
          refine ga_iconst ok dL_knew_56 ?_
          refine gl_callT ok0 hG hS [.ref 0, vI v, vI 0] lw_L_252 hX.h40 (fun G9 hG9 hS9 => w_visitorOf ok0.fl hG9 hS9 hX (by omega) (by omega) (by omega)) rfl (by rw [hR]; exact ⟨by decide, by decide, by simp only [RM]; omega, by simp only [RM]; omega⟩) (Nat.le_of_ble_eq_true rfl) dL_knew_57 (fun r9 m1 hq9 => ?_)
          obtain ⟨rfl, hm9⟩ := hq9
          subst m1
          simp only [Option.toList_some, List.singleton_append]
          rw [qv_0 hv1]
          obtain ⟨x, hxe⟩ : ∃ x, x = vX g.r v.toNat := ⟨_, rfl⟩
          obtain ⟨F, hFe⟩ : ∃ F, F = vF g.r v.toNat := ⟨_, rfl⟩
          have hxF := hX.O.vs hv1
          rw [← hxe, ← hFe] at hxF
          rw [← hxe]
          refine ga_istore ok hn11 dL_knew_60 ?_
          refine ga_aload_n ok 0 rfl rfl dL_knew_62 ?_
          refine ga_iload ok rfl dL_knew_63 ?_
          refine ga_iconst ok dL_knew_65 ?_
          refine gl_callT ok0 hG hS [.ref 0, vI v, vI 1] lw_L_252 hX.h40 (fun G9 hG9 hS9 => w_visitorOf ok0.fl hG9 hS9 hX (by omega) (by omega) (by omega)) rfl (by rw [hR]; exact ⟨by decide, by decide, by simp only [RM]; omega, by simp only [RM]; omega⟩) (Nat.le_of_ble_eq_true rfl) dL_knew_66 (fun r9 m1 hq9 => ?_)
          obtain ⟨rfl, hm9⟩ := hq9
          subst m1
          simp only [Option.toList_some, List.singleton_append]
          rw [qv_1 hv1, ← hFe]
          refine ga_iconst ok dL_knew_69 ?_
          refine ga_icmp_ne ok 77 (by decide) (by omega) (by omega) dL_knew_70 (fun c_70 => ?_) (fun c_70 => ?_)
          · refine ga_iconst ok dL_knew_77 ?_
            refine ga_istore ok hn12 dL_knew_78 ?_
            have hmz := mg_bd hcB x
            obtain ⟨kn, hkn⟩ : ∃ k, k = kno g.r n.toNat v.toNat := ⟨_, rfl⟩
            have hkb : -16777216 < kn ∧ kn < 16777216 := by rw [hkn]; exact kno_bd (hX.O.rg hn1)
            have tail176 : ∀ (mi2 : Int), mi2 = mi + b2i (erB g.r n.toNat v.toNat) → WA (GX G ((q, iA G 11 f) :: Xs)) E (300 * n.toNat + 30 + 11 * v.toNat + 5) (2100 * n.toNat + 200 + 70 * v.toNat + 26) 176 [(14, .float (fq kn)), (13, .float (fq (mg c x))), (12, vI F), (9, .float (fq (kno g.r n.toNat (clo g.r n.toNat (v.toNat + 1))))), (8, vI ((clo g.r n.toNat (v.toNat + 1) : Nat) : Int)), (7, vI mi2), (11, vI x), (10, vI v), (6, .ref (RAW + q)), (0, .ref 0), (1, vI (g.r 1)), (2, vI al), (3, vI pu), (4, vI da), (5, vI n)] [] m := by
              intro mi2 hmi2
              refine ga_aload_n ok 0 rfl rfl dL_knew_176 ?_
              refine ga_iload ok rfl dL_knew_177 ?_
              refine ga_iload ok rfl dL_knew_179 ?_
              refine gl_callT ok0 hG hS [.ref 0, vI n, vI v] lw_L_254 hX.h40 (fun G9 hG9 hS9 => w_knowsBits ok0.fl hG9 hS9 hX (by omega) (by omega) (by omega)) rfl (by rw [hR]; exact ⟨by decide, by decide, by simp only [RM]; omega, by simp only [RM]; omega⟩) (Nat.le_of_ble_eq_true rfl) dL_knew_181 (fun r9 m1 hq9 => ?_)
              obtain ⟨rfl, hm9⟩ := hq9
              subst m1
              simp only [Option.toList_some, List.singleton_append]
              rw [show q_knowsBits g.r n v = fword (fq kn) from by unfold q_knowsBits; rw [if_pos hn1, if_pos hv1, hkn]]
              have hfw := fword_rng (fq kn)
              refine ga_fload ok rfl dL_knew_184 ?_
              refine gd_J_1 ok lj_L_44 (c_Jf_bits ok0.fl hG (fq_nan hkb)) (by rw [hR]; exact ⟨by decide, by decide, by simp only [RM]; omega, by simp only [RM]; omega⟩) (Nat.le_of_ble_eq_true rfl) dL_knew_186 ?_
              refine ga_icmp_ne ok 231 (by decide) hfw hfw dL_knew_189 (fun c_189 => ?_) (fun c_189 => ?_)
              · exact absurd rfl c_189
              · refine ga_aload_n ok 0 rfl rfl dL_knew_192 ?_
                refine ga_iload ok rfl dL_knew_193 ?_
                refine ga_iload ok rfl dL_knew_195 ?_
                refine gl_callT ok0 hG hS [.ref 0, vI n, vI v] lw_L_257 hX.h40 (fun G9 hG9 hS9 => w_wouldPush ok0.fl hG9 hS9 hX (by omega) (by omega) (by omega)) rfl (by rw [hR]; exact ⟨by decide, by decide, by simp only [RM]; omega, by simp only [RM]; omega⟩) (Nat.le_of_ble_eq_true rfl) dL_knew_197 (fun r9 m1 hq9 => ?_)
                obtain ⟨rfl, hm9⟩ := hq9
                subst m1
                simp only [Option.toList_some, List.singleton_append]
                rw [show q_wouldPush g.r n v = b2i (psS (rg g.r n.toNat) x F) from by unfold q_wouldPush; rw [if_pos hn1, if_pos hv1, ← hxe, ← hFe]]
                refine ga_aload ok rfl dL_knew_200 ?_
                refine ga_iload ok rfl dL_knew_202 ?_
                refine ga_iload ok rfl dL_knew_204 ?_
                refine ga_aload_n ok 0 rfl rfl dL_knew_206 ?_
                refine ga_iload ok rfl dL_knew_207 ?_
                refine ga_iconst ok dL_knew_209 ?_
                refine gl_callT ok0 hG hS [.ref 0, vI n, vI 1] lw_L_245 hX.h40 (fun G9 hG9 hS9 => w_of ok0.fl hG9 hS9 hX (by omega) (by omega) (by omega)) rfl (by rw [hR]; exact ⟨by decide, by decide, by simp only [RM]; omega, by simp only [RM]; omega⟩) (Nat.le_of_ble_eq_true rfl) dL_knew_210 (fun r9 m1 hq9 => ?_)
                obtain ⟨rfl, hm9⟩ := hq9
                subst m1
                simp only [Option.toList_some, List.singleton_append]
                rw [qo_1 hn1]
                refine gl_callL ok0 [.ref (RAW + q), vI x, vI F, vI (rg g.r n.toNat 1)] lk_L_259 (c_L_pushes ok0.fl hS hmem hcb (by omega) (by omega) (by omega)) rfl (by rw [hR]; exact ⟨by decide, by decide, by simp only [RM]; omega, by simp only [RM]; omega⟩) (Nat.le_of_ble_eq_true rfl) dL_knew_213 (fun r9 m9 X9 hq9 => ?_)
                obtain ⟨rfl, hm9, hxs⟩ := hq9
                subst m9
                subst X9
                simp only [Option.toList_some, List.singleton_append]
                rw [show pshd (mg f x) (rg g.r n.toNat 1) F = psS (rg g.r n.toNat) x F from by unfold psS; rw [show mg f x = mg c x from mgA_cong x 10 (by omega) hfc, hc]]
                refine ga_if_eq ok 223 (by decide) (b2i_rng _) dL_knew_216 (fun c_216 => ?_) (fun c_216 => ?_)
                · refine ga_iconst ok dL_knew_223 ?_
                  refine ga_icmp_ne ok 231 (by decide) (b2i_rng _) (by omega) dL_knew_224 (fun c_224 => ?_) (fun c_224 => ?_)
                  · exact absurd c_216 c_224
                  · refine ga_iconst ok dL_knew_227 ?_
                    refine ga_goto ok 232 (by decide) dL_knew_228 ?_
                    refine ga_istore ok hn15 dL_knew_232 ?_
                    refine ga_iload ok rfl dL_knew_234 ?_
                    refine ga_if_ne ok 241 (by decide) (by omega) dL_knew_236 (fun c_236 => ?_) (fun c_236 => ?_)
                    · refine ga_iinc ok rfl hn10 dL_knew_241 ?_
                      refine ga_goto ok 47 (by decide) dL_knew_244 ?_
                      refine WA.wd (k2 := (300 * n.toNat + 30 + 11 * (v + 1).toNat)) (n2 := (2100 * n.toNat + 200 + 70 * (v + 1).toNat)) (by first | omega | (simp only [RM]; omega)) (by first | omega | (simp only [RM]; omega)) ?_
                      exact WA.re (by exact ⟨rfl, rfl, rfl, rfl, rfl, rfl, rfl, rfl, rfl, rfl, rfl, trivial⟩) (loopV (v + 1) _ _ _ ⟨by omega, by rw [hmi2, show (v + 1).toNat = v.toNat + 1 by omega, hmi]; rfl, fun h => by omega, fun _ => ⟨by rw [show (v + 1).toNat = v.toNat + 1 by omega], by rw [show (v + 1).toNat = v.toNat + 1 by omega]⟩⟩ (by omega))
                    · exact absurd c_236 (by decide)
                · refine ga_iconst ok dL_knew_219 ?_
                  refine ga_goto ok 224 (by decide) dL_knew_220 ?_
                  refine ga_icmp_ne ok 231 (by decide) (b2i_rng _) (by omega) dL_knew_224 (fun c_224 => ?_) (fun c_224 => ?_)
                  · exact absurd (by have := b2i_or (psS (rg g.r n.toNat) x F); omega) c_224
                  · refine ga_iconst ok dL_knew_227 ?_
                    refine ga_goto ok 232 (by decide) dL_knew_228 ?_
                    refine ga_istore ok hn15 dL_knew_232 ?_
                    refine ga_iload ok rfl dL_knew_234 ?_
                    refine ga_if_ne ok 241 (by decide) (by omega) dL_knew_236 (fun c_236 => ?_) (fun c_236 => ?_)
                    · refine ga_iinc ok rfl hn10 dL_knew_241 ?_
                      refine ga_goto ok 47 (by decide) dL_knew_244 ?_
                      refine WA.wd (k2 := (300 * n.toNat + 30 + 11 * (v + 1).toNat)) (n2 := (2100 * n.toNat + 200 + 70 * (v + 1).toNat)) (by first | omega | (simp only [RM]; omega)) (by first | omega | (simp only [RM]; omega)) ?_
                      exact WA.re (by exact ⟨rfl, rfl, rfl, rfl, rfl, rfl, rfl, rfl, rfl, rfl, rfl, trivial⟩) (loopV (v + 1) _ _ _ ⟨by omega, by rw [hmi2, show (v + 1).toNat = v.toNat + 1 by omega, hmi]; rfl, fun h => by omega, fun _ => ⟨by rw [show (v + 1).toNat = v.toNat + 1 by omega], by rw [show (v + 1).toNat = v.toNat + 1 by omega]⟩⟩ (by omega))
                    · exact absurd c_236 (by decide)
            have tail132 : ∀ (mi2 : Int), mi2 = mi + b2i (erB g.r n.toNat v.toNat) → WA (GX G ((q, iA G 11 f) :: Xs)) E (300 * n.toNat + 30 + 11 * v.toNat + 5) (2100 * n.toNat + 200 + 70 * v.toNat + 26) 132 [(14, .float (fq kn)), (13, .float (fq (mg c x))), (12, vI F), (9, .float le), (8, vI cl), (7, vI mi2), (11, vI x), (10, vI v), (6, .ref (RAW + q)), (0, .ref 0), (1, vI (g.r 1)), (2, vI al), (3, vI pu), (4, vI da), (5, vI n)] [] m := by
              intro mi2 hmi2
              refine ga_iload ok rfl dL_knew_132 ?_
              refine ga_if_eq ok 145 (by decide) (by omega) dL_knew_134 (fun c_134 => ?_) (fun c_134 => ?_)
              · refine ga_iload ok rfl dL_knew_145 ?_
                refine ga_goto ok 152 (by decide) dL_knew_147 ?_
                refine ga_istore ok hn8 dL_knew_152 ?_
                refine ga_iload ok rfl dL_knew_154 ?_
                refine ga_if_eq ok 167 (by decide) (by omega) dL_knew_156 (fun c_156 => ?_) (fun c_156 => ?_)
                · refine ga_fload ok rfl dL_knew_167 ?_
                  refine ga_goto ok 174 (by decide) dL_knew_169 ?_
                  refine ga_fstore ok hn9 dL_knew_174 ?_
                  have ec : clo g.r n.toNat (v.toNat + 1) = v.toNat := by
                    rw [show v.toNat = 0 by omega, clo_s]
                    split <;> rfl
                  exact WA.re (by exact ⟨rfl, rfl, rfl, (by rw [ec, ← hkn]; rfl), (by rw [ec, show ((v.toNat : Nat) : Int) = v by omega]; rfl), rfl, rfl, rfl, rfl, rfl, rfl, rfl, rfl, rfl, rfl, trivial⟩) (tail176 mi2 hmi2)
                · exact absurd c_156 (by omega)
              · have hle0 := hle.2 (by omega)
                refine ga_fload ok rfl dL_knew_137 ?_
                refine ga_fload ok rfl dL_knew_139 ?_
                refine ga_fcmp ok dL_knew_141 (by rw [hle0.2]; exact fq_cmpz hkb (kno_bd (hX.O.rg hn1))) ?_
                refine ga_if_ge ok 150 (by decide) (cmpz_rng _ _) dL_knew_142 (fun c_142 => ?_) (fun c_142 => ?_)
                · refine ga_iload ok rfl dL_knew_150 ?_
                  refine ga_istore ok hn8 dL_knew_152 ?_
                  refine ga_iload ok rfl dL_knew_154 ?_
                  refine ga_if_eq ok 167 (by decide) (by omega) dL_knew_156 (fun c_156 => ?_) (fun c_156 => ?_)
                  · exact absurd c_156 (by omega)
                  · refine ga_fload ok rfl dL_knew_159 ?_
                    refine ga_fload ok rfl dL_knew_161 ?_
                    refine ga_fcmp ok dL_knew_163 (by rw [hle0.2]; exact fq_cmpz hkb (kno_bd (hX.O.rg hn1))) ?_
                    refine ga_if_ge ok 172 (by decide) (cmpz_rng _ _) dL_knew_164 (fun c_164 => ?_) (fun c_164 => ?_)
                    · refine ga_fload ok rfl dL_knew_172 ?_
                      refine ga_fstore ok hn9 dL_knew_174 ?_
                      have hcz := cmpz_ge.mp c_142
                      have ec : clo g.r n.toNat (v.toNat + 1) = clo g.r n.toNat v.toNat := by
                        rw [clo_s]
                        exact if_neg (by rw [← hkn]; omega)
                      exact WA.re (by exact ⟨rfl, rfl, rfl, (by rw [ec, hle0.2]; rfl), (by rw [ec, hle0.1]; rfl), rfl, rfl, rfl, rfl, rfl, rfl, rfl, rfl, rfl, rfl, trivial⟩) (tail176 mi2 hmi2)
                    · exact absurd c_164 (by omega)
                · refine ga_iload ok rfl dL_knew_145 ?_
                  refine ga_goto ok 152 (by decide) dL_knew_147 ?_
                  refine ga_istore ok hn8 dL_knew_152 ?_
                  refine ga_iload ok rfl dL_knew_154 ?_
                  refine ga_if_eq ok 167 (by decide) (by omega) dL_knew_156 (fun c_156 => ?_) (fun c_156 => ?_)
                  · exact absurd c_156 (by omega)
                  · refine ga_fload ok rfl dL_knew_159 ?_
                    refine ga_fload ok rfl dL_knew_161 ?_
                    refine ga_fcmp ok dL_knew_163 (by rw [hle0.2]; exact fq_cmpz hkb (kno_bd (hX.O.rg hn1))) ?_
                    refine ga_if_ge ok 172 (by decide) (cmpz_rng _ _) dL_knew_164 (fun c_164 => ?_) (fun c_164 => ?_)
                    · exact absurd c_164 (by omega)
                    · refine ga_fload ok rfl dL_knew_167 ?_
                      refine ga_goto ok 174 (by decide) dL_knew_169 ?_
                      refine ga_fstore ok hn9 dL_knew_174 ?_
                      have hcz := cmpz_lt.mp (show cmpz kn (kno g.r n.toNat (clo g.r n.toNat v.toNat)) < 0 by omega)
                      have ec : clo g.r n.toNat (v.toNat + 1) = v.toNat := by
                        rw [clo_s]
                        exact if_pos (by rw [← hkn]; exact hcz)
                      exact WA.re (by exact ⟨rfl, rfl, rfl, (by rw [ec, ← hkn]; rfl), (by rw [ec, show ((v.toNat : Nat) : Int) = v by omega]; rfl), rfl, rfl, rfl, rfl, rfl, rfl, rfl, rfl, rfl, rfl, trivial⟩) (tail176 mi2 hmi2)
            have tail105 : WA (GX G ((q, iA G 11 f) :: Xs)) E (300 * n.toNat + 30 + 11 * v.toNat + 5) (2100 * n.toNat + 200 + 70 * v.toNat + 26) 105 [(14, .float (fq kn)), (13, .float (fq (mg c x))), (12, vI F), (9, .float le), (8, vI cl), (7, vI mi), (11, vI x), (10, vI v), (6, .ref (RAW + q)), (0, .ref 0), (1, vI (g.r 1)), (2, vI al), (3, vI pu), (4, vI da), (5, vI n)] [] m := by
              refine ga_iload ok rfl dL_knew_105 ?_
              refine ga_fload ok rfl dL_knew_107 ?_
              refine ga_fconst0 ok dL_knew_109 ?_
              refine ga_fcmp ok dL_knew_110 (fq_cmpz0 hmz) ?_
              refine ga_if_le ok 118 (by decide) (cmpz_rng _ _) dL_knew_111 (fun c_111 => ?_) (fun c_111 => ?_)
              · refine ga_iconst ok dL_knew_118 ?_
                refine ga_iload ok rfl dL_knew_119 ?_
                refine ga_icmp_ne ok 128 (by decide) (by omega) (by omega) dL_knew_121 (fun c_121 => ?_) (fun c_121 => ?_)
                · refine ga_iconst ok dL_knew_128 ?_
                  refine ga_iadd ok dL_knew_129 ?_
                  refine ga_istore ok hn7 dL_knew_130 ?_
                  have ha : b2i (adm c x) = 0 := adm_0 (cmpz_le.mp c_111)
                  rw [hc, hxe] at ha
                  exact WA.re (by exact ⟨rfl, rfl, rfl, rfl, rfl, rfl, rfl, rfl, rfl, rfl, rfl, rfl, rfl, rfl, rfl, trivial⟩) (tail132 _ (by rw [(erB_1 (by rw [ha, ← hFe]; omega))]))
                · refine ga_iconst ok dL_knew_124 ?_
                  refine ga_goto ok 129 (by decide) dL_knew_125 ?_
                  refine ga_iadd ok dL_knew_129 ?_
                  refine ga_istore ok hn7 dL_knew_130 ?_
                  have ha : b2i (adm c x) = 0 := adm_0 (cmpz_le.mp c_111)
                  rw [hc, hxe] at ha
                  exact WA.re (by exact ⟨rfl, rfl, rfl, rfl, rfl, rfl, rfl, rfl, rfl, rfl, rfl, rfl, rfl, rfl, rfl, trivial⟩) (tail132 _ (by rw [(erB_0 (by rw [ha, ← hFe]; omega))]))
              · refine ga_iconst ok dL_knew_114 ?_
                refine ga_goto ok 119 (by decide) dL_knew_115 ?_
                refine ga_iload ok rfl dL_knew_119 ?_
                refine ga_icmp_ne ok 128 (by decide) (by omega) (by omega) dL_knew_121 (fun c_121 => ?_) (fun c_121 => ?_)
                · refine ga_iconst ok dL_knew_128 ?_
                  refine ga_iadd ok dL_knew_129 ?_
                  refine ga_istore ok hn7 dL_knew_130 ?_
                  have ha : b2i (adm c x) = 1 := adm_1 (cmpz_gt.mp (by omega))
                  rw [hc, hxe] at ha
                  exact WA.re (by exact ⟨rfl, rfl, rfl, rfl, rfl, rfl, rfl, rfl, rfl, rfl, rfl, rfl, rfl, rfl, rfl, trivial⟩) (tail132 _ (by rw [(erB_1 (by rw [ha, ← hFe]; omega))]))
                · refine ga_iconst ok dL_knew_124 ?_
                  refine ga_goto ok 129 (by decide) dL_knew_125 ?_
                  refine ga_iadd ok dL_knew_129 ?_
                  refine ga_istore ok hn7 dL_knew_130 ?_
                  have ha : b2i (adm c x) = 1 := adm_1 (cmpz_gt.mp (by omega))
                  rw [hc, hxe] at ha
                  exact WA.re (by exact ⟨rfl, rfl, rfl, rfl, rfl, rfl, rfl, rfl, rfl, rfl, rfl, rfl, rfl, rfl, rfl, trivial⟩) (tail132 _ (by rw [(erB_0 (by rw [ha, ← hFe]; omega))]))
            refine ga_aload ok rfl dL_knew_80 ?_
            refine ga_iload ok rfl dL_knew_82 ?_
            refine gl_callL ok0 [.ref (RAW + q), vI x] lk_L_183 (c_L_margin ok0.fl hS hmem hcb (by omega)) rfl (by rw [hR]; exact ⟨by decide, by decide, by simp only [RM]; omega, by simp only [RM]; omega⟩) (Nat.le_of_ble_eq_true rfl) dL_knew_84 (fun r9 m9 X9 hq9 => ?_)
            obtain ⟨rfl, hm9, hxs⟩ := hq9
            subst m9
            subst X9
            simp only [Option.toList_some, List.singleton_append]
            rw [show mg f x = mg c x from mgA_cong x 10 (by omega) hfc]
            refine ga_fstore ok hn13 dL_knew_87 ?_
            refine ga_iload ok rfl dL_knew_89 ?_
            refine ga_if_eq ok 99 (by decide) (by omega) dL_knew_91 (fun c_91 => ?_) (fun c_91 => ?_)
            · refine ga_fconst0 ok dL_knew_99 ?_
              refine ga_fload ok rfl dL_knew_100 ?_
              refine ga_fsub ok dL_knew_102 (n32_of (by rw [← fq_0, fq_sub (by omega) hmz (by omega)]; exact fq_nan (by omega))) ?_
              refine ga_fstore ok hn14 dL_knew_103 ?_
              have ek : kn = 0 - mg c x := by rw [hkn, kno_f (by rw [← hFe]; exact c_70), hc, hxe]
              have ef : F = 0 := by omega
              refine WA.wd (k2 := (300 * n.toNat + 30 + 11 * v.toNat + 5)) (n2 := (2100 * n.toNat + 200 + 70 * v.toNat + 26)) (by first | omega | (simp only [RM]; omega)) (by first | omega | (simp only [RM]; omega)) ?_
              exact WA.re (by exact ⟨(by rw [ek, ← fq_sub (by omega) hmz (by omega), fq_0]; rfl), rfl, (by rw [ef]; rfl), rfl, rfl, rfl, rfl, rfl, rfl, rfl, rfl, rfl, rfl, rfl, rfl, trivial⟩) tail105
            · exact absurd rfl c_91
          · refine ga_iconst ok dL_knew_73 ?_
            refine ga_goto ok 78 (by decide) dL_knew_74 ?_
            refine ga_istore ok hn12 dL_knew_78 ?_
            have hmz := mg_bd hcB x
            obtain ⟨kn, hkn⟩ : ∃ k, k = kno g.r n.toNat v.toNat := ⟨_, rfl⟩
            have hkb : -16777216 < kn ∧ kn < 16777216 := by rw [hkn]; exact kno_bd (hX.O.rg hn1)
            have tail176 : ∀ (mi2 : Int), mi2 = mi + b2i (erB g.r n.toNat v.toNat) → WA (GX G ((q, iA G 11 f) :: Xs)) E (300 * n.toNat + 30 + 11 * v.toNat + 5) (2100 * n.toNat + 200 + 70 * v.toNat + 26) 176 [(14, .float (fq kn)), (13, .float (fq (mg c x))), (12, vI F), (9, .float (fq (kno g.r n.toNat (clo g.r n.toNat (v.toNat + 1))))), (8, vI ((clo g.r n.toNat (v.toNat + 1) : Nat) : Int)), (7, vI mi2), (11, vI x), (10, vI v), (6, .ref (RAW + q)), (0, .ref 0), (1, vI (g.r 1)), (2, vI al), (3, vI pu), (4, vI da), (5, vI n)] [] m := by
              intro mi2 hmi2
              refine ga_aload_n ok 0 rfl rfl dL_knew_176 ?_
              refine ga_iload ok rfl dL_knew_177 ?_
              refine ga_iload ok rfl dL_knew_179 ?_
              refine gl_callT ok0 hG hS [.ref 0, vI n, vI v] lw_L_254 hX.h40 (fun G9 hG9 hS9 => w_knowsBits ok0.fl hG9 hS9 hX (by omega) (by omega) (by omega)) rfl (by rw [hR]; exact ⟨by decide, by decide, by simp only [RM]; omega, by simp only [RM]; omega⟩) (Nat.le_of_ble_eq_true rfl) dL_knew_181 (fun r9 m1 hq9 => ?_)
              obtain ⟨rfl, hm9⟩ := hq9
              subst m1
              simp only [Option.toList_some, List.singleton_append]
              rw [show q_knowsBits g.r n v = fword (fq kn) from by unfold q_knowsBits; rw [if_pos hn1, if_pos hv1, hkn]]
              have hfw := fword_rng (fq kn)
              refine ga_fload ok rfl dL_knew_184 ?_
              refine gd_J_1 ok lj_L_44 (c_Jf_bits ok0.fl hG (fq_nan hkb)) (by rw [hR]; exact ⟨by decide, by decide, by simp only [RM]; omega, by simp only [RM]; omega⟩) (Nat.le_of_ble_eq_true rfl) dL_knew_186 ?_
              refine ga_icmp_ne ok 231 (by decide) hfw hfw dL_knew_189 (fun c_189 => ?_) (fun c_189 => ?_)
              · exact absurd rfl c_189
              · refine ga_aload_n ok 0 rfl rfl dL_knew_192 ?_
                refine ga_iload ok rfl dL_knew_193 ?_
                refine ga_iload ok rfl dL_knew_195 ?_
                refine gl_callT ok0 hG hS [.ref 0, vI n, vI v] lw_L_257 hX.h40 (fun G9 hG9 hS9 => w_wouldPush ok0.fl hG9 hS9 hX (by omega) (by omega) (by omega)) rfl (by rw [hR]; exact ⟨by decide, by decide, by simp only [RM]; omega, by simp only [RM]; omega⟩) (Nat.le_of_ble_eq_true rfl) dL_knew_197 (fun r9 m1 hq9 => ?_)
                obtain ⟨rfl, hm9⟩ := hq9
                subst m1
                simp only [Option.toList_some, List.singleton_append]
                rw [show q_wouldPush g.r n v = b2i (psS (rg g.r n.toNat) x F) from by unfold q_wouldPush; rw [if_pos hn1, if_pos hv1, ← hxe, ← hFe]]
                refine ga_aload ok rfl dL_knew_200 ?_
                refine ga_iload ok rfl dL_knew_202 ?_
                refine ga_iload ok rfl dL_knew_204 ?_
                refine ga_aload_n ok 0 rfl rfl dL_knew_206 ?_
                refine ga_iload ok rfl dL_knew_207 ?_
                refine ga_iconst ok dL_knew_209 ?_
                refine gl_callT ok0 hG hS [.ref 0, vI n, vI 1] lw_L_245 hX.h40 (fun G9 hG9 hS9 => w_of ok0.fl hG9 hS9 hX (by omega) (by omega) (by omega)) rfl (by rw [hR]; exact ⟨by decide, by decide, by simp only [RM]; omega, by simp only [RM]; omega⟩) (Nat.le_of_ble_eq_true rfl) dL_knew_210 (fun r9 m1 hq9 => ?_)
                obtain ⟨rfl, hm9⟩ := hq9
                subst m1
                simp only [Option.toList_some, List.singleton_append]
                rw [qo_1 hn1]
                refine gl_callL ok0 [.ref (RAW + q), vI x, vI F, vI (rg g.r n.toNat 1)] lk_L_259 (c_L_pushes ok0.fl hS hmem hcb (by omega) (by omega) (by omega)) rfl (by rw [hR]; exact ⟨by decide, by decide, by simp only [RM]; omega, by simp only [RM]; omega⟩) (Nat.le_of_ble_eq_true rfl) dL_knew_213 (fun r9 m9 X9 hq9 => ?_)
                obtain ⟨rfl, hm9, hxs⟩ := hq9
                subst m9
                subst X9
                simp only [Option.toList_some, List.singleton_append]
                rw [show pshd (mg f x) (rg g.r n.toNat 1) F = psS (rg g.r n.toNat) x F from by unfold psS; rw [show mg f x = mg c x from mgA_cong x 10 (by omega) hfc, hc]]
                refine ga_if_eq ok 223 (by decide) (b2i_rng _) dL_knew_216 (fun c_216 => ?_) (fun c_216 => ?_)
                · refine ga_iconst ok dL_knew_223 ?_
                  refine ga_icmp_ne ok 231 (by decide) (b2i_rng _) (by omega) dL_knew_224 (fun c_224 => ?_) (fun c_224 => ?_)
                  · exact absurd c_216 c_224
                  · refine ga_iconst ok dL_knew_227 ?_
                    refine ga_goto ok 232 (by decide) dL_knew_228 ?_
                    refine ga_istore ok hn15 dL_knew_232 ?_
                    refine ga_iload ok rfl dL_knew_234 ?_
                    refine ga_if_ne ok 241 (by decide) (by omega) dL_knew_236 (fun c_236 => ?_) (fun c_236 => ?_)
                    · refine ga_iinc ok rfl hn10 dL_knew_241 ?_
                      refine ga_goto ok 47 (by decide) dL_knew_244 ?_
                      refine WA.wd (k2 := (300 * n.toNat + 30 + 11 * (v + 1).toNat)) (n2 := (2100 * n.toNat + 200 + 70 * (v + 1).toNat)) (by first | omega | (simp only [RM]; omega)) (by first | omega | (simp only [RM]; omega)) ?_
                      exact WA.re (by exact ⟨rfl, rfl, rfl, rfl, rfl, rfl, rfl, rfl, rfl, rfl, rfl, trivial⟩) (loopV (v + 1) _ _ _ ⟨by omega, by rw [hmi2, show (v + 1).toNat = v.toNat + 1 by omega, hmi]; rfl, fun h => by omega, fun _ => ⟨by rw [show (v + 1).toNat = v.toNat + 1 by omega], by rw [show (v + 1).toNat = v.toNat + 1 by omega]⟩⟩ (by omega))
                    · exact absurd c_236 (by decide)
                · refine ga_iconst ok dL_knew_219 ?_
                  refine ga_goto ok 224 (by decide) dL_knew_220 ?_
                  refine ga_icmp_ne ok 231 (by decide) (b2i_rng _) (by omega) dL_knew_224 (fun c_224 => ?_) (fun c_224 => ?_)
                  · exact absurd (by have := b2i_or (psS (rg g.r n.toNat) x F); omega) c_224
                  · refine ga_iconst ok dL_knew_227 ?_
                    refine ga_goto ok 232 (by decide) dL_knew_228 ?_
                    refine ga_istore ok hn15 dL_knew_232 ?_
                    refine ga_iload ok rfl dL_knew_234 ?_
                    refine ga_if_ne ok 241 (by decide) (by omega) dL_knew_236 (fun c_236 => ?_) (fun c_236 => ?_)
                    · refine ga_iinc ok rfl hn10 dL_knew_241 ?_
                      refine ga_goto ok 47 (by decide) dL_knew_244 ?_
                      refine WA.wd (k2 := (300 * n.toNat + 30 + 11 * (v + 1).toNat)) (n2 := (2100 * n.toNat + 200 + 70 * (v + 1).toNat)) (by first | omega | (simp only [RM]; omega)) (by first | omega | (simp only [RM]; omega)) ?_
                      exact WA.re (by exact ⟨rfl, rfl, rfl, rfl, rfl, rfl, rfl, rfl, rfl, rfl, rfl, trivial⟩) (loopV (v + 1) _ _ _ ⟨by omega, by rw [hmi2, show (v + 1).toNat = v.toNat + 1 by omega, hmi]; rfl, fun h => by omega, fun _ => ⟨by rw [show (v + 1).toNat = v.toNat + 1 by omega], by rw [show (v + 1).toNat = v.toNat + 1 by omega]⟩⟩ (by omega))
                    · exact absurd c_236 (by decide)
            have tail132 : ∀ (mi2 : Int), mi2 = mi + b2i (erB g.r n.toNat v.toNat) → WA (GX G ((q, iA G 11 f) :: Xs)) E (300 * n.toNat + 30 + 11 * v.toNat + 5) (2100 * n.toNat + 200 + 70 * v.toNat + 26) 132 [(14, .float (fq kn)), (13, .float (fq (mg c x))), (12, vI F), (9, .float le), (8, vI cl), (7, vI mi2), (11, vI x), (10, vI v), (6, .ref (RAW + q)), (0, .ref 0), (1, vI (g.r 1)), (2, vI al), (3, vI pu), (4, vI da), (5, vI n)] [] m := by
              intro mi2 hmi2
              refine ga_iload ok rfl dL_knew_132 ?_
              refine ga_if_eq ok 145 (by decide) (by omega) dL_knew_134 (fun c_134 => ?_) (fun c_134 => ?_)
              · refine ga_iload ok rfl dL_knew_145 ?_
                refine ga_goto ok 152 (by decide) dL_knew_147 ?_
                refine ga_istore ok hn8 dL_knew_152 ?_
                refine ga_iload ok rfl dL_knew_154 ?_
                refine ga_if_eq ok 167 (by decide) (by omega) dL_knew_156 (fun c_156 => ?_) (fun c_156 => ?_)
                · refine ga_fload ok rfl dL_knew_167 ?_
                  refine ga_goto ok 174 (by decide) dL_knew_169 ?_
                  refine ga_fstore ok hn9 dL_knew_174 ?_
                  have ec : clo g.r n.toNat (v.toNat + 1) = v.toNat := by
                    rw [show v.toNat = 0 by omega, clo_s]
                    split <;> rfl
                  exact WA.re (by exact ⟨rfl, rfl, rfl, (by rw [ec, ← hkn]; rfl), (by rw [ec, show ((v.toNat : Nat) : Int) = v by omega]; rfl), rfl, rfl, rfl, rfl, rfl, rfl, rfl, rfl, rfl, rfl, trivial⟩) (tail176 mi2 hmi2)
                · exact absurd c_156 (by omega)
              · have hle0 := hle.2 (by omega)
                refine ga_fload ok rfl dL_knew_137 ?_
                refine ga_fload ok rfl dL_knew_139 ?_
                refine ga_fcmp ok dL_knew_141 (by rw [hle0.2]; exact fq_cmpz hkb (kno_bd (hX.O.rg hn1))) ?_
                refine ga_if_ge ok 150 (by decide) (cmpz_rng _ _) dL_knew_142 (fun c_142 => ?_) (fun c_142 => ?_)
                · refine ga_iload ok rfl dL_knew_150 ?_
                  refine ga_istore ok hn8 dL_knew_152 ?_
                  refine ga_iload ok rfl dL_knew_154 ?_
                  refine ga_if_eq ok 167 (by decide) (by omega) dL_knew_156 (fun c_156 => ?_) (fun c_156 => ?_)
                  · exact absurd c_156 (by omega)
                  · refine ga_fload ok rfl dL_knew_159 ?_
                    refine ga_fload ok rfl dL_knew_161 ?_
                    refine ga_fcmp ok dL_knew_163 (by rw [hle0.2]; exact fq_cmpz hkb (kno_bd (hX.O.rg hn1))) ?_
                    refine ga_if_ge ok 172 (by decide) (cmpz_rng _ _) dL_knew_164 (fun c_164 => ?_) (fun c_164 => ?_)
                    · refine ga_fload ok rfl dL_knew_172 ?_
                      refine ga_fstore ok hn9 dL_knew_174 ?_
                      have hcz := cmpz_ge.mp c_142
                      have ec : clo g.r n.toNat (v.toNat + 1) = clo g.r n.toNat v.toNat := by
                        rw [clo_s]
                        exact if_neg (by rw [← hkn]; omega)
                      exact WA.re (by exact ⟨rfl, rfl, rfl, (by rw [ec, hle0.2]; rfl), (by rw [ec, hle0.1]; rfl), rfl, rfl, rfl, rfl, rfl, rfl, rfl, rfl, rfl, rfl, trivial⟩) (tail176 mi2 hmi2)
                    · exact absurd c_164 (by omega)
                · refine ga_iload ok rfl dL_knew_145 ?_
                  refine ga_goto ok 152 (by decide) dL_knew_147 ?_
                  refine ga_istore ok hn8 dL_knew_152 ?_
                  refine ga_iload ok rfl dL_knew_154 ?_
                  refine ga_if_eq ok 167 (by decide) (by omega) dL_knew_156 (fun c_156 => ?_) (fun c_156 => ?_)
                  · exact absurd c_156 (by omega)
                  · refine ga_fload ok rfl dL_knew_159 ?_
                    refine ga_fload ok rfl dL_knew_161 ?_
                    refine ga_fcmp ok dL_knew_163 (by rw [hle0.2]; exact fq_cmpz hkb (kno_bd (hX.O.rg hn1))) ?_
                    refine ga_if_ge ok 172 (by decide) (cmpz_rng _ _) dL_knew_164 (fun c_164 => ?_) (fun c_164 => ?_)
                    · exact absurd c_164 (by omega)
                    · refine ga_fload ok rfl dL_knew_167 ?_
                      refine ga_goto ok 174 (by decide) dL_knew_169 ?_
                      refine ga_fstore ok hn9 dL_knew_174 ?_
                      have hcz := cmpz_lt.mp (show cmpz kn (kno g.r n.toNat (clo g.r n.toNat v.toNat)) < 0 by omega)
                      have ec : clo g.r n.toNat (v.toNat + 1) = v.toNat := by
                        rw [clo_s]
                        exact if_pos (by rw [← hkn]; exact hcz)
                      exact WA.re (by exact ⟨rfl, rfl, rfl, (by rw [ec, ← hkn]; rfl), (by rw [ec, show ((v.toNat : Nat) : Int) = v by omega]; rfl), rfl, rfl, rfl, rfl, rfl, rfl, rfl, rfl, rfl, rfl, trivial⟩) (tail176 mi2 hmi2)
            have tail105 : WA (GX G ((q, iA G 11 f) :: Xs)) E (300 * n.toNat + 30 + 11 * v.toNat + 5) (2100 * n.toNat + 200 + 70 * v.toNat + 26) 105 [(14, .float (fq kn)), (13, .float (fq (mg c x))), (12, vI F), (9, .float le), (8, vI cl), (7, vI mi), (11, vI x), (10, vI v), (6, .ref (RAW + q)), (0, .ref 0), (1, vI (g.r 1)), (2, vI al), (3, vI pu), (4, vI da), (5, vI n)] [] m := by
              refine ga_iload ok rfl dL_knew_105 ?_
              refine ga_fload ok rfl dL_knew_107 ?_
              refine ga_fconst0 ok dL_knew_109 ?_
              refine ga_fcmp ok dL_knew_110 (fq_cmpz0 hmz) ?_
              refine ga_if_le ok 118 (by decide) (cmpz_rng _ _) dL_knew_111 (fun c_111 => ?_) (fun c_111 => ?_)
              · refine ga_iconst ok dL_knew_118 ?_
                refine ga_iload ok rfl dL_knew_119 ?_
                refine ga_icmp_ne ok 128 (by decide) (by omega) (by omega) dL_knew_121 (fun c_121 => ?_) (fun c_121 => ?_)
                · refine ga_iconst ok dL_knew_128 ?_
                  refine ga_iadd ok dL_knew_129 ?_
                  refine ga_istore ok hn7 dL_knew_130 ?_
                  have ha : b2i (adm c x) = 0 := adm_0 (cmpz_le.mp c_111)
                  rw [hc, hxe] at ha
                  exact WA.re (by exact ⟨rfl, rfl, rfl, rfl, rfl, rfl, rfl, rfl, rfl, rfl, rfl, rfl, rfl, rfl, rfl, trivial⟩) (tail132 _ (by rw [(erB_1 (by rw [ha, ← hFe]; omega))]))
                · refine ga_iconst ok dL_knew_124 ?_
                  refine ga_goto ok 129 (by decide) dL_knew_125 ?_
                  refine ga_iadd ok dL_knew_129 ?_
                  refine ga_istore ok hn7 dL_knew_130 ?_
                  have ha : b2i (adm c x) = 0 := adm_0 (cmpz_le.mp c_111)
                  rw [hc, hxe] at ha
                  exact WA.re (by exact ⟨rfl, rfl, rfl, rfl, rfl, rfl, rfl, rfl, rfl, rfl, rfl, rfl, rfl, rfl, rfl, trivial⟩) (tail132 _ (by rw [(erB_0 (by rw [ha, ← hFe]; omega))]))
              · refine ga_iconst ok dL_knew_114 ?_
                refine ga_goto ok 119 (by decide) dL_knew_115 ?_
                refine ga_iload ok rfl dL_knew_119 ?_
                refine ga_icmp_ne ok 128 (by decide) (by omega) (by omega) dL_knew_121 (fun c_121 => ?_) (fun c_121 => ?_)
                · refine ga_iconst ok dL_knew_128 ?_
                  refine ga_iadd ok dL_knew_129 ?_
                  refine ga_istore ok hn7 dL_knew_130 ?_
                  have ha : b2i (adm c x) = 1 := adm_1 (cmpz_gt.mp (by omega))
                  rw [hc, hxe] at ha
                  exact WA.re (by exact ⟨rfl, rfl, rfl, rfl, rfl, rfl, rfl, rfl, rfl, rfl, rfl, rfl, rfl, rfl, rfl, trivial⟩) (tail132 _ (by rw [(erB_1 (by rw [ha, ← hFe]; omega))]))
                · refine ga_iconst ok dL_knew_124 ?_
                  refine ga_goto ok 129 (by decide) dL_knew_125 ?_
                  refine ga_iadd ok dL_knew_129 ?_
                  refine ga_istore ok hn7 dL_knew_130 ?_
                  have ha : b2i (adm c x) = 1 := adm_1 (cmpz_gt.mp (by omega))
                  rw [hc, hxe] at ha
                  exact WA.re (by exact ⟨rfl, rfl, rfl, rfl, rfl, rfl, rfl, rfl, rfl, rfl, rfl, rfl, rfl, rfl, rfl, trivial⟩) (tail132 _ (by rw [(erB_0 (by rw [ha, ← hFe]; omega))]))
            refine ga_aload ok rfl dL_knew_80 ?_
            refine ga_iload ok rfl dL_knew_82 ?_
            refine gl_callL ok0 [.ref (RAW + q), vI x] lk_L_183 (c_L_margin ok0.fl hS hmem hcb (by omega)) rfl (by rw [hR]; exact ⟨by decide, by decide, by simp only [RM]; omega, by simp only [RM]; omega⟩) (Nat.le_of_ble_eq_true rfl) dL_knew_84 (fun r9 m9 X9 hq9 => ?_)
            obtain ⟨rfl, hm9, hxs⟩ := hq9
            subst m9
            subst X9
            simp only [Option.toList_some, List.singleton_append]
            rw [show mg f x = mg c x from mgA_cong x 10 (by omega) hfc]
            refine ga_fstore ok hn13 dL_knew_87 ?_
            refine ga_iload ok rfl dL_knew_89 ?_
            refine ga_if_eq ok 99 (by decide) (by omega) dL_knew_91 (fun c_91 => ?_) (fun c_91 => ?_)
            · exact absurd c_91 (by decide)
            · refine ga_fload ok rfl dL_knew_94 ?_
              refine ga_goto ok 103 (by decide) dL_knew_96 ?_
              refine ga_fstore ok hn14 dL_knew_103 ?_
              have ek : kn = mg c x := by rw [hkn, kno_t (by rw [← hFe]; exact c_70), hc, hxe]
              refine WA.wd (k2 := (300 * n.toNat + 30 + 11 * v.toNat + 5)) (n2 := (2100 * n.toNat + 200 + 70 * v.toNat + 26)) (by first | omega | (simp only [RM]; omega)) (by first | omega | (simp only [RM]; omega)) ?_
              exact WA.re (by exact ⟨(by rw [ek]; rfl), rfl, (by rw [c_70]; rfl), rfl, rfl, rfl, rfl, rfl, rfl, rfl, rfl, rfl, rfl, rfl, rfl, trivial⟩) tail105
      refine WA.wd (k2 := (300 * n.toNat + 30 + 11 * (0 : Int).toNat)) (n2 := (2100 * n.toNat + 200 + 70 * (0 : Int).toNat)) (by first | omega | (simp only [RM]; omega)) (by first | omega | (simp only [RM]; omega)) ?_
      exact WA.re (by exact ⟨rfl, rfl, rfl, rfl, rfl, rfl, rfl, rfl, rfl, rfl, rfl, trivial⟩) (loopV 0 0 (-13) _ ⟨by omega, rfl, fun _ => rfl, fun h => absurd rfl h⟩)
  refine WA.wd (k2 := (1 + 300 * (0 : Int).toNat)) (n2 := (6 + 2100 * (0 : Int).toNat)) (by first | omega | (simp only [RM]; omega)) (by first | omega | (simp only [RM]; omega)) ?_
  exact WA.re (by exact ⟨rfl, rfl, rfl, rfl, rfl, rfl, trivial⟩) (loopG 0 0 0 0 ⟨by omega, rfl, rfl, rfl⟩)
