/-! VISITORS -/
theorem n64_to {x : UInt64} (h : vf_n64 x) : FP.Core.val64 x ≠ .nan := by
  unfold vf_n64 at h
  rw [UInt64.le_iff_toNat_le, FP.Core.mask_toNat] at h
  exact (FP.Core.ne_nan x).mpr h
theorem dcmp_0 {x : UInt64} {op : CmpOp} (h : vf_n64 x) : Op.cmpValue (FP.dcmp x x) op = Int32.ofInt 0 := by
  rw [show FP.dcmp x x = some .eq from FP.Core.dcmp_self (n64_to h)]
  rfl
theorem vLn_sz {x f : Int} : ∀ k : Nat, (vLn x f k).2 = szO x k + 1
  | 0 => rfl
  | k + 1 => by
    have h := vLn_sz (x := x) (f := f) k
    show (if x / 2 ^ k % 2 ^ 1 = 1 then putL (vLn x f k) (97 + k) else vLn x f k).2 = szO x k + b2i (decide (x / 2 ^ k % 2 ^ 1 = 1)) + 1
    by_cases e : x / 2 ^ k % 2 ^ 1 = 1
    · rw [if_pos e, show decide (x / 2 ^ k % 2 ^ 1 = 1) = true from decide_eq_true e]
      show (vLn x f k).2 + 1 = szO x k + 1 + 1
      omega
    · rw [if_neg e, show decide (x / 2 ^ k % 2 ^ 1 = 1) = false from decide_eq_false e]
      show (vLn x f k).2 = szO x k + 0 + 1
      omega
theorem szO_bd (x : Int) : 0 ≤ szO x 10 ∧ szO x 10 ≤ 10 := zs_bd1 (f := fun b => decide (x / 2 ^ b % 2 ^ 1 = 1)) 10
theorem plc_1 {r : Nat → Int} {v : Nat} (h : vF r v = 1) : plc r v = zs (fun u => b2i (decide (vF r u = 1))) v := by
  unfold plc
  rw [h]
theorem zs_01 {r : Nat → Int} : ∀ v : Nat, (∀ u, u < v → vF r u = 0 ∨ vF r u = 1) → zs (fun u => b2i (decide (vF r u = 0))) v = v - zs (fun u => b2i (decide (vF r u = 1))) v
  | 0, _ => rfl
  | v + 1, h => by
    have h1 := zs_01 v (fun u hu => h u (by omega))
    show zs (fun u => b2i (decide (vF r u = 0))) v + b2i (decide (vF r v = 0)) = ((v + 1 : Nat) : Int) - (zs (fun u => b2i (decide (vF r u = 1))) v + b2i (decide (vF r v = 1)))
    rcases h v (by omega) with e | e
    · rw [h1, e]
      have a : b2i (decide ((0 : Int) = 0)) = 1 := rfl
      have b : b2i (decide ((0 : Int) = 1)) = 0 := rfl
      omega
    · rw [h1, e]
      have a : b2i (decide ((1 : Int) = 0)) = 0 := rfl
      have b : b2i (decide ((1 : Int) = 1)) = 1 := rfl
      omega
theorem lit_p {c : Int} : EqL (lch [c], ((1 : Nat) : Int)) (putL ln0 c) := by
  refine ⟨rfl, fun j hj => ?_⟩
  have hj : (j : Int) < 0 + 1 := hj
  have e : j = 0 := by omega
  subst e
  rfl
theorem txt_stepC {t t2 : Nat → Int} {N N2 c : Int} {q0 : (Nat → Int) × Int} (h : EqL (t, N) q0) (hq : 0 ≤ q0.2) (h2 : EqL (t2, N2) (putL (catL ln0 (lch []) ((0 : Nat) : Int)) c)) : EqL (catL (catL ln0 t N) t2 N2) (putL q0 c) := by
  have e1 : EqL (catL ln0 t N) q0 := cat_l.tr h
  have e2 : EqL (t2, N2) (putL ln0 c) := h2.tr ((cat_0 rfl).put c)
  refine (e1.catl (t := t2) (N := N2)).tr ?_
  refine (EqL.cat (q := q0) e2).tr ?_
  refine (cat_put hq (by show (0 : Int) ≤ 0; omega) c).tr ?_
  exact (cat_0 rfl).put c
theorem vLn_t {x f : Int} {k : Nat} (h : x / 2 ^ k % 2 ^ 1 = 1) : vLn x f (k + 1) = putL (vLn x f k) (97 + k) := if_pos h
theorem vLn_f {x f : Int} {k : Nat} (h : ¬ (x / 2 ^ k % 2 ^ 1 = 1)) : vLn x f (k + 1) = vLn x f k := if_neg h
set_option maxHeartbeats 3000000 in
set_option maxRecDepth 100000 in
theorem c_L_visited {G : GG} {l : Launch} (hfl : l.stackTraces = false) (hG : MW G) (hS : SBW G) {la lv : Nat → Nat} {sb sl : Nat} {xs : Nat → Int32} (hg : LGW G la lv sb sl xs) {m : Mm} {Xs : XS} {g : Gm} {T : Int} (hX : LWX T m g) (hT0 : 0 ≤ T ∧ T ≤ 100000000) : CL G l yL_visited cL_visited 11 (some .boolean) (RM 12 11000 560000) [.ref 0] m (Xs) (fun r' m' Xs' => ∃ (g' : Gm), r' = some (vI 1) ∧ LWX T m' g' ∧ g'.r = g.r ∧ g'.tn = g.tn) := by
  refine CL.of RL [(0, .ref 0)] hfl (by decide +kernel) rfl rfl (Nat.le_of_ble_eq_true rfl) ?_
  intro E ok0 en hml hEl hnam
  have hR : e_R E = RM 12 11000 560000 := en.2.2.2
  have ok : ∀ {Xs : XS}, OK0 (GX G Xs) E RL cL_visited := fun {_} => ok0.gx
  have hn0 : 0 < (e_c E).maxLocals := by rw [hml]; decide
  have hn1 : 1 < (e_c E).maxLocals := by rw [hml]; decide
  have hn2 : 2 < (e_c E).maxLocals := by rw [hml]; decide
  have hn3 : 3 < (e_c E).maxLocals := by rw [hml]; decide
  have hn4 : 4 < (e_c E).maxLocals := by rw [hml]; decide
  have hn5 : 5 < (e_c E).maxLocals := by rw [hml]; decide
  have hn6 : 6 < (e_c E).maxLocals := by rw [hml]; decide
  have hn7 : 7 < (e_c E).maxLocals := by rw [hml]; decide
  have hn8 : 8 < (e_c E).maxLocals := by rw [hml]; decide
  have hn9 : 9 < (e_c E).maxLocals := by rw [hml]; decide
  have hn10 : 10 < (e_c E).maxLocals := by rw [hml]; decide
  have hr0 : 0 ≤ g.r 0 ∧ g.r 0 ≤ 4 := hX.O.1
  have h12 : 0 ≤ g.r 1 ∧ g.r 1 ≤ 12 := hX.O.2.1
  refine ga_aload_n ok 0 rfl rfl dL_visited_0 ?_
  refine ga_iconst ok dL_visited_1 ?_
  refine gl_callV ok0 hG hS [vI 1] lk_L_168 rfl hX.h40 (fun G9 hG9 hS9 => (c_X3_account ok0.fl hG9 hX.I hX.O (what := 1) (by omega)).nox (fun _ _ h => by have := h.1.2; omega)) rfl (by rw [hR]; exact ⟨by decide, by decide, by simp only [RM]; omega, by simp only [RM]; omega⟩) (Nat.le_of_ble_eq_true rfl) dL_visited_2 (fun r9 m1 hq9 => ?_)
  obtain ⟨-, rfl, hm9⟩ := hq9
  subst m1
  simp only [Option.toList_some, List.singleton_append]
  rw [if_pos trivial]
  refine ga_istore_n ok 1 rfl hn1 dL_visited_5 ?_
  refine ga_iconst ok dL_visited_6 ?_
  refine ga_istore_n ok 2 rfl hn2 dL_visited_7 ?_
  refine ga_iconst ok dL_visited_8 ?_
  refine ga_istore_n ok 3 rfl hn3 dL_visited_9 ?_
  refine ga_iconst ok dL_visited_10 ?_
  refine ga_istore ok hn4 dL_visited_11 ?_
  have loopV : ∀ (n : Nat), True → ∀ (v fr al : Int) (m1 : Mm) (g1 : Gm), (g.r 1 - v).toNat = n → ((0 ≤ v ∧ v ≤ g.r 1) ∧ fr = zs (fun u => b2i (decide (vF g.r u = 1))) v.toNat ∧ al = zs (fun u => szO (vX g.r u) 10) v.toNat ∧ LWX T m1 g1 ∧ g1.r = g.r ∧ g1.tn = g.tn) → WA (GX G Xs) E (1 + 900 * v.toNat) (6 + 45000 * v.toNat) 13 [(1, vI (g.r 1)), (2, vI fr), (3, vI al), (4, vI v), (0, .ref 0)] [] m1 := by
    refine wl1 _ (fun n => n) _ ?_
    intro n _ ih v fr al m1 g1 hn9 hv9
    subst hn9
    obtain ⟨hv, hfr, hal, hX1, er, et⟩ := hv9
    have hfrb : 0 ≤ fr ∧ fr ≤ 12 := by
      have h1 := zs_bd1 (f := fun u => decide (vF g.r u = 1)) v.toNat
      rw [hfr]
      omega
    refine ga_iload ok rfl dL_visited_13 ?_
    refine ga_iload_n ok 1 rfl rfl dL_visited_15 ?_
    refine ga_icmp_ge ok 358 (by decide) (by omega) (by omega) dL_visited_16 (fun c_16 => ?_) (fun c_16 => ?_)
    · have hve : v = g.r 1 := by omega
      clear ih
      refine ga_aload_n ok 0 rfl rfl dL_visited_358 ?_
      refine ga_iconst ok dL_visited_359 ?_
      refine gl_callV ok0 hG hS [vI 2] lk_L_168 rfl hX1.h40 (fun G9 hG9 hS9 => (c_X3_account ok0.fl hG9 hX1.I hX1.O (what := 2) (by omega)).nox (fun _ _ h => by have := h.1.2; omega)) rfl (by rw [hR]; exact ⟨by decide, by decide, by simp only [RM]; omega, by simp only [RM]; omega⟩) (Nat.le_of_ble_eq_true rfl) dL_visited_360 (fun r9 m9 hq9 => ?_)
      obtain ⟨-, rfl, hm9⟩ := hq9
      subst m9
      rw [er, show (if (2 : Int) = 0 then g.r 0 else if (2 : Int) = 1 then g.r 1 else if (2 : Int) = 2 then cof g.r 1 else if (2 : Int) = 3 then cof g.r 0 else if (2 : Int) = 4 then zs (fun u => rg g.r u 2) (g.r 0).toNat else if (2 : Int) = 5 then zs (fun u => rg g.r u 3) (g.r 0).toNat else if (2 : Int) = 6 then zs (fun u => ofG g.r u) (g.r 0).toNat else if (2 : Int) = 7 then m1.1 640 1 else m1.1 0 6) = fr from by rw [hfr, hve]; rfl]
      simp only [Option.toList_some, List.singleton_append]
      refine ga_iload_n ok 2 rfl rfl dL_visited_363 ?_
      refine ga_icmp_ne ok 421 (by decide) (by omega) (by omega) dL_visited_364 (fun c_364 => ?_) (fun c_364 => ?_)
      · exact absurd rfl c_364
      · refine ga_aload_n ok 0 rfl rfl dL_visited_367 ?_
        refine ga_iconst ok dL_visited_368 ?_
        refine gl_callV ok0 hG hS [vI 3] lk_L_168 rfl hX1.h40 (fun G9 hG9 hS9 => (c_X3_account ok0.fl hG9 hX1.I hX1.O (what := 3) (by omega)).nox (fun _ _ h => by have := h.1.2; omega)) rfl (by rw [hR]; exact ⟨by decide, by decide, by simp only [RM]; omega, by simp only [RM]; omega⟩) (Nat.le_of_ble_eq_true rfl) dL_visited_369 (fun r9 m9 hq9 => ?_)
        obtain ⟨-, rfl, hm9⟩ := hq9
        subst m9
        rw [er, show (if (3 : Int) = 0 then g.r 0 else if (3 : Int) = 1 then g.r 1 else if (3 : Int) = 2 then cof g.r 1 else if (3 : Int) = 3 then cof g.r 0 else if (3 : Int) = 4 then zs (fun u => rg g.r u 2) (g.r 0).toNat else if (3 : Int) = 5 then zs (fun u => rg g.r u 3) (g.r 0).toNat else if (3 : Int) = 6 then zs (fun u => ofG g.r u) (g.r 0).toNat else if (3 : Int) = 7 then m1.1 640 1 else m1.1 0 6) = (g.r 1 - fr) from by
          have h9 := zs_01 (r := g.r) (g.r 1).toNat (fun u hu => (hX.O.2.2.1 u (by omega)).2)
          rw [hfr, hve]
          show zs (fun u => b2i (decide (vF g.r u = 0))) (g.r 1).toNat = _
          rw [h9]
          omega]
        simp only [Option.toList_some, List.singleton_append]
        refine ga_iload_n ok 1 rfl rfl dL_visited_372 ?_
        refine ga_iload_n ok 2 rfl rfl dL_visited_373 ?_
        refine ga_isub ok dL_visited_374 ?_
        refine ga_icmp_ne ok 421 (by decide) (by omega) (by omega) dL_visited_375 (fun c_375 => ?_) (fun c_375 => ?_)
        · exact absurd rfl c_375
        · refine ga_iload_n ok 1 rfl rfl dL_visited_378 ?_
          refine ga_if_eq ok 395 (by decide) (by omega) dL_visited_379 (fun c_379 => ?_) (fun c_379 => ?_)
          · refine ga_aload_n ok 0 rfl rfl dL_visited_395 ?_
            refine ga_iload_n ok 1 rfl rfl dL_visited_396 ?_
            refine gl_callT ok0 hG hS [.ref 0, vI (g.r 1)] lw_L_283 hX1.h40 (fun G9 hG9 hS9 => w_line ok0.fl hG9 hS9 hX1 (by omega) (by omega)) rfl (by rw [hR]; exact ⟨by decide, by decide, by simp only [RM]; omega, by simp only [RM]; omega⟩) (Nat.le_of_ble_eq_true rfl) dL_visited_397 (fun r9 m2 hq9 => ?_)
            obtain ⟨rfl, hm9⟩ := hq9.2 (by rw [er]; omega)
            subst m2
            simp only [Option.toList_some, List.singleton_append]
            refine ga_bipush ok dL_visited_400 (by decide) ?_
            refine ga_icmp_ne ok 421 (by decide) (by omega) (by omega) dL_visited_402 (fun c_402 => ?_) (fun c_402 => ?_)
            · exact absurd rfl c_402
            · refine ga_aload_n ok 0 rfl rfl dL_visited_405 ?_
              refine ga_iconst ok dL_visited_406 ?_
              refine ga_bipush ok dL_visited_407 (by decide) ?_
              refine gl_callT ok0 hG hS [.ref 0, vI (-1), vI 9] lw_L_252 hX1.h40 (fun G9 hG9 hS9 => w_visitorOf ok0.fl hG9 hS9 hX1 (by omega) (by omega) (by omega)) rfl (by rw [hR]; exact ⟨by decide, by decide, by simp only [RM]; omega, by simp only [RM]; omega⟩) (Nat.le_of_ble_eq_true rfl) dL_visited_409 (fun r9 m1 hq9 => ?_)
              obtain ⟨rfl, hm9⟩ := hq9
              subst m1
              simp only [Option.toList_some, List.singleton_append]
              rw [show q_visitorOf g1.r (-1) 9 = -11 from by unfold q_visitorOf; exact if_neg (by omega)]
              refine ga_bipush ok dL_visited_412 (by decide) ?_
              refine ga_icmp_ne ok 421 (by decide) (by omega) (by omega) dL_visited_414 (fun c_414 => ?_) (fun c_414 => ?_)
              · exact absurd rfl c_414
              · refine ga_iconst ok dL_visited_417 ?_
                refine ga_goto ok 422 (by decide) dL_visited_418 ?_
                exact gl_ireturn ok0 en rfl (nar01 (Or.inr rfl)) (by first | decide | (simp only [RM]; omega)) (by first | decide | (simp only [RM]; omega)) dL_visited_422 ⟨g1, rfl, hX1, er, et⟩
          · refine ga_aload_n ok 0 rfl rfl dL_visited_382 ?_
            refine gl_callV ok0 hG hS [] lk_L_285 rfl hX1.h40 (fun G9 hG9 hS9 => (c_X3_meanBadges ok0.fl hG9 hX1.I hX1.O).nox (fun _ _ h => c_379 (by rw [← er]; exact h.1.2))) rfl (by rw [hR]; exact ⟨by decide, by decide, by simp only [RM]; omega, by simp only [RM]; omega⟩) (Nat.le_of_ble_eq_true rfl) dL_visited_383 (fun r9 m9 hq9 => ?_)
            obtain ⟨-, rfl, hm9⟩ := hq9
            subst m9
            rw [er, show zs (fun u => szO (vX g.r u) 10) (g.r 1).toNat = al from by rw [hal, hve]]
            simp only [Option.toList_some, List.singleton_append]
            refine ga_iload_n ok 3 rfl rfl dL_visited_386 ?_
            refine ga_i2d ok dL_visited_387 ?_
            refine ga_iload_n ok 1 rfl rfl dL_visited_388 ?_
            refine ga_i2d ok dL_visited_389 ?_
            refine ga_ddiv ok dL_visited_390 (n64_div (by omega)) ?_
            refine ga_dcmp ok dL_visited_391 (dcmp_0 (n64_div (by omega))) ?_
            refine ga_if_ne ok 421 (by decide) (by omega) dL_visited_392 (fun c_392 => ?_) (fun c_392 => ?_)
            · exact absurd rfl c_392
            · refine ga_aload_n ok 0 rfl rfl dL_visited_395 ?_
              refine ga_iload_n ok 1 rfl rfl dL_visited_396 ?_
              refine gl_callT ok0 hG hS [.ref 0, vI (g.r 1)] lw_L_283 hX1.h40 (fun G9 hG9 hS9 => w_line ok0.fl hG9 hS9 hX1 (by omega) (by omega)) rfl (by rw [hR]; exact ⟨by decide, by decide, by simp only [RM]; omega, by simp only [RM]; omega⟩) (Nat.le_of_ble_eq_true rfl) dL_visited_397 (fun r9 m2 hq9 => ?_)
              obtain ⟨rfl, hm9⟩ := hq9.2 (by rw [er]; omega)
              subst m2
              simp only [Option.toList_some, List.singleton_append]
              refine ga_bipush ok dL_visited_400 (by decide) ?_
              refine ga_icmp_ne ok 421 (by decide) (by omega) (by omega) dL_visited_402 (fun c_402 => ?_) (fun c_402 => ?_)
              · exact absurd rfl c_402
              · refine ga_aload_n ok 0 rfl rfl dL_visited_405 ?_
                refine ga_iconst ok dL_visited_406 ?_
                refine ga_bipush ok dL_visited_407 (by decide) ?_
                refine gl_callT ok0 hG hS [.ref 0, vI (-1), vI 9] lw_L_252 hX1.h40 (fun G9 hG9 hS9 => w_visitorOf ok0.fl hG9 hS9 hX1 (by omega) (by omega) (by omega)) rfl (by rw [hR]; exact ⟨by decide, by decide, by simp only [RM]; omega, by simp only [RM]; omega⟩) (Nat.le_of_ble_eq_true rfl) dL_visited_409 (fun r9 m1 hq9 => ?_)
                obtain ⟨rfl, hm9⟩ := hq9
                subst m1
                simp only [Option.toList_some, List.singleton_append]
                rw [show q_visitorOf g1.r (-1) 9 = -11 from by unfold q_visitorOf; exact if_neg (by omega)]
                refine ga_bipush ok dL_visited_412 (by decide) ?_
                refine ga_icmp_ne ok 421 (by decide) (by omega) (by omega) dL_visited_414 (fun c_414 => ?_) (fun c_414 => ?_)
                · exact absurd rfl c_414
                · refine ga_iconst ok dL_visited_417 ?_
                  refine ga_goto ok 422 (by decide) dL_visited_418 ?_
                  exact gl_ireturn ok0 en rfl (nar01 (Or.inr rfl)) (by first | decide | (simp only [RM]; omega)) (by first | decide | (simp only [RM]; omega)) dL_visited_422 ⟨g1, rfl, hX1, er, et⟩
    · have hv1 : 0 ≤ v ∧ v < g.r 1 := by omega
      refine ga_aload_n ok 0 rfl rfl dL_visited_19 ?_
      refine ga_iload ok rfl dL_visited_20 ?_
      refine ga_iconst ok dL_visited_22 ?_
      refine gl_callT ok0 hG hS [.ref 0, vI v, vI 0] lw_L_252 hX1.h40 (fun G9 hG9 hS9 => w_visitorOf ok0.fl hG9 hS9 hX1 (by omega) (by omega) (by omega)) rfl (by rw [hR]; exact ⟨by decide, by decide, by simp only [RM]; omega, by simp only [RM]; omega⟩) (Nat.le_of_ble_eq_true rfl) dL_visited_23 (fun r9 m1 hq9 => ?_)
      obtain ⟨rfl, hm9⟩ := hq9
      subst m1
      simp only [Option.toList_some, List.singleton_append]
      rw [er, qv_0 hv1]
      obtain ⟨x, hxe⟩ : ∃ x, x = vX g.r v.toNat := ⟨_, rfl⟩
      obtain ⟨F, hFe⟩ : ∃ F, F = vF g.r v.toNat := ⟨_, rfl⟩
      have hxF := hX.O.vs hv1
      rw [← hxe, ← hFe] at hxF
      have hxr := hxF.1
      rw [← hxe]
      refine ga_istore ok hn5 dL_visited_26 ?_
      refine ga_aload_n ok 0 rfl rfl dL_visited_28 ?_
      refine ga_iload ok rfl dL_visited_29 ?_
      refine ga_iconst ok dL_visited_31 ?_
      refine gl_callT ok0 hG hS [.ref 0, vI v, vI 1] lw_L_252 hX1.h40 (fun G9 hG9 hS9 => w_visitorOf ok0.fl hG9 hS9 hX1 (by omega) (by omega) (by omega)) rfl (by rw [hR]; exact ⟨by decide, by decide, by simp only [RM]; omega, by simp only [RM]; omega⟩) (Nat.le_of_ble_eq_true rfl) dL_visited_32 (fun r9 m1 hq9 => ?_)
      obtain ⟨rfl, hm9⟩ := hq9
      subst m1
      simp only [Option.toList_some, List.singleton_append]
      rw [er, qv_1 hv1, ← hFe]
      refine ga_iconst ok dL_visited_35 ?_
      refine ga_icmp_ne ok 43 (by decide) (by omega) (by omega) dL_visited_36 (fun c_36 => ?_) (fun c_36 => ?_)
      · refine ga_iconst ok dL_visited_43 ?_
        refine ga_istore ok hn6 dL_visited_44 ?_
        refine ga_iload ok rfl dL_visited_46 ?_
        refine ga_if_eq ok 57 (by decide) (by omega) dL_visited_48 (fun c_48 => ?_) (fun c_48 => ?_)
        · refine gl_ldcSW ok0 hS rfl hg.1 3 (q := litL[3]) rfl dL_visited_57 ?_
          refine ga_astore ok hn7 dL_visited_60 ?_
          refine ga_iconst ok dL_visited_62 ?_
          refine ga_istore ok hn8 dL_visited_63 ?_
          have hF9 : F = 0 := by omega
          have loopT : ∀ (n : Nat), True → ∀ (b : Int) (As : XS) (s v9 N : Nat) (t : Nat → Int), (10 - b).toNat = n → ((0 ≤ b ∧ b ≤ 10) ∧ SIN G (As ++ Xs) s v9 t N ∧ EqL (t, (N : Int)) (vLn x F b.toNat)) → WA (GX G (As ++ Xs)) E (900 * v.toNat + 20 + 40 * b.toNat) (45000 * v.toNat + 100 + 2500 * b.toNat) 65 [(8, vI b), (7, .ref (RAW + s)), (5, vI x), (6, vI F), (0, .ref 0), (1, vI (g.r 1)), (2, vI fr), (3, vI al), (4, vI v)] [] m1 := by
            refine wl1 _ (fun n => n) _ ?_
            intro n _ loopT b As s v9 N t hn9 hb9
            subst hn9
            obtain ⟨hb, hsin, hE⟩ := hb9
            refine ga_iload ok rfl dL_visited_65 ?_
            refine ga_bipush ok dL_visited_67 (by decide) ?_
            refine ga_icmp_ge ok 137 (by decide) (by omega) (by omega) dL_visited_69 (fun c_69 => ?_) (fun c_69 => ?_)
            · clear loopT
              rw [show b.toNat = 10 by omega] at hE
              have hNb := vLn_2 x F 10
              have hNe : (N : Int) = (vLn x F 10).2 := hE.1
              refine ga_iconst ok dL_visited_137 ?_
              refine ga_istore ok hn8 dL_visited_138 ?_
              refine ga_iconst ok dL_visited_140 ?_
              refine ga_istore ok hn9 dL_visited_141 ?_
              have loopU : ∀ (u mi : Int), ((0 ≤ u ∧ u ≤ g.r 0) ∧ mi = zs (fun g2 => b2i (erB g.r g2 v.toNat)) u.toNat) → WA (GX G (As ++ Xs)) E (900 * v.toNat + 600 + 4 * u.toNat) (45000 * v.toNat + 30000 + 20 * u.toNat) 143 [(9, vI u), (8, vI mi), (7, .ref (RAW + s)), (5, vI x), (6, vI F), (0, .ref 0), (1, vI (g.r 1)), (2, vI fr), (3, vI al), (4, vI v)] [] m1 := by
                refine wl2 _ (fun u _ => (g.r 0 - u).toNat) _ ?_
                intro u mi hu9 loopU
                obtain ⟨hu, hmi⟩ := hu9
                refine ga_iload ok rfl dL_visited_143 ?_
                refine ga_aload_n ok 0 rfl rfl dL_visited_145 ?_
                refine ga_iconst ok dL_visited_146 ?_
                refine gl_callV ok0 hG hS [vI 0] lk_L_168 rfl hX1.h40 (fun G9 hG9 hS9 => (c_X3_account ok0.fl hG9 hX1.I hX1.O (what := 0) (by omega)).nox (fun _ _ h => by have := h.1.2; omega)) rfl (by rw [hR]; exact ⟨by decide, by decide, by simp only [RM]; omega, by simp only [RM]; omega⟩) (Nat.le_of_ble_eq_true rfl) dL_visited_147 (fun r9 m1 hq9 => ?_)
                obtain ⟨-, rfl, hm9⟩ := hq9
                subst m1
                simp only [Option.toList_some, List.singleton_append]
                rw [if_pos trivial, er]
                refine ga_icmp_ge ok 190 (by decide) (by omega) (by omega) dL_visited_150 (fun c_150 => ?_) (fun c_150 => ?_)
                · clear loopU
                  have hmib : 0 ≤ mi ∧ mi ≤ 4 := by
                    have h1 := zs_bd1 (f := fun g2 => erB g.r g2 v.toNat) u.toNat
                    rw [hmi]
                    omega
                  refine ga_aload_n ok 0 rfl rfl dL_visited_190 ?_
                  refine ga_iload ok rfl dL_visited_191 ?_
                  refine gl_callT ok0 hG hS [.ref 0, vI v] lw_L_283 hX1.h40 (fun G9 hG9 hS9 => w_line ok0.fl hG9 hS9 hX1 (by omega) (by omega)) rfl (by rw [hR]; exact ⟨by decide, by decide, by simp only [RM]; omega, by simp only [RM]; omega⟩) (Nat.le_of_ble_eq_true rfl) dL_visited_193 (fun r9 m2 hq9 => ?_)
                  obtain ⟨rfl, hX2⟩ := hq9.1 (by rw [er]; exact hv1)
                  simp only [Option.toList_some, List.singleton_append]
                  rw [er, ← hxe, ← hFe] at hX2 ⊢
                  obtain ⟨g2, hg2⟩ : ∃ g2, g2 = lnG g1 (vLn x F 10) := ⟨_, rfl⟩
                  rw [← hg2] at hX2
                  have er2 : g2.r = g.r := by rw [hg2]; exact er
                  have et2 : g2.tn = g.tn := by rw [hg2]; exact et
                  have hln2 : g2.ln = (vLn x F 10).1 := by rw [hg2]; rfl
                  have hnn2 : g2.nn = (vLn x F 10).2 := by rw [hg2]; rfl
                  have hNe : (N : Int) = (vLn x F 10).2 := hE.1
                  have hsz := vLn_sz (x := x) (f := F) 10
                  have hszb := szO_bd x
                  refine ga_aload ok rfl dL_visited_196 ?_
                  refine gl_callStr ok0 hS hX2.h40 hsin [] lv_L_127 rfl (fun _ h => absurd h List.not_mem_nil) (fun G9 hS9 h9 => c_J0_length ok0.fl trivial hS9 h9) rfl (by rw [hR]; exact ⟨by decide, by decide, by simp only [RM]; omega, by simp only [RM]; omega⟩) (Nat.le_of_ble_eq_true rfl) dL_visited_198 ?_
                  refine ga_icmp_ne ok 272 (by decide) (by omega) (by omega) dL_visited_201 (fun c_201 => ?_) (fun c_201 => ?_)
                  · exact absurd (by omega) c_201
                  · refine ga_aload_n ok 0 rfl rfl dL_visited_204 ?_
                    refine ga_iload ok rfl dL_visited_205 ?_
                    refine ga_iconst ok dL_visited_207 ?_
                    refine gl_callT ok0 hG hS [.ref 0, vI v, vI 2] lw_L_252 hX2.h40 (fun G9 hG9 hS9 => w_visitorOf ok0.fl hG9 hS9 hX2 (by omega) (by omega) (by omega)) rfl (by rw [hR]; exact ⟨by decide, by decide, by simp only [RM]; omega, by simp only [RM]; omega⟩) (Nat.le_of_ble_eq_true rfl) dL_visited_208 (fun r9 m1 hq9 => ?_)
                    obtain ⟨rfl, hm9⟩ := hq9
                    subst m1
                    simp only [Option.toList_some, List.singleton_append]
                    rw [er2, show q_visitorOf g.r v 2 = szO x 10 from by unfold q_visitorOf; rw [if_pos hv1, if_pos (by omega), hxe]; rfl]
                    refine ga_aload ok rfl dL_visited_211 ?_
                    refine gl_callStr ok0 hS hX2.h40 hsin [] lv_L_127 rfl (fun _ h => absurd h List.not_mem_nil) (fun G9 hS9 h9 => c_J0_length ok0.fl trivial hS9 h9) rfl (by rw [hR]; exact ⟨by decide, by decide, by simp only [RM]; omega, by simp only [RM]; omega⟩) (Nat.le_of_ble_eq_true rfl) dL_visited_213 ?_
                    refine ga_iconst ok dL_visited_216 ?_
                    refine ga_isub ok dL_visited_217 ?_
                    refine ga_icmp_ne ok 272 (by decide) (by omega) (by omega) dL_visited_218 (fun c_218 => ?_) (fun c_218 => ?_)
                    · exact absurd (by omega) c_218
                    · refine ga_aload_n ok 0 rfl rfl dL_visited_221 ?_
                      refine ga_iload ok rfl dL_visited_222 ?_
                      refine ga_iconst ok dL_visited_224 ?_
                      refine gl_callT ok0 hG hS [.ref 0, vI v, vI 3] lw_L_252 hX2.h40 (fun G9 hG9 hS9 => w_visitorOf ok0.fl hG9 hS9 hX2 (by omega) (by omega) (by omega)) rfl (by rw [hR]; exact ⟨by decide, by decide, by simp only [RM]; omega, by simp only [RM]; omega⟩) (Nat.le_of_ble_eq_true rfl) dL_visited_225 (fun r9 m1 hq9 => ?_)
                      obtain ⟨rfl, hm9⟩ := hq9
                      subst m1
                      simp only [Option.toList_some, List.singleton_append]
                      rw [er2, show q_visitorOf g.r v 3 = mi from by unfold q_visitorOf; rw [if_pos hv1, if_pos (by omega), hmi, show u = g.r 0 by omega]; rfl]
                      refine ga_iload ok rfl dL_visited_228 ?_
                      refine ga_icmp_ne ok 272 (by decide) (by omega) (by omega) dL_visited_230 (fun c_230 => ?_) (fun c_230 => ?_)
                      · exact absurd (by omega) c_230
                      · refine ga_aload_n ok 0 rfl rfl dL_visited_233 ?_
                        refine ga_iload ok rfl dL_visited_234 ?_
                        refine ga_iconst ok dL_visited_236 ?_
                        refine gl_callT ok0 hG hS [.ref 0, vI v, vI 4] lw_L_252 hX2.h40 (fun G9 hG9 hS9 => w_visitorOf ok0.fl hG9 hS9 hX2 (by omega) (by omega) (by omega)) rfl (by rw [hR]; exact ⟨by decide, by decide, by simp only [RM]; omega, by simp only [RM]; omega⟩) (Nat.le_of_ble_eq_true rfl) dL_visited_237 (fun r9 m1 hq9 => ?_)
                        obtain ⟨rfl, hm9⟩ := hq9
                        subst m1
                        simp only [Option.toList_some, List.singleton_append]
                        rw [er2, show q_visitorOf g.r v 4 = plc g.r v.toNat from by unfold q_visitorOf; rw [if_pos hv1, if_pos (by omega)]; rfl]
                        have hpb : 0 ≤ plc g.r v.toNat ∧ plc g.r v.toNat ≤ 12 := by
                          have h1 := zs_bd1 (f := fun u => decide (vF g.r u = vF g.r v.toNat)) v.toNat
                          have e9 : plc g.r v.toNat = zs (fun u => b2i (decide (vF g.r u = vF g.r v.toNat))) v.toNat := rfl
                          omega
                        refine ga_iload ok rfl dL_visited_240 ?_
                        refine ga_if_eq ok 249 (by decide) (by omega) dL_visited_242 (fun c_242 => ?_) (fun c_242 => ?_)
                        · refine ga_iload ok rfl dL_visited_249 ?_
                          refine ga_iload_n ok 2 rfl rfl dL_visited_251 ?_
                          refine ga_isub ok dL_visited_252 ?_
                          refine ga_icmp_ne ok 272 (by decide) (by omega) (by omega) dL_visited_253 (fun c_253 => ?_) (fun c_253 => ?_)
                          · have hpl : plc g.r v.toNat = v - fr := by
                              have h9 := zs_01 (r := g.r) v.toNat (fun u hu => (hX.O.2.2.1 u (by omega)).2)
                              unfold plc
                              rw [show vF g.r v.toNat = 0 by omega, h9, hfr]
                              omega
                            exact absurd (by omega) c_253
                          · refine ga_aload_n ok 0 rfl rfl dL_visited_256 ?_
                            refine ga_iload ok rfl dL_visited_257 ?_
                            refine ga_iconst ok dL_visited_259 ?_
                            refine gl_callT ok0 hG hS [.ref 0, vI v, vI 5] lw_L_252 hX2.h40 (fun G9 hG9 hS9 => w_visitorOf ok0.fl hG9 hS9 hX2 (by omega) (by omega) (by omega)) rfl (by rw [hR]; exact ⟨by decide, by decide, by simp only [RM]; omega, by simp only [RM]; omega⟩) (Nat.le_of_ble_eq_true rfl) dL_visited_260 (fun r9 m1 hq9 => ?_)
                            obtain ⟨rfl, hm9⟩ := hq9
                            subst m1
                            simp only [Option.toList_some, List.singleton_append]
                            rw [er2, show q_visitorOf g.r v 5 = -12 from by unfold q_visitorOf; rw [if_pos hv1]; exact if_neg (by omega)]
                            refine ga_bipush ok dL_visited_263 (by decide) ?_
                            refine ga_icmp_ne ok 272 (by decide) (by omega) (by omega) dL_visited_265 (fun c_265 => ?_) (fun c_265 => ?_)
                            · exact absurd (by omega) c_265
                            · refine ga_iconst ok dL_visited_268 ?_
                              refine ga_goto ok 273 (by decide) dL_visited_269 ?_
                              refine ga_istore ok hn9 dL_visited_273 ?_
                              refine ga_iconst ok dL_visited_275 ?_
                              refine ga_istore ok hn10 dL_visited_276 ?_
                              have loopC : ∀ (k : Int), (0 ≤ k ∧ k ≤ N) → WA (GX G (As ++ Xs)) E (900 * v.toNat + 700 + 2 * k.toNat) (45000 * v.toNat + 40000 + 8 * k.toNat) 278 [(10, vI k), (9, vI 1), (7, .ref (RAW + s)), (5, vI x), (6, vI F), (0, .ref 0), (1, vI (g.r 1)), (2, vI fr), (3, vI al), (4, vI v)] [] m2 := by
                                refine wl1 _ (fun k => ((N : Int) - k).toNat) _ ?_
                                intro k hk loopC
                                refine ga_iload ok rfl dL_visited_278 ?_
                                refine ga_aload ok rfl dL_visited_280 ?_
                                refine gl_callStr ok0 hS hX2.h40 hsin [] lv_L_127 rfl (fun _ h => absurd h List.not_mem_nil) (fun G9 hS9 h9 => c_J0_length ok0.fl trivial hS9 h9) rfl (by rw [hR]; exact ⟨by decide, by decide, by simp only [RM]; omega, by simp only [RM]; omega⟩) (Nat.le_of_ble_eq_true rfl) dL_visited_282 ?_
                                refine ga_icmp_ge ok 322 (by decide) (by omega) (by omega) dL_visited_285 (fun c_285 => ?_) (fun c_285 => ?_)
                                · clear loopC
                                  refine ga_iload ok rfl dL_visited_322 ?_
                                  refine ga_if_ne ok 329 (by decide) (by omega) dL_visited_324 (fun c_324 => ?_) (fun c_324 => ?_)
                                  · refine ga_iload_n ok 2 rfl rfl dL_visited_329 ?_
                                    refine ga_iload ok rfl dL_visited_330 ?_
                                    refine ga_if_eq ok 339 (by decide) (by omega) dL_visited_332 (fun c_332 => ?_) (fun c_332 => ?_)
                                    · refine ga_iconst ok dL_visited_339 ?_
                                      refine ga_iadd ok dL_visited_340 ?_
                                      refine ga_istore_n ok 2 rfl hn2 dL_visited_341 ?_
                                      refine ga_iload_n ok 3 rfl rfl dL_visited_342 ?_
                                      refine ga_aload ok rfl dL_visited_343 ?_
                                      refine gl_callStr ok0 hS hX2.h40 hsin [] lv_L_127 rfl (fun _ h => absurd h List.not_mem_nil) (fun G9 hS9 h9 => c_J0_length ok0.fl trivial hS9 h9) rfl (by rw [hR]; exact ⟨by decide, by decide, by simp only [RM]; omega, by simp only [RM]; omega⟩) (Nat.le_of_ble_eq_true rfl) dL_visited_345 ?_
                                      refine ga_iconst ok dL_visited_348 ?_
                                      refine ga_isub ok dL_visited_349 ?_
                                      refine ga_iadd ok dL_visited_350 ?_
                                      refine ga_istore_n ok 3 rfl hn3 dL_visited_351 ?_
                                      refine ga_iinc ok rfl hn4 dL_visited_352 ?_
                                      refine ga_goto ok 13 (by decide) dL_visited_355 ?_
                                      refine WA.drop ?_
                                      have hz : b2i (decide (vF g.r v.toNat = 1)) = 0 := b2i_0.mpr (decide_eq_false (by rw [← hFe]; omega))
                                      refine WA.wd (k2 := 1 + 900 * (v + 1).toNat) (n2 := 6 + 45000 * (v + 1).toNat) (by first | omega | (simp only [RM]; omega)) (by first | omega | (simp only [RM]; omega)) ?_
                                      exact WA.re (by exact ⟨rfl, rfl, rfl, rfl, rfl, trivial⟩) (ih _ (by trivial) (by omega) (v + 1) _ _ m2 g2 rfl ⟨by omega, by rw [zs_n (f := fun u => b2i (decide (vF g.r u = 1))) hv1.1, hz, hfr], by rw [zs_n (f := fun u => szO (vX g.r u) 10) hv1.1, hal, ← hxe]; omega, hX2, er2, et2⟩)
                                    · refine ga_iconst ok dL_visited_335 ?_
                                      refine ga_goto ok 340 (by decide) dL_visited_336 ?_
                                      refine ga_iadd ok dL_visited_340 ?_
                                      refine ga_istore_n ok 2 rfl hn2 dL_visited_341 ?_
                                      refine ga_iload_n ok 3 rfl rfl dL_visited_342 ?_
                                      refine ga_aload ok rfl dL_visited_343 ?_
                                      refine gl_callStr ok0 hS hX2.h40 hsin [] lv_L_127 rfl (fun _ h => absurd h List.not_mem_nil) (fun G9 hS9 h9 => c_J0_length ok0.fl trivial hS9 h9) rfl (by rw [hR]; exact ⟨by decide, by decide, by simp only [RM]; omega, by simp only [RM]; omega⟩) (Nat.le_of_ble_eq_true rfl) dL_visited_345 ?_
                                      refine ga_iconst ok dL_visited_348 ?_
                                      refine ga_isub ok dL_visited_349 ?_
                                      refine ga_iadd ok dL_visited_350 ?_
                                      refine ga_istore_n ok 3 rfl hn3 dL_visited_351 ?_
                                      refine ga_iinc ok rfl hn4 dL_visited_352 ?_
                                      refine ga_goto ok 13 (by decide) dL_visited_355 ?_
                                      refine WA.drop ?_
                                      have hz : b2i (decide (vF g.r v.toNat = 1)) = 1 := b2i_1.mpr (decide_eq_true (by rw [← hFe]; omega))
                                      refine WA.wd (k2 := 1 + 900 * (v + 1).toNat) (n2 := 6 + 45000 * (v + 1).toNat) (by first | omega | (simp only [RM]; omega)) (by first | omega | (simp only [RM]; omega)) ?_
                                      exact WA.re (by exact ⟨rfl, rfl, rfl, rfl, rfl, trivial⟩) (ih _ (by trivial) (by omega) (v + 1) _ _ m2 g2 rfl ⟨by omega, by rw [zs_n (f := fun u => b2i (decide (vF g.r u = 1))) hv1.1, hz, hfr], by rw [zs_n (f := fun u => szO (vX g.r u) 10) hv1.1, hal, ← hxe]; omega, hX2, er2, et2⟩)
                                  · exact absurd c_324 (by decide)
                                · have c_285 : k < (N : Int) := by omega
                                  refine ga_iload ok rfl dL_visited_288 ?_
                                  refine ga_if_eq ok 322 (by decide) (by omega) dL_visited_290 (fun c_290 => ?_) (fun c_290 => ?_)
                                  · exact absurd c_290 (by decide)
                                  · refine ga_aload_n ok 0 rfl rfl dL_visited_293 ?_
                                    refine ga_iload ok rfl dL_visited_294 ?_
                                    refine gl_callT ok0 hG hS [.ref 0, vI k] lw_L_232 hX2.h40 (fun G9 hG9 hS9 => w_character ok0.fl hG9 hS9 hX2 (by omega) (by omega)) rfl (by rw [hR]; exact ⟨by decide, by decide, by simp only [RM]; omega, by simp only [RM]; omega⟩) (Nat.le_of_ble_eq_true rfl) dL_visited_296 (fun r9 m1 hq9 => ?_)
                                    obtain ⟨rfl, hm9⟩ := hq9
                                    subst m1
                                    simp only [Option.toList_some, List.singleton_append]
                                    rw [show q_character g2 k = t k.toNat from by unfold q_character; rw [if_pos (by rw [hnn2]; omega), hln2, ← hE.2 k.toNat (by omega)]]
                                    refine ga_aload ok rfl dL_visited_299 ?_
                                    refine ga_iload ok rfl dL_visited_301 ?_
                                    refine gl_callStr ok0 hS hX2.h40 hsin [vI k] lv_L_132 rfl (fun x h => Or.inl ⟨_, List.mem_singleton.mp h⟩) (fun G9 hS9 h9 => c_J0_charAt ok0.fl trivial hS9 h9 ⟨hk.1, c_285⟩) rfl (by rw [hR]; exact ⟨by decide, by decide, by simp only [RM]; omega, by simp only [RM]; omega⟩) (Nat.le_of_ble_eq_true rfl) dL_visited_303 ?_
                                    have hti := hsin.1.2 k.toNat (by omega)
                                    refine ga_icmp_ne ok 313 (by decide) (by omega) (by omega) dL_visited_306 (fun c_306 => ?_) (fun c_306 => ?_)
                                    · exact absurd rfl c_306
                                    · refine ga_iconst ok dL_visited_309 ?_
                                      refine ga_goto ok 314 (by decide) dL_visited_310 ?_
                                      refine ga_istore ok hn9 dL_visited_314 ?_
                                      refine ga_iinc ok rfl hn10 dL_visited_316 ?_
                                      refine ga_goto ok 278 (by decide) dL_visited_319 ?_
                                      refine WA.wd (k2 := 900 * v.toNat + 700 + 2 * (k + 1).toNat) (n2 := 45000 * v.toNat + 40000 + 8 * (k + 1).toNat) (by first | omega | (simp only [RM]; omega)) (by first | omega | (simp only [RM]; omega)) ?_
                                      exact WA.re (by exact ⟨rfl, rfl, rfl, rfl, rfl, rfl, rfl, rfl, rfl, rfl, trivial⟩) (loopC (k + 1) (by omega) (by omega))
                              refine WA.wd (k2 := 900 * v.toNat + 700 + 2 * (0 : Int).toNat) (n2 := 45000 * v.toNat + 40000 + 8 * (0 : Int).toNat) (by first | omega | (simp only [RM]; omega)) (by first | omega | (simp only [RM]; omega)) ?_
                              exact WA.re (by exact ⟨rfl, rfl, rfl, rfl, rfl, rfl, rfl, rfl, rfl, rfl, trivial⟩) (loopC 0 (by omega))
                        · refine ga_iload_n ok 2 rfl rfl dL_visited_245 ?_
                          refine ga_goto ok 253 (by decide) dL_visited_246 ?_
                          refine ga_icmp_ne ok 272 (by decide) (by omega) (by omega) dL_visited_253 (fun c_253 => ?_) (fun c_253 => ?_)
                          · have hpl : plc g.r v.toNat = fr := by rw [plc_1 (by omega), hfr]
                            exact absurd (by omega) c_253
                          · refine ga_aload_n ok 0 rfl rfl dL_visited_256 ?_
                            refine ga_iload ok rfl dL_visited_257 ?_
                            refine ga_iconst ok dL_visited_259 ?_
                            refine gl_callT ok0 hG hS [.ref 0, vI v, vI 5] lw_L_252 hX2.h40 (fun G9 hG9 hS9 => w_visitorOf ok0.fl hG9 hS9 hX2 (by omega) (by omega) (by omega)) rfl (by rw [hR]; exact ⟨by decide, by decide, by simp only [RM]; omega, by simp only [RM]; omega⟩) (Nat.le_of_ble_eq_true rfl) dL_visited_260 (fun r9 m1 hq9 => ?_)
                            obtain ⟨rfl, hm9⟩ := hq9
                            subst m1
                            simp only [Option.toList_some, List.singleton_append]
                            rw [er2, show q_visitorOf g.r v 5 = -12 from by unfold q_visitorOf; rw [if_pos hv1]; exact if_neg (by omega)]
                            refine ga_bipush ok dL_visited_263 (by decide) ?_
                            refine ga_icmp_ne ok 272 (by decide) (by omega) (by omega) dL_visited_265 (fun c_265 => ?_) (fun c_265 => ?_)
                            · exact absurd (by omega) c_265
                            · refine ga_iconst ok dL_visited_268 ?_
                              refine ga_goto ok 273 (by decide) dL_visited_269 ?_
                              refine ga_istore ok hn9 dL_visited_273 ?_
                              refine ga_iconst ok dL_visited_275 ?_
                              refine ga_istore ok hn10 dL_visited_276 ?_
                              have loopC : ∀ (k : Int), (0 ≤ k ∧ k ≤ N) → WA (GX G (As ++ Xs)) E (900 * v.toNat + 700 + 2 * k.toNat) (45000 * v.toNat + 40000 + 8 * k.toNat) 278 [(10, vI k), (9, vI 1), (7, .ref (RAW + s)), (5, vI x), (6, vI F), (0, .ref 0), (1, vI (g.r 1)), (2, vI fr), (3, vI al), (4, vI v)] [] m2 := by
                                refine wl1 _ (fun k => ((N : Int) - k).toNat) _ ?_
                                intro k hk loopC
                                refine ga_iload ok rfl dL_visited_278 ?_
                                refine ga_aload ok rfl dL_visited_280 ?_
                                refine gl_callStr ok0 hS hX2.h40 hsin [] lv_L_127 rfl (fun _ h => absurd h List.not_mem_nil) (fun G9 hS9 h9 => c_J0_length ok0.fl trivial hS9 h9) rfl (by rw [hR]; exact ⟨by decide, by decide, by simp only [RM]; omega, by simp only [RM]; omega⟩) (Nat.le_of_ble_eq_true rfl) dL_visited_282 ?_
                                refine ga_icmp_ge ok 322 (by decide) (by omega) (by omega) dL_visited_285 (fun c_285 => ?_) (fun c_285 => ?_)
                                · clear loopC
                                  refine ga_iload ok rfl dL_visited_322 ?_
                                  refine ga_if_ne ok 329 (by decide) (by omega) dL_visited_324 (fun c_324 => ?_) (fun c_324 => ?_)
                                  · refine ga_iload_n ok 2 rfl rfl dL_visited_329 ?_
                                    refine ga_iload ok rfl dL_visited_330 ?_
                                    refine ga_if_eq ok 339 (by decide) (by omega) dL_visited_332 (fun c_332 => ?_) (fun c_332 => ?_)
                                    · refine ga_iconst ok dL_visited_339 ?_
                                      refine ga_iadd ok dL_visited_340 ?_
                                      refine ga_istore_n ok 2 rfl hn2 dL_visited_341 ?_
                                      refine ga_iload_n ok 3 rfl rfl dL_visited_342 ?_
                                      refine ga_aload ok rfl dL_visited_343 ?_
                                      refine gl_callStr ok0 hS hX2.h40 hsin [] lv_L_127 rfl (fun _ h => absurd h List.not_mem_nil) (fun G9 hS9 h9 => c_J0_length ok0.fl trivial hS9 h9) rfl (by rw [hR]; exact ⟨by decide, by decide, by simp only [RM]; omega, by simp only [RM]; omega⟩) (Nat.le_of_ble_eq_true rfl) dL_visited_345 ?_
                                      refine ga_iconst ok dL_visited_348 ?_
                                      refine ga_isub ok dL_visited_349 ?_
                                      refine ga_iadd ok dL_visited_350 ?_
                                      refine ga_istore_n ok 3 rfl hn3 dL_visited_351 ?_
                                      refine ga_iinc ok rfl hn4 dL_visited_352 ?_
                                      refine ga_goto ok 13 (by decide) dL_visited_355 ?_
                                      refine WA.drop ?_
                                      have hz : b2i (decide (vF g.r v.toNat = 1)) = 0 := b2i_0.mpr (decide_eq_false (by rw [← hFe]; omega))
                                      refine WA.wd (k2 := 1 + 900 * (v + 1).toNat) (n2 := 6 + 45000 * (v + 1).toNat) (by first | omega | (simp only [RM]; omega)) (by first | omega | (simp only [RM]; omega)) ?_
                                      exact WA.re (by exact ⟨rfl, rfl, rfl, rfl, rfl, trivial⟩) (ih _ (by trivial) (by omega) (v + 1) _ _ m2 g2 rfl ⟨by omega, by rw [zs_n (f := fun u => b2i (decide (vF g.r u = 1))) hv1.1, hz, hfr], by rw [zs_n (f := fun u => szO (vX g.r u) 10) hv1.1, hal, ← hxe]; omega, hX2, er2, et2⟩)
                                    · refine ga_iconst ok dL_visited_335 ?_
                                      refine ga_goto ok 340 (by decide) dL_visited_336 ?_
                                      refine ga_iadd ok dL_visited_340 ?_
                                      refine ga_istore_n ok 2 rfl hn2 dL_visited_341 ?_
                                      refine ga_iload_n ok 3 rfl rfl dL_visited_342 ?_
                                      refine ga_aload ok rfl dL_visited_343 ?_
                                      refine gl_callStr ok0 hS hX2.h40 hsin [] lv_L_127 rfl (fun _ h => absurd h List.not_mem_nil) (fun G9 hS9 h9 => c_J0_length ok0.fl trivial hS9 h9) rfl (by rw [hR]; exact ⟨by decide, by decide, by simp only [RM]; omega, by simp only [RM]; omega⟩) (Nat.le_of_ble_eq_true rfl) dL_visited_345 ?_
                                      refine ga_iconst ok dL_visited_348 ?_
                                      refine ga_isub ok dL_visited_349 ?_
                                      refine ga_iadd ok dL_visited_350 ?_
                                      refine ga_istore_n ok 3 rfl hn3 dL_visited_351 ?_
                                      refine ga_iinc ok rfl hn4 dL_visited_352 ?_
                                      refine ga_goto ok 13 (by decide) dL_visited_355 ?_
                                      refine WA.drop ?_
                                      have hz : b2i (decide (vF g.r v.toNat = 1)) = 1 := b2i_1.mpr (decide_eq_true (by rw [← hFe]; omega))
                                      refine WA.wd (k2 := 1 + 900 * (v + 1).toNat) (n2 := 6 + 45000 * (v + 1).toNat) (by first | omega | (simp only [RM]; omega)) (by first | omega | (simp only [RM]; omega)) ?_
                                      exact WA.re (by exact ⟨rfl, rfl, rfl, rfl, rfl, trivial⟩) (ih _ (by trivial) (by omega) (v + 1) _ _ m2 g2 rfl ⟨by omega, by rw [zs_n (f := fun u => b2i (decide (vF g.r u = 1))) hv1.1, hz, hfr], by rw [zs_n (f := fun u => szO (vX g.r u) 10) hv1.1, hal, ← hxe]; omega, hX2, er2, et2⟩)
                                  · exact absurd c_324 (by decide)
                                · have c_285 : k < (N : Int) := by omega
                                  refine ga_iload ok rfl dL_visited_288 ?_
                                  refine ga_if_eq ok 322 (by decide) (by omega) dL_visited_290 (fun c_290 => ?_) (fun c_290 => ?_)
                                  · exact absurd c_290 (by decide)
                                  · refine ga_aload_n ok 0 rfl rfl dL_visited_293 ?_
                                    refine ga_iload ok rfl dL_visited_294 ?_
                                    refine gl_callT ok0 hG hS [.ref 0, vI k] lw_L_232 hX2.h40 (fun G9 hG9 hS9 => w_character ok0.fl hG9 hS9 hX2 (by omega) (by omega)) rfl (by rw [hR]; exact ⟨by decide, by decide, by simp only [RM]; omega, by simp only [RM]; omega⟩) (Nat.le_of_ble_eq_true rfl) dL_visited_296 (fun r9 m1 hq9 => ?_)
                                    obtain ⟨rfl, hm9⟩ := hq9
                                    subst m1
                                    simp only [Option.toList_some, List.singleton_append]
                                    rw [show q_character g2 k = t k.toNat from by unfold q_character; rw [if_pos (by rw [hnn2]; omega), hln2, ← hE.2 k.toNat (by omega)]]
                                    refine ga_aload ok rfl dL_visited_299 ?_
                                    refine ga_iload ok rfl dL_visited_301 ?_
                                    refine gl_callStr ok0 hS hX2.h40 hsin [vI k] lv_L_132 rfl (fun x h => Or.inl ⟨_, List.mem_singleton.mp h⟩) (fun G9 hS9 h9 => c_J0_charAt ok0.fl trivial hS9 h9 ⟨hk.1, c_285⟩) rfl (by rw [hR]; exact ⟨by decide, by decide, by simp only [RM]; omega, by simp only [RM]; omega⟩) (Nat.le_of_ble_eq_true rfl) dL_visited_303 ?_
                                    have hti := hsin.1.2 k.toNat (by omega)
                                    refine ga_icmp_ne ok 313 (by decide) (by omega) (by omega) dL_visited_306 (fun c_306 => ?_) (fun c_306 => ?_)
                                    · exact absurd rfl c_306
                                    · refine ga_iconst ok dL_visited_309 ?_
                                      refine ga_goto ok 314 (by decide) dL_visited_310 ?_
                                      refine ga_istore ok hn9 dL_visited_314 ?_
                                      refine ga_iinc ok rfl hn10 dL_visited_316 ?_
                                      refine ga_goto ok 278 (by decide) dL_visited_319 ?_
                                      refine WA.wd (k2 := 900 * v.toNat + 700 + 2 * (k + 1).toNat) (n2 := 45000 * v.toNat + 40000 + 8 * (k + 1).toNat) (by first | omega | (simp only [RM]; omega)) (by first | omega | (simp only [RM]; omega)) ?_
                                      exact WA.re (by exact ⟨rfl, rfl, rfl, rfl, rfl, rfl, rfl, rfl, rfl, rfl, trivial⟩) (loopC (k + 1) (by omega) (by omega))
                              refine WA.wd (k2 := 900 * v.toNat + 700 + 2 * (0 : Int).toNat) (n2 := 45000 * v.toNat + 40000 + 8 * (0 : Int).toNat) (by first | omega | (simp only [RM]; omega)) (by first | omega | (simp only [RM]; omega)) ?_
                              exact WA.re (by exact ⟨rfl, rfl, rfl, rfl, rfl, rfl, rfl, rfl, rfl, rfl, trivial⟩) (loopC 0 (by omega))
                · have hu1 : 0 ≤ u ∧ u < g.r 0 := by omega
                  refine ga_iload ok rfl dL_visited_153 ?_
                  refine ga_aload_n ok 0 rfl rfl dL_visited_155 ?_
                  refine ga_iload ok rfl dL_visited_156 ?_
                  refine ga_iload ok rfl dL_visited_158 ?_
                  refine gl_callT ok0 hG hS [.ref 0, vI u, vI x] lw_L_238 hX1.h40 (fun G9 hG9 hS9 => w_letsIn ok0.fl hG9 hS9 hX1 (by omega) (by omega) (by omega)) rfl (by rw [hR]; exact ⟨by decide, by decide, by simp only [RM]; omega, by simp only [RM]; omega⟩) (Nat.le_of_ble_eq_true rfl) dL_visited_160 (fun r9 m1 hq9 => ?_)
                  obtain ⟨rfl, hm9⟩ := hq9
                  subst m1
                  simp only [Option.toList_some, List.singleton_append]
                  rw [er, ql_in hu1 hxr]
                  refine ga_iload ok rfl dL_visited_163 ?_
                  refine ga_if_eq ok 172 (by decide) (by omega) dL_visited_165 (fun c_165 => ?_) (fun c_165 => ?_)
                  · refine ga_iconst ok dL_visited_172 ?_
                    refine ga_icmp_ne ok 180 (by decide) (b2i_rng _) (by omega) dL_visited_173 (fun c_173 => ?_) (fun c_173 => ?_)
                    · refine ga_iconst ok dL_visited_180 ?_
                      refine ga_iadd ok dL_visited_181 ?_
                      refine ga_istore ok hn8 dL_visited_182 ?_
                      refine ga_iinc ok rfl hn9 dL_visited_184 ?_
                      refine ga_goto ok 143 (by decide) dL_visited_187 ?_
                      have ha : b2i (erB g.r u.toNat v.toNat) = 1 := erB_1 (by rw [← hxe, ← hFe]; omega)
                      refine WA.wd (k2 := 900 * v.toNat + 600 + 4 * (u + 1).toNat) (n2 := 45000 * v.toNat + 30000 + 20 * (u + 1).toNat) (by first | omega | (simp only [RM]; omega)) (by first | omega | (simp only [RM]; omega)) ?_
                      exact WA.re (by exact ⟨rfl, rfl, rfl, rfl, rfl, rfl, rfl, rfl, rfl, rfl, trivial⟩) (loopU (u + 1) _ ⟨by omega, by rw [zs_n (f := fun g2 => b2i (erB g.r g2 v.toNat)) hu1.1, ha, hmi]⟩ (by omega))
                    · refine ga_iconst ok dL_visited_176 ?_
                      refine ga_goto ok 181 (by decide) dL_visited_177 ?_
                      refine ga_iadd ok dL_visited_181 ?_
                      refine ga_istore ok hn8 dL_visited_182 ?_
                      refine ga_iinc ok rfl hn9 dL_visited_184 ?_
                      refine ga_goto ok 143 (by decide) dL_visited_187 ?_
                      have ha : b2i (erB g.r u.toNat v.toNat) = 0 := erB_0 (by rw [← hxe, ← hFe]; omega)
                      refine WA.wd (k2 := 900 * v.toNat + 600 + 4 * (u + 1).toNat) (n2 := 45000 * v.toNat + 30000 + 20 * (u + 1).toNat) (by first | omega | (simp only [RM]; omega)) (by first | omega | (simp only [RM]; omega)) ?_
                      exact WA.re (by exact ⟨rfl, rfl, rfl, rfl, rfl, rfl, rfl, rfl, rfl, rfl, trivial⟩) (loopU (u + 1) _ ⟨by omega, by rw [zs_n (f := fun g2 => b2i (erB g.r g2 v.toNat)) hu1.1, ha, hmi]⟩ (by omega))
                  · refine ga_iconst ok dL_visited_168 ?_
                    refine ga_goto ok 173 (by decide) dL_visited_169 ?_
                    refine ga_icmp_ne ok 180 (by decide) (b2i_rng _) (by omega) dL_visited_173 (fun c_173 => ?_) (fun c_173 => ?_)
                    · refine ga_iconst ok dL_visited_180 ?_
                      refine ga_iadd ok dL_visited_181 ?_
                      refine ga_istore ok hn8 dL_visited_182 ?_
                      refine ga_iinc ok rfl hn9 dL_visited_184 ?_
                      refine ga_goto ok 143 (by decide) dL_visited_187 ?_
                      have ha : b2i (erB g.r u.toNat v.toNat) = 1 := erB_1 (by rw [← hxe, ← hFe]; omega)
                      refine WA.wd (k2 := 900 * v.toNat + 600 + 4 * (u + 1).toNat) (n2 := 45000 * v.toNat + 30000 + 20 * (u + 1).toNat) (by first | omega | (simp only [RM]; omega)) (by first | omega | (simp only [RM]; omega)) ?_
                      exact WA.re (by exact ⟨rfl, rfl, rfl, rfl, rfl, rfl, rfl, rfl, rfl, rfl, trivial⟩) (loopU (u + 1) _ ⟨by omega, by rw [zs_n (f := fun g2 => b2i (erB g.r g2 v.toNat)) hu1.1, ha, hmi]⟩ (by omega))
                    · refine ga_iconst ok dL_visited_176 ?_
                      refine ga_goto ok 181 (by decide) dL_visited_177 ?_
                      refine ga_iadd ok dL_visited_181 ?_
                      refine ga_istore ok hn8 dL_visited_182 ?_
                      refine ga_iinc ok rfl hn9 dL_visited_184 ?_
                      refine ga_goto ok 143 (by decide) dL_visited_187 ?_
                      have ha : b2i (erB g.r u.toNat v.toNat) = 0 := erB_0 (by rw [← hxe, ← hFe]; omega)
                      refine WA.wd (k2 := 900 * v.toNat + 600 + 4 * (u + 1).toNat) (n2 := 45000 * v.toNat + 30000 + 20 * (u + 1).toNat) (by first | omega | (simp only [RM]; omega)) (by first | omega | (simp only [RM]; omega)) ?_
                      exact WA.re (by exact ⟨rfl, rfl, rfl, rfl, rfl, rfl, rfl, rfl, rfl, rfl, trivial⟩) (loopU (u + 1) _ ⟨by omega, by rw [zs_n (f := fun g2 => b2i (erB g.r g2 v.toNat)) hu1.1, ha, hmi]⟩ (by omega))
              refine WA.wd (k2 := 900 * v.toNat + 600 + 4 * (0 : Int).toNat) (n2 := 45000 * v.toNat + 30000 + 20 * (0 : Int).toNat) (by first | omega | (simp only [RM]; omega)) (by first | omega | (simp only [RM]; omega)) ?_
              exact WA.re (by exact ⟨rfl, rfl, rfl, rfl, rfl, rfl, rfl, rfl, rfl, rfl, trivial⟩) (loopU 0 0 ⟨by omega, rfl⟩)
            · have hNb := vLn_2 x F b.toNat
              have hNe : (N : Int) = (vLn x F b.toNat).2 := hE.1
              refine gl_newSB ok0 hS (hg.at ok0).2.2 cl_SB ci_SB cn_SB li_L_213 (by rw [hR]; first | omega | (simp only [RM]; omega)) (by rw [hR]; first | omega | (simp only [RM]; omega)) (by rw [hR]; exact ⟨by decide, by decide⟩) (Nat.le_of_ble_eq_true rfl) dL_visited_72 dL_visited_75 dL_visited_76 (fun a20 => ?_)
              obtain ⟨M20, hM20⟩ : ∃ M, M = m00 ((a20 + 1 : Nat) : Int) := ⟨_, rfl⟩
              have hb20 : BLs M20 ln0 := by rw [hM20]; exact m00_bls _ (by omega)
              rw [← hM20]
              obtain ⟨Q20, hQ20⟩ : ∃ Q, Q = ln0 := ⟨_, rfl⟩
              rw [← hQ20] at hb20
              have hl20 : LnOk Q20 := by rw [hQ20]; exact LnOk.z
              have hs20 : Q20.2 = 0 := by rw [hQ20]; rfl
              refine ga_aload ok rfl dL_visited_79 ?_
              refine gl_callSB ok0 hS [.ref (RAW + s)] [(s, v9, t, N)] lv_L_216 rfl hb20.2.1 (fun x h => Or.inr ⟨_, List.mem_singleton.mp h⟩) (fun x h => by rw [List.mem_singleton.mp h]; exact hsin) (fun G9 hS9 hd9 h9 => c_J4_appendS (s := s) (v := v9) (t := t) (N := N) ok0.fl trivial hS9 (h9 _ (List.mem_singleton.mpr rfl)) hd9 hb20 (by omega)) rfl (by rw [hR]; exact ⟨by decide, by decide, by simp only [RM]; omega, by simp only [RM]; omega⟩) (Nat.le_of_ble_eq_true rfl) dL_visited_81 (fun M21 hb21 => ?_)
              replace hb21 := hb21.1
              have hl21 := hl20.cat (t := t) (N := N) (hsin).1.2
              obtain ⟨Q21, hQ21⟩ : ∃ Q, Q = catL Q20 (t) ((N : Nat) : Int) := ⟨_, rfl⟩
              rw [show catL Q20 (t) ((N : Nat) : Int) = Q21 from hQ21.symm] at hb21 hl21
              have hs21 : Q21.2 = Q20.2 + N := by rw [hQ21]; rfl
              refine ga_iload ok rfl dL_visited_84 ?_
              refine ga_iload ok rfl dL_visited_86 ?_
              refine ga_callS ok [vI x, vI b] lk_L_178 (c_L_has ok0.fl trivial (by omega) (by omega)) rfl (by rw [hR]; exact ⟨by decide, by decide, by simp only [RM]; omega, by simp only [RM]; omega⟩) (Nat.le_of_ble_eq_true rfl) dL_visited_88 (fun r9 m9 hq9 => ?_) (fun _ _ h => h.elim)
              obtain ⟨rfl, hm9⟩ := hq9
              subst m9
              simp only [Option.toList_some, List.singleton_append]
              refine ga_if_eq ok 121 (by decide) (b2i_rng _) dL_visited_91 (fun c_91 => ?_) (fun c_91 => ?_)
              · refine gl_ldcS ok0 hS rfl hg.1 0 (q := litL[0]) rfl dL_visited_121 ?_
                refine gl_callSB ok0 hS [.ref (RAW + la 0)] [(la 0, lv 0, lch [], 0)] lv_L_216 rfl hb21.2.1 (fun x h => Or.inr ⟨_, List.mem_singleton.mp h⟩) (fun x h => by rw [List.mem_singleton.mp h]; exact (show SIN G _ (la 0) (lv 0) (lch []) 0 from hg.1.sin (i := 0) rfl)) (fun G9 hS9 hd9 h9 => c_J4_appendS (s := la 0) (v := lv 0) (t := lch []) (N := 0) ok0.fl trivial hS9 (h9 _ (List.mem_singleton.mpr rfl)) hd9 hb21 (by omega)) rfl (by rw [hR]; exact ⟨by decide, by decide, by simp only [RM]; omega, by simp only [RM]; omega⟩) (Nat.le_of_ble_eq_true rfl) dL_visited_123 (fun M22 hb22 => ?_)
                replace hb22 := hb22.1
                have hl22 := hl21.cat (t := lch []) (N := 0) ((show SIN G [] (la 0) (lv 0) (lch []) 0 from hg.1.sin (i := 0) rfl)).1.2
                obtain ⟨Q22, hQ22⟩ : ∃ Q, Q = catL Q21 (lch []) ((0 : Nat) : Int) := ⟨_, rfl⟩
                rw [show catL Q21 (lch []) ((0 : Nat) : Int) = Q22 from hQ22.symm] at hb22 hl22
                have hs22 : Q22.2 = Q21.2 + 0 := by rw [hQ22]; rfl
                obtain ⟨N22, hN22⟩ : ∃ N : Nat, Q22.2 = N := ⟨Q22.2.toNat, by have := hl22.1; omega⟩
                refine gl_takeSB ok0 hS hb22 hN22 (by omega) lv_L_222 (by rw [hR]; exact ⟨by decide, by decide, by simp only [RM]; omega, by simp only [RM]; omega⟩) (Nat.le_of_ble_eq_true rfl) dL_visited_126 (fun s22 v22 t22 ht22 => ?_)
                have hT22 := hl22.sin hN22 (by omega) ht22
                have hbit : ¬ (x / 2 ^ b.toNat % 2 ^ 1 = 1) := fun h9 => absurd (show hasB x b = true from decide_eq_true (Or.inr h9)) (by rw [b2i_0.mp c_91]; decide)
                have hE2 : EqL (t22, (N22 : Int)) (vLn x F (b + 1).toNat) := by
                  have e := take_eq hN22 ht22
                  rw [hQ22, hQ21, hQ20] at e
                  rw [show (b + 1).toNat = b.toNat + 1 by omega, vLn_f hbit]
                  exact e.tr (txt_same hE)
                refine WA.mid ?_
                have hsn : SIN G (STX G s22 v22 t22 N22 ++ Xs) s22 v22 t22 N22 := ⟨hT22, Or.inl (fun x h => List.mem_append_left _ h)⟩
                refine ga_astore ok hn7 dL_visited_129 ?_
                refine ga_iinc ok rfl hn8 dL_visited_131 ?_
                refine ga_goto ok 65 (by decide) dL_visited_134 ?_
                refine WA.wd (k2 := 900 * v.toNat + 20 + 40 * (b + 1).toNat) (n2 := 45000 * v.toNat + 100 + 2500 * (b + 1).toNat) (by first | omega | (simp only [RM]; omega)) (by first | omega | (simp only [RM]; omega)) ?_
                exact WA.re (by exact ⟨rfl, rfl, rfl, rfl, rfl, rfl, rfl, rfl, rfl, trivial⟩) (loopT _ (by trivial) (by omega) (b + 1) (STX G s22 v22 t22 N22) s22 v22 N22 t22 rfl ⟨by omega, hsn, hE2⟩)
              · refine gl_newSB ok0 hS (hg.at ok0).2.2 cl_SB ci_SB cn_SB li_L_213 (by rw [hR]; first | omega | (simp only [RM]; omega)) (by rw [hR]; first | omega | (simp only [RM]; omega)) (by rw [hR]; exact ⟨by decide, by decide⟩) (Nat.le_of_ble_eq_true rfl) dL_visited_94 dL_visited_97 dL_visited_98 (fun a30 => ?_)
                obtain ⟨M30, hM30⟩ : ∃ M, M = m00 ((a30 + 1 : Nat) : Int) := ⟨_, rfl⟩
                have hb30 : BLs M30 ln0 := by rw [hM30]; exact m00_bls _ (by omega)
                rw [← hM30]
                obtain ⟨Q30, hQ30⟩ : ∃ Q, Q = ln0 := ⟨_, rfl⟩
                rw [← hQ30] at hb30
                have hl30 : LnOk Q30 := by rw [hQ30]; exact LnOk.z
                have hs30 : Q30.2 = 0 := by rw [hQ30]; rfl
                refine gl_ldcS ok0 hS rfl hg.1 0 (q := litL[0]) rfl dL_visited_101 ?_
                refine gl_callSB ok0 hS [.ref (RAW + la 0)] [(la 0, lv 0, lch [], 0)] lv_L_216 rfl hb30.2.1 (fun x h => Or.inr ⟨_, List.mem_singleton.mp h⟩) (fun x h => by rw [List.mem_singleton.mp h]; exact (show SIN G _ (la 0) (lv 0) (lch []) 0 from hg.1.sin (i := 0) rfl)) (fun G9 hS9 hd9 h9 => c_J4_appendS (s := la 0) (v := lv 0) (t := lch []) (N := 0) ok0.fl trivial hS9 (h9 _ (List.mem_singleton.mpr rfl)) hd9 hb30 (by omega)) rfl (by rw [hR]; exact ⟨by decide, by decide, by simp only [RM]; omega, by simp only [RM]; omega⟩) (Nat.le_of_ble_eq_true rfl) dL_visited_103 (fun M31 hb31 => ?_)
                replace hb31 := hb31.1
                have hl31 := hl30.cat (t := lch []) (N := 0) ((show SIN G [] (la 0) (lv 0) (lch []) 0 from hg.1.sin (i := 0) rfl)).1.2
                obtain ⟨Q31, hQ31⟩ : ∃ Q, Q = catL Q30 (lch []) ((0 : Nat) : Int) := ⟨_, rfl⟩
                rw [show catL Q30 (lch []) ((0 : Nat) : Int) = Q31 from hQ31.symm] at hb31 hl31
                have hs31 : Q31.2 = Q30.2 + 0 := by rw [hQ31]; rfl
                refine ga_bipush ok dL_visited_106 (by decide) ?_
                refine ga_iload ok rfl dL_visited_108 ?_
                refine ga_iadd ok dL_visited_110 ?_
                refine ga_i2c ok dL_visited_111 ?_
                refine gl_callSB ok0 hS [vI ((97 + b) % 65536)] [] lv_L_280 rfl hb31.2.1 (fun x h => Or.inl ⟨_, List.mem_singleton.mp h⟩) (fun x h => absurd h List.not_mem_nil) (fun G9 hS9 hd9 h9 => c_J4_appendC ok0.fl trivial hS9 hb31 (by omega) (by omega)) rfl (by rw [hR]; exact ⟨by decide, by decide, by simp only [RM]; omega, by simp only [RM]; omega⟩) (Nat.le_of_ble_eq_true rfl) dL_visited_112 (fun M32 hb32 => ?_)
                replace hb32 := hb32.1
                have hl32 := hl31.put (c := ((97 + b) % 65536)) (by omega)
                obtain ⟨Q32, hQ32⟩ : ∃ Q, Q = putL Q31 ((97 + b) % 65536) := ⟨_, rfl⟩
                rw [← hQ32] at hb32 hl32
                have hs32 : Q32.2 = Q31.2 + 1 := by rw [hQ32]; rfl
                obtain ⟨N32, hN32⟩ : ∃ N : Nat, Q32.2 = N := ⟨Q32.2.toNat, by have := hl32.1; omega⟩
                refine gl_takeSB ok0 hS hb32 hN32 (by omega) lv_L_222 (by rw [hR]; exact ⟨by decide, by decide, by simp only [RM]; omega, by simp only [RM]; omega⟩) (Nat.le_of_ble_eq_true rfl) dL_visited_115 (fun s32 v32 t32 ht32 => ?_)
                have hT32 := hl32.sin hN32 (by omega) ht32
                refine ga_goto ok 123 (by decide) dL_visited_118 ?_
                refine WA.comm ?_
                refine gl_callSB ok0 hS [.ref (RAW + s32)] [(s32, v32, t32, N32)] lv_L_216 rfl hb21.2.1 (fun x h => Or.inr ⟨_, List.mem_singleton.mp h⟩) (fun x h => by rw [List.mem_singleton.mp h]; exact (show SIN G (STX G s32 v32 t32 N32 ++ (As ++ Xs)) s32 v32 t32 N32 from ⟨hT32, Or.inl (fun x h => List.mem_append_left _ h)⟩)) (fun G9 hS9 hd9 h9 => c_J4_appendS (s := s32) (v := v32) (t := t32) (N := N32) ok0.fl trivial hS9 (h9 _ (List.mem_singleton.mpr rfl)) hd9 hb21 (by omega)) rfl (by rw [hR]; exact ⟨by decide, by decide, by simp only [RM]; omega, by simp only [RM]; omega⟩) (Nat.le_of_ble_eq_true rfl) dL_visited_123 (fun M22 hb22 => ?_)
                replace hb22 := hb22.1
                have hl22 := hl21.cat (t := t32) (N := N32) ((show SIN G (STX G s32 v32 t32 N32 ++ (As ++ Xs)) s32 v32 t32 N32 from ⟨hT32, Or.inl (fun x h => List.mem_append_left _ h)⟩)).1.2
                obtain ⟨Q22, hQ22⟩ : ∃ Q, Q = catL Q21 (t32) ((N32 : Nat) : Int) := ⟨_, rfl⟩
                rw [show catL Q21 (t32) ((N32 : Nat) : Int) = Q22 from hQ22.symm] at hb22 hl22
                have hs22 : Q22.2 = Q21.2 + N32 := by rw [hQ22]; rfl
                obtain ⟨N22, hN22⟩ : ∃ N : Nat, Q22.2 = N := ⟨Q22.2.toNat, by have := hl22.1; omega⟩
                refine gl_takeSB ok0 hS hb22 hN22 (by omega) lv_L_222 (by rw [hR]; exact ⟨by decide, by decide, by simp only [RM]; omega, by simp only [RM]; omega⟩) (Nat.le_of_ble_eq_true rfl) dL_visited_126 (fun s22 v22 t22 ht22 => ?_)
                have hT22 := hl22.sin hN22 (by omega) ht22
                have hbit : x / 2 ^ b.toNat % 2 ^ 1 = 1 := by
                  have h9 : b < 0 ∨ x / 2 ^ b.toNat % 2 ^ 1 = 1 := of_decide_eq_true (b2i_n0.mp c_91)
                  exact h9.resolve_left (by omega)
                have hE2 : EqL (t22, (N22 : Int)) (vLn x F (b + 1).toNat) := by
                  have e := take_eq hN22 ht22
                  have e3 := take_eq hN32 ht32
                  rw [hQ32, hQ31, hQ30] at e3
                  rw [hQ22, hQ21, hQ20] at e
                  rw [show (b + 1).toNat = b.toNat + 1 by omega, vLn_t hbit, show 97 + ((b.toNat : Nat) : Int) = (97 + b) % 65536 by omega]
                  exact e.tr (txt_stepC hE (by have := (vLn_2 x F b.toNat).1; omega) e3)
                refine WA.mid ?_
                refine WA.mid ?_
                have hsn : SIN G (STX G s22 v22 t22 N22 ++ Xs) s22 v22 t22 N22 := ⟨hT22, Or.inl (fun x h => List.mem_append_left _ h)⟩
                refine ga_astore ok hn7 dL_visited_129 ?_
                refine ga_iinc ok rfl hn8 dL_visited_131 ?_
                refine ga_goto ok 65 (by decide) dL_visited_134 ?_
                refine WA.wd (k2 := 900 * v.toNat + 20 + 40 * (b + 1).toNat) (n2 := 45000 * v.toNat + 100 + 2500 * (b + 1).toNat) (by first | omega | (simp only [RM]; omega)) (by first | omega | (simp only [RM]; omega)) ?_
                exact WA.re (by exact ⟨rfl, rfl, rfl, rfl, rfl, rfl, rfl, rfl, rfl, trivial⟩) (loopT _ (by trivial) (by omega) (b + 1) (STX G s22 v22 t22 N22) s22 v22 N22 t22 rfl ⟨by omega, hsn, hE2⟩)
          refine WA.wd (k2 := 900 * v.toNat + 20 + 40 * (0 : Int).toNat) (n2 := 45000 * v.toNat + 100 + 2500 * (0 : Int).toNat) (by first | omega | (simp only [RM]; omega)) (by first | omega | (simp only [RM]; omega)) ?_
          exact WA.re (by exact ⟨rfl, rfl, rfl, (by rw [hF9]; rfl), rfl, rfl, rfl, rfl, rfl, trivial⟩) (loopT _ (by trivial) 0 [] (la 3) (lv 3) 1 (lch [45]) rfl ⟨by omega, hg.1.sin (i := 3) rfl, by rw [hF9]; exact lit_p⟩)
        · exact absurd rfl c_48
      · refine ga_iconst ok dL_visited_39 ?_
        refine ga_goto ok 44 (by decide) dL_visited_40 ?_
        refine ga_istore ok hn6 dL_visited_44 ?_
        refine ga_iload ok rfl dL_visited_46 ?_
        refine ga_if_eq ok 57 (by decide) (by omega) dL_visited_48 (fun c_48 => ?_) (fun c_48 => ?_)
        · exact absurd c_48 (by decide)
        · refine gl_ldcSW ok0 hS rfl hg.1 2 (q := litL[2]) rfl dL_visited_51 ?_
          refine ga_goto ok 60 (by decide) dL_visited_54 ?_
          refine ga_astore ok hn7 dL_visited_60 ?_
          refine ga_iconst ok dL_visited_62 ?_
          refine ga_istore ok hn8 dL_visited_63 ?_
          have hF9 : F = 1 := by omega
          have loopT : ∀ (n : Nat), True → ∀ (b : Int) (As : XS) (s v9 N : Nat) (t : Nat → Int), (10 - b).toNat = n → ((0 ≤ b ∧ b ≤ 10) ∧ SIN G (As ++ Xs) s v9 t N ∧ EqL (t, (N : Int)) (vLn x F b.toNat)) → WA (GX G (As ++ Xs)) E (900 * v.toNat + 20 + 40 * b.toNat) (45000 * v.toNat + 100 + 2500 * b.toNat) 65 [(8, vI b), (7, .ref (RAW + s)), (5, vI x), (6, vI F), (0, .ref 0), (1, vI (g.r 1)), (2, vI fr), (3, vI al), (4, vI v)] [] m1 := by
            refine wl1 _ (fun n => n) _ ?_
            intro n _ loopT b As s v9 N t hn9 hb9
            subst hn9
            obtain ⟨hb, hsin, hE⟩ := hb9
            refine ga_iload ok rfl dL_visited_65 ?_
            refine ga_bipush ok dL_visited_67 (by decide) ?_
            refine ga_icmp_ge ok 137 (by decide) (by omega) (by omega) dL_visited_69 (fun c_69 => ?_) (fun c_69 => ?_)
            · clear loopT
              rw [show b.toNat = 10 by omega] at hE
              have hNb := vLn_2 x F 10
              have hNe : (N : Int) = (vLn x F 10).2 := hE.1
              refine ga_iconst ok dL_visited_137 ?_
              refine ga_istore ok hn8 dL_visited_138 ?_
              refine ga_iconst ok dL_visited_140 ?_
              refine ga_istore ok hn9 dL_visited_141 ?_
              have loopU : ∀ (u mi : Int), ((0 ≤ u ∧ u ≤ g.r 0) ∧ mi = zs (fun g2 => b2i (erB g.r g2 v.toNat)) u.toNat) → WA (GX G (As ++ Xs)) E (900 * v.toNat + 600 + 4 * u.toNat) (45000 * v.toNat + 30000 + 20 * u.toNat) 143 [(9, vI u), (8, vI mi), (7, .ref (RAW + s)), (5, vI x), (6, vI F), (0, .ref 0), (1, vI (g.r 1)), (2, vI fr), (3, vI al), (4, vI v)] [] m1 := by
                refine wl2 _ (fun u _ => (g.r 0 - u).toNat) _ ?_
                intro u mi hu9 loopU
                obtain ⟨hu, hmi⟩ := hu9
                refine ga_iload ok rfl dL_visited_143 ?_
                refine ga_aload_n ok 0 rfl rfl dL_visited_145 ?_
                refine ga_iconst ok dL_visited_146 ?_
                refine gl_callV ok0 hG hS [vI 0] lk_L_168 rfl hX1.h40 (fun G9 hG9 hS9 => (c_X3_account ok0.fl hG9 hX1.I hX1.O (what := 0) (by omega)).nox (fun _ _ h => by have := h.1.2; omega)) rfl (by rw [hR]; exact ⟨by decide, by decide, by simp only [RM]; omega, by simp only [RM]; omega⟩) (Nat.le_of_ble_eq_true rfl) dL_visited_147 (fun r9 m1 hq9 => ?_)
                obtain ⟨-, rfl, hm9⟩ := hq9
                subst m1
                simp only [Option.toList_some, List.singleton_append]
                rw [if_pos trivial, er]
                refine ga_icmp_ge ok 190 (by decide) (by omega) (by omega) dL_visited_150 (fun c_150 => ?_) (fun c_150 => ?_)
                · clear loopU
                  have hmib : 0 ≤ mi ∧ mi ≤ 4 := by
                    have h1 := zs_bd1 (f := fun g2 => erB g.r g2 v.toNat) u.toNat
                    rw [hmi]
                    omega
                  refine ga_aload_n ok 0 rfl rfl dL_visited_190 ?_
                  refine ga_iload ok rfl dL_visited_191 ?_
                  refine gl_callT ok0 hG hS [.ref 0, vI v] lw_L_283 hX1.h40 (fun G9 hG9 hS9 => w_line ok0.fl hG9 hS9 hX1 (by omega) (by omega)) rfl (by rw [hR]; exact ⟨by decide, by decide, by simp only [RM]; omega, by simp only [RM]; omega⟩) (Nat.le_of_ble_eq_true rfl) dL_visited_193 (fun r9 m2 hq9 => ?_)
                  obtain ⟨rfl, hX2⟩ := hq9.1 (by rw [er]; exact hv1)
                  simp only [Option.toList_some, List.singleton_append]
                  rw [er, ← hxe, ← hFe] at hX2 ⊢
                  obtain ⟨g2, hg2⟩ : ∃ g2, g2 = lnG g1 (vLn x F 10) := ⟨_, rfl⟩
                  rw [← hg2] at hX2
                  have er2 : g2.r = g.r := by rw [hg2]; exact er
                  have et2 : g2.tn = g.tn := by rw [hg2]; exact et
                  have hln2 : g2.ln = (vLn x F 10).1 := by rw [hg2]; rfl
                  have hnn2 : g2.nn = (vLn x F 10).2 := by rw [hg2]; rfl
                  have hNe : (N : Int) = (vLn x F 10).2 := hE.1
                  have hsz := vLn_sz (x := x) (f := F) 10
                  have hszb := szO_bd x
                  refine ga_aload ok rfl dL_visited_196 ?_
                  refine gl_callStr ok0 hS hX2.h40 hsin [] lv_L_127 rfl (fun _ h => absurd h List.not_mem_nil) (fun G9 hS9 h9 => c_J0_length ok0.fl trivial hS9 h9) rfl (by rw [hR]; exact ⟨by decide, by decide, by simp only [RM]; omega, by simp only [RM]; omega⟩) (Nat.le_of_ble_eq_true rfl) dL_visited_198 ?_
                  refine ga_icmp_ne ok 272 (by decide) (by omega) (by omega) dL_visited_201 (fun c_201 => ?_) (fun c_201 => ?_)
                  · exact absurd (by omega) c_201
                  · refine ga_aload_n ok 0 rfl rfl dL_visited_204 ?_
                    refine ga_iload ok rfl dL_visited_205 ?_
                    refine ga_iconst ok dL_visited_207 ?_
                    refine gl_callT ok0 hG hS [.ref 0, vI v, vI 2] lw_L_252 hX2.h40 (fun G9 hG9 hS9 => w_visitorOf ok0.fl hG9 hS9 hX2 (by omega) (by omega) (by omega)) rfl (by rw [hR]; exact ⟨by decide, by decide, by simp only [RM]; omega, by simp only [RM]; omega⟩) (Nat.le_of_ble_eq_true rfl) dL_visited_208 (fun r9 m1 hq9 => ?_)
                    obtain ⟨rfl, hm9⟩ := hq9
                    subst m1
                    simp only [Option.toList_some, List.singleton_append]
                    rw [er2, show q_visitorOf g.r v 2 = szO x 10 from by unfold q_visitorOf; rw [if_pos hv1, if_pos (by omega), hxe]; rfl]
                    refine ga_aload ok rfl dL_visited_211 ?_
                    refine gl_callStr ok0 hS hX2.h40 hsin [] lv_L_127 rfl (fun _ h => absurd h List.not_mem_nil) (fun G9 hS9 h9 => c_J0_length ok0.fl trivial hS9 h9) rfl (by rw [hR]; exact ⟨by decide, by decide, by simp only [RM]; omega, by simp only [RM]; omega⟩) (Nat.le_of_ble_eq_true rfl) dL_visited_213 ?_
                    refine ga_iconst ok dL_visited_216 ?_
                    refine ga_isub ok dL_visited_217 ?_
                    refine ga_icmp_ne ok 272 (by decide) (by omega) (by omega) dL_visited_218 (fun c_218 => ?_) (fun c_218 => ?_)
                    · exact absurd (by omega) c_218
                    · refine ga_aload_n ok 0 rfl rfl dL_visited_221 ?_
                      refine ga_iload ok rfl dL_visited_222 ?_
                      refine ga_iconst ok dL_visited_224 ?_
                      refine gl_callT ok0 hG hS [.ref 0, vI v, vI 3] lw_L_252 hX2.h40 (fun G9 hG9 hS9 => w_visitorOf ok0.fl hG9 hS9 hX2 (by omega) (by omega) (by omega)) rfl (by rw [hR]; exact ⟨by decide, by decide, by simp only [RM]; omega, by simp only [RM]; omega⟩) (Nat.le_of_ble_eq_true rfl) dL_visited_225 (fun r9 m1 hq9 => ?_)
                      obtain ⟨rfl, hm9⟩ := hq9
                      subst m1
                      simp only [Option.toList_some, List.singleton_append]
                      rw [er2, show q_visitorOf g.r v 3 = mi from by unfold q_visitorOf; rw [if_pos hv1, if_pos (by omega), hmi, show u = g.r 0 by omega]; rfl]
                      refine ga_iload ok rfl dL_visited_228 ?_
                      refine ga_icmp_ne ok 272 (by decide) (by omega) (by omega) dL_visited_230 (fun c_230 => ?_) (fun c_230 => ?_)
                      · exact absurd (by omega) c_230
                      · refine ga_aload_n ok 0 rfl rfl dL_visited_233 ?_
                        refine ga_iload ok rfl dL_visited_234 ?_
                        refine ga_iconst ok dL_visited_236 ?_
                        refine gl_callT ok0 hG hS [.ref 0, vI v, vI 4] lw_L_252 hX2.h40 (fun G9 hG9 hS9 => w_visitorOf ok0.fl hG9 hS9 hX2 (by omega) (by omega) (by omega)) rfl (by rw [hR]; exact ⟨by decide, by decide, by simp only [RM]; omega, by simp only [RM]; omega⟩) (Nat.le_of_ble_eq_true rfl) dL_visited_237 (fun r9 m1 hq9 => ?_)
                        obtain ⟨rfl, hm9⟩ := hq9
                        subst m1
                        simp only [Option.toList_some, List.singleton_append]
                        rw [er2, show q_visitorOf g.r v 4 = plc g.r v.toNat from by unfold q_visitorOf; rw [if_pos hv1, if_pos (by omega)]; rfl]
                        have hpb : 0 ≤ plc g.r v.toNat ∧ plc g.r v.toNat ≤ 12 := by
                          have h1 := zs_bd1 (f := fun u => decide (vF g.r u = vF g.r v.toNat)) v.toNat
                          have e9 : plc g.r v.toNat = zs (fun u => b2i (decide (vF g.r u = vF g.r v.toNat))) v.toNat := rfl
                          omega
                        refine ga_iload ok rfl dL_visited_240 ?_
                        refine ga_if_eq ok 249 (by decide) (by omega) dL_visited_242 (fun c_242 => ?_) (fun c_242 => ?_)
                        · refine ga_iload ok rfl dL_visited_249 ?_
                          refine ga_iload_n ok 2 rfl rfl dL_visited_251 ?_
                          refine ga_isub ok dL_visited_252 ?_
                          refine ga_icmp_ne ok 272 (by decide) (by omega) (by omega) dL_visited_253 (fun c_253 => ?_) (fun c_253 => ?_)
                          · have hpl : plc g.r v.toNat = v - fr := by
                              have h9 := zs_01 (r := g.r) v.toNat (fun u hu => (hX.O.2.2.1 u (by omega)).2)
                              unfold plc
                              rw [show vF g.r v.toNat = 0 by omega, h9, hfr]
                              omega
                            exact absurd (by omega) c_253
                          · refine ga_aload_n ok 0 rfl rfl dL_visited_256 ?_
                            refine ga_iload ok rfl dL_visited_257 ?_
                            refine ga_iconst ok dL_visited_259 ?_
                            refine gl_callT ok0 hG hS [.ref 0, vI v, vI 5] lw_L_252 hX2.h40 (fun G9 hG9 hS9 => w_visitorOf ok0.fl hG9 hS9 hX2 (by omega) (by omega) (by omega)) rfl (by rw [hR]; exact ⟨by decide, by decide, by simp only [RM]; omega, by simp only [RM]; omega⟩) (Nat.le_of_ble_eq_true rfl) dL_visited_260 (fun r9 m1 hq9 => ?_)
                            obtain ⟨rfl, hm9⟩ := hq9
                            subst m1
                            simp only [Option.toList_some, List.singleton_append]
                            rw [er2, show q_visitorOf g.r v 5 = -12 from by unfold q_visitorOf; rw [if_pos hv1]; exact if_neg (by omega)]
                            refine ga_bipush ok dL_visited_263 (by decide) ?_
                            refine ga_icmp_ne ok 272 (by decide) (by omega) (by omega) dL_visited_265 (fun c_265 => ?_) (fun c_265 => ?_)
                            · exact absurd (by omega) c_265
                            · refine ga_iconst ok dL_visited_268 ?_
                              refine ga_goto ok 273 (by decide) dL_visited_269 ?_
                              refine ga_istore ok hn9 dL_visited_273 ?_
                              refine ga_iconst ok dL_visited_275 ?_
                              refine ga_istore ok hn10 dL_visited_276 ?_
                              have loopC : ∀ (k : Int), (0 ≤ k ∧ k ≤ N) → WA (GX G (As ++ Xs)) E (900 * v.toNat + 700 + 2 * k.toNat) (45000 * v.toNat + 40000 + 8 * k.toNat) 278 [(10, vI k), (9, vI 1), (7, .ref (RAW + s)), (5, vI x), (6, vI F), (0, .ref 0), (1, vI (g.r 1)), (2, vI fr), (3, vI al), (4, vI v)] [] m2 := by
                                refine wl1 _ (fun k => ((N : Int) - k).toNat) _ ?_
                                intro k hk loopC
                                refine ga_iload ok rfl dL_visited_278 ?_
                                refine ga_aload ok rfl dL_visited_280 ?_
                                refine gl_callStr ok0 hS hX2.h40 hsin [] lv_L_127 rfl (fun _ h => absurd h List.not_mem_nil) (fun G9 hS9 h9 => c_J0_length ok0.fl trivial hS9 h9) rfl (by rw [hR]; exact ⟨by decide, by decide, by simp only [RM]; omega, by simp only [RM]; omega⟩) (Nat.le_of_ble_eq_true rfl) dL_visited_282 ?_
                                refine ga_icmp_ge ok 322 (by decide) (by omega) (by omega) dL_visited_285 (fun c_285 => ?_) (fun c_285 => ?_)
                                · clear loopC
                                  refine ga_iload ok rfl dL_visited_322 ?_
                                  refine ga_if_ne ok 329 (by decide) (by omega) dL_visited_324 (fun c_324 => ?_) (fun c_324 => ?_)
                                  · refine ga_iload_n ok 2 rfl rfl dL_visited_329 ?_
                                    refine ga_iload ok rfl dL_visited_330 ?_
                                    refine ga_if_eq ok 339 (by decide) (by omega) dL_visited_332 (fun c_332 => ?_) (fun c_332 => ?_)
                                    · refine ga_iconst ok dL_visited_339 ?_
                                      refine ga_iadd ok dL_visited_340 ?_
                                      refine ga_istore_n ok 2 rfl hn2 dL_visited_341 ?_
                                      refine ga_iload_n ok 3 rfl rfl dL_visited_342 ?_
                                      refine ga_aload ok rfl dL_visited_343 ?_
                                      refine gl_callStr ok0 hS hX2.h40 hsin [] lv_L_127 rfl (fun _ h => absurd h List.not_mem_nil) (fun G9 hS9 h9 => c_J0_length ok0.fl trivial hS9 h9) rfl (by rw [hR]; exact ⟨by decide, by decide, by simp only [RM]; omega, by simp only [RM]; omega⟩) (Nat.le_of_ble_eq_true rfl) dL_visited_345 ?_
                                      refine ga_iconst ok dL_visited_348 ?_
                                      refine ga_isub ok dL_visited_349 ?_
                                      refine ga_iadd ok dL_visited_350 ?_
                                      refine ga_istore_n ok 3 rfl hn3 dL_visited_351 ?_
                                      refine ga_iinc ok rfl hn4 dL_visited_352 ?_
                                      refine ga_goto ok 13 (by decide) dL_visited_355 ?_
                                      refine WA.drop ?_
                                      have hz : b2i (decide (vF g.r v.toNat = 1)) = 0 := b2i_0.mpr (decide_eq_false (by rw [← hFe]; omega))
                                      refine WA.wd (k2 := 1 + 900 * (v + 1).toNat) (n2 := 6 + 45000 * (v + 1).toNat) (by first | omega | (simp only [RM]; omega)) (by first | omega | (simp only [RM]; omega)) ?_
                                      exact WA.re (by exact ⟨rfl, rfl, rfl, rfl, rfl, trivial⟩) (ih _ (by trivial) (by omega) (v + 1) _ _ m2 g2 rfl ⟨by omega, by rw [zs_n (f := fun u => b2i (decide (vF g.r u = 1))) hv1.1, hz, hfr], by rw [zs_n (f := fun u => szO (vX g.r u) 10) hv1.1, hal, ← hxe]; omega, hX2, er2, et2⟩)
                                    · refine ga_iconst ok dL_visited_335 ?_
                                      refine ga_goto ok 340 (by decide) dL_visited_336 ?_
                                      refine ga_iadd ok dL_visited_340 ?_
                                      refine ga_istore_n ok 2 rfl hn2 dL_visited_341 ?_
                                      refine ga_iload_n ok 3 rfl rfl dL_visited_342 ?_
                                      refine ga_aload ok rfl dL_visited_343 ?_
                                      refine gl_callStr ok0 hS hX2.h40 hsin [] lv_L_127 rfl (fun _ h => absurd h List.not_mem_nil) (fun G9 hS9 h9 => c_J0_length ok0.fl trivial hS9 h9) rfl (by rw [hR]; exact ⟨by decide, by decide, by simp only [RM]; omega, by simp only [RM]; omega⟩) (Nat.le_of_ble_eq_true rfl) dL_visited_345 ?_
                                      refine ga_iconst ok dL_visited_348 ?_
                                      refine ga_isub ok dL_visited_349 ?_
                                      refine ga_iadd ok dL_visited_350 ?_
                                      refine ga_istore_n ok 3 rfl hn3 dL_visited_351 ?_
                                      refine ga_iinc ok rfl hn4 dL_visited_352 ?_
                                      refine ga_goto ok 13 (by decide) dL_visited_355 ?_
                                      refine WA.drop ?_
                                      have hz : b2i (decide (vF g.r v.toNat = 1)) = 1 := b2i_1.mpr (decide_eq_true (by rw [← hFe]; omega))
                                      refine WA.wd (k2 := 1 + 900 * (v + 1).toNat) (n2 := 6 + 45000 * (v + 1).toNat) (by first | omega | (simp only [RM]; omega)) (by first | omega | (simp only [RM]; omega)) ?_
                                      exact WA.re (by exact ⟨rfl, rfl, rfl, rfl, rfl, trivial⟩) (ih _ (by trivial) (by omega) (v + 1) _ _ m2 g2 rfl ⟨by omega, by rw [zs_n (f := fun u => b2i (decide (vF g.r u = 1))) hv1.1, hz, hfr], by rw [zs_n (f := fun u => szO (vX g.r u) 10) hv1.1, hal, ← hxe]; omega, hX2, er2, et2⟩)
                                  · exact absurd c_324 (by decide)
                                · have c_285 : k < (N : Int) := by omega
                                  refine ga_iload ok rfl dL_visited_288 ?_
                                  refine ga_if_eq ok 322 (by decide) (by omega) dL_visited_290 (fun c_290 => ?_) (fun c_290 => ?_)
                                  · exact absurd c_290 (by decide)
                                  · refine ga_aload_n ok 0 rfl rfl dL_visited_293 ?_
                                    refine ga_iload ok rfl dL_visited_294 ?_
                                    refine gl_callT ok0 hG hS [.ref 0, vI k] lw_L_232 hX2.h40 (fun G9 hG9 hS9 => w_character ok0.fl hG9 hS9 hX2 (by omega) (by omega)) rfl (by rw [hR]; exact ⟨by decide, by decide, by simp only [RM]; omega, by simp only [RM]; omega⟩) (Nat.le_of_ble_eq_true rfl) dL_visited_296 (fun r9 m1 hq9 => ?_)
                                    obtain ⟨rfl, hm9⟩ := hq9
                                    subst m1
                                    simp only [Option.toList_some, List.singleton_append]
                                    rw [show q_character g2 k = t k.toNat from by unfold q_character; rw [if_pos (by rw [hnn2]; omega), hln2, ← hE.2 k.toNat (by omega)]]
                                    refine ga_aload ok rfl dL_visited_299 ?_
                                    refine ga_iload ok rfl dL_visited_301 ?_
                                    refine gl_callStr ok0 hS hX2.h40 hsin [vI k] lv_L_132 rfl (fun x h => Or.inl ⟨_, List.mem_singleton.mp h⟩) (fun G9 hS9 h9 => c_J0_charAt ok0.fl trivial hS9 h9 ⟨hk.1, c_285⟩) rfl (by rw [hR]; exact ⟨by decide, by decide, by simp only [RM]; omega, by simp only [RM]; omega⟩) (Nat.le_of_ble_eq_true rfl) dL_visited_303 ?_
                                    have hti := hsin.1.2 k.toNat (by omega)
                                    refine ga_icmp_ne ok 313 (by decide) (by omega) (by omega) dL_visited_306 (fun c_306 => ?_) (fun c_306 => ?_)
                                    · exact absurd rfl c_306
                                    · refine ga_iconst ok dL_visited_309 ?_
                                      refine ga_goto ok 314 (by decide) dL_visited_310 ?_
                                      refine ga_istore ok hn9 dL_visited_314 ?_
                                      refine ga_iinc ok rfl hn10 dL_visited_316 ?_
                                      refine ga_goto ok 278 (by decide) dL_visited_319 ?_
                                      refine WA.wd (k2 := 900 * v.toNat + 700 + 2 * (k + 1).toNat) (n2 := 45000 * v.toNat + 40000 + 8 * (k + 1).toNat) (by first | omega | (simp only [RM]; omega)) (by first | omega | (simp only [RM]; omega)) ?_
                                      exact WA.re (by exact ⟨rfl, rfl, rfl, rfl, rfl, rfl, rfl, rfl, rfl, rfl, trivial⟩) (loopC (k + 1) (by omega) (by omega))
                              refine WA.wd (k2 := 900 * v.toNat + 700 + 2 * (0 : Int).toNat) (n2 := 45000 * v.toNat + 40000 + 8 * (0 : Int).toNat) (by first | omega | (simp only [RM]; omega)) (by first | omega | (simp only [RM]; omega)) ?_
                              exact WA.re (by exact ⟨rfl, rfl, rfl, rfl, rfl, rfl, rfl, rfl, rfl, rfl, trivial⟩) (loopC 0 (by omega))
                        · refine ga_iload_n ok 2 rfl rfl dL_visited_245 ?_
                          refine ga_goto ok 253 (by decide) dL_visited_246 ?_
                          refine ga_icmp_ne ok 272 (by decide) (by omega) (by omega) dL_visited_253 (fun c_253 => ?_) (fun c_253 => ?_)
                          · have hpl : plc g.r v.toNat = fr := by rw [plc_1 (by omega), hfr]
                            exact absurd (by omega) c_253
                          · refine ga_aload_n ok 0 rfl rfl dL_visited_256 ?_
                            refine ga_iload ok rfl dL_visited_257 ?_
                            refine ga_iconst ok dL_visited_259 ?_
                            refine gl_callT ok0 hG hS [.ref 0, vI v, vI 5] lw_L_252 hX2.h40 (fun G9 hG9 hS9 => w_visitorOf ok0.fl hG9 hS9 hX2 (by omega) (by omega) (by omega)) rfl (by rw [hR]; exact ⟨by decide, by decide, by simp only [RM]; omega, by simp only [RM]; omega⟩) (Nat.le_of_ble_eq_true rfl) dL_visited_260 (fun r9 m1 hq9 => ?_)
                            obtain ⟨rfl, hm9⟩ := hq9
                            subst m1
                            simp only [Option.toList_some, List.singleton_append]
                            rw [er2, show q_visitorOf g.r v 5 = -12 from by unfold q_visitorOf; rw [if_pos hv1]; exact if_neg (by omega)]
                            refine ga_bipush ok dL_visited_263 (by decide) ?_
                            refine ga_icmp_ne ok 272 (by decide) (by omega) (by omega) dL_visited_265 (fun c_265 => ?_) (fun c_265 => ?_)
                            · exact absurd (by omega) c_265
                            · refine ga_iconst ok dL_visited_268 ?_
                              refine ga_goto ok 273 (by decide) dL_visited_269 ?_
                              refine ga_istore ok hn9 dL_visited_273 ?_
                              refine ga_iconst ok dL_visited_275 ?_
                              refine ga_istore ok hn10 dL_visited_276 ?_
                              have loopC : ∀ (k : Int), (0 ≤ k ∧ k ≤ N) → WA (GX G (As ++ Xs)) E (900 * v.toNat + 700 + 2 * k.toNat) (45000 * v.toNat + 40000 + 8 * k.toNat) 278 [(10, vI k), (9, vI 1), (7, .ref (RAW + s)), (5, vI x), (6, vI F), (0, .ref 0), (1, vI (g.r 1)), (2, vI fr), (3, vI al), (4, vI v)] [] m2 := by
                                refine wl1 _ (fun k => ((N : Int) - k).toNat) _ ?_
                                intro k hk loopC
                                refine ga_iload ok rfl dL_visited_278 ?_
                                refine ga_aload ok rfl dL_visited_280 ?_
                                refine gl_callStr ok0 hS hX2.h40 hsin [] lv_L_127 rfl (fun _ h => absurd h List.not_mem_nil) (fun G9 hS9 h9 => c_J0_length ok0.fl trivial hS9 h9) rfl (by rw [hR]; exact ⟨by decide, by decide, by simp only [RM]; omega, by simp only [RM]; omega⟩) (Nat.le_of_ble_eq_true rfl) dL_visited_282 ?_
                                refine ga_icmp_ge ok 322 (by decide) (by omega) (by omega) dL_visited_285 (fun c_285 => ?_) (fun c_285 => ?_)
                                · clear loopC
                                  refine ga_iload ok rfl dL_visited_322 ?_
                                  refine ga_if_ne ok 329 (by decide) (by omega) dL_visited_324 (fun c_324 => ?_) (fun c_324 => ?_)
                                  · refine ga_iload_n ok 2 rfl rfl dL_visited_329 ?_
                                    refine ga_iload ok rfl dL_visited_330 ?_
                                    refine ga_if_eq ok 339 (by decide) (by omega) dL_visited_332 (fun c_332 => ?_) (fun c_332 => ?_)
                                    · refine ga_iconst ok dL_visited_339 ?_
                                      refine ga_iadd ok dL_visited_340 ?_
                                      refine ga_istore_n ok 2 rfl hn2 dL_visited_341 ?_
                                      refine ga_iload_n ok 3 rfl rfl dL_visited_342 ?_
                                      refine ga_aload ok rfl dL_visited_343 ?_
                                      refine gl_callStr ok0 hS hX2.h40 hsin [] lv_L_127 rfl (fun _ h => absurd h List.not_mem_nil) (fun G9 hS9 h9 => c_J0_length ok0.fl trivial hS9 h9) rfl (by rw [hR]; exact ⟨by decide, by decide, by simp only [RM]; omega, by simp only [RM]; omega⟩) (Nat.le_of_ble_eq_true rfl) dL_visited_345 ?_
                                      refine ga_iconst ok dL_visited_348 ?_
                                      refine ga_isub ok dL_visited_349 ?_
                                      refine ga_iadd ok dL_visited_350 ?_
                                      refine ga_istore_n ok 3 rfl hn3 dL_visited_351 ?_
                                      refine ga_iinc ok rfl hn4 dL_visited_352 ?_
                                      refine ga_goto ok 13 (by decide) dL_visited_355 ?_
                                      refine WA.drop ?_
                                      have hz : b2i (decide (vF g.r v.toNat = 1)) = 0 := b2i_0.mpr (decide_eq_false (by rw [← hFe]; omega))
                                      refine WA.wd (k2 := 1 + 900 * (v + 1).toNat) (n2 := 6 + 45000 * (v + 1).toNat) (by first | omega | (simp only [RM]; omega)) (by first | omega | (simp only [RM]; omega)) ?_
                                      exact WA.re (by exact ⟨rfl, rfl, rfl, rfl, rfl, trivial⟩) (ih _ (by trivial) (by omega) (v + 1) _ _ m2 g2 rfl ⟨by omega, by rw [zs_n (f := fun u => b2i (decide (vF g.r u = 1))) hv1.1, hz, hfr], by rw [zs_n (f := fun u => szO (vX g.r u) 10) hv1.1, hal, ← hxe]; omega, hX2, er2, et2⟩)
                                    · refine ga_iconst ok dL_visited_335 ?_
                                      refine ga_goto ok 340 (by decide) dL_visited_336 ?_
                                      refine ga_iadd ok dL_visited_340 ?_
                                      refine ga_istore_n ok 2 rfl hn2 dL_visited_341 ?_
                                      refine ga_iload_n ok 3 rfl rfl dL_visited_342 ?_
                                      refine ga_aload ok rfl dL_visited_343 ?_
                                      refine gl_callStr ok0 hS hX2.h40 hsin [] lv_L_127 rfl (fun _ h => absurd h List.not_mem_nil) (fun G9 hS9 h9 => c_J0_length ok0.fl trivial hS9 h9) rfl (by rw [hR]; exact ⟨by decide, by decide, by simp only [RM]; omega, by simp only [RM]; omega⟩) (Nat.le_of_ble_eq_true rfl) dL_visited_345 ?_
                                      refine ga_iconst ok dL_visited_348 ?_
                                      refine ga_isub ok dL_visited_349 ?_
                                      refine ga_iadd ok dL_visited_350 ?_
                                      refine ga_istore_n ok 3 rfl hn3 dL_visited_351 ?_
                                      refine ga_iinc ok rfl hn4 dL_visited_352 ?_
                                      refine ga_goto ok 13 (by decide) dL_visited_355 ?_
                                      refine WA.drop ?_
                                      have hz : b2i (decide (vF g.r v.toNat = 1)) = 1 := b2i_1.mpr (decide_eq_true (by rw [← hFe]; omega))
                                      refine WA.wd (k2 := 1 + 900 * (v + 1).toNat) (n2 := 6 + 45000 * (v + 1).toNat) (by first | omega | (simp only [RM]; omega)) (by first | omega | (simp only [RM]; omega)) ?_
                                      exact WA.re (by exact ⟨rfl, rfl, rfl, rfl, rfl, trivial⟩) (ih _ (by trivial) (by omega) (v + 1) _ _ m2 g2 rfl ⟨by omega, by rw [zs_n (f := fun u => b2i (decide (vF g.r u = 1))) hv1.1, hz, hfr], by rw [zs_n (f := fun u => szO (vX g.r u) 10) hv1.1, hal, ← hxe]; omega, hX2, er2, et2⟩)
                                  · exact absurd c_324 (by decide)
                                · have c_285 : k < (N : Int) := by omega
                                  refine ga_iload ok rfl dL_visited_288 ?_
                                  refine ga_if_eq ok 322 (by decide) (by omega) dL_visited_290 (fun c_290 => ?_) (fun c_290 => ?_)
                                  · exact absurd c_290 (by decide)
                                  · refine ga_aload_n ok 0 rfl rfl dL_visited_293 ?_
                                    refine ga_iload ok rfl dL_visited_294 ?_
                                    refine gl_callT ok0 hG hS [.ref 0, vI k] lw_L_232 hX2.h40 (fun G9 hG9 hS9 => w_character ok0.fl hG9 hS9 hX2 (by omega) (by omega)) rfl (by rw [hR]; exact ⟨by decide, by decide, by simp only [RM]; omega, by simp only [RM]; omega⟩) (Nat.le_of_ble_eq_true rfl) dL_visited_296 (fun r9 m1 hq9 => ?_)
                                    obtain ⟨rfl, hm9⟩ := hq9
                                    subst m1
                                    simp only [Option.toList_some, List.singleton_append]
                                    rw [show q_character g2 k = t k.toNat from by unfold q_character; rw [if_pos (by rw [hnn2]; omega), hln2, ← hE.2 k.toNat (by omega)]]
                                    refine ga_aload ok rfl dL_visited_299 ?_
                                    refine ga_iload ok rfl dL_visited_301 ?_
                                    refine gl_callStr ok0 hS hX2.h40 hsin [vI k] lv_L_132 rfl (fun x h => Or.inl ⟨_, List.mem_singleton.mp h⟩) (fun G9 hS9 h9 => c_J0_charAt ok0.fl trivial hS9 h9 ⟨hk.1, c_285⟩) rfl (by rw [hR]; exact ⟨by decide, by decide, by simp only [RM]; omega, by simp only [RM]; omega⟩) (Nat.le_of_ble_eq_true rfl) dL_visited_303 ?_
                                    have hti := hsin.1.2 k.toNat (by omega)
                                    refine ga_icmp_ne ok 313 (by decide) (by omega) (by omega) dL_visited_306 (fun c_306 => ?_) (fun c_306 => ?_)
                                    · exact absurd rfl c_306
                                    · refine ga_iconst ok dL_visited_309 ?_
                                      refine ga_goto ok 314 (by decide) dL_visited_310 ?_
                                      refine ga_istore ok hn9 dL_visited_314 ?_
                                      refine ga_iinc ok rfl hn10 dL_visited_316 ?_
                                      refine ga_goto ok 278 (by decide) dL_visited_319 ?_
                                      refine WA.wd (k2 := 900 * v.toNat + 700 + 2 * (k + 1).toNat) (n2 := 45000 * v.toNat + 40000 + 8 * (k + 1).toNat) (by first | omega | (simp only [RM]; omega)) (by first | omega | (simp only [RM]; omega)) ?_
                                      exact WA.re (by exact ⟨rfl, rfl, rfl, rfl, rfl, rfl, rfl, rfl, rfl, rfl, trivial⟩) (loopC (k + 1) (by omega) (by omega))
                              refine WA.wd (k2 := 900 * v.toNat + 700 + 2 * (0 : Int).toNat) (n2 := 45000 * v.toNat + 40000 + 8 * (0 : Int).toNat) (by first | omega | (simp only [RM]; omega)) (by first | omega | (simp only [RM]; omega)) ?_
                              exact WA.re (by exact ⟨rfl, rfl, rfl, rfl, rfl, rfl, rfl, rfl, rfl, rfl, trivial⟩) (loopC 0 (by omega))
                · have hu1 : 0 ≤ u ∧ u < g.r 0 := by omega
                  refine ga_iload ok rfl dL_visited_153 ?_
                  refine ga_aload_n ok 0 rfl rfl dL_visited_155 ?_
                  refine ga_iload ok rfl dL_visited_156 ?_
                  refine ga_iload ok rfl dL_visited_158 ?_
                  refine gl_callT ok0 hG hS [.ref 0, vI u, vI x] lw_L_238 hX1.h40 (fun G9 hG9 hS9 => w_letsIn ok0.fl hG9 hS9 hX1 (by omega) (by omega) (by omega)) rfl (by rw [hR]; exact ⟨by decide, by decide, by simp only [RM]; omega, by simp only [RM]; omega⟩) (Nat.le_of_ble_eq_true rfl) dL_visited_160 (fun r9 m1 hq9 => ?_)
                  obtain ⟨rfl, hm9⟩ := hq9
                  subst m1
                  simp only [Option.toList_some, List.singleton_append]
                  rw [er, ql_in hu1 hxr]
                  refine ga_iload ok rfl dL_visited_163 ?_
                  refine ga_if_eq ok 172 (by decide) (by omega) dL_visited_165 (fun c_165 => ?_) (fun c_165 => ?_)
                  · refine ga_iconst ok dL_visited_172 ?_
                    refine ga_icmp_ne ok 180 (by decide) (b2i_rng _) (by omega) dL_visited_173 (fun c_173 => ?_) (fun c_173 => ?_)
                    · refine ga_iconst ok dL_visited_180 ?_
                      refine ga_iadd ok dL_visited_181 ?_
                      refine ga_istore ok hn8 dL_visited_182 ?_
                      refine ga_iinc ok rfl hn9 dL_visited_184 ?_
                      refine ga_goto ok 143 (by decide) dL_visited_187 ?_
                      have ha : b2i (erB g.r u.toNat v.toNat) = 1 := erB_1 (by rw [← hxe, ← hFe]; omega)
                      refine WA.wd (k2 := 900 * v.toNat + 600 + 4 * (u + 1).toNat) (n2 := 45000 * v.toNat + 30000 + 20 * (u + 1).toNat) (by first | omega | (simp only [RM]; omega)) (by first | omega | (simp only [RM]; omega)) ?_
                      exact WA.re (by exact ⟨rfl, rfl, rfl, rfl, rfl, rfl, rfl, rfl, rfl, rfl, trivial⟩) (loopU (u + 1) _ ⟨by omega, by rw [zs_n (f := fun g2 => b2i (erB g.r g2 v.toNat)) hu1.1, ha, hmi]⟩ (by omega))
                    · refine ga_iconst ok dL_visited_176 ?_
                      refine ga_goto ok 181 (by decide) dL_visited_177 ?_
                      refine ga_iadd ok dL_visited_181 ?_
                      refine ga_istore ok hn8 dL_visited_182 ?_
                      refine ga_iinc ok rfl hn9 dL_visited_184 ?_
                      refine ga_goto ok 143 (by decide) dL_visited_187 ?_
                      have ha : b2i (erB g.r u.toNat v.toNat) = 0 := erB_0 (by rw [← hxe, ← hFe]; omega)
                      refine WA.wd (k2 := 900 * v.toNat + 600 + 4 * (u + 1).toNat) (n2 := 45000 * v.toNat + 30000 + 20 * (u + 1).toNat) (by first | omega | (simp only [RM]; omega)) (by first | omega | (simp only [RM]; omega)) ?_
                      exact WA.re (by exact ⟨rfl, rfl, rfl, rfl, rfl, rfl, rfl, rfl, rfl, rfl, trivial⟩) (loopU (u + 1) _ ⟨by omega, by rw [zs_n (f := fun g2 => b2i (erB g.r g2 v.toNat)) hu1.1, ha, hmi]⟩ (by omega))
                  · refine ga_iconst ok dL_visited_168 ?_
                    refine ga_goto ok 173 (by decide) dL_visited_169 ?_
                    refine ga_icmp_ne ok 180 (by decide) (b2i_rng _) (by omega) dL_visited_173 (fun c_173 => ?_) (fun c_173 => ?_)
                    · refine ga_iconst ok dL_visited_180 ?_
                      refine ga_iadd ok dL_visited_181 ?_
                      refine ga_istore ok hn8 dL_visited_182 ?_
                      refine ga_iinc ok rfl hn9 dL_visited_184 ?_
                      refine ga_goto ok 143 (by decide) dL_visited_187 ?_
                      have ha : b2i (erB g.r u.toNat v.toNat) = 1 := erB_1 (by rw [← hxe, ← hFe]; omega)
                      refine WA.wd (k2 := 900 * v.toNat + 600 + 4 * (u + 1).toNat) (n2 := 45000 * v.toNat + 30000 + 20 * (u + 1).toNat) (by first | omega | (simp only [RM]; omega)) (by first | omega | (simp only [RM]; omega)) ?_
                      exact WA.re (by exact ⟨rfl, rfl, rfl, rfl, rfl, rfl, rfl, rfl, rfl, rfl, trivial⟩) (loopU (u + 1) _ ⟨by omega, by rw [zs_n (f := fun g2 => b2i (erB g.r g2 v.toNat)) hu1.1, ha, hmi]⟩ (by omega))
                    · refine ga_iconst ok dL_visited_176 ?_
                      refine ga_goto ok 181 (by decide) dL_visited_177 ?_
                      refine ga_iadd ok dL_visited_181 ?_
                      refine ga_istore ok hn8 dL_visited_182 ?_
                      refine ga_iinc ok rfl hn9 dL_visited_184 ?_
                      refine ga_goto ok 143 (by decide) dL_visited_187 ?_
                      have ha : b2i (erB g.r u.toNat v.toNat) = 0 := erB_0 (by rw [← hxe, ← hFe]; omega)
                      refine WA.wd (k2 := 900 * v.toNat + 600 + 4 * (u + 1).toNat) (n2 := 45000 * v.toNat + 30000 + 20 * (u + 1).toNat) (by first | omega | (simp only [RM]; omega)) (by first | omega | (simp only [RM]; omega)) ?_
                      exact WA.re (by exact ⟨rfl, rfl, rfl, rfl, rfl, rfl, rfl, rfl, rfl, rfl, trivial⟩) (loopU (u + 1) _ ⟨by omega, by rw [zs_n (f := fun g2 => b2i (erB g.r g2 v.toNat)) hu1.1, ha, hmi]⟩ (by omega))
              refine WA.wd (k2 := 900 * v.toNat + 600 + 4 * (0 : Int).toNat) (n2 := 45000 * v.toNat + 30000 + 20 * (0 : Int).toNat) (by first | omega | (simp only [RM]; omega)) (by first | omega | (simp only [RM]; omega)) ?_
              exact WA.re (by exact ⟨rfl, rfl, rfl, rfl, rfl, rfl, rfl, rfl, rfl, rfl, trivial⟩) (loopU 0 0 ⟨by omega, rfl⟩)
            · have hNb := vLn_2 x F b.toNat
              have hNe : (N : Int) = (vLn x F b.toNat).2 := hE.1
              refine gl_newSB ok0 hS (hg.at ok0).2.2 cl_SB ci_SB cn_SB li_L_213 (by rw [hR]; first | omega | (simp only [RM]; omega)) (by rw [hR]; first | omega | (simp only [RM]; omega)) (by rw [hR]; exact ⟨by decide, by decide⟩) (Nat.le_of_ble_eq_true rfl) dL_visited_72 dL_visited_75 dL_visited_76 (fun a20 => ?_)
              obtain ⟨M20, hM20⟩ : ∃ M, M = m00 ((a20 + 1 : Nat) : Int) := ⟨_, rfl⟩
              have hb20 : BLs M20 ln0 := by rw [hM20]; exact m00_bls _ (by omega)
              rw [← hM20]
              obtain ⟨Q20, hQ20⟩ : ∃ Q, Q = ln0 := ⟨_, rfl⟩
              rw [← hQ20] at hb20
              have hl20 : LnOk Q20 := by rw [hQ20]; exact LnOk.z
              have hs20 : Q20.2 = 0 := by rw [hQ20]; rfl
              refine ga_aload ok rfl dL_visited_79 ?_
              refine gl_callSB ok0 hS [.ref (RAW + s)] [(s, v9, t, N)] lv_L_216 rfl hb20.2.1 (fun x h => Or.inr ⟨_, List.mem_singleton.mp h⟩) (fun x h => by rw [List.mem_singleton.mp h]; exact hsin) (fun G9 hS9 hd9 h9 => c_J4_appendS (s := s) (v := v9) (t := t) (N := N) ok0.fl trivial hS9 (h9 _ (List.mem_singleton.mpr rfl)) hd9 hb20 (by omega)) rfl (by rw [hR]; exact ⟨by decide, by decide, by simp only [RM]; omega, by simp only [RM]; omega⟩) (Nat.le_of_ble_eq_true rfl) dL_visited_81 (fun M21 hb21 => ?_)
              replace hb21 := hb21.1
              have hl21 := hl20.cat (t := t) (N := N) (hsin).1.2
              obtain ⟨Q21, hQ21⟩ : ∃ Q, Q = catL Q20 (t) ((N : Nat) : Int) := ⟨_, rfl⟩
              rw [show catL Q20 (t) ((N : Nat) : Int) = Q21 from hQ21.symm] at hb21 hl21
              have hs21 : Q21.2 = Q20.2 + N := by rw [hQ21]; rfl
              refine ga_iload ok rfl dL_visited_84 ?_
              refine ga_iload ok rfl dL_visited_86 ?_
              refine ga_callS ok [vI x, vI b] lk_L_178 (c_L_has ok0.fl trivial (by omega) (by omega)) rfl (by rw [hR]; exact ⟨by decide, by decide, by simp only [RM]; omega, by simp only [RM]; omega⟩) (Nat.le_of_ble_eq_true rfl) dL_visited_88 (fun r9 m9 hq9 => ?_) (fun _ _ h => h.elim)
              obtain ⟨rfl, hm9⟩ := hq9
              subst m9
              simp only [Option.toList_some, List.singleton_append]
              refine ga_if_eq ok 121 (by decide) (b2i_rng _) dL_visited_91 (fun c_91 => ?_) (fun c_91 => ?_)
              · refine gl_ldcS ok0 hS rfl hg.1 0 (q := litL[0]) rfl dL_visited_121 ?_
                refine gl_callSB ok0 hS [.ref (RAW + la 0)] [(la 0, lv 0, lch [], 0)] lv_L_216 rfl hb21.2.1 (fun x h => Or.inr ⟨_, List.mem_singleton.mp h⟩) (fun x h => by rw [List.mem_singleton.mp h]; exact (show SIN G _ (la 0) (lv 0) (lch []) 0 from hg.1.sin (i := 0) rfl)) (fun G9 hS9 hd9 h9 => c_J4_appendS (s := la 0) (v := lv 0) (t := lch []) (N := 0) ok0.fl trivial hS9 (h9 _ (List.mem_singleton.mpr rfl)) hd9 hb21 (by omega)) rfl (by rw [hR]; exact ⟨by decide, by decide, by simp only [RM]; omega, by simp only [RM]; omega⟩) (Nat.le_of_ble_eq_true rfl) dL_visited_123 (fun M22 hb22 => ?_)
                replace hb22 := hb22.1
                have hl22 := hl21.cat (t := lch []) (N := 0) ((show SIN G [] (la 0) (lv 0) (lch []) 0 from hg.1.sin (i := 0) rfl)).1.2
                obtain ⟨Q22, hQ22⟩ : ∃ Q, Q = catL Q21 (lch []) ((0 : Nat) : Int) := ⟨_, rfl⟩
                rw [show catL Q21 (lch []) ((0 : Nat) : Int) = Q22 from hQ22.symm] at hb22 hl22
                have hs22 : Q22.2 = Q21.2 + 0 := by rw [hQ22]; rfl
                obtain ⟨N22, hN22⟩ : ∃ N : Nat, Q22.2 = N := ⟨Q22.2.toNat, by have := hl22.1; omega⟩
                refine gl_takeSB ok0 hS hb22 hN22 (by omega) lv_L_222 (by rw [hR]; exact ⟨by decide, by decide, by simp only [RM]; omega, by simp only [RM]; omega⟩) (Nat.le_of_ble_eq_true rfl) dL_visited_126 (fun s22 v22 t22 ht22 => ?_)
                have hT22 := hl22.sin hN22 (by omega) ht22
                have hbit : ¬ (x / 2 ^ b.toNat % 2 ^ 1 = 1) := fun h9 => absurd (show hasB x b = true from decide_eq_true (Or.inr h9)) (by rw [b2i_0.mp c_91]; decide)
                have hE2 : EqL (t22, (N22 : Int)) (vLn x F (b + 1).toNat) := by
                  have e := take_eq hN22 ht22
                  rw [hQ22, hQ21, hQ20] at e
                  rw [show (b + 1).toNat = b.toNat + 1 by omega, vLn_f hbit]
                  exact e.tr (txt_same hE)
                refine WA.mid ?_
                have hsn : SIN G (STX G s22 v22 t22 N22 ++ Xs) s22 v22 t22 N22 := ⟨hT22, Or.inl (fun x h => List.mem_append_left _ h)⟩
                refine ga_astore ok hn7 dL_visited_129 ?_
                refine ga_iinc ok rfl hn8 dL_visited_131 ?_
                refine ga_goto ok 65 (by decide) dL_visited_134 ?_
                refine WA.wd (k2 := 900 * v.toNat + 20 + 40 * (b + 1).toNat) (n2 := 45000 * v.toNat + 100 + 2500 * (b + 1).toNat) (by first | omega | (simp only [RM]; omega)) (by first | omega | (simp only [RM]; omega)) ?_
                exact WA.re (by exact ⟨rfl, rfl, rfl, rfl, rfl, rfl, rfl, rfl, rfl, trivial⟩) (loopT _ (by trivial) (by omega) (b + 1) (STX G s22 v22 t22 N22) s22 v22 N22 t22 rfl ⟨by omega, hsn, hE2⟩)
              · refine gl_newSB ok0 hS (hg.at ok0).2.2 cl_SB ci_SB cn_SB li_L_213 (by rw [hR]; first | omega | (simp only [RM]; omega)) (by rw [hR]; first | omega | (simp only [RM]; omega)) (by rw [hR]; exact ⟨by decide, by decide⟩) (Nat.le_of_ble_eq_true rfl) dL_visited_94 dL_visited_97 dL_visited_98 (fun a30 => ?_)
                obtain ⟨M30, hM30⟩ : ∃ M, M = m00 ((a30 + 1 : Nat) : Int) := ⟨_, rfl⟩
                have hb30 : BLs M30 ln0 := by rw [hM30]; exact m00_bls _ (by omega)
                rw [← hM30]
                obtain ⟨Q30, hQ30⟩ : ∃ Q, Q = ln0 := ⟨_, rfl⟩
                rw [← hQ30] at hb30
                have hl30 : LnOk Q30 := by rw [hQ30]; exact LnOk.z
                have hs30 : Q30.2 = 0 := by rw [hQ30]; rfl
                refine gl_ldcS ok0 hS rfl hg.1 0 (q := litL[0]) rfl dL_visited_101 ?_
                refine gl_callSB ok0 hS [.ref (RAW + la 0)] [(la 0, lv 0, lch [], 0)] lv_L_216 rfl hb30.2.1 (fun x h => Or.inr ⟨_, List.mem_singleton.mp h⟩) (fun x h => by rw [List.mem_singleton.mp h]; exact (show SIN G _ (la 0) (lv 0) (lch []) 0 from hg.1.sin (i := 0) rfl)) (fun G9 hS9 hd9 h9 => c_J4_appendS (s := la 0) (v := lv 0) (t := lch []) (N := 0) ok0.fl trivial hS9 (h9 _ (List.mem_singleton.mpr rfl)) hd9 hb30 (by omega)) rfl (by rw [hR]; exact ⟨by decide, by decide, by simp only [RM]; omega, by simp only [RM]; omega⟩) (Nat.le_of_ble_eq_true rfl) dL_visited_103 (fun M31 hb31 => ?_)
                replace hb31 := hb31.1
                have hl31 := hl30.cat (t := lch []) (N := 0) ((show SIN G [] (la 0) (lv 0) (lch []) 0 from hg.1.sin (i := 0) rfl)).1.2
                obtain ⟨Q31, hQ31⟩ : ∃ Q, Q = catL Q30 (lch []) ((0 : Nat) : Int) := ⟨_, rfl⟩
                rw [show catL Q30 (lch []) ((0 : Nat) : Int) = Q31 from hQ31.symm] at hb31 hl31
                have hs31 : Q31.2 = Q30.2 + 0 := by rw [hQ31]; rfl
                refine ga_bipush ok dL_visited_106 (by decide) ?_
                refine ga_iload ok rfl dL_visited_108 ?_
                refine ga_iadd ok dL_visited_110 ?_
                refine ga_i2c ok dL_visited_111 ?_
                refine gl_callSB ok0 hS [vI ((97 + b) % 65536)] [] lv_L_280 rfl hb31.2.1 (fun x h => Or.inl ⟨_, List.mem_singleton.mp h⟩) (fun x h => absurd h List.not_mem_nil) (fun G9 hS9 hd9 h9 => c_J4_appendC ok0.fl trivial hS9 hb31 (by omega) (by omega)) rfl (by rw [hR]; exact ⟨by decide, by decide, by simp only [RM]; omega, by simp only [RM]; omega⟩) (Nat.le_of_ble_eq_true rfl) dL_visited_112 (fun M32 hb32 => ?_)
                replace hb32 := hb32.1
                have hl32 := hl31.put (c := ((97 + b) % 65536)) (by omega)
                obtain ⟨Q32, hQ32⟩ : ∃ Q, Q = putL Q31 ((97 + b) % 65536) := ⟨_, rfl⟩
                rw [← hQ32] at hb32 hl32
                have hs32 : Q32.2 = Q31.2 + 1 := by rw [hQ32]; rfl
                obtain ⟨N32, hN32⟩ : ∃ N : Nat, Q32.2 = N := ⟨Q32.2.toNat, by have := hl32.1; omega⟩
                refine gl_takeSB ok0 hS hb32 hN32 (by omega) lv_L_222 (by rw [hR]; exact ⟨by decide, by decide, by simp only [RM]; omega, by simp only [RM]; omega⟩) (Nat.le_of_ble_eq_true rfl) dL_visited_115 (fun s32 v32 t32 ht32 => ?_)
                have hT32 := hl32.sin hN32 (by omega) ht32
                refine ga_goto ok 123 (by decide) dL_visited_118 ?_
                refine WA.comm ?_
                refine gl_callSB ok0 hS [.ref (RAW + s32)] [(s32, v32, t32, N32)] lv_L_216 rfl hb21.2.1 (fun x h => Or.inr ⟨_, List.mem_singleton.mp h⟩) (fun x h => by rw [List.mem_singleton.mp h]; exact (show SIN G (STX G s32 v32 t32 N32 ++ (As ++ Xs)) s32 v32 t32 N32 from ⟨hT32, Or.inl (fun x h => List.mem_append_left _ h)⟩)) (fun G9 hS9 hd9 h9 => c_J4_appendS (s := s32) (v := v32) (t := t32) (N := N32) ok0.fl trivial hS9 (h9 _ (List.mem_singleton.mpr rfl)) hd9 hb21 (by omega)) rfl (by rw [hR]; exact ⟨by decide, by decide, by simp only [RM]; omega, by simp only [RM]; omega⟩) (Nat.le_of_ble_eq_true rfl) dL_visited_123 (fun M22 hb22 => ?_)
                replace hb22 := hb22.1
                have hl22 := hl21.cat (t := t32) (N := N32) ((show SIN G (STX G s32 v32 t32 N32 ++ (As ++ Xs)) s32 v32 t32 N32 from ⟨hT32, Or.inl (fun x h => List.mem_append_left _ h)⟩)).1.2
                obtain ⟨Q22, hQ22⟩ : ∃ Q, Q = catL Q21 (t32) ((N32 : Nat) : Int) := ⟨_, rfl⟩
                rw [show catL Q21 (t32) ((N32 : Nat) : Int) = Q22 from hQ22.symm] at hb22 hl22
                have hs22 : Q22.2 = Q21.2 + N32 := by rw [hQ22]; rfl
                obtain ⟨N22, hN22⟩ : ∃ N : Nat, Q22.2 = N := ⟨Q22.2.toNat, by have := hl22.1; omega⟩
                refine gl_takeSB ok0 hS hb22 hN22 (by omega) lv_L_222 (by rw [hR]; exact ⟨by decide, by decide, by simp only [RM]; omega, by simp only [RM]; omega⟩) (Nat.le_of_ble_eq_true rfl) dL_visited_126 (fun s22 v22 t22 ht22 => ?_)
                have hT22 := hl22.sin hN22 (by omega) ht22
                have hbit : x / 2 ^ b.toNat % 2 ^ 1 = 1 := by
                  have h9 : b < 0 ∨ x / 2 ^ b.toNat % 2 ^ 1 = 1 := of_decide_eq_true (b2i_n0.mp c_91)
                  exact h9.resolve_left (by omega)
                have hE2 : EqL (t22, (N22 : Int)) (vLn x F (b + 1).toNat) := by
                  have e := take_eq hN22 ht22
                  have e3 := take_eq hN32 ht32
                  rw [hQ32, hQ31, hQ30] at e3
                  rw [hQ22, hQ21, hQ20] at e
                  rw [show (b + 1).toNat = b.toNat + 1 by omega, vLn_t hbit, show 97 + ((b.toNat : Nat) : Int) = (97 + b) % 65536 by omega]
                  exact e.tr (txt_stepC hE (by have := (vLn_2 x F b.toNat).1; omega) e3)
                refine WA.mid ?_
                refine WA.mid ?_
                have hsn : SIN G (STX G s22 v22 t22 N22 ++ Xs) s22 v22 t22 N22 := ⟨hT22, Or.inl (fun x h => List.mem_append_left _ h)⟩
                refine ga_astore ok hn7 dL_visited_129 ?_
                refine ga_iinc ok rfl hn8 dL_visited_131 ?_
                refine ga_goto ok 65 (by decide) dL_visited_134 ?_
                refine WA.wd (k2 := 900 * v.toNat + 20 + 40 * (b + 1).toNat) (n2 := 45000 * v.toNat + 100 + 2500 * (b + 1).toNat) (by first | omega | (simp only [RM]; omega)) (by first | omega | (simp only [RM]; omega)) ?_
                exact WA.re (by exact ⟨rfl, rfl, rfl, rfl, rfl, rfl, rfl, rfl, rfl, trivial⟩) (loopT _ (by trivial) (by omega) (b + 1) (STX G s22 v22 t22 N22) s22 v22 N22 t22 rfl ⟨by omega, hsn, hE2⟩)
          refine WA.wd (k2 := 900 * v.toNat + 20 + 40 * (0 : Int).toNat) (n2 := 45000 * v.toNat + 100 + 2500 * (0 : Int).toNat) (by first | omega | (simp only [RM]; omega)) (by first | omega | (simp only [RM]; omega)) ?_
          exact WA.re (by exact ⟨rfl, rfl, rfl, (by rw [hF9]; rfl), rfl, rfl, rfl, rfl, rfl, trivial⟩) (loopT _ (by trivial) 0 [] (la 2) (lv 2) 1 (lch [43]) rfl ⟨by omega, hg.1.sin (i := 2) rfl, by rw [hF9]; exact lit_p⟩)
  refine WA.wd (k2 := 1 + 900 * (0 : Int).toNat) (n2 := 6 + 45000 * (0 : Int).toNat) (by first | omega | (simp only [RM]; omega)) (by first | omega | (simp only [RM]; omega)) ?_
  exact WA.re (by exact ⟨rfl, rfl, rfl, rfl, rfl, trivial⟩) (loopV _ (by trivial) 0 0 0 m g rfl ⟨by omega, rfl, rfl, hX, rfl, rfl⟩)
