/-! VOTES -/
theorem rank_at {r : Nat → Int} {p : Int} (hp : 0 ≤ p ∧ p < r 0) : ∃ j : Nat, (j : Int) < r 0 ∧ q_ranked r p = j ∧ cnt (ahB r) j (r 0).toNat = p := by
  obtain ⟨j, h1, h2⟩ := (ahB_so r).sur (N := (r 0).toNat) (p := p) (by omega)
  refine ⟨j, by omega, ?_, h2⟩
  have h3 : ffd (fun n => aheadOf r n) p (r 0).toNat = j := ffd_yes (f := fun n => aheadOf r n) h2 (fun u hu e => by
    have := (ahB_so r).inj (N := (r 0).toNat) (show u < (r 0).toNat by omega) h1 (by rw [show cnt (ahB r) u (r 0).toNat = p from e, h2])
    omega) _ h1
  unfold q_ranked
  rw [h3, if_pos (by omega)]
theorem rank_no {r : Nat → Int} (h0 : 0 ≤ r 0) : q_ranked r (r 0) = -13 := by
  unfold q_ranked
  rw [rank_n (by omega) h0, if_neg (by decide)]
theorem ofG_bd {T : Int} {r : Nat → Int} (h : gtOk T r) (k : Nat) : 0 ≤ ofG r k ∧ ofG r k ≤ 12 := by
  have h1 := zs_bd1 (f := erB r k) (r 1).toNat
  have e9 : ofG r k = zs (fun u => b2i (erB r k u)) (r 1).toNat := rfl
  have := h.2.1
  omega
theorem vts_bd {T : Int} {r : Nat → Int} (h : gtOk T r) (x : Int) : 0 ≤ vts r x ∧ vts r x ≤ 4 := by
  have h1 := zs_bd1 (f := fun g => adm (gcn (rg r g)) x) (r 0).toNat
  have e9 : vts r x = zs (fun g => b2i (adm (gcn (rg r g)) x)) (r 0).toNat := rfl
  have := h.1
  omega
theorem ql_in {r : Nat → Int} {n x : Int} (hn : 0 ≤ n ∧ n < r 0) (hx : 1 ≤ x ∧ x ≤ 1023) : q_letsIn r n x = b2i (adm (gcn (rg r n.toNat)) x) := by
  unfold q_letsIn
  rw [if_pos hn, if_pos hx]
set_option maxHeartbeats 3000000 in
set_option maxRecDepth 100000 in
theorem c_L_voted {G : GG} {l : Launch} (hfl : l.stackTraces = false) (hG : MW G) (hS : SBW G) {la lv : Nat → Nat} {sb sl : Nat} {xs : Nat → Int32} (hg : LGW G la lv sb sl xs) {m : Mm} {Xs : XS} {g : Gm} {T : Int} (hX : LWX T m g) (hT0 : 0 ≤ T ∧ T ≤ 100000000) : CL G l yL_voted cL_voted 9 (some .boolean) (RM 13 3500 19700) [.ref (RAW + sb), .ref 0] m (Xs) (fun r' m' Xs' => r' = some (vI 1) ∧ m' = m ∧ Xs' = Xs) := by
  refine CL.of RL [(0, .ref (RAW + sb)), (1, .ref 0)] hfl (by decide +kernel) rfl rfl (Nat.le_of_ble_eq_true rfl) ?_
  intro E ok0 en hml hEl hnam
  have hR : e_R E = RM 13 3500 19700 := en.2.2.2
  have ok : ∀ {Xs : XS}, OK0 (GX G Xs) E RL cL_voted := fun {_} => ok0.gx
  have hn0 : 0 < (e_c E).maxLocals := by rw [hml]; decide
  have hn1 : 1 < (e_c E).maxLocals := by rw [hml]; decide
  have hn2 : 2 < (e_c E).maxLocals := by rw [hml]; decide
  have hn3 : 3 < (e_c E).maxLocals := by rw [hml]; decide
  have hn4 : 4 < (e_c E).maxLocals := by rw [hml]; decide
  have hn5 : 5 < (e_c E).maxLocals := by rw [hml]; decide
  have hn6 : 6 < (e_c E).maxLocals := by rw [hml]; decide
  have hn7 : 7 < (e_c E).maxLocals := by rw [hml]; decide
  have hn8 : 8 < (e_c E).maxLocals := by rw [hml]; decide
  have hr0 : 0 ≤ g.r 0 ∧ g.r 0 ≤ 4 := hX.O.1
  have h12 : 0 ≤ g.r 1 ∧ g.r 1 ≤ 12 := hX.O.2.1
  have hmm : 0 ≤ g.r 0 * g.r 0 ∧ g.r 0 * g.r 0 ≤ 16 := by
    rcases (show g.r 0 = 0 ∨ g.r 0 = 1 ∨ g.r 0 = 2 ∨ g.r 0 = 3 ∨ g.r 0 = 4 by omega) with h | h | h | h | h <;> rw [h] <;> decide
  refine ga_aload_n ok 1 rfl rfl dL_voted_0 ?_
  refine ga_iconst ok dL_voted_1 ?_
  refine gl_callV ok0 hG hS [vI 0] lk_L_168 rfl hX.h40 (fun G9 hG9 hS9 => (c_X3_account ok0.fl hG9 hX.I hX.O (what := 0) (by omega)).nox (fun _ _ h => by have := h.1.2; omega)) rfl (by rw [hR]; exact ⟨by decide, by decide, by simp only [RM]; omega, by simp only [RM]; omega⟩) (Nat.le_of_ble_eq_true rfl) dL_voted_2 (fun r9 m1 hq9 => ?_)
  obtain ⟨-, rfl, hm9⟩ := hq9
  subst m1
  simp only [Option.toList_some, List.singleton_append]
  rw [if_pos trivial]
  refine ga_istore_n ok 2 rfl hn2 dL_voted_5 ?_
  refine ga_aload_n ok 1 rfl rfl dL_voted_6 ?_
  refine ga_iconst ok dL_voted_7 ?_
  refine gl_callV ok0 hG hS [vI 1] lk_L_168 rfl hX.h40 (fun G9 hG9 hS9 => (c_X3_account ok0.fl hG9 hX.I hX.O (what := 1) (by omega)).nox (fun _ _ h => by have := h.1.2; omega)) rfl (by rw [hR]; exact ⟨by decide, by decide, by simp only [RM]; omega, by simp only [RM]; omega⟩) (Nat.le_of_ble_eq_true rfl) dL_voted_8 (fun r9 m1 hq9 => ?_)
  obtain ⟨-, rfl, hm9⟩ := hq9
  subst m1
  simp only [Option.toList_some, List.singleton_append]
  rw [if_pos trivial]
  refine ga_istore_n ok 3 rfl hn3 dL_voted_11 ?_
  refine ga_iconst ok dL_voted_12 ?_
  refine ga_istore ok hn4 dL_voted_13 ?_
  refine ga_iconst ok dL_voted_15 ?_
  refine ga_istore ok hn5 dL_voted_16 ?_
  have loopK : ∀ (k mi : Int), ((0 ≤ k ∧ k ≤ g.r 1 + 5) ∧ mi = zs (fun v => b2i (decide (b2i (vin g.r (vX g.r v)) ≠ vF g.r v))) (if k < g.r 1 then k else g.r 1).toNat) → WA (GX G Xs) E (2 + 120 * k.toNat) (12 + 700 * k.toNat) 18 [(5, vI k), (4, vI mi), (0, .ref (RAW + sb)), (1, .ref 0), (2, vI (g.r 0)), (3, vI (g.r 1))] [] m := by
    refine wl2 _ (fun k _ => (g.r 1 + 5 - k).toNat) _ ?_
    intro k mi hk9 loopK
    obtain ⟨hk, hmi⟩ := hk9
    refine ga_iload ok rfl dL_voted_18 ?_
    refine ga_iload_n ok 3 rfl rfl dL_voted_20 ?_
    refine ga_iconst ok dL_voted_21 ?_
    refine ga_iadd ok dL_voted_22 ?_
    refine ga_icmp_ge ok 198 (by decide) (by omega) (by omega) dL_voted_23 (fun c_23 => ?_) (fun c_23 => ?_)
    · clear loopK
      have hme : mi = mst g.r := by
        rw [hmi, if_neg (show ¬ k < g.r 1 by omega)]
        rfl
      refine ga_iconst ok dL_voted_198 ?_
      refine ga_istore ok hn5 dL_voted_199 ?_
      have loop2 : ∀ (k : Int), (0 ≤ k ∧ k ≤ g.r 0 * g.r 0) → WA (GX G Xs) E (2100 + 80 * k.toNat) (12000 + 450 * k.toNat) 201 [(5, vI k), (4, vI mi), (0, .ref (RAW + sb)), (1, .ref 0), (2, vI (g.r 0)), (3, vI (g.r 1))] [] m := by
        refine wl1 _ (fun k => (g.r 0 * g.r 0 - k).toNat) _ ?_
        intro k hk2 loop2
        refine ga_iload ok rfl dL_voted_201 ?_
        refine ga_iload_n ok 2 rfl rfl dL_voted_203 ?_
        refine ga_iload_n ok 2 rfl rfl dL_voted_204 ?_
        refine ga_imul ok dL_voted_205 ?_
        refine ga_icmp_ge ok 294 (by decide) (by omega) (by omega) dL_voted_206 (fun c_206 => ?_) (fun c_206 => ?_)
        · clear loop2
          refine ga_iconst ok dL_voted_294 ?_
          refine ga_istore ok hn5 dL_voted_295 ?_
          refine ga_iconst ok dL_voted_297 ?_
          refine ga_istore ok hn6 dL_voted_298 ?_
          have loopR : ∀ (p bf : Int), ((0 ≤ p ∧ p ≤ g.r 0) ∧ ((p = 0 ∧ bf = -1) ∨ (1 ≤ p ∧ (0 ≤ bf ∧ bf < g.r 0) ∧ cnt (ahB g.r) bf.toNat (g.r 0).toNat = p - 1))) → WA (GX G Xs) E (3400 + 10 * p.toNat) (19300 + 60 * p.toNat) 300 [(6, vI p), (5, vI bf), (4, vI mi), (0, .ref (RAW + sb)), (1, .ref 0), (2, vI (g.r 0)), (3, vI (g.r 1))] [] m := by
            refine wl2 _ (fun p _ => (g.r 0 - p).toNat) _ ?_
            intro p bf hp9 loopR
            obtain ⟨hp, hbf⟩ := hp9
            refine ga_iload ok rfl dL_voted_300 ?_
            refine ga_iload_n ok 2 rfl rfl dL_voted_302 ?_
            refine ga_icmp_ge ok 405 (by decide) (by omega) (by omega) dL_voted_303 (fun c_303 => ?_) (fun c_303 => ?_)
            · clear loopR
              have hmst : 0 ≤ mi ∧ mi ≤ 12 := by
                have h1 := zs_bd1 (f := fun v => decide (b2i (vin g.r (vX g.r v)) ≠ vF g.r v)) (g.r 1).toNat
                rw [hme, show mst g.r = zs (fun v => b2i (decide (b2i (vin g.r (vX g.r v)) ≠ vF g.r v))) (g.r 1).toNat from rfl]
                omega
              refine ga_aload_n ok 1 rfl rfl dL_voted_405 ?_
              refine gl_callV ok0 hG hS [] lk_L_273 rfl hX.h40 (fun G9 hG9 hS9 => c_X3_mistaken ok0.fl hG9 hX.I hX.O) rfl (by rw [hR]; exact ⟨by decide, by decide, by simp only [RM]; omega, by simp only [RM]; omega⟩) (Nat.le_of_ble_eq_true rfl) dL_voted_406 (fun r9 m2 hq9 => ?_)
              obtain ⟨rfl, hm9⟩ := hq9
              subst m2
              simp only [Option.toList_some, List.singleton_append]
              rw [show mst g.r = mi from hme.symm]
              refine ga_iload ok rfl dL_voted_409 ?_
              refine ga_icmp_ne ok 472 (by decide) (by omega) (by omega) dL_voted_411 (fun c_411 => ?_) (fun c_411 => ?_)
              · exact absurd rfl c_411
              · refine ga_aload_n ok 1 rfl rfl dL_voted_414 ?_
                refine ga_iload_n ok 2 rfl rfl dL_voted_415 ?_
                refine gl_callT ok0 hG hS [.ref 0, vI (g.r 0)] lw_L_271 hX.h40 (fun G9 hG9 hS9 => w_ranked ok0.fl hG9 hS9 hX (by omega) (by omega)) rfl (by rw [hR]; exact ⟨by decide, by decide, by simp only [RM]; omega, by simp only [RM]; omega⟩) (Nat.le_of_ble_eq_true rfl) dL_voted_416 (fun r9 m1 hq9 => ?_)
                obtain ⟨rfl, hm9⟩ := hq9
                subst m1
                simp only [Option.toList_some, List.singleton_append]
                rw [rank_no hr0.1]
                refine ga_bipush ok dL_voted_419 (by decide) ?_
                refine ga_icmp_ne ok 472 (by decide) (by omega) (by omega) dL_voted_421 (fun c_421 => ?_) (fun c_421 => ?_)
                · exact absurd rfl c_421
                · refine ga_aload_n ok 1 rfl rfl dL_voted_424 ?_
                  refine ga_iload_n ok 2 rfl rfl dL_voted_425 ?_
                  refine ga_iconst ok dL_voted_426 ?_
                  refine gl_callT ok0 hG hS [.ref 0, vI (g.r 0), vI 0] lw_L_269 hX.h40 (fun G9 hG9 hS9 => w_agree ok0.fl hG9 hS9 hX (by omega) (by omega) (by omega)) rfl (by rw [hR]; exact ⟨by decide, by decide, by simp only [RM]; omega, by simp only [RM]; omega⟩) (Nat.le_of_ble_eq_true rfl) dL_voted_427 (fun r9 m1 hq9 => ?_)
                  obtain ⟨rfl, hm9⟩ := hq9
                  subst m1
                  simp only [Option.toList_some, List.singleton_append]
                  rw [show q_agree g.r (g.r 0) 0 = -11 from by unfold q_agree; exact if_neg (by omega)]
                  refine ga_bipush ok dL_voted_430 (by decide) ?_
                  refine ga_icmp_ne ok 472 (by decide) (by omega) (by omega) dL_voted_432 (fun c_432 => ?_) (fun c_432 => ?_)
                  · exact absurd rfl c_432
                  · refine ga_aload_n ok 1 rfl rfl dL_voted_435 ?_
                    refine ga_iconst ok dL_voted_436 ?_
                    refine ga_iconst ok dL_voted_437 ?_
                    refine gl_callT ok0 hG hS [.ref 0, vI 0, vI (-1)] lw_L_269 hX.h40 (fun G9 hG9 hS9 => w_agree ok0.fl hG9 hS9 hX (by omega) (by omega) (by omega)) rfl (by rw [hR]; exact ⟨by decide, by decide, by simp only [RM]; omega, by simp only [RM]; omega⟩) (Nat.le_of_ble_eq_true rfl) dL_voted_438 (fun r9 m1 hq9 => ?_)
                    obtain ⟨rfl, hm9⟩ := hq9
                    subst m1
                    simp only [Option.toList_some, List.singleton_append]
                    rw [show q_agree g.r 0 (-1) = -11 from by unfold q_agree; split; exact if_neg (by omega); rfl]
                    refine ga_bipush ok dL_voted_441 (by decide) ?_
                    refine ga_icmp_ne ok 472 (by decide) (by omega) (by omega) dL_voted_443 (fun c_443 => ?_) (fun c_443 => ?_)
                    · exact absurd rfl c_443
                    · refine ga_aload_n ok 1 rfl rfl dL_voted_446 ?_
                      refine ga_iconst ok dL_voted_447 ?_
                      refine gl_callT ok0 hG hS [.ref 0, vI 0] lw_L_265 hX.h40 (fun G9 hG9 hS9 => w_votes ok0.fl hG9 hS9 hX (by omega) (by omega)) rfl (by rw [hR]; exact ⟨by decide, by decide, by simp only [RM]; omega, by simp only [RM]; omega⟩) (Nat.le_of_ble_eq_true rfl) dL_voted_448 (fun r9 m1 hq9 => ?_)
                      obtain ⟨rfl, hm9⟩ := hq9
                      subst m1
                      simp only [Option.toList_some, List.singleton_append]
                      rw [show q_votes g.r 0 = -12 from if_neg (by omega)]
                      refine ga_bipush ok dL_voted_451 (by decide) ?_
                      refine ga_icmp_ne ok 472 (by decide) (by omega) (by omega) dL_voted_453 (fun c_453 => ?_) (fun c_453 => ?_)
                      · exact absurd rfl c_453
                      · refine ga_aload_n ok 1 rfl rfl dL_voted_456 ?_
                        refine ga_sipush ok dL_voted_457 (by decide) ?_
                        refine gl_callT ok0 hG hS [.ref 0, vI 1024] lw_L_267 hX.h40 (fun G9 hG9 hS9 => w_isVotedIn ok0.fl hG9 hS9 hX (by omega) (by omega)) rfl (by rw [hR]; exact ⟨by decide, by decide, by simp only [RM]; omega, by simp only [RM]; omega⟩) (Nat.le_of_ble_eq_true rfl) dL_voted_460 (fun r9 m1 hq9 => ?_)
                        obtain ⟨rfl, hm9⟩ := hq9
                        subst m1
                        simp only [Option.toList_some, List.singleton_append]
                        rw [show q_isVotedIn g.r 1024 = -12 from if_neg (by omega)]
                        refine ga_bipush ok dL_voted_463 (by decide) ?_
                        refine ga_icmp_ne ok 472 (by decide) (by omega) (by omega) dL_voted_465 (fun c_465 => ?_) (fun c_465 => ?_)
                        · exact absurd rfl c_465
                        · refine ga_iconst ok dL_voted_468 ?_
                          refine ga_goto ok 473 (by decide) dL_voted_469 ?_
                          exact gl_ireturn ok0 en rfl (nar01 (Or.inr rfl)) (by first | decide | (simp only [RM]; omega)) (by first | decide | (simp only [RM]; omega)) dL_voted_473 ⟨rfl, rfl, rfl⟩
            · refine ga_aload_n ok 1 rfl rfl dL_voted_306 ?_
              refine ga_iload ok rfl dL_voted_307 ?_
              refine gl_callT ok0 hG hS [.ref 0, vI p] lw_L_271 hX.h40 (fun G9 hG9 hS9 => w_ranked ok0.fl hG9 hS9 hX (by omega) (by omega)) rfl (by rw [hR]; exact ⟨by decide, by decide, by simp only [RM]; omega, by simp only [RM]; omega⟩) (Nat.le_of_ble_eq_true rfl) dL_voted_309 (fun r9 m1 hq9 => ?_)
              obtain ⟨rfl, hm9⟩ := hq9
              subst m1
              simp only [Option.toList_some, List.singleton_append]
              obtain ⟨j, hj, hjs, hjc⟩ := rank_at (r := g.r) (p := p) (by omega)
              have hjB := ofG_bd hX.O j
              have hj3 := (hX.O.2.2.2 j hj).2.2.1 3 (by omega) (by omega)
              rw [hjs]
              refine ga_istore ok hn7 dL_voted_312 ?_
              refine ga_iload ok rfl dL_voted_314 ?_
              refine ga_if_ge ok 323 (by decide) (by omega) dL_voted_316 (fun c_316 => ?_) (fun c_316 => ?_)
              · refine ga_iload ok rfl dL_voted_323 ?_
                refine ga_if_ge ok 332 (by decide) (by omega) dL_voted_325 (fun c_325 => ?_) (fun c_325 => ?_)
                · have hbb := hbf.resolve_left (by omega)
                  have hRo : (ofG g.r bf.toNat - ofG g.r j < 0 ∨ (ofG g.r bf.toNat - ofG g.r j = 0 ∧ (rg g.r bf.toNat 3 - rg g.r j 3 < 0 ∨ (rg g.r bf.toNat 3 - rg g.r j 3 = 0 ∧ bf.toNat < j)))) := of_decide_eq_true ((ahB_so g.r).ord (N := (g.r 0).toNat) (i := bf.toNat) (j := j) (by omega) (by omega) (by rw [hbb.2.2, hjc]; omega))
                  have hbB := ofG_bd hX.O bf.toNat
                  have hb3 := (hX.O.2.2.2 bf.toNat (by omega)).2.2.1 3 (by omega) (by omega)
                  refine ga_aload_n ok 1 rfl rfl dL_voted_332 ?_
                  refine ga_iload ok rfl dL_voted_333 ?_
                  refine ga_iconst ok dL_voted_335 ?_
                  refine gl_callT ok0 hG hS [.ref 0, vI (j : Int), vI 4] lw_L_245 hX.h40 (fun G9 hG9 hS9 => w_of ok0.fl hG9 hS9 hX (by omega) (by omega) (by omega)) rfl (by rw [hR]; exact ⟨by decide, by decide, by simp only [RM]; omega, by simp only [RM]; omega⟩) (Nat.le_of_ble_eq_true rfl) dL_voted_336 (fun r9 m1 hq9 => ?_)
                  obtain ⟨rfl, hm9⟩ := hq9
                  subst m1
                  simp only [Option.toList_some, List.singleton_append]
                  rw [qo_4 (by omega), show ((j : Int)).toNat = j by omega]
                  refine ga_aload_n ok 1 rfl rfl dL_voted_339 ?_
                  refine ga_iload ok rfl dL_voted_340 ?_
                  refine ga_iconst ok dL_voted_342 ?_
                  refine gl_callT ok0 hG hS [.ref 0, vI bf, vI 4] lw_L_245 hX.h40 (fun G9 hG9 hS9 => w_of ok0.fl hG9 hS9 hX (by omega) (by omega) (by omega)) rfl (by rw [hR]; exact ⟨by decide, by decide, by simp only [RM]; omega, by simp only [RM]; omega⟩) (Nat.le_of_ble_eq_true rfl) dL_voted_343 (fun r9 m1 hq9 => ?_)
                  obtain ⟨rfl, hm9⟩ := hq9
                  subst m1
                  simp only [Option.toList_some, List.singleton_append]
                  rw [qo_4 (by omega)]
                  refine ga_isub ok dL_voted_346 ?_
                  refine ga_istore ok hn8 dL_voted_347 ?_
                  refine ga_iload ok rfl dL_voted_349 ?_
                  refine ga_if_eq ok 359 (by decide) (by omega) dL_voted_351 (fun c_351 => ?_) (fun c_351 => ?_)
                  · refine ga_aload_n ok 1 rfl rfl dL_voted_359 ?_
                    refine ga_iload ok rfl dL_voted_360 ?_
                    refine ga_iconst ok dL_voted_362 ?_
                    refine gl_callT ok0 hG hS [.ref 0, vI (j : Int), vI 3] lw_L_245 hX.h40 (fun G9 hG9 hS9 => w_of ok0.fl hG9 hS9 hX (by omega) (by omega) (by omega)) rfl (by rw [hR]; exact ⟨by decide, by decide, by simp only [RM]; omega, by simp only [RM]; omega⟩) (Nat.le_of_ble_eq_true rfl) dL_voted_363 (fun r9 m1 hq9 => ?_)
                    obtain ⟨rfl, hm9⟩ := hq9
                    subst m1
                    simp only [Option.toList_some, List.singleton_append]
                    rw [qo_3 (by omega), show ((j : Int)).toNat = j by omega]
                    refine ga_aload_n ok 1 rfl rfl dL_voted_366 ?_
                    refine ga_iload ok rfl dL_voted_367 ?_
                    refine ga_iconst ok dL_voted_369 ?_
                    refine gl_callT ok0 hG hS [.ref 0, vI bf, vI 3] lw_L_245 hX.h40 (fun G9 hG9 hS9 => w_of ok0.fl hG9 hS9 hX (by omega) (by omega) (by omega)) rfl (by rw [hR]; exact ⟨by decide, by decide, by simp only [RM]; omega, by simp only [RM]; omega⟩) (Nat.le_of_ble_eq_true rfl) dL_voted_370 (fun r9 m1 hq9 => ?_)
                    obtain ⟨rfl, hm9⟩ := hq9
                    subst m1
                    simp only [Option.toList_some, List.singleton_append]
                    rw [qo_3 (by omega)]
                    refine ga_isub ok dL_voted_373 ?_
                    refine ga_istore ok hn8 dL_voted_374 ?_
                    refine ga_iload ok rfl dL_voted_376 ?_
                    refine ga_if_lt ok 393 (by decide) (by omega) dL_voted_378 (fun c_378 => ?_) (fun c_378 => ?_)
                    · exact absurd c_378 (by omega)
                    · refine ga_iload ok rfl dL_voted_381 ?_
                      refine ga_if_ne ok 395 (by decide) (by omega) dL_voted_383 (fun c_383 => ?_) (fun c_383 => ?_)
                      · refine ga_iload ok rfl dL_voted_395 ?_
                        refine ga_istore ok hn5 dL_voted_397 ?_
                        refine ga_iinc ok rfl hn6 dL_voted_399 ?_
                        refine ga_goto ok 300 (by decide) dL_voted_402 ?_
                        refine WA.wd (k2 := 3400 + 10 * (p + 1).toNat) (n2 := 19300 + 60 * (p + 1).toNat) (by first | omega | (simp only [RM]; omega)) (by first | omega | (simp only [RM]; omega)) ?_
                        exact WA.re (by exact ⟨rfl, rfl, rfl, rfl, rfl, rfl, rfl, trivial⟩) (loopR (p + 1) (j : Int) ⟨by omega, Or.inr ⟨by omega, by omega, by rw [show ((j : Int)).toNat = j by omega, hjc]; omega⟩⟩ (by omega))
                      · refine ga_iload ok rfl dL_voted_386 ?_
                        refine ga_iload ok rfl dL_voted_388 ?_
                        refine ga_icmp_ge ok 395 (by decide) (by omega) (by omega) dL_voted_390 (fun c_390 => ?_) (fun c_390 => ?_)
                        · refine ga_iload ok rfl dL_voted_395 ?_
                          refine ga_istore ok hn5 dL_voted_397 ?_
                          refine ga_iinc ok rfl hn6 dL_voted_399 ?_
                          refine ga_goto ok 300 (by decide) dL_voted_402 ?_
                          refine WA.wd (k2 := 3400 + 10 * (p + 1).toNat) (n2 := 19300 + 60 * (p + 1).toNat) (by first | omega | (simp only [RM]; omega)) (by first | omega | (simp only [RM]; omega)) ?_
                          exact WA.re (by exact ⟨rfl, rfl, rfl, rfl, rfl, rfl, rfl, trivial⟩) (loopR (p + 1) (j : Int) ⟨by omega, Or.inr ⟨by omega, by omega, by rw [show ((j : Int)).toNat = j by omega, hjc]; omega⟩⟩ (by omega))
                        · exact absurd c_390 (by omega)
                  · refine ga_iload ok rfl dL_voted_354 ?_
                    refine ga_goto ok 374 (by decide) dL_voted_356 ?_
                    refine ga_istore ok hn8 dL_voted_374 ?_
                    refine ga_iload ok rfl dL_voted_376 ?_
                    refine ga_if_lt ok 393 (by decide) (by omega) dL_voted_378 (fun c_378 => ?_) (fun c_378 => ?_)
                    · exact absurd c_378 (by omega)
                    · refine ga_iload ok rfl dL_voted_381 ?_
                      refine ga_if_ne ok 395 (by decide) (by omega) dL_voted_383 (fun c_383 => ?_) (fun c_383 => ?_)
                      · refine ga_iload ok rfl dL_voted_395 ?_
                        refine ga_istore ok hn5 dL_voted_397 ?_
                        refine ga_iinc ok rfl hn6 dL_voted_399 ?_
                        refine ga_goto ok 300 (by decide) dL_voted_402 ?_
                        refine WA.wd (k2 := 3400 + 10 * (p + 1).toNat) (n2 := 19300 + 60 * (p + 1).toNat) (by first | omega | (simp only [RM]; omega)) (by first | omega | (simp only [RM]; omega)) ?_
                        exact WA.re (by exact ⟨rfl, rfl, rfl, rfl, rfl, rfl, rfl, trivial⟩) (loopR (p + 1) (j : Int) ⟨by omega, Or.inr ⟨by omega, by omega, by rw [show ((j : Int)).toNat = j by omega, hjc]; omega⟩⟩ (by omega))
                      · exact absurd c_383 (by omega)
                · refine ga_iconst ok dL_voted_328 ?_
                  refine ga_goto ok 347 (by decide) dL_voted_329 ?_
                  refine ga_istore ok hn8 dL_voted_347 ?_
                  refine ga_iload ok rfl dL_voted_349 ?_
                  refine ga_if_eq ok 359 (by decide) (by omega) dL_voted_351 (fun c_351 => ?_) (fun c_351 => ?_)
                  · exact absurd c_351 (by decide)
                  · refine ga_iload ok rfl dL_voted_354 ?_
                    refine ga_goto ok 374 (by decide) dL_voted_356 ?_
                    refine ga_istore ok hn8 dL_voted_374 ?_
                    refine ga_iload ok rfl dL_voted_376 ?_
                    refine ga_if_lt ok 393 (by decide) (by omega) dL_voted_378 (fun c_378 => ?_) (fun c_378 => ?_)
                    · exact absurd c_378 (by omega)
                    · refine ga_iload ok rfl dL_voted_381 ?_
                      refine ga_if_ne ok 395 (by decide) (by omega) dL_voted_383 (fun c_383 => ?_) (fun c_383 => ?_)
                      · refine ga_iload ok rfl dL_voted_395 ?_
                        refine ga_istore ok hn5 dL_voted_397 ?_
                        refine ga_iinc ok rfl hn6 dL_voted_399 ?_
                        refine ga_goto ok 300 (by decide) dL_voted_402 ?_
                        refine WA.wd (k2 := 3400 + 10 * (p + 1).toNat) (n2 := 19300 + 60 * (p + 1).toNat) (by first | omega | (simp only [RM]; omega)) (by first | omega | (simp only [RM]; omega)) ?_
                        exact WA.re (by exact ⟨rfl, rfl, rfl, rfl, rfl, rfl, rfl, trivial⟩) (loopR (p + 1) (j : Int) ⟨by omega, Or.inr ⟨by omega, by omega, by rw [show ((j : Int)).toNat = j by omega, hjc]; omega⟩⟩ (by omega))
                      · exact absurd c_383 (by omega)
              · exact absurd c_316 (by omega)
          refine WA.wd (k2 := 3400 + 10 * (0 : Int).toNat) (n2 := 19300 + 60 * (0 : Int).toNat) (by first | omega | (simp only [RM]; omega)) (by first | omega | (simp only [RM]; omega)) ?_
          exact WA.re (by exact ⟨rfl, rfl, rfl, rfl, rfl, rfl, rfl, trivial⟩) (loopR 0 (-1) ⟨by omega, Or.inl ⟨rfl, rfl⟩⟩)
        · have hm0 : 0 < g.r 0 := by
            rcases Int.lt_or_le 0 (g.r 0) with h | h
            · exact h
            · have h9 : g.r 0 = 0 := by omega
              rw [h9] at c_206
              omega
          have hka : 0 ≤ k / g.r 0 ∧ k / g.r 0 < g.r 0 := ⟨Int.ediv_nonneg (by omega) (by omega), Int.ediv_lt_of_lt_mul hm0 c_206⟩
          have hkb : 0 ≤ k % g.r 0 ∧ k % g.r 0 < g.r 0 := ⟨Int.emod_nonneg _ (by omega), Int.emod_lt_of_pos _ hm0⟩
          refine ga_iconst ok dL_voted_209 ?_
          refine ga_istore ok hn6 dL_voted_210 ?_
          refine ga_iconst ok dL_voted_212 ?_
          refine ga_istore ok hn7 dL_voted_213 ?_
          have loopA : ∀ (v ag : Int), ((0 ≤ v ∧ v ≤ g.r 1) ∧ ag = zs (fun v => b2i (decide (adm (gcn (rg g.r (k / g.r 0).toNat)) (vX g.r v) = adm (gcn (rg g.r (k % g.r 0).toNat)) (vX g.r v)))) v.toNat) → WA (GX G Xs) E (2100 + 80 * k.toNat + 6 * v.toNat) (12000 + 450 * k.toNat + 36 * v.toNat) 215 [(7, vI v), (6, vI ag), (5, vI k), (4, vI mi), (0, .ref (RAW + sb)), (1, .ref 0), (2, vI (g.r 0)), (3, vI (g.r 1))] [] m := by
            refine wl2 _ (fun v _ => (g.r 1 - v).toNat) _ ?_
            intro v ag hv9 loopA
            obtain ⟨hv, hag⟩ := hv9
            refine ga_iload ok rfl dL_voted_215 ?_
            refine ga_iload_n ok 3 rfl rfl dL_voted_217 ?_
            refine ga_icmp_ge ok 269 (by decide) (by omega) (by omega) dL_voted_218 (fun c_218 => ?_) (fun c_218 => ?_)
            · clear loopA
              have hagb : 0 ≤ ag ∧ ag ≤ 12 := by
                have h1 := zs_bd1 (f := fun v => decide (adm (gcn (rg g.r (k / g.r 0).toNat)) (vX g.r v) = adm (gcn (rg g.r (k % g.r 0).toNat)) (vX g.r v))) v.toNat
                rw [hag]
                omega
              refine ga_aload_n ok 1 rfl rfl dL_voted_269 ?_
              refine ga_iload ok rfl dL_voted_270 ?_
              refine ga_iload_n ok 2 rfl rfl dL_voted_272 ?_
              refine ga_idiv ok dL_voted_273 (by omega) (by omega) ?_
              refine ga_iload ok rfl dL_voted_274 ?_
              refine ga_iload_n ok 2 rfl rfl dL_voted_276 ?_
              refine ga_irem ok dL_voted_277 (by omega) (by omega) ?_
              refine gl_callT ok0 hG hS [.ref 0, vI (k / g.r 0), vI (k % g.r 0)] lw_L_269 hX.h40 (fun G9 hG9 hS9 => w_agree ok0.fl hG9 hS9 hX (by omega) (by omega) (by omega)) rfl (by rw [hR]; exact ⟨by decide, by decide, by simp only [RM]; omega, by simp only [RM]; omega⟩) (Nat.le_of_ble_eq_true rfl) dL_voted_278 (fun r9 m1 hq9 => ?_)
              obtain ⟨rfl, hm9⟩ := hq9
              subst m1
              simp only [Option.toList_some, List.singleton_append]
              rw [show q_agree g.r (k / g.r 0) (k % g.r 0) = ag from by unfold q_agree; rw [if_pos hka, if_pos hkb, hag, show v = g.r 1 by omega]; rfl]
              refine ga_iload ok rfl dL_voted_281 ?_
              refine ga_icmp_eq ok 288 (by decide) (by omega) (by omega) dL_voted_283 (fun c_283 => ?_) (fun c_283 => ?_)
              · refine ga_iinc ok rfl hn5 dL_voted_288 ?_
                refine ga_goto ok 201 (by decide) dL_voted_291 ?_
                refine WA.wd (k2 := 2100 + 80 * (k + 1).toNat) (n2 := 12000 + 450 * (k + 1).toNat) (by first | omega | (simp only [RM]; omega)) (by first | omega | (simp only [RM]; omega)) ?_
                exact WA.re (by exact ⟨rfl, rfl, rfl, rfl, rfl, rfl, trivial⟩) (loop2 (k + 1) (by omega) (by omega))
              · exact absurd rfl c_283
            · have hv1 : 0 ≤ v ∧ v < g.r 1 := by omega
              refine ga_aload_n ok 1 rfl rfl dL_voted_221 ?_
              refine ga_iload ok rfl dL_voted_222 ?_
              refine ga_iconst ok dL_voted_224 ?_
              refine gl_callT ok0 hG hS [.ref 0, vI v, vI 0] lw_L_252 hX.h40 (fun G9 hG9 hS9 => w_visitorOf ok0.fl hG9 hS9 hX (by omega) (by omega) (by omega)) rfl (by rw [hR]; exact ⟨by decide, by decide, by simp only [RM]; omega, by simp only [RM]; omega⟩) (Nat.le_of_ble_eq_true rfl) dL_voted_225 (fun r9 m1 hq9 => ?_)
              obtain ⟨rfl, hm9⟩ := hq9
              subst m1
              simp only [Option.toList_some, List.singleton_append]
              rw [qv_0 hv1]
              have hxF := (hX.O.vs hv1).1
              refine ga_istore ok hn8 dL_voted_228 ?_
              refine ga_iload ok rfl dL_voted_230 ?_
              refine ga_aload_n ok 1 rfl rfl dL_voted_232 ?_
              refine ga_iload ok rfl dL_voted_233 ?_
              refine ga_iload_n ok 2 rfl rfl dL_voted_235 ?_
              refine ga_idiv ok dL_voted_236 (by omega) (by omega) ?_
              refine ga_iload ok rfl dL_voted_237 ?_
              refine gl_callT ok0 hG hS [.ref 0, vI (k / g.r 0), vI (vX g.r v.toNat)] lw_L_238 hX.h40 (fun G9 hG9 hS9 => w_letsIn ok0.fl hG9 hS9 hX (by omega) (by omega) (by omega)) rfl (by rw [hR]; exact ⟨by decide, by decide, by simp only [RM]; omega, by simp only [RM]; omega⟩) (Nat.le_of_ble_eq_true rfl) dL_voted_239 (fun r9 m1 hq9 => ?_)
              obtain ⟨rfl, hm9⟩ := hq9
              subst m1
              simp only [Option.toList_some, List.singleton_append]
              rw [ql_in hka hxF]
              refine ga_aload_n ok 1 rfl rfl dL_voted_242 ?_
              refine ga_iload ok rfl dL_voted_243 ?_
              refine ga_iload_n ok 2 rfl rfl dL_voted_245 ?_
              refine ga_irem ok dL_voted_246 (by omega) (by omega) ?_
              refine ga_iload ok rfl dL_voted_247 ?_
              refine gl_callT ok0 hG hS [.ref 0, vI (k % g.r 0), vI (vX g.r v.toNat)] lw_L_238 hX.h40 (fun G9 hG9 hS9 => w_letsIn ok0.fl hG9 hS9 hX (by omega) (by omega) (by omega)) rfl (by rw [hR]; exact ⟨by decide, by decide, by simp only [RM]; omega, by simp only [RM]; omega⟩) (Nat.le_of_ble_eq_true rfl) dL_voted_249 (fun r9 m1 hq9 => ?_)
              obtain ⟨rfl, hm9⟩ := hq9
              subst m1
              simp only [Option.toList_some, List.singleton_append]
              rw [ql_in hkb hxF]
              refine ga_icmp_ne ok 259 (by decide) (b2i_rng _) (b2i_rng _) dL_voted_252 (fun c_252 => ?_) (fun c_252 => ?_)
              · refine ga_iconst ok dL_voted_259 ?_
                refine ga_iadd ok dL_voted_260 ?_
                refine ga_istore ok hn6 dL_voted_261 ?_
                refine ga_iinc ok rfl hn7 dL_voted_263 ?_
                refine ga_goto ok 215 (by decide) dL_voted_266 ?_
                have ha : b2i (decide (adm (gcn (rg g.r (k / g.r 0).toNat)) (vX g.r v.toNat) = adm (gcn (rg g.r (k % g.r 0).toNat)) (vX g.r v.toNat))) = 0 := b2i_0.mpr (decide_eq_false (fun h9 => c_252 (by rw [h9])))
                refine WA.wd (k2 := 2100 + 80 * k.toNat + 6 * (v + 1).toNat) (n2 := 12000 + 450 * k.toNat + 36 * (v + 1).toNat) (by first | omega | (simp only [RM]; omega)) (by first | omega | (simp only [RM]; omega)) ?_
                exact WA.re (by exact ⟨rfl, rfl, rfl, rfl, rfl, rfl, rfl, rfl, trivial⟩) (loopA (v + 1) _ ⟨by omega, by rw [zs_n (f := (fun v => b2i (decide (adm (gcn (rg g.r (k / g.r 0).toNat)) (vX g.r v) = adm (gcn (rg g.r (k % g.r 0).toNat)) (vX g.r v))))) hv1.1, ha, hag]⟩ (by omega))
              · refine ga_iconst ok dL_voted_255 ?_
                refine ga_goto ok 260 (by decide) dL_voted_256 ?_
                refine ga_iadd ok dL_voted_260 ?_
                refine ga_istore ok hn6 dL_voted_261 ?_
                refine ga_iinc ok rfl hn7 dL_voted_263 ?_
                refine ga_goto ok 215 (by decide) dL_voted_266 ?_
                have ha : b2i (decide (adm (gcn (rg g.r (k / g.r 0).toNat)) (vX g.r v.toNat) = adm (gcn (rg g.r (k % g.r 0).toNat)) (vX g.r v.toNat))) = 1 := b2i_1.mpr (decide_eq_true (b2i_inj c_252))
                refine WA.wd (k2 := 2100 + 80 * k.toNat + 6 * (v + 1).toNat) (n2 := 12000 + 450 * k.toNat + 36 * (v + 1).toNat) (by first | omega | (simp only [RM]; omega)) (by first | omega | (simp only [RM]; omega)) ?_
                exact WA.re (by exact ⟨rfl, rfl, rfl, rfl, rfl, rfl, rfl, rfl, trivial⟩) (loopA (v + 1) _ ⟨by omega, by rw [zs_n (f := (fun v => b2i (decide (adm (gcn (rg g.r (k / g.r 0).toNat)) (vX g.r v) = adm (gcn (rg g.r (k % g.r 0).toNat)) (vX g.r v))))) hv1.1, ha, hag]⟩ (by omega))
          refine WA.wd (k2 := 2100 + 80 * k.toNat + 6 * (0 : Int).toNat) (n2 := 12000 + 450 * k.toNat + 36 * (0 : Int).toNat) (by first | omega | (simp only [RM]; omega)) (by first | omega | (simp only [RM]; omega)) ?_
          exact WA.re (by exact ⟨rfl, rfl, rfl, rfl, rfl, rfl, rfl, rfl, trivial⟩) (loopA 0 0 ⟨by omega, rfl⟩)
      refine WA.wd (k2 := 2100 + 80 * (0 : Int).toNat) (n2 := 12000 + 450 * (0 : Int).toNat) (by first | omega | (simp only [RM]; omega)) (by first | omega | (simp only [RM]; omega)) ?_
      exact WA.re (by exact ⟨rfl, rfl, rfl, rfl, rfl, rfl, trivial⟩) (loop2 0 (by omega))
    · have tail63 : ∀ (x : Int), (1 ≤ x ∧ x ≤ 1023) → (k < g.r 1 → x = vX g.r k.toNat) → WA (GX G Xs) E (2 + 120 * k.toNat + 2) (12 + 700 * k.toNat + 12) 63 [(6, vI x), (5, vI k), (4, vI mi), (0, .ref (RAW + sb)), (1, .ref 0), (2, vI (g.r 0)), (3, vI (g.r 1))] [] m := by
        intro x hx hxk
        refine ga_iconst ok dL_voted_63 ?_
        refine ga_istore ok hn7 dL_voted_64 ?_
        refine ga_iconst ok dL_voted_66 ?_
        refine ga_istore ok hn8 dL_voted_67 ?_
        have loopU : ∀ (u vo : Int), ((0 ≤ u ∧ u ≤ g.r 0) ∧ vo = zs (fun g2 => b2i (adm (gcn (rg g.r g2)) x)) u.toNat) → WA (GX G Xs) E (2 + 120 * k.toNat + 4 + 25 * u.toNat) (12 + 700 * k.toNat + 24 + 150 * u.toNat) 69 [(8, vI u), (7, vI vo), (6, vI x), (5, vI k), (4, vI mi), (0, .ref (RAW + sb)), (1, .ref 0), (2, vI (g.r 0)), (3, vI (g.r 1))] [] m := by
          refine wl2 _ (fun u _ => (g.r 0 - u).toNat) _ ?_
          intro u vo hu9 loopU
          obtain ⟨hu, hvu⟩ := hu9
          refine ga_iload ok rfl dL_voted_69 ?_
          refine ga_iload_n ok 2 rfl rfl dL_voted_71 ?_
          refine ga_icmp_ge ok 107 (by decide) (by omega) (by omega) dL_voted_72 (fun c_72 => ?_) (fun c_72 => ?_)
          · have hue : u = g.r 0 := by omega
            have hvo : vo = vts g.r x := by rw [hvu, hue]; rfl
            have hvb := vts_bd hX.O x
            rw [← hvo] at hvb
            have tail107 : WA (GX G Xs) E (2 + 120 * k.toNat + 4 + 25 * (g.r 0).toNat) (12 + 700 * k.toNat + 24 + 150 * (g.r 0).toNat) 107 [(8, vI (g.r 0)), (7, vI vo), (6, vI x), (5, vI k), (4, vI mi), (0, .ref (RAW + sb)), (1, .ref 0), (2, vI (g.r 0)), (3, vI (g.r 1))] [] m := by
              refine ga_iload ok rfl dL_voted_107 ?_
              refine ga_iload_n ok 2 rfl rfl dL_voted_109 ?_
              refine ga_iload ok rfl dL_voted_110 ?_
              refine ga_isub ok dL_voted_112 ?_
              refine ga_icmp_le ok 120 (by decide) (by omega) (by omega) dL_voted_113 (fun c_113 => ?_) (fun c_113 => ?_)
              · have hvi : b2i (vin g.r x) = 0 := b2i_0.mpr (decide_eq_false (by rw [← hvo]; omega))
                refine ga_iconst ok dL_voted_120 ?_
                refine ga_istore ok hn8 dL_voted_121 ?_
                refine ga_iload ok rfl dL_voted_123 ?_
                refine ga_iload ok rfl dL_voted_125 ?_
                refine ga_iload_n ok 3 rfl rfl dL_voted_127 ?_
                refine ga_icmp_ge ok 156 (by decide) (by omega) (by omega) dL_voted_128 (fun c_128 => ?_) (fun c_128 => ?_)
                · refine ga_iconst ok dL_voted_156 ?_
                  refine ga_iadd ok dL_voted_157 ?_
                  refine ga_istore ok hn4 dL_voted_158 ?_
                  refine ga_aload_n ok 1 rfl rfl dL_voted_160 ?_
                  refine ga_iload ok rfl dL_voted_161 ?_
                  refine gl_callT ok0 hG hS [.ref 0, vI x] lw_L_265 hX.h40 (fun G9 hG9 hS9 => w_votes ok0.fl hG9 hS9 hX (by omega) (by omega)) rfl (by rw [hR]; exact ⟨by decide, by decide, by simp only [RM]; omega, by simp only [RM]; omega⟩) (Nat.le_of_ble_eq_true rfl) dL_voted_163 (fun r9 m1 hq9 => ?_)
                  obtain ⟨rfl, hm9⟩ := hq9
                  subst m1
                  simp only [Option.toList_some, List.singleton_append]
                  rw [show q_votes g.r x = vo from by unfold q_votes; rw [if_pos hx, hvo]]
                  refine ga_iload ok rfl dL_voted_166 ?_
                  refine ga_icmp_ne ok 190 (by decide) (by omega) (by omega) dL_voted_168 (fun c_168 => ?_) (fun c_168 => ?_)
                  · exact absurd rfl c_168
                  · refine ga_aload_n ok 1 rfl rfl dL_voted_171 ?_
                    refine ga_iload ok rfl dL_voted_172 ?_
                    refine gl_callT ok0 hG hS [.ref 0, vI x] lw_L_267 hX.h40 (fun G9 hG9 hS9 => w_isVotedIn ok0.fl hG9 hS9 hX (by omega) (by omega)) rfl (by rw [hR]; exact ⟨by decide, by decide, by simp only [RM]; omega, by simp only [RM]; omega⟩) (Nat.le_of_ble_eq_true rfl) dL_voted_174 (fun r9 m1 hq9 => ?_)
                    obtain ⟨rfl, hm9⟩ := hq9
                    subst m1
                    simp only [Option.toList_some, List.singleton_append]
                    rw [show q_isVotedIn g.r x = b2i (vin g.r x) from by unfold q_isVotedIn; rw [if_pos hx], hvi]
                    refine ga_iload ok rfl dL_voted_177 ?_
                    refine ga_if_eq ok 186 (by decide) (by omega) dL_voted_179 (fun c_179 => ?_) (fun c_179 => ?_)
                    · refine ga_iconst ok dL_voted_186 ?_
                      refine ga_icmp_eq ok 192 (by decide) (by omega) (by omega) dL_voted_187 (fun c_187 => ?_) (fun c_187 => ?_)
                      · refine ga_iinc ok rfl hn5 dL_voted_192 ?_
                        refine ga_goto ok 18 (by decide) dL_voted_195 ?_
                        have hmi2 : mi + 0 = zs (fun v => b2i (decide (b2i (vin g.r (vX g.r v)) ≠ vF g.r v))) (if k + 1 < g.r 1 then k + 1 else g.r 1).toNat := by
                          rw [hmi, if_neg (show ¬ k + 1 < g.r 1 by omega), if_neg (show ¬ k < g.r 1 by omega)]; omega
                        refine WA.wd (k2 := 2 + 120 * (k + 1).toNat) (n2 := 12 + 700 * (k + 1).toNat) (by first | omega | (simp only [RM]; omega)) (by first | omega | (simp only [RM]; omega)) ?_
                        exact WA.re (by exact ⟨rfl, rfl, rfl, rfl, rfl, rfl, trivial⟩) (loopK (k + 1) _ ⟨by omega, hmi2⟩ (by omega))
                      · exact absurd rfl c_187
                    · exact absurd rfl c_179
                · refine ga_iload ok rfl dL_voted_131 ?_
                  refine ga_aload_n ok 1 rfl rfl dL_voted_133 ?_
                  refine ga_iload ok rfl dL_voted_134 ?_
                  refine ga_iconst ok dL_voted_136 ?_
                  refine gl_callT ok0 hG hS [.ref 0, vI k, vI 1] lw_L_252 hX.h40 (fun G9 hG9 hS9 => w_visitorOf ok0.fl hG9 hS9 hX (by omega) (by omega) (by omega)) rfl (by rw [hR]; exact ⟨by decide, by decide, by simp only [RM]; omega, by simp only [RM]; omega⟩) (Nat.le_of_ble_eq_true rfl) dL_voted_137 (fun r9 m1 hq9 => ?_)
                  obtain ⟨rfl, hm9⟩ := hq9
                  subst m1
                  simp only [Option.toList_some, List.singleton_append]
                  rw [qv_1 (by omega)]
                  have hxF := hX.O.vs (v := k) (by omega)
                  refine ga_iconst ok dL_voted_140 ?_
                  refine ga_icmp_ne ok 148 (by decide) (by omega) (by omega) dL_voted_141 (fun c_141 => ?_) (fun c_141 => ?_)
                  · refine ga_iconst ok dL_voted_148 ?_
                    refine ga_icmp_eq ok 156 (by decide) (by omega) (by omega) dL_voted_149 (fun c_149 => ?_) (fun c_149 => ?_)
                    · refine ga_iconst ok dL_voted_156 ?_
                      refine ga_iadd ok dL_voted_157 ?_
                      refine ga_istore ok hn4 dL_voted_158 ?_
                      refine ga_aload_n ok 1 rfl rfl dL_voted_160 ?_
                      refine ga_iload ok rfl dL_voted_161 ?_
                      refine gl_callT ok0 hG hS [.ref 0, vI x] lw_L_265 hX.h40 (fun G9 hG9 hS9 => w_votes ok0.fl hG9 hS9 hX (by omega) (by omega)) rfl (by rw [hR]; exact ⟨by decide, by decide, by simp only [RM]; omega, by simp only [RM]; omega⟩) (Nat.le_of_ble_eq_true rfl) dL_voted_163 (fun r9 m1 hq9 => ?_)
                      obtain ⟨rfl, hm9⟩ := hq9
                      subst m1
                      simp only [Option.toList_some, List.singleton_append]
                      rw [show q_votes g.r x = vo from by unfold q_votes; rw [if_pos hx, hvo]]
                      refine ga_iload ok rfl dL_voted_166 ?_
                      refine ga_icmp_ne ok 190 (by decide) (by omega) (by omega) dL_voted_168 (fun c_168 => ?_) (fun c_168 => ?_)
                      · exact absurd rfl c_168
                      · refine ga_aload_n ok 1 rfl rfl dL_voted_171 ?_
                        refine ga_iload ok rfl dL_voted_172 ?_
                        refine gl_callT ok0 hG hS [.ref 0, vI x] lw_L_267 hX.h40 (fun G9 hG9 hS9 => w_isVotedIn ok0.fl hG9 hS9 hX (by omega) (by omega)) rfl (by rw [hR]; exact ⟨by decide, by decide, by simp only [RM]; omega, by simp only [RM]; omega⟩) (Nat.le_of_ble_eq_true rfl) dL_voted_174 (fun r9 m1 hq9 => ?_)
                        obtain ⟨rfl, hm9⟩ := hq9
                        subst m1
                        simp only [Option.toList_some, List.singleton_append]
                        rw [show q_isVotedIn g.r x = b2i (vin g.r x) from by unfold q_isVotedIn; rw [if_pos hx], hvi]
                        refine ga_iload ok rfl dL_voted_177 ?_
                        refine ga_if_eq ok 186 (by decide) (by omega) dL_voted_179 (fun c_179 => ?_) (fun c_179 => ?_)
                        · refine ga_iconst ok dL_voted_186 ?_
                          refine ga_icmp_eq ok 192 (by decide) (by omega) (by omega) dL_voted_187 (fun c_187 => ?_) (fun c_187 => ?_)
                          · refine ga_iinc ok rfl hn5 dL_voted_192 ?_
                            refine ga_goto ok 18 (by decide) dL_voted_195 ?_
                            have hmi2 : mi + 0 = zs (fun v => b2i (decide (b2i (vin g.r (vX g.r v)) ≠ vF g.r v))) (if k + 1 < g.r 1 then k + 1 else g.r 1).toNat := by
                              have hz : b2i (decide (b2i (vin g.r (vX g.r k.toNat)) ≠ vF g.r k.toNat)) = 0 := b2i_0.mpr (decide_eq_false (fun h9 => h9 (by rw [← hxk (by omega), hvi]; omega)))
                              rw [show (if k + 1 < g.r 1 then k + 1 else g.r 1) = k + 1 by split <;> omega, zs_n (f := (fun v => b2i (decide (b2i (vin g.r (vX g.r v)) ≠ vF g.r v)))) (by omega), hz, hmi, if_pos (show k < g.r 1 by omega)]
                            refine WA.wd (k2 := 2 + 120 * (k + 1).toNat) (n2 := 12 + 700 * (k + 1).toNat) (by first | omega | (simp only [RM]; omega)) (by first | omega | (simp only [RM]; omega)) ?_
                            exact WA.re (by exact ⟨rfl, rfl, rfl, rfl, rfl, rfl, trivial⟩) (loopK (k + 1) _ ⟨by omega, hmi2⟩ (by omega))
                          · exact absurd rfl c_187
                        · exact absurd rfl c_179
                    · exact absurd rfl c_149
                  · refine ga_iconst ok dL_voted_144 ?_
                    refine ga_goto ok 149 (by decide) dL_voted_145 ?_
                    refine ga_icmp_eq ok 156 (by decide) (by omega) (by omega) dL_voted_149 (fun c_149 => ?_) (fun c_149 => ?_)
                    · exact absurd c_149 (by decide)
                    · refine ga_iconst ok dL_voted_152 ?_
                      refine ga_goto ok 157 (by decide) dL_voted_153 ?_
                      refine ga_iadd ok dL_voted_157 ?_
                      refine ga_istore ok hn4 dL_voted_158 ?_
                      refine ga_aload_n ok 1 rfl rfl dL_voted_160 ?_
                      refine ga_iload ok rfl dL_voted_161 ?_
                      refine gl_callT ok0 hG hS [.ref 0, vI x] lw_L_265 hX.h40 (fun G9 hG9 hS9 => w_votes ok0.fl hG9 hS9 hX (by omega) (by omega)) rfl (by rw [hR]; exact ⟨by decide, by decide, by simp only [RM]; omega, by simp only [RM]; omega⟩) (Nat.le_of_ble_eq_true rfl) dL_voted_163 (fun r9 m1 hq9 => ?_)
                      obtain ⟨rfl, hm9⟩ := hq9
                      subst m1
                      simp only [Option.toList_some, List.singleton_append]
                      rw [show q_votes g.r x = vo from by unfold q_votes; rw [if_pos hx, hvo]]
                      refine ga_iload ok rfl dL_voted_166 ?_
                      refine ga_icmp_ne ok 190 (by decide) (by omega) (by omega) dL_voted_168 (fun c_168 => ?_) (fun c_168 => ?_)
                      · exact absurd rfl c_168
                      · refine ga_aload_n ok 1 rfl rfl dL_voted_171 ?_
                        refine ga_iload ok rfl dL_voted_172 ?_
                        refine gl_callT ok0 hG hS [.ref 0, vI x] lw_L_267 hX.h40 (fun G9 hG9 hS9 => w_isVotedIn ok0.fl hG9 hS9 hX (by omega) (by omega)) rfl (by rw [hR]; exact ⟨by decide, by decide, by simp only [RM]; omega, by simp only [RM]; omega⟩) (Nat.le_of_ble_eq_true rfl) dL_voted_174 (fun r9 m1 hq9 => ?_)
                        obtain ⟨rfl, hm9⟩ := hq9
                        subst m1
                        simp only [Option.toList_some, List.singleton_append]
                        rw [show q_isVotedIn g.r x = b2i (vin g.r x) from by unfold q_isVotedIn; rw [if_pos hx], hvi]
                        refine ga_iload ok rfl dL_voted_177 ?_
                        refine ga_if_eq ok 186 (by decide) (by omega) dL_voted_179 (fun c_179 => ?_) (fun c_179 => ?_)
                        · refine ga_iconst ok dL_voted_186 ?_
                          refine ga_icmp_eq ok 192 (by decide) (by omega) (by omega) dL_voted_187 (fun c_187 => ?_) (fun c_187 => ?_)
                          · refine ga_iinc ok rfl hn5 dL_voted_192 ?_
                            refine ga_goto ok 18 (by decide) dL_voted_195 ?_
                            have hmi2 : mi + 1 = zs (fun v => b2i (decide (b2i (vin g.r (vX g.r v)) ≠ vF g.r v))) (if k + 1 < g.r 1 then k + 1 else g.r 1).toNat := by
                              have hz : b2i (decide (b2i (vin g.r (vX g.r k.toNat)) ≠ vF g.r k.toNat)) = 1 := b2i_1.mpr (decide_eq_true (by rw [← hxk (by omega), hvi]; omega))
                              rw [show (if k + 1 < g.r 1 then k + 1 else g.r 1) = k + 1 by split <;> omega, zs_n (f := (fun v => b2i (decide (b2i (vin g.r (vX g.r v)) ≠ vF g.r v)))) (by omega), hz, hmi, if_pos (show k < g.r 1 by omega)]
                            refine WA.wd (k2 := 2 + 120 * (k + 1).toNat) (n2 := 12 + 700 * (k + 1).toNat) (by first | omega | (simp only [RM]; omega)) (by first | omega | (simp only [RM]; omega)) ?_
                            exact WA.re (by exact ⟨rfl, rfl, rfl, rfl, rfl, rfl, trivial⟩) (loopK (k + 1) _ ⟨by omega, hmi2⟩ (by omega))
                          · exact absurd rfl c_187
                        · exact absurd rfl c_179
              · have hvi : b2i (vin g.r x) = 1 := b2i_1.mpr (decide_eq_true (by rw [← hvo]; omega))
                refine ga_iconst ok dL_voted_116 ?_
                refine ga_goto ok 121 (by decide) dL_voted_117 ?_
                refine ga_istore ok hn8 dL_voted_121 ?_
                refine ga_iload ok rfl dL_voted_123 ?_
                refine ga_iload ok rfl dL_voted_125 ?_
                refine ga_iload_n ok 3 rfl rfl dL_voted_127 ?_
                refine ga_icmp_ge ok 156 (by decide) (by omega) (by omega) dL_voted_128 (fun c_128 => ?_) (fun c_128 => ?_)
                · refine ga_iconst ok dL_voted_156 ?_
                  refine ga_iadd ok dL_voted_157 ?_
                  refine ga_istore ok hn4 dL_voted_158 ?_
                  refine ga_aload_n ok 1 rfl rfl dL_voted_160 ?_
                  refine ga_iload ok rfl dL_voted_161 ?_
                  refine gl_callT ok0 hG hS [.ref 0, vI x] lw_L_265 hX.h40 (fun G9 hG9 hS9 => w_votes ok0.fl hG9 hS9 hX (by omega) (by omega)) rfl (by rw [hR]; exact ⟨by decide, by decide, by simp only [RM]; omega, by simp only [RM]; omega⟩) (Nat.le_of_ble_eq_true rfl) dL_voted_163 (fun r9 m1 hq9 => ?_)
                  obtain ⟨rfl, hm9⟩ := hq9
                  subst m1
                  simp only [Option.toList_some, List.singleton_append]
                  rw [show q_votes g.r x = vo from by unfold q_votes; rw [if_pos hx, hvo]]
                  refine ga_iload ok rfl dL_voted_166 ?_
                  refine ga_icmp_ne ok 190 (by decide) (by omega) (by omega) dL_voted_168 (fun c_168 => ?_) (fun c_168 => ?_)
                  · exact absurd rfl c_168
                  · refine ga_aload_n ok 1 rfl rfl dL_voted_171 ?_
                    refine ga_iload ok rfl dL_voted_172 ?_
                    refine gl_callT ok0 hG hS [.ref 0, vI x] lw_L_267 hX.h40 (fun G9 hG9 hS9 => w_isVotedIn ok0.fl hG9 hS9 hX (by omega) (by omega)) rfl (by rw [hR]; exact ⟨by decide, by decide, by simp only [RM]; omega, by simp only [RM]; omega⟩) (Nat.le_of_ble_eq_true rfl) dL_voted_174 (fun r9 m1 hq9 => ?_)
                    obtain ⟨rfl, hm9⟩ := hq9
                    subst m1
                    simp only [Option.toList_some, List.singleton_append]
                    rw [show q_isVotedIn g.r x = b2i (vin g.r x) from by unfold q_isVotedIn; rw [if_pos hx], hvi]
                    refine ga_iload ok rfl dL_voted_177 ?_
                    refine ga_if_eq ok 186 (by decide) (by omega) dL_voted_179 (fun c_179 => ?_) (fun c_179 => ?_)
                    · exact absurd c_179 (by decide)
                    · refine ga_iconst ok dL_voted_182 ?_
                      refine ga_goto ok 187 (by decide) dL_voted_183 ?_
                      refine ga_icmp_eq ok 192 (by decide) (by omega) (by omega) dL_voted_187 (fun c_187 => ?_) (fun c_187 => ?_)
                      · refine ga_iinc ok rfl hn5 dL_voted_192 ?_
                        refine ga_goto ok 18 (by decide) dL_voted_195 ?_
                        have hmi2 : mi + 0 = zs (fun v => b2i (decide (b2i (vin g.r (vX g.r v)) ≠ vF g.r v))) (if k + 1 < g.r 1 then k + 1 else g.r 1).toNat := by
                          rw [hmi, if_neg (show ¬ k + 1 < g.r 1 by omega), if_neg (show ¬ k < g.r 1 by omega)]; omega
                        refine WA.wd (k2 := 2 + 120 * (k + 1).toNat) (n2 := 12 + 700 * (k + 1).toNat) (by first | omega | (simp only [RM]; omega)) (by first | omega | (simp only [RM]; omega)) ?_
                        exact WA.re (by exact ⟨rfl, rfl, rfl, rfl, rfl, rfl, trivial⟩) (loopK (k + 1) _ ⟨by omega, hmi2⟩ (by omega))
                      · exact absurd rfl c_187
                · refine ga_iload ok rfl dL_voted_131 ?_
                  refine ga_aload_n ok 1 rfl rfl dL_voted_133 ?_
                  refine ga_iload ok rfl dL_voted_134 ?_
                  refine ga_iconst ok dL_voted_136 ?_
                  refine gl_callT ok0 hG hS [.ref 0, vI k, vI 1] lw_L_252 hX.h40 (fun G9 hG9 hS9 => w_visitorOf ok0.fl hG9 hS9 hX (by omega) (by omega) (by omega)) rfl (by rw [hR]; exact ⟨by decide, by decide, by simp only [RM]; omega, by simp only [RM]; omega⟩) (Nat.le_of_ble_eq_true rfl) dL_voted_137 (fun r9 m1 hq9 => ?_)
                  obtain ⟨rfl, hm9⟩ := hq9
                  subst m1
                  simp only [Option.toList_some, List.singleton_append]
                  rw [qv_1 (by omega)]
                  have hxF := hX.O.vs (v := k) (by omega)
                  refine ga_iconst ok dL_voted_140 ?_
                  refine ga_icmp_ne ok 148 (by decide) (by omega) (by omega) dL_voted_141 (fun c_141 => ?_) (fun c_141 => ?_)
                  · refine ga_iconst ok dL_voted_148 ?_
                    refine ga_icmp_eq ok 156 (by decide) (by omega) (by omega) dL_voted_149 (fun c_149 => ?_) (fun c_149 => ?_)
                    · exact absurd c_149 (by decide)
                    · refine ga_iconst ok dL_voted_152 ?_
                      refine ga_goto ok 157 (by decide) dL_voted_153 ?_
                      refine ga_iadd ok dL_voted_157 ?_
                      refine ga_istore ok hn4 dL_voted_158 ?_
                      refine ga_aload_n ok 1 rfl rfl dL_voted_160 ?_
                      refine ga_iload ok rfl dL_voted_161 ?_
                      refine gl_callT ok0 hG hS [.ref 0, vI x] lw_L_265 hX.h40 (fun G9 hG9 hS9 => w_votes ok0.fl hG9 hS9 hX (by omega) (by omega)) rfl (by rw [hR]; exact ⟨by decide, by decide, by simp only [RM]; omega, by simp only [RM]; omega⟩) (Nat.le_of_ble_eq_true rfl) dL_voted_163 (fun r9 m1 hq9 => ?_)
                      obtain ⟨rfl, hm9⟩ := hq9
                      subst m1
                      simp only [Option.toList_some, List.singleton_append]
                      rw [show q_votes g.r x = vo from by unfold q_votes; rw [if_pos hx, hvo]]
                      refine ga_iload ok rfl dL_voted_166 ?_
                      refine ga_icmp_ne ok 190 (by decide) (by omega) (by omega) dL_voted_168 (fun c_168 => ?_) (fun c_168 => ?_)
                      · exact absurd rfl c_168
                      · refine ga_aload_n ok 1 rfl rfl dL_voted_171 ?_
                        refine ga_iload ok rfl dL_voted_172 ?_
                        refine gl_callT ok0 hG hS [.ref 0, vI x] lw_L_267 hX.h40 (fun G9 hG9 hS9 => w_isVotedIn ok0.fl hG9 hS9 hX (by omega) (by omega)) rfl (by rw [hR]; exact ⟨by decide, by decide, by simp only [RM]; omega, by simp only [RM]; omega⟩) (Nat.le_of_ble_eq_true rfl) dL_voted_174 (fun r9 m1 hq9 => ?_)
                        obtain ⟨rfl, hm9⟩ := hq9
                        subst m1
                        simp only [Option.toList_some, List.singleton_append]
                        rw [show q_isVotedIn g.r x = b2i (vin g.r x) from by unfold q_isVotedIn; rw [if_pos hx], hvi]
                        refine ga_iload ok rfl dL_voted_177 ?_
                        refine ga_if_eq ok 186 (by decide) (by omega) dL_voted_179 (fun c_179 => ?_) (fun c_179 => ?_)
                        · exact absurd c_179 (by decide)
                        · refine ga_iconst ok dL_voted_182 ?_
                          refine ga_goto ok 187 (by decide) dL_voted_183 ?_
                          refine ga_icmp_eq ok 192 (by decide) (by omega) (by omega) dL_voted_187 (fun c_187 => ?_) (fun c_187 => ?_)
                          · refine ga_iinc ok rfl hn5 dL_voted_192 ?_
                            refine ga_goto ok 18 (by decide) dL_voted_195 ?_
                            have hmi2 : mi + 1 = zs (fun v => b2i (decide (b2i (vin g.r (vX g.r v)) ≠ vF g.r v))) (if k + 1 < g.r 1 then k + 1 else g.r 1).toNat := by
                              have hz : b2i (decide (b2i (vin g.r (vX g.r k.toNat)) ≠ vF g.r k.toNat)) = 1 := b2i_1.mpr (decide_eq_true (by rw [← hxk (by omega), hvi]; omega))
                              rw [show (if k + 1 < g.r 1 then k + 1 else g.r 1) = k + 1 by split <;> omega, zs_n (f := (fun v => b2i (decide (b2i (vin g.r (vX g.r v)) ≠ vF g.r v)))) (by omega), hz, hmi, if_pos (show k < g.r 1 by omega)]
                            refine WA.wd (k2 := 2 + 120 * (k + 1).toNat) (n2 := 12 + 700 * (k + 1).toNat) (by first | omega | (simp only [RM]; omega)) (by first | omega | (simp only [RM]; omega)) ?_
                            exact WA.re (by exact ⟨rfl, rfl, rfl, rfl, rfl, rfl, trivial⟩) (loopK (k + 1) _ ⟨by omega, hmi2⟩ (by omega))
                          · exact absurd rfl c_187
                  · refine ga_iconst ok dL_voted_144 ?_
                    refine ga_goto ok 149 (by decide) dL_voted_145 ?_
                    refine ga_icmp_eq ok 156 (by decide) (by omega) (by omega) dL_voted_149 (fun c_149 => ?_) (fun c_149 => ?_)
                    · refine ga_iconst ok dL_voted_156 ?_
                      refine ga_iadd ok dL_voted_157 ?_
                      refine ga_istore ok hn4 dL_voted_158 ?_
                      refine ga_aload_n ok 1 rfl rfl dL_voted_160 ?_
                      refine ga_iload ok rfl dL_voted_161 ?_
                      refine gl_callT ok0 hG hS [.ref 0, vI x] lw_L_265 hX.h40 (fun G9 hG9 hS9 => w_votes ok0.fl hG9 hS9 hX (by omega) (by omega)) rfl (by rw [hR]; exact ⟨by decide, by decide, by simp only [RM]; omega, by simp only [RM]; omega⟩) (Nat.le_of_ble_eq_true rfl) dL_voted_163 (fun r9 m1 hq9 => ?_)
                      obtain ⟨rfl, hm9⟩ := hq9
                      subst m1
                      simp only [Option.toList_some, List.singleton_append]
                      rw [show q_votes g.r x = vo from by unfold q_votes; rw [if_pos hx, hvo]]
                      refine ga_iload ok rfl dL_voted_166 ?_
                      refine ga_icmp_ne ok 190 (by decide) (by omega) (by omega) dL_voted_168 (fun c_168 => ?_) (fun c_168 => ?_)
                      · exact absurd rfl c_168
                      · refine ga_aload_n ok 1 rfl rfl dL_voted_171 ?_
                        refine ga_iload ok rfl dL_voted_172 ?_
                        refine gl_callT ok0 hG hS [.ref 0, vI x] lw_L_267 hX.h40 (fun G9 hG9 hS9 => w_isVotedIn ok0.fl hG9 hS9 hX (by omega) (by omega)) rfl (by rw [hR]; exact ⟨by decide, by decide, by simp only [RM]; omega, by simp only [RM]; omega⟩) (Nat.le_of_ble_eq_true rfl) dL_voted_174 (fun r9 m1 hq9 => ?_)
                        obtain ⟨rfl, hm9⟩ := hq9
                        subst m1
                        simp only [Option.toList_some, List.singleton_append]
                        rw [show q_isVotedIn g.r x = b2i (vin g.r x) from by unfold q_isVotedIn; rw [if_pos hx], hvi]
                        refine ga_iload ok rfl dL_voted_177 ?_
                        refine ga_if_eq ok 186 (by decide) (by omega) dL_voted_179 (fun c_179 => ?_) (fun c_179 => ?_)
                        · exact absurd c_179 (by decide)
                        · refine ga_iconst ok dL_voted_182 ?_
                          refine ga_goto ok 187 (by decide) dL_voted_183 ?_
                          refine ga_icmp_eq ok 192 (by decide) (by omega) (by omega) dL_voted_187 (fun c_187 => ?_) (fun c_187 => ?_)
                          · refine ga_iinc ok rfl hn5 dL_voted_192 ?_
                            refine ga_goto ok 18 (by decide) dL_voted_195 ?_
                            have hmi2 : mi + 0 = zs (fun v => b2i (decide (b2i (vin g.r (vX g.r v)) ≠ vF g.r v))) (if k + 1 < g.r 1 then k + 1 else g.r 1).toNat := by
                              have hz : b2i (decide (b2i (vin g.r (vX g.r k.toNat)) ≠ vF g.r k.toNat)) = 0 := b2i_0.mpr (decide_eq_false (fun h9 => h9 (by rw [← hxk (by omega), hvi]; omega)))
                              rw [show (if k + 1 < g.r 1 then k + 1 else g.r 1) = k + 1 by split <;> omega, zs_n (f := (fun v => b2i (decide (b2i (vin g.r (vX g.r v)) ≠ vF g.r v)))) (by omega), hz, hmi, if_pos (show k < g.r 1 by omega)]
                            refine WA.wd (k2 := 2 + 120 * (k + 1).toNat) (n2 := 12 + 700 * (k + 1).toNat) (by first | omega | (simp only [RM]; omega)) (by first | omega | (simp only [RM]; omega)) ?_
                            exact WA.re (by exact ⟨rfl, rfl, rfl, rfl, rfl, rfl, trivial⟩) (loopK (k + 1) _ ⟨by omega, hmi2⟩ (by omega))
                          · exact absurd rfl c_187
                    · exact absurd rfl c_149
            refine WA.wd (k2 := 2 + 120 * k.toNat + 4 + 25 * (g.r 0).toNat) (n2 := 12 + 700 * k.toNat + 24 + 150 * (g.r 0).toNat) (by first | omega | (simp only [RM]; omega)) (by first | omega | (simp only [RM]; omega)) ?_
            exact WA.re (by exact ⟨(by rw [hue]; rfl), rfl, rfl, rfl, rfl, rfl, rfl, rfl, rfl, trivial⟩) tail107
          · have hu1 : 0 ≤ u ∧ u < g.r 0 := by omega
            refine ga_iload ok rfl dL_voted_75 ?_
            refine ga_aload_n ok 1 rfl rfl dL_voted_77 ?_
            refine ga_iload ok rfl dL_voted_78 ?_
            refine gl_callL ok0 [.ref 0, vI u] lk_L_207 (c_L_counts ok0.fl hG hS hX (by omega) hu1) rfl (by rw [hR]; exact ⟨by decide, by decide, by simp only [RM]; omega, by simp only [RM]; omega⟩) (Nat.le_of_ble_eq_true rfl) dL_voted_80 (fun r9 m9 X9 hq9 => ?_)
            obtain ⟨hm9, q, f, rfl, hxs, hfc⟩ := hq9
            subst m9
            subst X9
            simp only [Option.toList_some, List.singleton_append]
            have hcB : cBd (gcn (rg g.r u.toNat)) := cBd.of hX.O hu1
            have hcb : cBd f := fun i hi => by rw [hfc i hi]; exact hcB i hi
            refine ga_iload ok rfl dL_voted_83 ?_
            refine gl_callL ok0 [.ref (RAW + q), vI x] lk_L_183 (c_L_margin ok0.fl hS (q := q) (f := f) List.mem_cons_self hcb (by omega)) rfl (by rw [hR]; exact ⟨by decide, by decide, by simp only [RM]; omega, by simp only [RM]; omega⟩) (Nat.le_of_ble_eq_true rfl) dL_voted_85 (fun r9 m9 X9 hq9 => ?_)
            obtain ⟨rfl, hm9, hxs⟩ := hq9
            subst m9
            subst X9
            simp only [Option.toList_some, List.singleton_append]
            rw [show mg f x = mg (gcn (rg g.r u.toNat)) x from mgA_cong x 10 (by omega) hfc]
            have hmz := mg_bd hcB x
            refine ga_fconst0 ok dL_voted_88 ?_
            refine ga_fcmp ok dL_voted_89 (fq_cmpz0 hmz) ?_
            refine ga_if_le ok 97 (by decide) (cmpz_rng _ _) dL_voted_90 (fun c_90 => ?_) (fun c_90 => ?_)
            · refine ga_iconst ok dL_voted_97 ?_
              refine ga_iadd ok dL_voted_98 ?_
              refine ga_istore ok hn7 dL_voted_99 ?_
              refine ga_iinc ok rfl hn8 dL_voted_101 ?_
              refine ga_goto ok 69 (by decide) dL_voted_104 ?_
              refine WA.drop (Xs' := [_]) ?_
              have ha : b2i (adm (gcn (rg g.r u.toNat)) x) = 0 := adm_0 (cmpz_le.mp c_90)
              refine WA.wd (k2 := 2 + 120 * k.toNat + 4 + 25 * (u + 1).toNat) (n2 := 12 + 700 * k.toNat + 24 + 150 * (u + 1).toNat) (by first | omega | (simp only [RM]; omega)) (by first | omega | (simp only [RM]; omega)) ?_
              exact WA.re (by exact ⟨rfl, rfl, rfl, rfl, rfl, rfl, rfl, rfl, rfl, trivial⟩) (loopU (u + 1) _ ⟨by omega, by rw [zs_n (f := fun g2 => b2i (adm (gcn (rg g.r g2)) x)) hu1.1, ha, hvu]⟩ (by omega))
            · refine ga_iconst ok dL_voted_93 ?_
              refine ga_goto ok 98 (by decide) dL_voted_94 ?_
              refine ga_iadd ok dL_voted_98 ?_
              refine ga_istore ok hn7 dL_voted_99 ?_
              refine ga_iinc ok rfl hn8 dL_voted_101 ?_
              refine ga_goto ok 69 (by decide) dL_voted_104 ?_
              refine WA.drop (Xs' := [_]) ?_
              have ha : b2i (adm (gcn (rg g.r u.toNat)) x) = 1 := adm_1 (cmpz_gt.mp (by omega))
              refine WA.wd (k2 := 2 + 120 * k.toNat + 4 + 25 * (u + 1).toNat) (n2 := 12 + 700 * k.toNat + 24 + 150 * (u + 1).toNat) (by first | omega | (simp only [RM]; omega)) (by first | omega | (simp only [RM]; omega)) ?_
              exact WA.re (by exact ⟨rfl, rfl, rfl, rfl, rfl, rfl, rfl, rfl, rfl, trivial⟩) (loopU (u + 1) _ ⟨by omega, by rw [zs_n (f := fun g2 => b2i (adm (gcn (rg g.r g2)) x)) hu1.1, ha, hvu]⟩ (by omega))
        refine WA.wd (k2 := 2 + 120 * k.toNat + 4 + 25 * (0 : Int).toNat) (n2 := 12 + 700 * k.toNat + 24 + 150 * (0 : Int).toNat) (by first | omega | (simp only [RM]; omega)) (by first | omega | (simp only [RM]; omega)) ?_
        exact WA.re (by exact ⟨rfl, rfl, rfl, rfl, rfl, rfl, rfl, rfl, rfl, trivial⟩) (loopU 0 0 ⟨by omega, rfl⟩)
      refine ga_iload ok rfl dL_voted_26 ?_
      refine ga_iload_n ok 3 rfl rfl dL_voted_28 ?_
      refine ga_icmp_ge ok 42 (by decide) (by omega) (by omega) dL_voted_29 (fun c_29 => ?_) (fun c_29 => ?_)
      · refine ga_iconst ok dL_voted_42 ?_
        refine ga_aload_n ok 0 rfl rfl dL_voted_43 ?_
        refine ga_bipush ok dL_voted_44 (by decide) ?_
        refine ga_iload ok rfl dL_voted_46 ?_
        refine ga_iadd ok dL_voted_48 ?_
        refine ga_iload_n ok 3 rfl rfl dL_voted_49 ?_
        refine ga_isub ok dL_voted_50 ?_
        refine gl_callL ok0 [.ref (RAW + sb), vI (27 + k - g.r 1)] lk_L_152 (c_L_cell ok0.fl hG hS hg (by omega)) rfl (by rw [hR]; exact ⟨by decide, by decide, by simp only [RM]; omega, by simp only [RM]; omega⟩) (Nat.le_of_ble_eq_true rfl) dL_voted_51 (fun r9 m9 X9 hq9 => ?_)
        obtain ⟨rfl, hm9, hxs⟩ := hq9
        subst m9
        subst X9
        simp only [Option.toList_some, List.singleton_append]
        refine ga_iconst ok dL_voted_54 ?_
        refine ga_iushrZ ok dL_voted_55 ?_
        refine ga_sipush ok dL_voted_56 (by decide) ?_
        refine ga_irem ok dL_voted_59 (by have := zShr_rng (x := cel xs sl (27 + k - g.r 1)) (k := 1) (by omega); omega) (by omega) ?_
        refine ga_iadd ok dL_voted_60 ?_
        refine ga_istore ok hn6 dL_voted_61 ?_
        refine WA.wd (k2 := 2 + 120 * k.toNat + 2) (n2 := 12 + 700 * k.toNat + 12) (by first | omega | (simp only [RM]; omega)) (by first | omega | (simp only [RM]; omega)) ?_
        exact WA.re (by exact ⟨rfl, rfl, rfl, rfl, rfl, rfl, rfl, trivial⟩) (tail63 _ (by have := zShr_rng (x := cel xs sl (27 + k - g.r 1)) (k := 1) (by omega); omega) (fun h => by omega))
      · refine ga_aload_n ok 1 rfl rfl dL_voted_32 ?_
        refine ga_iload ok rfl dL_voted_33 ?_
        refine ga_iconst ok dL_voted_35 ?_
        refine gl_callT ok0 hG hS [.ref 0, vI k, vI 0] lw_L_252 hX.h40 (fun G9 hG9 hS9 => w_visitorOf ok0.fl hG9 hS9 hX (by omega) (by omega) (by omega)) rfl (by rw [hR]; exact ⟨by decide, by decide, by simp only [RM]; omega, by simp only [RM]; omega⟩) (Nat.le_of_ble_eq_true rfl) dL_voted_36 (fun r9 m1 hq9 => ?_)
        obtain ⟨rfl, hm9⟩ := hq9
        subst m1
        simp only [Option.toList_some, List.singleton_append]
        rw [qv_0 (by omega)]
        refine ga_goto ok 61 (by decide) dL_voted_39 ?_
        refine ga_istore ok hn6 dL_voted_61 ?_
        refine WA.wd (k2 := 2 + 120 * k.toNat + 2) (n2 := 12 + 700 * k.toNat + 12) (by first | omega | (simp only [RM]; omega)) (by first | omega | (simp only [RM]; omega)) ?_
        exact WA.re (by exact ⟨rfl, rfl, rfl, rfl, rfl, rfl, rfl, trivial⟩) (tail63 _ (hX.O.vs (by omega)).1 (fun _ => rfl))
  refine WA.wd (k2 := 2 + 120 * (0 : Int).toNat) (n2 := 12 + 700 * (0 : Int).toNat) (by first | omega | (simp only [RM]; omega)) (by first | omega | (simp only [RM]; omega)) ?_
  exact WA.re (by exact ⟨rfl, rfl, rfl, rfl, rfl, rfl, trivial⟩) (loopK 0 0 ⟨by omega, by rw [show (if (0 : Int) < g.r 1 then (0 : Int) else g.r 1) = 0 by split <;> omega]; rfl⟩)
