/-! TEXTS THAT ARE PUT TOGETHER; WHAT CAN BE UNDONE -/
theorem LnOk.cat {q : (Nat → Int) × Int} {t : Nat → Int} {N : Nat} (h : LnOk q) (ht : ∀ j, j < N → 0 ≤ t j ∧ t j ≤ 127) : LnOk (catL q t N) := by
  have h0 := h.1
  refine ⟨by show 0 ≤ q.2 + (N : Int); omega, fun i hi => ?_⟩
  have hi : (i : Int) < q.2 + N := hi
  show 0 ≤ (if (i : Int) < q.2 then q.1 i else t (i - q.2.toNat)) ∧ (if (i : Int) < q.2 then q.1 i else t (i - q.2.toNat)) ≤ 127
  by_cases e : (i : Int) < q.2
  · rw [if_pos e]; exact h.2 i e
  · rw [if_neg e]; exact ht _ (by omega)
theorem LnOk.sin {q : (Nat → Int) × Int} {t : Nat → Int} {N : Nat} (h : LnOk q) (hN : q.2 = N) (hN1 : N ≤ 100) (ht : ∀ j, j < N → t j = q.1 j) : N ≤ 100 ∧ ∀ j, j < N → 0 ≤ t j ∧ t j ≤ 127 :=
  ⟨hN1, fun j hj => by rw [ht j hj]; exact h.2 j (by omega)⟩
theorem WA.comm {G : GG} {E : EE} {k n pc : Nat} {L : List (Nat × Value)} {st : List Value} {m : Mm} {A B Xs : XS} (w : WA (GX G (A ++ (B ++ Xs))) E k n pc L st m) : WA (GX G (B ++ (A ++ Xs))) E k n pc L st m := by
  have hp : (B ++ (A ++ Xs)).Perm (A ++ (B ++ Xs)) := by
    rw [← List.append_assoc, ← List.append_assoc]
    exact List.Perm.append_right Xs List.perm_append_comm
  exact WA.sub (fun x h => hp.mem_iff.mpr h) (fun h => (hp.map Prod.fst).nodup_iff.mp h) w
theorem lcmp_self (x : Int64) : lg_cmp x x = Int32.ofInt 0 := by
  have h : ¬ (x > x) := by
    simp only [gt_iff_lt, Int64.lt_iff_toInt_lt]
    omega
  unfold lg_cmp
  rw [if_neg h, if_pos rfl]
  rfl
/-- the last d steps can be undone, to R -/
def Hist (d : Int) (R : Nat → Nat → Int) (g : Gm) : Prop := (0 ≤ d ∧ d ≤ g.kt) ∧ ∀ j : Nat, (j : Int) < d → g.pa (g.kt - d + j).toNat = R j
theorem Hist.no {d z : Int} {R : Nat → Nat → Int} {g g' : Gm} (h : Hist d R g) (hs : StepOK g z g') (hz : z < 0) : Hist d R g' ∧ g'.r = g.r := by
  rcases hs.1 with ⟨-, e1, e2, e3⟩ | ⟨h1, -⟩
  · unfold Hist at *
    rw [e2, e3]
    exact ⟨h, e1⟩
  · omega
theorem Hist.yes {d z : Int} {R : Nat → Nat → Int} {g g' : Gm} (h : Hist d R g) (hs : StepOK g z g') (hz : 0 ≤ z) (hd : d ≤ 7) (hk : g.kt ≤ 8) : Hist (d + 1) (fun j => if j = d.toNat then g.r else R j) g' := by
  obtain ⟨h0, h1⟩ := h
  rcases hs.1 with ⟨h2, -⟩ | ⟨-, e2, e3⟩
  · omega
  · unfold kpG at e2 e3
    by_cases e : g.kt = 8
    · rw [if_pos e] at e2 e3
      have e2 : g'.pa = fun i : Nat => if i = 7 then g.r else g.pa (i + 1) := e2
      have e3 : g'.kt = g.kt := e3
      refine ⟨by omega, fun j hj => ?_⟩
      rw [e2, e3]
      show (if (g.kt - (d + 1) + (j : Int)).toNat = 7 then g.r else g.pa ((g.kt - (d + 1) + (j : Int)).toNat + 1)) = if j = d.toNat then g.r else R j
      by_cases ej : j = d.toNat
      · rw [if_pos (by omega), if_pos ej]
      · rw [if_neg (by omega), if_neg ej, ← h1 j (by omega)]
        exact congrArg g.pa (by omega)
    · rw [if_neg e] at e2 e3
      have e2 : g'.pa = fun i : Nat => if (i : Int) = g.kt then g.r else g.pa i := e2
      have e3 : g'.kt = g.kt + 1 := e3
      refine ⟨by omega, fun j hj => ?_⟩
      rw [e2, e3]
      show (if (((g.kt + 1 - (d + 1) + (j : Int)).toNat : Nat) : Int) = g.kt then g.r else g.pa (g.kt + 1 - (d + 1) + (j : Int)).toNat) = if j = d.toNat then g.r else R j
      by_cases ej : j = d.toNat
      · rw [if_pos (by omega), if_pos ej]
      · rw [if_neg (by omega), if_neg ej, ← h1 j (by omega)]
        exact congrArg g.pa (by omega)
theorem Hist.back {i : Int} {R : Nat → Nat → Int} {g : Gm} (h : Hist (i + 1) R g) (hi : 0 ≤ i) : 0 ≤ wr (sp_undo g) ∧ wr (sp_undo g) < g.kt ∧ (sp_undo g).2.2.r = R i.toNat ∧ Hist i R (sp_undo g).2.2 := by
  obtain ⟨h0, h1⟩ := h
  have e : ¬ g.kt = 0 := by omega
  unfold sp_undo
  rw [if_neg e]
  have e9 : ∀ (z : Int) (X : Gm), wr (0, z, X) = z := fun z X => if_pos rfl
  rw [e9]
  refine ⟨by omega, by omega, ?_, by show 0 ≤ i ∧ i ≤ g.kt - 1; omega, fun j hj => ?_⟩
  · show g.pa (g.kt - 1).toNat = _
    rw [← h1 i.toNat (by omega)]
    exact congrArg g.pa (by omega)
  · show g.pa (g.kt - 1 - i + (j : Int)).toNat = _
    rw [← h1 j (by omega)]
    exact congrArg g.pa (by omega)
set_option maxHeartbeats 3000000 in
set_option maxRecDepth 100000 in
theorem c_L_undone {G : GG} {l : Launch} (hfl : l.stackTraces = false) (hG : MW G) (hS : SBW G) {la lv : Nat → Nat} {sb sl : Nat} {xs : Nat → Int32} (hg : LGW G la lv sb sl xs) {m : Mm} {Xs : XS} {g : Gm} {T : Int} (hX : LWX T m g) (hT0 : 0 ≤ T ∧ T ≤ 990000000) (htn : g.tn = 0) : CL G l yL_undone cL_undone 10 (some .boolean) (RM 14 12300 97000) [.ref (RAW + sb), .ref 0] m (Xs) (fun r' m' Xs' => ∃ (g' : Gm), r' = some (vI 1) ∧ LWX (T + 800000) m' g') := by
  refine CL.of RL [(0, .ref (RAW + sb)), (1, .ref 0)] hfl (by decide +kernel) rfl rfl (Nat.le_of_ble_eq_true rfl) ?_
  intro E ok0 en hml hEl hnam
  have hR : e_R E = RM 14 12300 97000 := en.2.2.2
  have ok : ∀ {Xs : XS}, OK0 (GX G Xs) E RL cL_undone := fun {_} => ok0.gx
  have hn0 : 0 < (e_c E).maxLocals := by rw [hml]; decide
  have hn1 : 1 < (e_c E).maxLocals := by rw [hml]; decide
  have hn2 : 2 < (e_c E).maxLocals := by rw [hml]; decide
  have hn3 : 3 < (e_c E).maxLocals := by rw [hml]; decide
  have hn4 : 4 < (e_c E).maxLocals := by rw [hml]; decide
  have hn5 : 5 < (e_c E).maxLocals := by rw [hml]; decide
  have hn6 : 6 < (e_c E).maxLocals := by rw [hml]; decide
  have hn7 : 7 < (e_c E).maxLocals := by rw [hml]; decide
  have hn8 : 8 < (e_c E).maxLocals := by rw [hml]; decide
  have hn9 : 9 < (e_c E).maxLocals := by rw [hml]; decide
  refine ga_bipush ok dL_undone_0 (by decide) ?_
  refine gl_newl ok0 hS (N := 9) (tb_in 1218 (by decide +kernel) (by decide +kernel)) (by decide) rfl (by rw [hR]; exact Nat.le_of_ble_eq_true rfl) (by rw [hR]; exact Nat.le_of_ble_eq_true rfl) dL_undone_2 (fun q => ?_)
  refine ga_astore_n ok 2 rfl hn2 dL_undone_4 ?_
  refine ga_iconst ok dL_undone_5 ?_
  refine ga_istore_n ok 3 rfl hn3 dL_undone_6 ?_
  refine ga_iconst ok dL_undone_7 ?_
  refine ga_istore ok hn4 dL_undone_8 ?_
  have loop : ∀ (n : Nat), True → ∀ (i d : Int) (f : Nat → Int) (R : Nat → Nat → Int) (m1 : Mm) (g1 : Gm), (7 - i).toNat = n → ((0 ≤ i ∧ i ≤ 7) ∧ (0 ≤ d ∧ d ≤ i) ∧ Hist d R g1 ∧ g1.tn = 0 ∧ LWX (T + 70000 * i) m1 g1 ∧ ∀ j : Nat, (j : Int) < d → f j = smS (R j)) → WA (GX G ((q, lA G 9 f) :: Xs)) E (1 + 1300 * i.toNat) (9 + 11000 * i.toNat) 10 [(4, vI i), (3, vI d), (2, .ref (RAW + q)), (0, .ref (RAW + sb)), (1, .ref 0)] [] m1 := by
    refine wl1 _ (fun n => n) _ ?_
    intro n _ ih i d f R m1 g1 hn9 hf9
    subst hn9
    obtain ⟨hi, hd, hH, htn, hX1, hf⟩ := hf9
    have hk8 := hX1.1.2.2.1.2.1.2
    refine ga_iload ok rfl dL_undone_10 ?_
    refine ga_bipush ok dL_undone_12 (by decide) ?_
    refine ga_icmp_ge ok 376 (by decide) (by omega) (by omega) dL_undone_14 (fun c_14 => ?_) (fun c_14 => ?_)
    · clear ih
      have hi7 : i = 7 := by omega
      refine ga_iload_n ok 3 rfl rfl dL_undone_376 ?_
      refine ga_iconst ok dL_undone_377 ?_
      refine ga_isub ok dL_undone_378 ?_
      refine ga_istore ok hn4 dL_undone_379 ?_
      have loopU : ∀ (i : Int) (m1 : Mm) (g1 : Gm), ((-1 ≤ i ∧ i < d) ∧ Hist (i + 1) R g1 ∧ LWX (T + 700000 + 1000 * (d - 1 - i)) m1 g1) → WA (GX G ((q, lA G 9 f) :: Xs)) E (9200 + 430 * (d - 1 - i).toNat) (77100 + 2700 * (d - 1 - i).toNat) 381 [(4, vI i), (3, vI d), (2, .ref (RAW + q)), (0, .ref (RAW + sb)), (1, .ref 0)] [] m1 := by
        refine wl3 _ (fun i _ _ => (i + 1).toNat) _ ?_
        intro i m1 g1 hf9 ih2
        obtain ⟨hi2, hH, hX1⟩ := hf9
        refine ga_iload ok rfl dL_undone_381 ?_
        refine ga_if_lt ok 413 (by decide) (by omega) dL_undone_383 (fun c_383 => ?_) (fun c_383 => ?_)
        · refine ga_iconst ok dL_undone_413 ?_
          exact gl_ireturn ok0 en rfl (nar01 (Or.inr rfl)) (by first | decide | (simp only [RM]; omega)) (by first | decide | (simp only [RM]; omega)) dL_undone_414 ⟨_, rfl, hX1.mono (by omega)⟩
        · refine ga_aload_n ok 1 rfl rfl dL_undone_386 ?_
          refine gl_callT ok0 hG hS [.ref 0] lw_L_320 hX1.h40 (fun G9 hG9 hS9 => w_undo ok0.fl hG9 hS9 hX1 (by omega) ) rfl (by rw [hR]; exact ⟨by decide, by decide, by simp only [RM]; omega, by simp only [RM]; omega⟩) (Nat.le_of_ble_eq_true rfl) dL_undone_387 (fun r9 m2 hq9 => ?_)
          obtain ⟨rfl, hX2⟩ := hq9
          simp only [Option.toList_some, List.singleton_append]
          obtain ⟨b1, b2, b3, b4⟩ := hH.back (by omega)
          have hk8 := hX1.1.2.2.1.2.1
          refine ga_if_lt ok 405 (by decide) (by omega) dL_undone_390 (fun c_390 => ?_) (fun c_390 => ?_)
          · exact absurd c_390 (by omega)
          · refine ga_aload_n ok 1 rfl rfl dL_undone_393 ?_
            refine gl_callL ok0 [.ref 0] lk_L_301 (c_L_sum ok0.fl hG hS hX2 (by omega)) rfl (by rw [hR]; exact ⟨by decide, by decide, by simp only [RM]; omega, by simp only [RM]; omega⟩) (Nat.le_of_ble_eq_true rfl) dL_undone_394 (fun r9 m9 X9 hq9 => ?_)
            obtain ⟨rfl, hm9, hxs⟩ := hq9
            subst m9
            subst X9
            simp only [Option.toList_some, List.singleton_append]
            refine ga_aload_n ok 2 rfl rfl dL_undone_397 ?_
            refine ga_iload ok rfl dL_undone_398 ?_
            refine gl_lald ok0 hS List.mem_cons_self (by decide) (by omega) dL_undone_400 ?_
            rw [b3, hf i.toNat (by omega)]
            refine ga_lcmp ok dL_undone_401 (lcmp_self _) ?_
            refine ga_if_eq ok 407 (by decide) (by omega) dL_undone_402 (fun c_402 => ?_) (fun c_402 => ?_)
            · refine ga_iinc ok rfl hn4 dL_undone_407 ?_
              refine ga_goto ok 381 (by decide) dL_undone_410 ?_
              refine WA.wd (k2 := 9200 + 430 * (d - 1 - (i + -1)).toNat) (n2 := 77100 + 2700 * (d - 1 - (i + -1)).toNat) (by first | omega | (simp only [RM]; omega)) (by first | omega | (simp only [RM]; omega)) ?_
              exact WA.re (by exact ⟨rfl, rfl, rfl, rfl, rfl, trivial⟩) (ih2 (i + -1) m2 _ ⟨by omega, by rw [show i + -1 + 1 = i by omega]; exact b4, by rw [show d - 1 - (i + -1) = d - 1 - i + 1 by omega]; exact hX2.mono (by omega)⟩ (by omega))
            · exact absurd rfl c_402
      refine WA.wd (k2 := 9200 + 430 * (d - 1 - (d - 1)).toNat) (n2 := 77100 + 2700 * (d - 1 - (d - 1)).toNat) (by first | omega | (simp only [RM]; omega)) (by first | omega | (simp only [RM]; omega)) ?_
      exact WA.re (by exact ⟨rfl, rfl, rfl, rfl, rfl, trivial⟩) (loopU (d - 1) m1 g1 ⟨by omega, by rw [show d - 1 + 1 = d by omega]; exact hH, hX1.mono (by omega)⟩)
    · refine ga_aload_n ok 0 rfl rfl dL_undone_17 ?_
      refine ga_bipush ok dL_undone_18 (by decide) ?_
      refine ga_iload ok rfl dL_undone_20 ?_
      refine ga_iadd ok dL_undone_22 ?_
      refine gl_callL ok0 [.ref (RAW + sb), vI (32 + i)] lk_L_152 (c_L_cell ok0.fl hG hS hg (by omega)) rfl (by rw [hR]; exact ⟨by decide, by decide, by simp only [RM]; omega, by simp only [RM]; omega⟩) (Nat.le_of_ble_eq_true rfl) dL_undone_23 (fun r9 m9 X9 hq9 => ?_)
      obtain ⟨rfl, hm9, hxs⟩ := hq9
      subst m9
      subst X9
      simp only [Option.toList_some, List.singleton_append]
      refine ga_iconst ok dL_undone_26 ?_
      refine ga_iushrZ ok dL_undone_27 ?_
      obtain ⟨c, hc⟩ : ∃ c, c = zShr (cel xs sl (32 + i)) 1 := ⟨_, rfl⟩
      have hcr := zShr_rng (x := cel xs sl (32 + i)) (k := 1) (by omega)
      rw [← hc] at hcr ⊢
      refine ga_istore ok hn5 dL_undone_28 ?_
      refine ga_iload ok rfl dL_undone_30 ?_
      refine ga_iconst ok dL_undone_32 ?_
      refine ga_iushrZ ok dL_undone_33 ?_
      obtain ⟨e, he⟩ : ∃ e, e = zShr c 4 := ⟨_, rfl⟩
      have her := zShr_rng (x := c) (k := 4) (by omega)
      rw [← he] at her ⊢
      have he3 := zShr_rng (x := e) (k := 3) (by omega)
      have he6 := zShr_rng (x := e) (k := 6) (by omega)
      refine ga_istore ok hn6 dL_undone_34 ?_
      refine ga_iload ok rfl dL_undone_36 ?_
      refine ga_iconst ok dL_undone_38 ?_
      refine ga_irem ok dL_undone_39 (by omega) (by omega) ?_
      obtain ⟨a, ha⟩ : ∃ a, a = e % 5 := ⟨_, rfl⟩
      rw [← ha]
      refine ga_istore ok hn7 dL_undone_40 ?_
      refine ga_iload ok rfl dL_undone_42 ?_
      refine ga_iconst ok dL_undone_44 ?_
      refine ga_iushrZ ok dL_undone_45 ?_
      refine ga_bipush ok dL_undone_46 (by decide) ?_
      refine ga_irem ok dL_undone_48 (by omega) (by omega) ?_
      obtain ⟨b, hb⟩ : ∃ b, b = zShr e 3 % 11 := ⟨_, rfl⟩
      rw [← hb]
      refine ga_istore ok hn8 dL_undone_49 ?_
      refine ga_aload_n ok 2 rfl rfl dL_undone_51 ?_
      refine ga_iload_n ok 3 rfl rfl dL_undone_52 ?_
      refine ga_aload_n ok 1 rfl rfl dL_undone_53 ?_
      refine gl_callL ok0 [.ref 0] lk_L_301 (c_L_sum ok0.fl hG hS hX1 (by omega)) rfl (by rw [hR]; exact ⟨by decide, by decide, by simp only [RM]; omega, by simp only [RM]; omega⟩) (Nat.le_of_ble_eq_true rfl) dL_undone_54 (fun r9 m9 X9 hq9 => ?_)
      obtain ⟨rfl, hm9, hxs⟩ := hq9
      subst m9
      subst X9
      simp only [Option.toList_some, List.singleton_append]
      refine gl_last ok0 hS (by decide) (by omega) dL_undone_57 ?_
      have tail : ∀ (z : Int) (m2 : Mm) (g2 : Gm), StepOK g1 z g2 → LWX (T + 70000 * i + 65000) m2 g2 → WA (GX G ((q, lA G 9 (fun j => if j = d.toNat then smS g1.r else f j)) :: Xs)) E (1 + 1300 * i.toNat + 420 + 400) (9 + 11000 * i.toNat + 2600 + 5700) 339 [(9, vI z), (4, vI i), (3, vI d), (2, .ref (RAW + q)), (0, .ref (RAW + sb)), (1, .ref 0)] [] m2 := by
        intro z m2 g2 hst hX2
        refine ga_iload ok rfl dL_undone_339 ?_
        refine ga_if_ge ok 357 (by decide) (by have := hst.2.1; omega) dL_undone_341 (fun c_341 => ?_) (fun c_341 => ?_)
        · refine ga_iload_n ok 3 rfl rfl dL_undone_357 ?_
          refine ga_iload ok rfl dL_undone_358 ?_
          refine ga_if_ge ok 367 (by decide) (by have := hst.2.1; omega) dL_undone_360 (fun c_360 => ?_) (fun c_360 => ?_)
          · refine ga_iconst ok dL_undone_367 ?_
            refine ga_iadd ok dL_undone_368 ?_
            refine ga_istore_n ok 3 rfl hn3 dL_undone_369 ?_
            refine ga_iinc ok rfl hn4 dL_undone_370 ?_
            refine ga_goto ok 10 (by decide) dL_undone_373 ?_
            refine WA.wd (k2 := 1 + 1300 * (i + 1).toNat) (n2 := 9 + 11000 * (i + 1).toNat) (by first | omega | (simp only [RM]; omega)) (by first | omega | (simp only [RM]; omega)) ?_
            exact WA.re (by exact ⟨rfl, rfl, rfl, rfl, rfl, trivial⟩) (ih _ (by trivial) (by omega) (i + 1) (d + 1) _ _ m2 g2 rfl ⟨by omega, by omega, hH.yes hst c_341 (by omega) hk8, by rw [hst.2.2]; exact htn, hX2.mono (by omega), fun j hj => by
              by_cases ej : j = d.toNat
              · rw [if_pos ej, if_pos ej]
              · rw [if_neg ej, if_neg ej]; exact hf j (by omega)⟩)
          · exact absurd c_341 (by omega)
        · refine ga_aload_n ok 1 rfl rfl dL_undone_344 ?_
          refine gl_callL ok0 [.ref 0] lk_L_301 (c_L_sum ok0.fl hG hS hX2 (by omega)) rfl (by rw [hR]; exact ⟨by decide, by decide, by simp only [RM]; omega, by simp only [RM]; omega⟩) (Nat.le_of_ble_eq_true rfl) dL_undone_345 (fun r9 m9 X9 hq9 => ?_)
          obtain ⟨rfl, hm9, hxs⟩ := hq9
          subst m9
          subst X9
          simp only [Option.toList_some, List.singleton_append]
          refine ga_aload_n ok 2 rfl rfl dL_undone_348 ?_
          refine ga_iload_n ok 3 rfl rfl dL_undone_349 ?_
          refine gl_lald ok0 hS List.mem_cons_self (by decide) (by omega) dL_undone_350 ?_
          rw [if_pos rfl, show smS g2.r = smS g1.r by rw [(hH.no hst (by omega)).2]]
          refine ga_lcmp ok dL_undone_351 (lcmp_self _) ?_
          refine ga_if_eq ok 357 (by decide) (by omega) dL_undone_352 (fun c_352 => ?_) (fun c_352 => ?_)
          · refine ga_iload_n ok 3 rfl rfl dL_undone_357 ?_
            refine ga_iload ok rfl dL_undone_358 ?_
            refine ga_if_ge ok 367 (by decide) (by have := hst.2.1; omega) dL_undone_360 (fun c_360 => ?_) (fun c_360 => ?_)
            · exact absurd c_360 (by omega)
            · refine ga_iconst ok dL_undone_363 ?_
              refine ga_goto ok 368 (by decide) dL_undone_364 ?_
              refine ga_iadd ok dL_undone_368 ?_
              refine ga_istore_n ok 3 rfl hn3 dL_undone_369 ?_
              refine ga_iinc ok rfl hn4 dL_undone_370 ?_
              refine ga_goto ok 10 (by decide) dL_undone_373 ?_
              refine WA.wd (k2 := 1 + 1300 * (i + 1).toNat) (n2 := 9 + 11000 * (i + 1).toNat) (by first | omega | (simp only [RM]; omega)) (by first | omega | (simp only [RM]; omega)) ?_
              rw [show d + 0 = d by omega]
              exact WA.re (by exact ⟨rfl, rfl, rfl, rfl, rfl, trivial⟩) (ih _ (by trivial) (by omega) (i + 1) d _ R m2 g2 rfl ⟨by omega, by omega, (hH.no hst (by omega)).1, by rw [hst.2.2]; exact htn, hX2.mono (by omega), fun j hj => by rw [if_neg (by omega)]; exact hf j hj⟩)
          · exact absurd rfl c_352
      refine ga_iload ok rfl dL_undone_58 ?_
      refine ga_bipush ok dL_undone_60 (by decide) ?_
      refine ga_irem ok dL_undone_62 (by omega) (by omega) ?_
      obtain ⟨w9, hw9⟩ : ∃ w, w = c % 9 := ⟨_, rfl⟩
      rw [← hw9]
      rcases (show w9 = 0 ∨ w9 = 1 ∨ w9 = 2 ∨ w9 = 3 ∨ w9 = 4 ∨ w9 = 5 ∨ w9 = 6 ∨ w9 = 7 ∨ (w9 < 0 ∨ 7 < w9) by omega) with rfl | rfl | rfl | rfl | rfl | rfl | rfl | rfl | hout
      · refine ga_tableIn (off := 45) ok 108 (by decide) (by decide) (by decide) (by decide) dL_undone_63 ?_
        refine ga_aload_n ok 1 rfl rfl dL_undone_108 ?_
        refine ga_iload ok rfl dL_undone_109 ?_
        refine ga_bipush ok dL_undone_111 (by decide) ?_
        refine ga_iushrZ ok dL_undone_113 ?_
        refine ga_bipush ok dL_undone_114 (by decide) ?_
        refine ga_irem ok dL_undone_116 (by omega) (by omega) ?_
        refine gl_callT ok0 hG hS [.ref 0, vI (zShr e 6 % 66)] lw_L_156 hX1.h40 (fun G9 hG9 hS9 => w_guard ok0.fl hG9 hS9 hX1 (by omega) (by omega)) rfl (by rw [hR]; exact ⟨by decide, by decide, by simp only [RM]; omega, by simp only [RM]; omega⟩) (Nat.le_of_ble_eq_true rfl) dL_undone_117 (fun r9 m2 hq9 => ?_)
        obtain ⟨rfl, hX2⟩ := hq9
        simp only [Option.toList_some, List.singleton_append]
        refine ga_istore ok hn9 dL_undone_120 ?_
        refine ga_goto ok 339 (by decide) dL_undone_122 ?_
        refine WA.wd (k2 := 1 + 1300 * i.toNat + 420 + 400) (n2 := 9 + 11000 * i.toNat + 2600 + 5700) (by first | omega | (simp only [RM]; omega)) (by first | omega | (simp only [RM]; omega)) ?_
        exact WA.re (by exact ⟨rfl, rfl, rfl, rfl, rfl, rfl, trivial⟩) (tail _ _ _ (st_guard hX1.O _) (hX2.mono (by omega)))
      · refine ga_tableIn (off := 62) ok 125 (by decide) (by decide) (by decide) (by decide) dL_undone_63 ?_
        refine ga_aload_n ok 1 rfl rfl dL_undone_125 ?_
        refine ga_iload ok rfl dL_undone_126 ?_
        refine ga_iload ok rfl dL_undone_128 ?_
        refine ga_bipush ok dL_undone_130 (by decide) ?_
        refine ga_iushrZ ok dL_undone_132 ?_
        refine ga_bipush ok dL_undone_133 (by decide) ?_
        refine ga_irem ok dL_undone_135 (by omega) (by omega) ?_
        refine gl_callT ok0 hG hS [.ref 0, vI a, vI (zShr e 6 % 66)] lw_L_305 hX1.h40 (fun G9 hG9 hS9 => w_rate ok0.fl hG9 hS9 hX1 (by omega) (by omega) (by omega)) rfl (by rw [hR]; exact ⟨by decide, by decide, by simp only [RM]; omega, by simp only [RM]; omega⟩) (Nat.le_of_ble_eq_true rfl) dL_undone_136 (fun r9 m2 hq9 => ?_)
        obtain ⟨rfl, hX2⟩ := hq9
        simp only [Option.toList_some, List.singleton_append]
        refine ga_istore ok hn9 dL_undone_139 ?_
        refine ga_goto ok 339 (by decide) dL_undone_141 ?_
        refine WA.wd (k2 := 1 + 1300 * i.toNat + 420 + 400) (n2 := 9 + 11000 * i.toNat + 2600 + 5700) (by first | omega | (simp only [RM]; omega)) (by first | omega | (simp only [RM]; omega)) ?_
        exact WA.re (by exact ⟨rfl, rfl, rfl, rfl, rfl, rfl, trivial⟩) (tail _ _ _ (st_rate hX1.O _ _) (hX2.mono (by omega)))
      · refine ga_tableIn (off := 81) ok 144 (by decide) (by decide) (by decide) (by decide) dL_undone_63 ?_
        refine ga_aload_n ok 1 rfl rfl dL_undone_144 ?_
        refine ga_iload ok rfl dL_undone_145 ?_
        refine ga_iload ok rfl dL_undone_147 ?_
        refine ga_bipush ok dL_undone_149 (by decide) ?_
        refine ga_iushrZ ok dL_undone_151 ?_
        refine ga_sipush ok dL_undone_152 (by decide) ?_
        refine ga_irem ok dL_undone_155 (by omega) (by omega) ?_
        refine ga_iconst ok dL_undone_156 ?_
        refine ga_isub ok dL_undone_157 ?_
        refine gl_callT ok0 hG hS [.ref 0, vI a, vI (zShr e 6 % 260 - 2)] lw_L_159 hX1.h40 (fun G9 hG9 hS9 => w_caution ok0.fl hG9 hS9 hX1 (by omega) (by omega) (by omega)) rfl (by rw [hR]; exact ⟨by decide, by decide, by simp only [RM]; omega, by simp only [RM]; omega⟩) (Nat.le_of_ble_eq_true rfl) dL_undone_158 (fun r9 m2 hq9 => ?_)
        obtain ⟨rfl, hX2⟩ := hq9
        simp only [Option.toList_some, List.singleton_append]
        refine ga_istore ok hn9 dL_undone_161 ?_
        refine ga_goto ok 339 (by decide) dL_undone_163 ?_
        refine WA.wd (k2 := 1 + 1300 * i.toNat + 420 + 400) (n2 := 9 + 11000 * i.toNat + 2600 + 5700) (by first | omega | (simp only [RM]; omega)) (by first | omega | (simp only [RM]; omega)) ?_
        exact WA.re (by exact ⟨rfl, rfl, rfl, rfl, rfl, rfl, trivial⟩) (tail _ _ _ (st_caution hX1.O _ _) (hX2.mono (by omega)))
      · refine ga_tableIn (off := 103) ok 166 (by decide) (by decide) (by decide) (by decide) dL_undone_63 ?_
        refine ga_aload_n ok 1 rfl rfl dL_undone_166 ?_
        refine ga_iload ok rfl dL_undone_167 ?_
        refine ga_bipush ok dL_undone_169 (by decide) ?_
        refine ga_iushrZ ok dL_undone_171 ?_
        refine ga_sipush ok dL_undone_172 (by decide) ?_
        refine ga_irem ok dL_undone_175 (by omega) (by omega) ?_
        refine ga_iload ok rfl dL_undone_176 ?_
        refine ga_iconst ok dL_undone_178 ?_
        refine ga_irem ok dL_undone_179 (by omega) (by omega) ?_
        refine ga_if_ne ok 187 (by decide) (by omega) dL_undone_180 (fun c_180 => ?_) (fun c_180 => ?_)
        · refine ga_iconst ok dL_undone_187 ?_
          refine gl_callT ok0 hG hS [.ref 0, vI (zShr e 6 % 1026), vI 0] lw_L_162 hX1.h40 (fun G9 hG9 hS9 => w_visitor ok0.fl hG9 hS9 hX1 (by omega) (by omega) (by omega)) rfl (by rw [hR]; exact ⟨by decide, by decide, by simp only [RM]; omega, by simp only [RM]; omega⟩) (Nat.le_of_ble_eq_true rfl) dL_undone_188 (fun r9 m2 hq9 => ?_)
          obtain ⟨rfl, hX2⟩ := hq9
          simp only [Option.toList_some, List.singleton_append]
          refine ga_istore ok hn9 dL_undone_191 ?_
          refine ga_goto ok 339 (by decide) dL_undone_193 ?_
          refine WA.wd (k2 := 1 + 1300 * i.toNat + 420 + 400) (n2 := 9 + 11000 * i.toNat + 2600 + 5700) (by first | omega | (simp only [RM]; omega)) (by first | omega | (simp only [RM]; omega)) ?_
          exact WA.re (by exact ⟨rfl, rfl, rfl, rfl, rfl, rfl, trivial⟩) (tail _ _ _ (st_visitor hX1.O _ _) (hX2.mono (by omega)))
        · refine ga_iconst ok dL_undone_183 ?_
          refine ga_goto ok 188 (by decide) dL_undone_184 ?_
          refine gl_callT ok0 hG hS [.ref 0, vI (zShr e 6 % 1026), vI 1] lw_L_162 hX1.h40 (fun G9 hG9 hS9 => w_visitor ok0.fl hG9 hS9 hX1 (by omega) (by omega) (by omega)) rfl (by rw [hR]; exact ⟨by decide, by decide, by simp only [RM]; omega, by simp only [RM]; omega⟩) (Nat.le_of_ble_eq_true rfl) dL_undone_188 (fun r9 m2 hq9 => ?_)
          obtain ⟨rfl, hX2⟩ := hq9
          simp only [Option.toList_some, List.singleton_append]
          refine ga_istore ok hn9 dL_undone_191 ?_
          refine ga_goto ok 339 (by decide) dL_undone_193 ?_
          refine WA.wd (k2 := 1 + 1300 * i.toNat + 420 + 400) (n2 := 9 + 11000 * i.toNat + 2600 + 5700) (by first | omega | (simp only [RM]; omega)) (by first | omega | (simp only [RM]; omega)) ?_
          exact WA.re (by exact ⟨rfl, rfl, rfl, rfl, rfl, rfl, trivial⟩) (tail _ _ _ (st_visitor hX1.O _ _) (hX2.mono (by omega)))
      · refine ga_tableIn (off := 133) ok 196 (by decide) (by decide) (by decide) (by decide) dL_undone_63 ?_
        refine ga_aload_n ok 1 rfl rfl dL_undone_196 ?_
        refine ga_iload ok rfl dL_undone_197 ?_
        refine gl_callT ok0 hG hS [.ref 0, vI b] lw_L_307 hX1.h40 (fun G9 hG9 hS9 => w_forget ok0.fl hG9 hS9 hX1 (by omega) (by omega)) rfl (by rw [hR]; exact ⟨by decide, by decide, by simp only [RM]; omega, by simp only [RM]; omega⟩) (Nat.le_of_ble_eq_true rfl) dL_undone_199 (fun r9 m2 hq9 => ?_)
        obtain ⟨rfl, hX2⟩ := hq9
        simp only [Option.toList_some, List.singleton_append]
        refine ga_istore ok hn9 dL_undone_202 ?_
        refine ga_goto ok 339 (by decide) dL_undone_204 ?_
        refine WA.wd (k2 := 1 + 1300 * i.toNat + 420 + 400) (n2 := 9 + 11000 * i.toNat + 2600 + 5700) (by first | omega | (simp only [RM]; omega)) (by first | omega | (simp only [RM]; omega)) ?_
        exact WA.re (by exact ⟨rfl, rfl, rfl, rfl, rfl, rfl, trivial⟩) (tail _ _ _ (st_forget hX1.O _) (hX2.mono (by omega)))
      · refine ga_tableIn (off := 144) ok 207 (by decide) (by decide) (by decide) (by decide) dL_undone_63 ?_
        refine ga_aload_n ok 1 rfl rfl dL_undone_207 ?_
        refine ga_iload ok rfl dL_undone_208 ?_
        refine ga_iload ok rfl dL_undone_210 ?_
        refine gl_callT ok0 hG hS [.ref 0, vI a, vI b] lw_L_171 hX1.h40 (fun G9 hG9 hS9 => w_teach ok0.fl hG9 hS9 hX1 (by omega) (by omega) (by omega)) rfl (by rw [hR]; exact ⟨by decide, by decide, by simp only [RM]; omega, by simp only [RM]; omega⟩) (Nat.le_of_ble_eq_true rfl) dL_undone_212 (fun r9 m2 hq9 => ?_)
        obtain ⟨rfl, hX2⟩ := hq9
        simp only [Option.toList_some, List.singleton_append]
        refine ga_istore ok hn9 dL_undone_215 ?_
        refine ga_goto ok 339 (by decide) dL_undone_217 ?_
        refine WA.wd (k2 := 1 + 1300 * i.toNat + 420 + 400) (n2 := 9 + 11000 * i.toNat + 2600 + 5700) (by first | omega | (simp only [RM]; omega)) (by first | omega | (simp only [RM]; omega)) ?_
        exact WA.re (by exact ⟨rfl, rfl, rfl, rfl, rfl, rfl, trivial⟩) (tail _ _ _ (st_teach _ _) (hX2.mono (by omega)))
      · refine ga_tableIn (off := 157) ok 220 (by decide) (by decide) (by decide) (by decide) dL_undone_63 ?_
        refine ga_aload_n ok 1 rfl rfl dL_undone_220 ?_
        refine ga_iload ok rfl dL_undone_221 ?_
        refine gl_callT ok0 hG hS [.ref 0, vI a] lw_L_173 hX1.h40 (fun G9 hG9 hS9 => w_day ok0.fl hG9 hS9 hX1 (by omega) (by omega)) rfl (by rw [hR]; exact ⟨by decide, by decide, by simp only [RM]; omega, by simp only [RM]; omega⟩) (Nat.le_of_ble_eq_true rfl) dL_undone_223 (fun r9 m2 hq9 => ?_)
        obtain ⟨rfl, hX2⟩ := hq9
        simp only [Option.toList_some, List.singleton_append]
        refine ga_istore ok hn9 dL_undone_226 ?_
        refine ga_goto ok 339 (by decide) dL_undone_228 ?_
        refine WA.wd (k2 := 1 + 1300 * i.toNat + 420 + 400) (n2 := 9 + 11000 * i.toNat + 2600 + 5700) (by first | omega | (simp only [RM]; omega)) (by first | omega | (simp only [RM]; omega)) ?_
        exact WA.re (by exact ⟨rfl, rfl, rfl, rfl, rfl, rfl, trivial⟩) (tail _ _ _ (st_day hX1.O (by omega) _) (hX2.mono (by omega)))
      · refine ga_tableIn (off := 168) ok 231 (by decide) (by decide) (by decide) (by decide) dL_undone_63 ?_
        refine ga_aload_n ok 1 rfl rfl dL_undone_231 ?_
        refine ga_iload ok rfl dL_undone_232 ?_
        refine ga_iload ok rfl dL_undone_234 ?_
        refine ga_bipush ok dL_undone_236 (by decide) ?_
        refine ga_iushrZ ok dL_undone_238 ?_
        refine ga_bipush ok dL_undone_239 (by decide) ?_
        refine ga_irem ok dL_undone_241 (by omega) (by omega) ?_
        refine gl_callT ok0 hG hS [.ref 0, vI a, vI (zShr e 6 % 33)] lw_L_175 hX1.h40 (fun G9 hG9 hS9 => w_days ok0.fl hG9 hS9 hX1 (by omega) (by omega) (by omega)) rfl (by rw [hR]; exact ⟨by decide, by decide, by simp only [RM]; omega, by simp only [RM]; omega⟩) (Nat.le_of_ble_eq_true rfl) dL_undone_242 (fun r9 m2 hq9 => ?_)
        obtain ⟨rfl, hX2⟩ := hq9
        simp only [Option.toList_some, List.singleton_append]
        refine ga_istore ok hn9 dL_undone_245 ?_
        refine ga_goto ok 339 (by decide) dL_undone_247 ?_
        refine WA.wd (k2 := 1 + 1300 * i.toNat + 420 + 400) (n2 := 9 + 11000 * i.toNat + 2600 + 5700) (by first | omega | (simp only [RM]; omega)) (by first | omega | (simp only [RM]; omega)) ?_
        exact WA.re (by exact ⟨rfl, rfl, rfl, rfl, rfl, rfl, trivial⟩) (tail _ _ _ (st_days hX1.O _ _) (hX2.mono (by omega)))
      · refine ga_tableOut ok 250 (by omega) hout (by decide) dL_undone_63 ?_
        refine ga_aload_n ok 1 rfl rfl dL_undone_250 ?_
        refine gl_newSB ok0 hS (hg.at ok0).2.2 cl_SB ci_SB cn_SB li_L_213 (by rw [hR]; first | omega | (simp only [RM]; omega)) (by rw [hR]; first | omega | (simp only [RM]; omega)) (by rw [hR]; exact ⟨by decide, by decide⟩) (Nat.le_of_ble_eq_true rfl) dL_undone_251 dL_undone_254 dL_undone_255 (fun a0 => ?_)
        obtain ⟨M0, hM0⟩ : ∃ M, M = m00 ((a0 + 1 : Nat) : Int) := ⟨_, rfl⟩
        have hb0 : BLs M0 ln0 := by rw [hM0]; exact m00_bls _ (by omega)
        rw [← hM0]
        obtain ⟨Q0, hQ0⟩ : ∃ Q, Q = ln0 := ⟨_, rfl⟩
        rw [← hQ0] at hb0
        have hl0 : LnOk Q0 := by rw [hQ0]; exact LnOk.z
        have hs0 : Q0.2 = 0 := by rw [hQ0]; rfl
        refine gl_ldcSW ok0 hS rfl hg.1 4 (q := litL[4]) rfl dL_undone_258 ?_
        refine gl_callSB ok0 hS [.ref (RAW + la 4)] [(la 4, lv 4, lch [103], 1)] lv_L_216 rfl hb0.2.1 (fun x h => Or.inr ⟨_, List.mem_singleton.mp h⟩) (fun x h => by rw [List.mem_singleton.mp h]; exact (show SIN G _ (la 4) (lv 4) (lch [103]) 1 from hg.1.sin (i := 4) rfl)) (fun G9 hS9 hd9 h9 => c_J4_appendS (s := la 4) (v := lv 4) (t := lch [103]) (N := 1) ok0.fl trivial hS9 (h9 _ (List.mem_singleton.mpr rfl)) hd9 hb0 (by omega)) rfl (by rw [hR]; exact ⟨by decide, by decide, by simp only [RM]; omega, by simp only [RM]; omega⟩) (Nat.le_of_ble_eq_true rfl) dL_undone_261 (fun M1 hb1 => ?_)
        replace hb1 := hb1.1
        have hl1 := hl0.cat (t := lch [103]) (N := 1) ((show SIN G [] (la 4) (lv 4) (lch [103]) 1 from hg.1.sin (i := 4) rfl)).1.2
        obtain ⟨Q1, hQ1⟩ : ∃ Q, Q = catL Q0 (lch [103]) ((1 : Nat) : Int) := ⟨_, rfl⟩
        rw [show catL Q0 (lch [103]) ((1 : Nat) : Int) = Q1 from hQ1.symm] at hb1 hl1
        have hs1 : Q1.2 = Q0.2 + 1 := by rw [hQ1]; rfl
        refine ga_iconst ok dL_undone_264 ?_
        refine ga_iload ok rfl dL_undone_265 ?_
        refine ga_iadd ok dL_undone_267 ?_
        refine gl_callSB ok0 hS [vI (1 + b)] [] lv_L_219 rfl hb1.2.1 (fun x h => Or.inl ⟨_, List.mem_singleton.mp h⟩) (fun x h => absurd h List.not_mem_nil) (fun G9 hS9 hd9 h9 => c_J4_appendI ok0.fl trivial hS9 hb1 (by omega) (by omega)) rfl (by rw [hR]; exact ⟨by decide, by decide, by simp only [RM]; omega, by simp only [RM]; omega⟩) (Nat.le_of_ble_eq_true rfl) dL_undone_268 (fun M2 hb2 => ?_)
        replace hb2 := hb2.1
        have hl2 := hl1.num (v := (1 + b))
        have hs2 := numL_2 Q1 (1 + b)
        obtain ⟨Q2, hQ2⟩ : ∃ Q, Q = numL Q1 (1 + b) := ⟨_, rfl⟩
        rw [← hQ2] at hb2 hl2 hs2
        refine gl_ldcSW ok0 hS rfl hg.1 5 (q := litL[5]) rfl dL_undone_271 ?_
        refine gl_callSB ok0 hS [.ref (RAW + la 5)] [(la 5, lv 5, lch [59, 43], 2)] lv_L_216 rfl hb2.2.1 (fun x h => Or.inr ⟨_, List.mem_singleton.mp h⟩) (fun x h => by rw [List.mem_singleton.mp h]; exact (show SIN G _ (la 5) (lv 5) (lch [59, 43]) 2 from hg.1.sin (i := 5) rfl)) (fun G9 hS9 hd9 h9 => c_J4_appendS (s := la 5) (v := lv 5) (t := lch [59, 43]) (N := 2) ok0.fl trivial hS9 (h9 _ (List.mem_singleton.mpr rfl)) hd9 hb2 (by omega)) rfl (by rw [hR]; exact ⟨by decide, by decide, by simp only [RM]; omega, by simp only [RM]; omega⟩) (Nat.le_of_ble_eq_true rfl) dL_undone_274 (fun M3 hb3 => ?_)
        replace hb3 := hb3.1
        have hl3 := hl2.cat (t := lch [59, 43]) (N := 2) ((show SIN G [] (la 5) (lv 5) (lch [59, 43]) 2 from hg.1.sin (i := 5) rfl)).1.2
        obtain ⟨Q3, hQ3⟩ : ∃ Q, Q = catL Q2 (lch [59, 43]) ((2 : Nat) : Int) := ⟨_, rfl⟩
        rw [show catL Q2 (lch [59, 43]) ((2 : Nat) : Int) = Q3 from hQ3.symm] at hb3 hl3
        have hs3 : Q3.2 = Q2.2 + 2 := by rw [hQ3]; rfl
        refine ga_bipush ok dL_undone_277 (by decide) ?_
        refine ga_iload ok rfl dL_undone_279 ?_
        refine ga_iadd ok dL_undone_281 ?_
        refine ga_i2c ok dL_undone_282 ?_
        refine gl_callSB ok0 hS [vI ((97 + a) % 65536)] [] lv_L_280 rfl hb3.2.1 (fun x h => Or.inl ⟨_, List.mem_singleton.mp h⟩) (fun x h => absurd h List.not_mem_nil) (fun G9 hS9 hd9 h9 => c_J4_appendC ok0.fl trivial hS9 hb3 (by omega) (by omega)) rfl (by rw [hR]; exact ⟨by decide, by decide, by simp only [RM]; omega, by simp only [RM]; omega⟩) (Nat.le_of_ble_eq_true rfl) dL_undone_283 (fun M4 hb4 => ?_)
        replace hb4 := hb4.1
        have hl4 := hl3.put (c := ((97 + a) % 65536)) (by omega)
        obtain ⟨Q4, hQ4⟩ : ∃ Q, Q = putL Q3 ((97 + a) % 65536) := ⟨_, rfl⟩
        rw [← hQ4] at hb4 hl4
        have hs4 : Q4.2 = Q3.2 + 1 := by rw [hQ4]; rfl
        refine gl_ldcSW ok0 hS rfl hg.1 6 (q := litL[6]) rfl dL_undone_286 ?_
        refine gl_callSB ok0 hS [.ref (RAW + la 6)] [(la 6, lv 6, lch [106, 59, 116, 48, 58, 48, 59, 100, 48], 9)] lv_L_216 rfl hb4.2.1 (fun x h => Or.inr ⟨_, List.mem_singleton.mp h⟩) (fun x h => by rw [List.mem_singleton.mp h]; exact (show SIN G _ (la 6) (lv 6) (lch [106, 59, 116, 48, 58, 48, 59, 100, 48]) 9 from hg.1.sin (i := 6) rfl)) (fun G9 hS9 hd9 h9 => c_J4_appendS (s := la 6) (v := lv 6) (t := lch [106, 59, 116, 48, 58, 48, 59, 100, 48]) (N := 9) ok0.fl trivial hS9 (h9 _ (List.mem_singleton.mpr rfl)) hd9 hb4 (by omega)) rfl (by rw [hR]; exact ⟨by decide, by decide, by simp only [RM]; omega, by simp only [RM]; omega⟩) (Nat.le_of_ble_eq_true rfl) dL_undone_289 (fun M5 hb5 => ?_)
        replace hb5 := hb5.1
        have hl5 := hl4.cat (t := lch [106, 59, 116, 48, 58, 48, 59, 100, 48]) (N := 9) ((show SIN G [] (la 6) (lv 6) (lch [106, 59, 116, 48, 58, 48, 59, 100, 48]) 9 from hg.1.sin (i := 6) rfl)).1.2
        obtain ⟨Q5, hQ5⟩ : ∃ Q, Q = catL Q4 (lch [106, 59, 116, 48, 58, 48, 59, 100, 48]) ((9 : Nat) : Int) := ⟨_, rfl⟩
        rw [show catL Q4 (lch [106, 59, 116, 48, 58, 48, 59, 100, 48]) ((9 : Nat) : Int) = Q5 from hQ5.symm] at hb5 hl5
        have hs5 : Q5.2 = Q4.2 + 9 := by rw [hQ5]; rfl
        refine ga_iload ok rfl dL_undone_292 ?_
        refine ga_bipush ok dL_undone_294 (by decide) ?_
        refine ga_irem ok dL_undone_296 (by omega) (by omega) ?_
        refine ga_bipush ok dL_undone_297 (by decide) ?_
        refine ga_icmp_ge ok 307 (by decide) (by omega) (by omega) dL_undone_299 (fun c_299 => ?_) (fun c_299 => ?_)
        · refine gl_newSB ok0 hS (hg.at ok0).2.2 cl_SB ci_SB cn_SB li_L_213 (by rw [hR]; first | omega | (simp only [RM]; omega)) (by rw [hR]; first | omega | (simp only [RM]; omega)) (by rw [hR]; exact ⟨by decide, by decide⟩) (Nat.le_of_ble_eq_true rfl) dL_undone_307 dL_undone_310 dL_undone_311 (fun a10 => ?_)
          obtain ⟨M10, hM10⟩ : ∃ M, M = m00 ((a10 + 1 : Nat) : Int) := ⟨_, rfl⟩
          have hb10 : BLs M10 ln0 := by rw [hM10]; exact m00_bls _ (by omega)
          rw [← hM10]
          obtain ⟨Q10, hQ10⟩ : ∃ Q, Q = ln0 := ⟨_, rfl⟩
          rw [← hQ10] at hb10
          have hl10 : LnOk Q10 := by rw [hQ10]; exact LnOk.z
          have hs10 : Q10.2 = 0 := by rw [hQ10]; rfl
          refine gl_ldcSW ok0 hS rfl hg.1 7 (q := litL[7]) rfl dL_undone_314 ?_
          refine gl_callSB ok0 hS [.ref (RAW + la 7)] [(la 7, lv 7, lch [59, 120], 2)] lv_L_216 rfl hb10.2.1 (fun x h => Or.inr ⟨_, List.mem_singleton.mp h⟩) (fun x h => by rw [List.mem_singleton.mp h]; exact (show SIN G _ (la 7) (lv 7) (lch [59, 120]) 2 from hg.1.sin (i := 7) rfl)) (fun G9 hS9 hd9 h9 => c_J4_appendS (s := la 7) (v := lv 7) (t := lch [59, 120]) (N := 2) ok0.fl trivial hS9 (h9 _ (List.mem_singleton.mpr rfl)) hd9 hb10 (by omega)) rfl (by rw [hR]; exact ⟨by decide, by decide, by simp only [RM]; omega, by simp only [RM]; omega⟩) (Nat.le_of_ble_eq_true rfl) dL_undone_317 (fun M11 hb11 => ?_)
          replace hb11 := hb11.1
          have hl11 := hl10.cat (t := lch [59, 120]) (N := 2) ((show SIN G [] (la 7) (lv 7) (lch [59, 120]) 2 from hg.1.sin (i := 7) rfl)).1.2
          obtain ⟨Q11, hQ11⟩ : ∃ Q, Q = catL Q10 (lch [59, 120]) ((2 : Nat) : Int) := ⟨_, rfl⟩
          rw [show catL Q10 (lch [59, 120]) ((2 : Nat) : Int) = Q11 from hQ11.symm] at hb11 hl11
          have hs11 : Q11.2 = Q10.2 + 2 := by rw [hQ11]; rfl
          refine ga_iload ok rfl dL_undone_320 ?_
          refine gl_callSB ok0 hS [vI b] [] lv_L_219 rfl hb11.2.1 (fun x h => Or.inl ⟨_, List.mem_singleton.mp h⟩) (fun x h => absurd h List.not_mem_nil) (fun G9 hS9 hd9 h9 => c_J4_appendI ok0.fl trivial hS9 hb11 (by omega) (by omega)) rfl (by rw [hR]; exact ⟨by decide, by decide, by simp only [RM]; omega, by simp only [RM]; omega⟩) (Nat.le_of_ble_eq_true rfl) dL_undone_322 (fun M12 hb12 => ?_)
          replace hb12 := hb12.1
          have hl12 := hl11.num (v := b)
          have hs12 := numL_2 Q11 b
          obtain ⟨Q12, hQ12⟩ : ∃ Q, Q = numL Q11 b := ⟨_, rfl⟩
          rw [← hQ12] at hb12 hl12 hs12
          obtain ⟨N12, hN12⟩ : ∃ N : Nat, Q12.2 = N := ⟨Q12.2.toNat, by have := hl12.1; omega⟩
          refine gl_takeSB ok0 hS hb12 hN12 (by omega) lv_L_222 (by rw [hR]; exact ⟨by decide, by decide, by simp only [RM]; omega, by simp only [RM]; omega⟩) (Nat.le_of_ble_eq_true rfl) dL_undone_325 (fun s12 v12 t12 ht12 => ?_)
          have hT12 := hl12.sin hN12 (by omega) ht12
          refine WA.comm ?_
          refine gl_callSB ok0 hS [.ref (RAW + s12)] [(s12, v12, t12, N12)] lv_L_216 rfl hb5.2.1 (fun x h => Or.inr ⟨_, List.mem_singleton.mp h⟩) (fun x h => by rw [List.mem_singleton.mp h]; exact (show SIN G (STX G s12 v12 t12 N12 ++ ((q, lA G 9 (fun j => if j = d.toNat then smS g1.r else f j)) :: Xs)) s12 v12 t12 N12 from ⟨hT12, Or.inl (fun x h => List.mem_append_left _ h)⟩)) (fun G9 hS9 hd9 h9 => c_J4_appendS (s := s12) (v := v12) (t := t12) (N := N12) ok0.fl trivial hS9 (h9 _ (List.mem_singleton.mpr rfl)) hd9 hb5 (by omega)) rfl (by rw [hR]; exact ⟨by decide, by decide, by simp only [RM]; omega, by simp only [RM]; omega⟩) (Nat.le_of_ble_eq_true rfl) dL_undone_328 (fun M6 hb6 => ?_)
          replace hb6 := hb6.1
          have hl6 := hl5.cat (t := t12) (N := N12) ((show SIN G (STX G s12 v12 t12 N12 ++ ((q, lA G 9 (fun j => if j = d.toNat then smS g1.r else f j)) :: Xs)) s12 v12 t12 N12 from ⟨hT12, Or.inl (fun x h => List.mem_append_left _ h)⟩)).1.2
          obtain ⟨Q6, hQ6⟩ : ∃ Q, Q = catL Q5 (t12) ((N12 : Nat) : Int) := ⟨_, rfl⟩
          rw [show catL Q5 (t12) ((N12 : Nat) : Int) = Q6 from hQ6.symm] at hb6 hl6
          have hs6 : Q6.2 = Q5.2 + N12 := by rw [hQ6]; rfl
          obtain ⟨N6, hN6⟩ : ∃ N : Nat, Q6.2 = N := ⟨Q6.2.toNat, by have := hl6.1; omega⟩
          refine gl_takeSB ok0 hS hb6 hN6 (by omega) lv_L_222 (by rw [hR]; exact ⟨by decide, by decide, by simp only [RM]; omega, by simp only [RM]; omega⟩) (Nat.le_of_ble_eq_true rfl) dL_undone_331 (fun s6 v6 t6 ht6 => ?_)
          have hT6 := hl6.sin hN6 (by omega) ht6
          refine gl_callL ok0 [.ref 0, .ref (RAW + s6)] lk_L_317 (c_L_run ok0.fl hG hS hX1 (by omega) htn (s := s6) (v := v6) (t := t6) (N := N6) ⟨hT6, Or.inl (fun x h => List.mem_append_left _ h)⟩ (by omega)) rfl (by rw [hR]; exact ⟨by decide, by decide, by simp only [RM]; omega, by simp only [RM]; omega⟩) (Nat.le_of_ble_eq_true rfl) dL_undone_334 (fun r9 m2 X9 hq9 => ?_)
          obtain ⟨z, g2, rfl, hst, hX2, hxs⟩ := hq9
          subst X9
          simp only [Option.toList_some, List.singleton_append]
          refine ga_istore ok hn9 dL_undone_337 ?_
          refine WA.drop ?_
          refine WA.drop ?_
          refine WA.wd (k2 := 1 + 1300 * i.toNat + 420 + 400) (n2 := 9 + 11000 * i.toNat + 2600 + 5700) (by first | omega | (simp only [RM]; omega)) (by first | omega | (simp only [RM]; omega)) ?_
          exact WA.re (by exact ⟨rfl, rfl, rfl, rfl, rfl, rfl, trivial⟩) (tail _ _ _ hst (hX2.mono (by omega)))
        · refine gl_ldcS ok0 hS rfl hg.1 0 (q := litL[0]) rfl dL_undone_302 ?_
          refine ga_goto ok 328 (by decide) dL_undone_304 ?_
          refine gl_callSB ok0 hS [.ref (RAW + la 0)] [(la 0, lv 0, lch [], 0)] lv_L_216 rfl hb5.2.1 (fun x h => Or.inr ⟨_, List.mem_singleton.mp h⟩) (fun x h => by rw [List.mem_singleton.mp h]; exact (show SIN G _ (la 0) (lv 0) (lch []) 0 from hg.1.sin (i := 0) rfl)) (fun G9 hS9 hd9 h9 => c_J4_appendS (s := la 0) (v := lv 0) (t := lch []) (N := 0) ok0.fl trivial hS9 (h9 _ (List.mem_singleton.mpr rfl)) hd9 hb5 (by omega)) rfl (by rw [hR]; exact ⟨by decide, by decide, by simp only [RM]; omega, by simp only [RM]; omega⟩) (Nat.le_of_ble_eq_true rfl) dL_undone_328 (fun M6 hb6 => ?_)
          replace hb6 := hb6.1
          have hl6 := hl5.cat (t := lch []) (N := 0) ((show SIN G [] (la 0) (lv 0) (lch []) 0 from hg.1.sin (i := 0) rfl)).1.2
          obtain ⟨Q6, hQ6⟩ : ∃ Q, Q = catL Q5 (lch []) ((0 : Nat) : Int) := ⟨_, rfl⟩
          rw [show catL Q5 (lch []) ((0 : Nat) : Int) = Q6 from hQ6.symm] at hb6 hl6
          have hs6 : Q6.2 = Q5.2 + 0 := by rw [hQ6]; rfl
          obtain ⟨N6, hN6⟩ : ∃ N : Nat, Q6.2 = N := ⟨Q6.2.toNat, by have := hl6.1; omega⟩
          refine gl_takeSB ok0 hS hb6 hN6 (by omega) lv_L_222 (by rw [hR]; exact ⟨by decide, by decide, by simp only [RM]; omega, by simp only [RM]; omega⟩) (Nat.le_of_ble_eq_true rfl) dL_undone_331 (fun s6 v6 t6 ht6 => ?_)
          have hT6 := hl6.sin hN6 (by omega) ht6
          refine gl_callL ok0 [.ref 0, .ref (RAW + s6)] lk_L_317 (c_L_run ok0.fl hG hS hX1 (by omega) htn (s := s6) (v := v6) (t := t6) (N := N6) ⟨hT6, Or.inl (fun x h => List.mem_append_left _ h)⟩ (by omega)) rfl (by rw [hR]; exact ⟨by decide, by decide, by simp only [RM]; omega, by simp only [RM]; omega⟩) (Nat.le_of_ble_eq_true rfl) dL_undone_334 (fun r9 m2 X9 hq9 => ?_)
          obtain ⟨z, g2, rfl, hst, hX2, hxs⟩ := hq9
          subst X9
          simp only [Option.toList_some, List.singleton_append]
          refine ga_istore ok hn9 dL_undone_337 ?_
          refine WA.drop ?_
          refine WA.wd (k2 := 1 + 1300 * i.toNat + 420 + 400) (n2 := 9 + 11000 * i.toNat + 2600 + 5700) (by first | omega | (simp only [RM]; omega)) (by first | omega | (simp only [RM]; omega)) ?_
          exact WA.re (by exact ⟨rfl, rfl, rfl, rfl, rfl, rfl, trivial⟩) (tail _ _ _ hst (hX2.mono (by omega)))
  exact WA.wd (Nat.le_refl _) (Nat.le_refl _) (WA.re (by exact ⟨rfl, rfl, rfl, rfl, rfl, trivial⟩) (loop _ (by trivial) 0 0 _ (fun _ => g.r) m g rfl ⟨by omega, by omega, ⟨by have := hX.1.2.2.1.2.1; omega, fun j hj => by omega⟩, htn, hX.mono (by omega), fun j hj => by omega⟩))
