/-! THE LAW'S CASES THAT ASK -/
set_option maxHeartbeats 4000000 in
set_option maxRecDepth 100000 in
theorem lc_visitorOf {G : GG} {E : EE} (ok : OK0 G E RL cL_law) (hG : MW G) (hS : SBW G) (hml : (e_c E).maxLocals = 9) (hR : e_R E = room_1) {sb sl : Nat} {xs : Nat → Int32} (hSc : SCR G E sb sl xs) {i : Int} (hi : 0 ≤ i ∧ i + 4 ≤ sl) {T : Int} (hT0 : 0 ≤ T ∧ T ≤ 999990000) {m : Mm} {g : Gm} (hs : LWS T m g) {k n : Nat} (hk : k + 24 ≤ 603072) (hn : n + 9206 ≤ 7223402)
    (kk : ∀ (m' : Mm) (g' : Gm), LWS (T + 1000) m' g' → WA G E (k + 24) (n + 9206) 2494 [(0, .ref (RAW + sb)), (1, .ref 0), (2, .ref 1024), (3, .ref 1600), (4, .ref 1664), (5, vI i)] [] m') : WA G E k n 544 [(0, .ref (RAW + sb)), (1, .ref 0), (2, .ref 1024), (3, .ref 1600), (4, .ref 1664), (5, vI i)] [] m := by
  have hn6 : 6 < (e_c E).maxLocals := by rw [hml]; decide
  have hn7 : 7 < (e_c E).maxLocals := by rw [hml]; decide
  have hn8 : 8 < (e_c E).maxLocals := by rw [hml]; decide
  obtain ⟨-, -, -, hsl⟩ := id hSc
  have tail : ∀ (K : Int) (v9 : Int) (m2 : Mm) (g9 : Gm), (0 ≤ K ∧ K ≤ 3) → m2.1 1024 6 = K → (K = 0 → m2.1 1600 0 = w32 v9) → LWS (T + 1000) m2 g9 → WA G E (k + 2) (n + 12) 581 [(7, vI v9), (6, vI K), (0, .ref (RAW + sb)), (1, .ref 0), (2, .ref 1024), (3, .ref 1600), (4, .ref 1664), (5, vI i)] [] m2 := by
    intro K v9 m2 g9 hr9 hth ho9 hs9
    refine ga_aload_n ok 2 rfl rfl dL_law_581 ?_
    refine gd_X4_0 ok hG rfl lk_L_145 rfl (c_X4_thrown ok.fl hG) (by rw [hR]; exact ⟨by decide, by decide, by show k + 2 + 0 ≤ 603072; omega, by show n + 12 + 0 ≤ 7223402; omega⟩) (Nat.le_of_ble_eq_true rfl) dL_law_582 ?_
    rw [hth]
    refine ga_iload ok rfl dL_law_585 ?_
    refine ga_icmp_eq ok 592 (by decide) (by omega) (by omega) dL_law_587 (fun c_587 => ?_) (fun c_587 => ?_)
    · refine ga_iload ok rfl dL_law_592 ?_
      refine ga_if_ne ok 609 (by decide) (by omega) dL_law_594 (fun c_594 => ?_) (fun c_594 => ?_)
      · refine ga_goto ok 2494 (by decide) dL_law_609 ?_
        exact WA.wd (by show k + 2 + 0 ≤ k + 24; omega) (by show n + 12 + 0 ≤ n + 9206; omega) (WA.re (by exact ⟨rfl, rfl, rfl, rfl, rfl, rfl, trivial⟩) (kk m2 g9 hs9))
      · refine ga_aload_n ok 3 rfl rfl dL_law_597 ?_
        refine ga_iconst ok dL_law_598 ?_
        refine ga_laload_la ok (ar_lo hG rfl) (by omega) dL_law_599 ?_
        rw [show m2.1 1600 (0 : Int).toNat = w32 v9 from ho9 (by omega)]
        refine ga_iload ok rfl dL_law_600 ?_
        refine ga_i2lW ok dL_law_602 ?_
        refine ga_lcmp ok dL_law_603 lcmp_0 ?_
        refine ga_if_eq ok 609 (by decide) (by omega) dL_law_604 (fun c_604 => ?_) (fun c_604 => ?_)
        · refine ga_goto ok 2494 (by decide) dL_law_609 ?_
          exact WA.wd (by show k + 2 + 0 ≤ k + 24; omega) (by show n + 12 + 0 ≤ n + 9206; omega) (WA.re (by exact ⟨rfl, rfl, rfl, rfl, rfl, rfl, trivial⟩) (kk m2 g9 hs9))
        · exact absurd rfl c_604
    · exact absurd rfl c_587
  refine ga_aload_n ok 1 rfl rfl dL_law_544 ?_
  refine ga_aload_n ok 0 rfl rfl dL_law_545 ?_
  refine ga_iload ok rfl dL_law_546 ?_
  refine ga_iconst ok dL_law_548 ?_
  refine ga_iadd ok dL_law_549 ?_
  refine gs_scr ok hS hSc (by omega) dL_law_550 ?_
  refine ga_aload_n ok 0 rfl rfl dL_law_551 ?_
  refine ga_iload ok rfl dL_law_552 ?_
  refine ga_iconst ok dL_law_554 ?_
  refine ga_iadd ok dL_law_555 ?_
  refine gs_scr ok hS hSc (by omega) dL_law_556 ?_
  refine ga_aload_n ok 3 rfl rfl dL_law_557 ?_
  refine ga_callT ok [_, _, _, _] lw_L_162 (w_visitorOf ok.fl hG hS hs.1.1.1 hs.1.1.2 (sx_rng xs _) (sx_rng xs _)) rfl (by rw [hR]; exact ⟨by decide, by decide, by show k + 2 ≤ 603072; omega, by show n + 12 ≤ 7223402; omega⟩) (Nat.le_of_ble_eq_true rfl) dL_law_558 (fun r9 m1 hq9 => ?_) (fun _ _ h => h.elim)
  obtain ⟨rfl, hr9, ho1, hf1⟩ := hq9
  simp only [Option.toList_some, List.singleton_append]
  have hY1 : YIs m1 g := hs.2.1.w (fun n _ b c => hf1 n b c)
  refine ga_istore ok hn6 dL_law_561 ?_
  refine ga_aload_n ok 2 rfl rfl dL_law_563 ?_
  refine ga_aload_n ok 0 rfl rfl dL_law_564 ?_
  refine ga_iload ok rfl dL_law_565 ?_
  refine ga_iconst ok dL_law_567 ?_
  refine ga_iadd ok dL_law_568 ?_
  refine gs_scr ok hS hSc (by omega) dL_law_569 ?_
  refine ga_aload_n ok 0 rfl rfl dL_law_570 ?_
  refine ga_iload ok rfl dL_law_571 ?_
  refine ga_iconst ok dL_law_573 ?_
  refine ga_iadd ok dL_law_574 ?_
  refine gs_scr ok hS hSc (by omega) dL_law_575 ?_
  refine gc_X4_2 ok hG rfl lk_L_164 rfl (c_X4_visitorOf ok.fl hG hY1.1 hs.1.1.2 (sx_rng xs _) (sx_rng xs _)) (by rw [hR]; exact ⟨by decide, by decide, by show k + 2 + 0 ≤ 603072; omega, by show n + 12 + 0 ≤ 7223402; omega⟩) (Nat.le_of_ble_eq_true rfl) dL_law_576 (fun r9 m2 hq9 => ?_) (fun _ _ h => h.elim)
  obtain ⟨v9, rfl, hv9, hm2⟩ := hq9
  subst m2
  simp only [Option.toList_some, List.singleton_append]
  refine ga_istore ok hn7 dL_law_579 ?_
  exact WA.wd (by show k + 2 + 0 ≤ k + 2; omega) (by show n + 12 + 0 ≤ n + 12; omega) (WA.re (by exact ⟨rfl, rfl, rfl, rfl, rfl, rfl, rfl, rfl, trivial⟩) (tail _ v9 _ _ hr9 thM_at (fun h => (out_th (by decide)).trans ((ho1 h).trans (by rw [hv9 h]))) ((hs.ask hf1).mono (by omega))))
set_option maxHeartbeats 4000000 in
set_option maxRecDepth 100000 in
theorem lc_guardOf {G : GG} {E : EE} (ok : OK0 G E RL cL_law) (hG : MW G) (hS : SBW G) (hml : (e_c E).maxLocals = 9) (hR : e_R E = room_1) {sb sl : Nat} {xs : Nat → Int32} (hSc : SCR G E sb sl xs) {i : Int} (hi : 0 ≤ i ∧ i + 4 ≤ sl) {T : Int} (hT0 : 0 ≤ T ∧ T ≤ 999990000) {m : Mm} {g : Gm} (hs : LWS T m g) {k n : Nat} (hk : k + 24 ≤ 603072) (hn : n + 9206 ≤ 7223402)
    (kk : ∀ (m' : Mm) (g' : Gm), LWS (T + 1000) m' g' → WA G E (k + 24) (n + 9206) 2494 [(0, .ref (RAW + sb)), (1, .ref 0), (2, .ref 1024), (3, .ref 1600), (4, .ref 1664), (5, vI i)] [] m') : WA G E k n 612 [(0, .ref (RAW + sb)), (1, .ref 0), (2, .ref 1024), (3, .ref 1600), (4, .ref 1664), (5, vI i)] [] m := by
  have hn6 : 6 < (e_c E).maxLocals := by rw [hml]; decide
  have hn7 : 7 < (e_c E).maxLocals := by rw [hml]; decide
  have hn8 : 8 < (e_c E).maxLocals := by rw [hml]; decide
  obtain ⟨-, -, -, hsl⟩ := id hSc
  have tail : ∀ (K : Int) (v9 : Int) (m2 : Mm) (g9 : Gm), (0 ≤ K ∧ K ≤ 3) → m2.1 1024 6 = K → (K = 0 → m2.1 1600 0 = w32 v9) → LWS (T + 1000) m2 g9 → WA G E (k + 2) (n + 12) 649 [(7, vI v9), (6, vI K), (0, .ref (RAW + sb)), (1, .ref 0), (2, .ref 1024), (3, .ref 1600), (4, .ref 1664), (5, vI i)] [] m2 := by
    intro K v9 m2 g9 hr9 hth ho9 hs9
    refine ga_aload_n ok 2 rfl rfl dL_law_649 ?_
    refine gd_X4_0 ok hG rfl lk_L_145 rfl (c_X4_thrown ok.fl hG) (by rw [hR]; exact ⟨by decide, by decide, by show k + 2 + 0 ≤ 603072; omega, by show n + 12 + 0 ≤ 7223402; omega⟩) (Nat.le_of_ble_eq_true rfl) dL_law_650 ?_
    rw [hth]
    refine ga_iload ok rfl dL_law_653 ?_
    refine ga_icmp_eq ok 660 (by decide) (by omega) (by omega) dL_law_655 (fun c_655 => ?_) (fun c_655 => ?_)
    · refine ga_iload ok rfl dL_law_660 ?_
      refine ga_if_ne ok 677 (by decide) (by omega) dL_law_662 (fun c_662 => ?_) (fun c_662 => ?_)
      · refine ga_goto ok 2494 (by decide) dL_law_677 ?_
        exact WA.wd (by show k + 2 + 0 ≤ k + 24; omega) (by show n + 12 + 0 ≤ n + 9206; omega) (WA.re (by exact ⟨rfl, rfl, rfl, rfl, rfl, rfl, trivial⟩) (kk m2 g9 hs9))
      · refine ga_aload_n ok 3 rfl rfl dL_law_665 ?_
        refine ga_iconst ok dL_law_666 ?_
        refine ga_laload_la ok (ar_lo hG rfl) (by omega) dL_law_667 ?_
        rw [show m2.1 1600 (0 : Int).toNat = w32 v9 from ho9 (by omega)]
        refine ga_iload ok rfl dL_law_668 ?_
        refine ga_i2lW ok dL_law_670 ?_
        refine ga_lcmp ok dL_law_671 lcmp_0 ?_
        refine ga_if_eq ok 677 (by decide) (by omega) dL_law_672 (fun c_672 => ?_) (fun c_672 => ?_)
        · refine ga_goto ok 2494 (by decide) dL_law_677 ?_
          exact WA.wd (by show k + 2 + 0 ≤ k + 24; omega) (by show n + 12 + 0 ≤ n + 9206; omega) (WA.re (by exact ⟨rfl, rfl, rfl, rfl, rfl, rfl, trivial⟩) (kk m2 g9 hs9))
        · exact absurd rfl c_672
    · exact absurd rfl c_655
  refine ga_aload_n ok 1 rfl rfl dL_law_612 ?_
  refine ga_aload_n ok 0 rfl rfl dL_law_613 ?_
  refine ga_iload ok rfl dL_law_614 ?_
  refine ga_iconst ok dL_law_616 ?_
  refine ga_iadd ok dL_law_617 ?_
  refine gs_scr ok hS hSc (by omega) dL_law_618 ?_
  refine ga_aload_n ok 0 rfl rfl dL_law_619 ?_
  refine ga_iload ok rfl dL_law_620 ?_
  refine ga_iconst ok dL_law_622 ?_
  refine ga_iadd ok dL_law_623 ?_
  refine gs_scr ok hS hSc (by omega) dL_law_624 ?_
  refine ga_aload_n ok 3 rfl rfl dL_law_625 ?_
  refine ga_callT ok [_, _, _, _] lw_L_165 (w_guardOf ok.fl hG hS hs.1.1.1 hs.1.1.2 (sx_rng xs _) (sx_rng xs _)) rfl (by rw [hR]; exact ⟨by decide, by decide, by show k + 2 ≤ 603072; omega, by show n + 12 ≤ 7223402; omega⟩) (Nat.le_of_ble_eq_true rfl) dL_law_626 (fun r9 m1 hq9 => ?_) (fun _ _ h => h.elim)
  obtain ⟨rfl, hr9, ho1, hf1⟩ := hq9
  simp only [Option.toList_some, List.singleton_append]
  have hY1 : YIs m1 g := hs.2.1.w (fun n _ b c => hf1 n b c)
  refine ga_istore ok hn6 dL_law_629 ?_
  refine ga_aload_n ok 2 rfl rfl dL_law_631 ?_
  refine ga_aload_n ok 0 rfl rfl dL_law_632 ?_
  refine ga_iload ok rfl dL_law_633 ?_
  refine ga_iconst ok dL_law_635 ?_
  refine ga_iadd ok dL_law_636 ?_
  refine gs_scr ok hS hSc (by omega) dL_law_637 ?_
  refine ga_aload_n ok 0 rfl rfl dL_law_638 ?_
  refine ga_iload ok rfl dL_law_639 ?_
  refine ga_iconst ok dL_law_641 ?_
  refine ga_iadd ok dL_law_642 ?_
  refine gs_scr ok hS hSc (by omega) dL_law_643 ?_
  refine gc_X4_2 ok hG rfl lk_L_167 rfl (c_X4_guardOf ok.fl hG hY1.1 hs.1.1.2 (sx_rng xs _) (sx_rng xs _)) (by rw [hR]; exact ⟨by decide, by decide, by show k + 2 + 0 ≤ 603072; omega, by show n + 12 + 0 ≤ 7223402; omega⟩) (Nat.le_of_ble_eq_true rfl) dL_law_644 (fun r9 m2 hq9 => ?_) (fun _ _ h => h.elim)
  obtain ⟨v9, rfl, hv9, hm2⟩ := hq9
  subst m2
  simp only [Option.toList_some, List.singleton_append]
  refine ga_istore ok hn7 dL_law_647 ?_
  exact WA.wd (by show k + 2 + 0 ≤ k + 2; omega) (by show n + 12 + 0 ≤ n + 12; omega) (WA.re (by exact ⟨rfl, rfl, rfl, rfl, rfl, rfl, rfl, rfl, trivial⟩) (tail _ v9 _ _ hr9 thM_at (fun h => (out_th (by decide)).trans ((ho1 h).trans (congrArg w32 ((guardOf_eq (ak_P h)).trans (hv9 h).symm)))) ((hs.ask hf1).mono (by omega))))
set_option maxHeartbeats 4000000 in
set_option maxRecDepth 100000 in
theorem lc_margin {G : GG} {E : EE} (ok : OK0 G E RL cL_law) (hG : MW G) (hS : SBW G) (hml : (e_c E).maxLocals = 9) (hR : e_R E = room_1) {sb sl : Nat} {xs : Nat → Int32} (hSc : SCR G E sb sl xs) {i : Int} (hi : 0 ≤ i ∧ i + 4 ≤ sl) {T : Int} (hT0 : 0 ≤ T ∧ T ≤ 999990000) {m : Mm} {g : Gm} (hs : LWS T m g) {k n : Nat} (hk : k + 24 ≤ 603072) (hn : n + 9206 ≤ 7223402)
    (kk : ∀ (m' : Mm) (g' : Gm), LWS (T + 1000) m' g' → WA G E (k + 24) (n + 9206) 2494 [(0, .ref (RAW + sb)), (1, .ref 0), (2, .ref 1024), (3, .ref 1600), (4, .ref 1664), (5, vI i)] [] m') : WA G E k n 680 [(0, .ref (RAW + sb)), (1, .ref 0), (2, .ref 1024), (3, .ref 1600), (4, .ref 1664), (5, vI i)] [] m := by
  have hn6 : 6 < (e_c E).maxLocals := by rw [hml]; decide
  have hn7 : 7 < (e_c E).maxLocals := by rw [hml]; decide
  have hn8 : 8 < (e_c E).maxLocals := by rw [hml]; decide
  obtain ⟨-, -, -, hsl⟩ := id hSc
  have tail : ∀ (K : Int) (v9 : UInt32) (m2 : Mm) (g9 : Gm), (0 ≤ K ∧ K ≤ 3) → m2.1 1024 6 = K → (K = 0 → m2.1 1664 0 = ((FP.f2d v9).toNat : Int) ∧ vf_n64 (FP.f2d v9)) → LWS (T + 1000) m2 g9 → WA G E (k + 2) (n + 12) 746 [(7, .float v9), (6, vI K), (0, .ref (RAW + sb)), (1, .ref 0), (2, .ref 1024), (3, .ref 1600), (4, .ref 1664), (5, vI i)] [] m2 := by
    intro K v9 m2 g9 hr9 hth ho9 hs9
    refine ga_aload_n ok 2 rfl rfl dL_law_746 ?_
    refine gd_X4_0 ok hG rfl lk_L_145 rfl (c_X4_thrown ok.fl hG) (by rw [hR]; exact ⟨by decide, by decide, by show k + 2 + 0 ≤ 603072; omega, by show n + 12 + 0 ≤ 7223402; omega⟩) (Nat.le_of_ble_eq_true rfl) dL_law_747 ?_
    rw [hth]
    refine ga_iload ok rfl dL_law_750 ?_
    refine ga_icmp_eq ok 757 (by decide) (by omega) (by omega) dL_law_752 (fun c_752 => ?_) (fun c_752 => ?_)
    · refine ga_iload ok rfl dL_law_757 ?_
      refine ga_if_ne ok 795 (by decide) (by omega) dL_law_759 (fun c_759 => ?_) (fun c_759 => ?_)
      · refine ga_goto ok 2494 (by decide) dL_law_795 ?_
        exact WA.wd (by show k + 2 + 0 ≤ k + 24; omega) (by show n + 12 + 0 ≤ n + 9206; omega) (WA.re (by exact ⟨rfl, rfl, rfl, rfl, rfl, rfl, trivial⟩) (kk m2 g9 hs9))
      · refine ga_aload ok rfl dL_law_762 ?_
        refine ga_iconst ok dL_law_764 ?_
        refine ga_daload_da ok (ar_ld hG rfl) (by omega) dL_law_765 ?_
        obtain ⟨ho8, hn64⟩ := ho9 (by omega)
        rw [show m2.1 1664 (0 : Int).toNat = ((FP.f2d v9).toNat : Int) from ho8, u64_r]
        refine ga_fload ok rfl dL_law_766 ?_
        refine ga_f2d ok dL_law_768 hn64 ?_
        refine ga_dcmp ok dL_law_769 (dcmp_0 hn64) ?_
        refine ga_if_eq ok 795 (by decide) (by omega) dL_law_770 (fun c_770 => ?_) (fun c_770 => ?_)
        · refine ga_goto ok 2494 (by decide) dL_law_795 ?_
          exact WA.wd (by show k + 2 + 0 ≤ k + 24; omega) (by show n + 12 + 0 ≤ n + 9206; omega) (WA.re (by exact ⟨rfl, rfl, rfl, rfl, rfl, rfl, trivial⟩) (kk m2 g9 hs9))
        · exact absurd rfl c_770
    · exact absurd rfl c_752
  refine ga_aload_n ok 1 rfl rfl dL_law_680 ?_
  refine ga_aload_n ok 0 rfl rfl dL_law_681 ?_
  refine ga_iload ok rfl dL_law_682 ?_
  refine ga_iconst ok dL_law_684 ?_
  refine ga_iadd ok dL_law_685 ?_
  refine gs_scr ok hS hSc (by omega) dL_law_686 ?_
  refine ga_aload_n ok 0 rfl rfl dL_law_687 ?_
  refine ga_iload ok rfl dL_law_688 ?_
  refine ga_iconst ok dL_law_690 ?_
  refine ga_iadd ok dL_law_691 ?_
  refine gs_scr ok hS hSc (by omega) dL_law_692 ?_
  refine ga_aload_n ok 0 rfl rfl dL_law_693 ?_
  refine ga_iload ok rfl dL_law_694 ?_
  refine ga_iconst ok dL_law_696 ?_
  refine ga_iadd ok dL_law_697 ?_
  refine gs_scr ok hS hSc (by omega) dL_law_698 ?_
  refine ga_if_eq ok 706 (by decide) (sx_rng xs _) dL_law_699 (fun c_699 => ?_) (fun c_699 => ?_)
  · refine ga_iconst ok dL_law_706 ?_
    refine ga_aload ok rfl dL_law_707 ?_
    refine ga_callT ok [_, _, _, _, _] lw_L_168 (w_margin ok.fl hG hS hs.1.1.1 hs.1.1.2 (sx_rng xs _) (sx_rng xs _) (by first | exact Or.inl rfl | exact Or.inr rfl)) rfl (by rw [hR]; exact ⟨by decide, by decide, by show k + 2 ≤ 603072; omega, by show n + 12 ≤ 7223402; omega⟩) (Nat.le_of_ble_eq_true rfl) dL_law_709 (fun r9 m1 hq9 => ?_) (fun _ _ h => h.elim)
    obtain ⟨rfl, hr9, ho1, hf1⟩ := hq9
    simp only [Option.toList_some, List.singleton_append]
    have hY1 : YIs m1 g := hs.2.1.w (fun n _ b c => hf1 n b c)
    refine ga_istore ok hn6 dL_law_712 ?_
    refine ga_aload_n ok 2 rfl rfl dL_law_714 ?_
    refine ga_aload_n ok 0 rfl rfl dL_law_715 ?_
    refine ga_iload ok rfl dL_law_716 ?_
    refine ga_iconst ok dL_law_718 ?_
    refine ga_iadd ok dL_law_719 ?_
    refine gs_scr ok hS hSc (by omega) dL_law_720 ?_
    refine ga_aload_n ok 0 rfl rfl dL_law_721 ?_
    refine ga_iload ok rfl dL_law_722 ?_
    refine ga_iconst ok dL_law_724 ?_
    refine ga_iadd ok dL_law_725 ?_
    refine gs_scr ok hS hSc (by omega) dL_law_726 ?_
    refine ga_aload_n ok 0 rfl rfl dL_law_727 ?_
    refine ga_iload ok rfl dL_law_728 ?_
    refine ga_iconst ok dL_law_730 ?_
    refine ga_iadd ok dL_law_731 ?_
    refine gs_scr ok hS hSc (by omega) dL_law_732 ?_
    refine ga_if_eq ok 740 (by decide) (sx_rng xs _) dL_law_733 (fun c_733 => ?_) (fun c_733 => ?_)
    · refine ga_iconst ok dL_law_740 ?_
      refine gc_X4_3 ok hG rfl lk_L_171 rfl (c_X4_margin ok.fl hG hY1.1 hs.1.1.2 (sx_rng xs _) (sx_rng xs _)) (by rw [hR]; exact ⟨by decide, by decide, by show k + 2 + 0 ≤ 603072; omega, by show n + 12 + 0 ≤ 7223402; omega⟩) (Nat.le_of_ble_eq_true rfl) dL_law_741 (fun r9 m2 hq9 => ?_) (fun _ _ h => h.elim)
      obtain ⟨v9, rfl, hv9, hm2⟩ := hq9
      subst m2
      simp only [Option.toList_some, List.singleton_append]
      refine ga_fstore ok hn7 dL_law_744 ?_
      exact WA.wd (by show k + 2 + 0 ≤ k + 2; omega) (by show n + 12 + 0 ≤ n + 12; omega) (WA.re (by exact ⟨rfl, rfl, rfl, rfl, rfl, rfl, rfl, rfl, trivial⟩) (tail _ v9 _ _ hr9 thM_at (fun h => ⟨(out_th (by decide)).trans ((ho1 h).1.trans (by rw [hv9 h])), by rw [hv9 h]; exact (ho1 h).2⟩) ((hs.ask hf1).mono (by omega))))
    · exact absurd c_699 c_733
  · refine ga_iconst ok dL_law_702 ?_
    refine ga_goto ok 707 (by decide) dL_law_703 ?_
    refine ga_aload ok rfl dL_law_707 ?_
    refine ga_callT ok [_, _, _, _, _] lw_L_168 (w_margin ok.fl hG hS hs.1.1.1 hs.1.1.2 (sx_rng xs _) (sx_rng xs _) (by first | exact Or.inl rfl | exact Or.inr rfl)) rfl (by rw [hR]; exact ⟨by decide, by decide, by show k + 2 ≤ 603072; omega, by show n + 12 ≤ 7223402; omega⟩) (Nat.le_of_ble_eq_true rfl) dL_law_709 (fun r9 m1 hq9 => ?_) (fun _ _ h => h.elim)
    obtain ⟨rfl, hr9, ho1, hf1⟩ := hq9
    simp only [Option.toList_some, List.singleton_append]
    have hY1 : YIs m1 g := hs.2.1.w (fun n _ b c => hf1 n b c)
    refine ga_istore ok hn6 dL_law_712 ?_
    refine ga_aload_n ok 2 rfl rfl dL_law_714 ?_
    refine ga_aload_n ok 0 rfl rfl dL_law_715 ?_
    refine ga_iload ok rfl dL_law_716 ?_
    refine ga_iconst ok dL_law_718 ?_
    refine ga_iadd ok dL_law_719 ?_
    refine gs_scr ok hS hSc (by omega) dL_law_720 ?_
    refine ga_aload_n ok 0 rfl rfl dL_law_721 ?_
    refine ga_iload ok rfl dL_law_722 ?_
    refine ga_iconst ok dL_law_724 ?_
    refine ga_iadd ok dL_law_725 ?_
    refine gs_scr ok hS hSc (by omega) dL_law_726 ?_
    refine ga_aload_n ok 0 rfl rfl dL_law_727 ?_
    refine ga_iload ok rfl dL_law_728 ?_
    refine ga_iconst ok dL_law_730 ?_
    refine ga_iadd ok dL_law_731 ?_
    refine gs_scr ok hS hSc (by omega) dL_law_732 ?_
    refine ga_if_eq ok 740 (by decide) (sx_rng xs _) dL_law_733 (fun c_733 => ?_) (fun c_733 => ?_)
    · exact absurd c_733 c_699
    · refine ga_iconst ok dL_law_736 ?_
      refine ga_goto ok 741 (by decide) dL_law_737 ?_
      refine gc_X4_3 ok hG rfl lk_L_171 rfl (c_X4_margin ok.fl hG hY1.1 hs.1.1.2 (sx_rng xs _) (sx_rng xs _)) (by rw [hR]; exact ⟨by decide, by decide, by show k + 2 + 0 ≤ 603072; omega, by show n + 12 + 0 ≤ 7223402; omega⟩) (Nat.le_of_ble_eq_true rfl) dL_law_741 (fun r9 m2 hq9 => ?_) (fun _ _ h => h.elim)
      obtain ⟨v9, rfl, hv9, hm2⟩ := hq9
      subst m2
      simp only [Option.toList_some, List.singleton_append]
      refine ga_fstore ok hn7 dL_law_744 ?_
      exact WA.wd (by show k + 2 + 0 ≤ k + 2; omega) (by show n + 12 + 0 ≤ n + 12; omega) (WA.re (by exact ⟨rfl, rfl, rfl, rfl, rfl, rfl, rfl, rfl, trivial⟩) (tail _ v9 _ _ hr9 thM_at (fun h => ⟨(out_th (by decide)).trans ((ho1 h).1.trans (by rw [hv9 h])), by rw [hv9 h]; exact (ho1 h).2⟩) ((hs.ask hf1).mono (by omega))))
set_option maxHeartbeats 4000000 in
set_option maxRecDepth 100000 in
theorem lc_letsIn {G : GG} {E : EE} (ok : OK0 G E RL cL_law) (hG : MW G) (hS : SBW G) (hml : (e_c E).maxLocals = 9) (hR : e_R E = room_1) {sb sl : Nat} {xs : Nat → Int32} (hSc : SCR G E sb sl xs) {i : Int} (hi : 0 ≤ i ∧ i + 4 ≤ sl) {T : Int} (hT0 : 0 ≤ T ∧ T ≤ 999990000) {m : Mm} {g : Gm} (hs : LWS T m g) {k n : Nat} (hk : k + 24 ≤ 603072) (hn : n + 9206 ≤ 7223402)
    (kk : ∀ (m' : Mm) (g' : Gm), LWS (T + 1000) m' g' → WA G E (k + 24) (n + 9206) 2494 [(0, .ref (RAW + sb)), (1, .ref 0), (2, .ref 1024), (3, .ref 1600), (4, .ref 1664), (5, vI i)] [] m') : WA G E k n 798 [(0, .ref (RAW + sb)), (1, .ref 0), (2, .ref 1024), (3, .ref 1600), (4, .ref 1664), (5, vI i)] [] m := by
  have hn6 : 6 < (e_c E).maxLocals := by rw [hml]; decide
  have hn7 : 7 < (e_c E).maxLocals := by rw [hml]; decide
  have hn8 : 8 < (e_c E).maxLocals := by rw [hml]; decide
  obtain ⟨-, -, -, hsl⟩ := id hSc
  have tail : ∀ (K : Int) (v9 : Int) (m2 : Mm) (g9 : Gm), (0 ≤ K ∧ K ≤ 3) → m2.1 1024 6 = K → (K = 0 → m2.1 1600 0 = w32 v9 ∧ (v9 = 0 ∨ v9 = 1)) → LWS (T + 1000) m2 g9 → WA G E (k + 2) (n + 12) 835 [(7, vI v9), (6, vI K), (0, .ref (RAW + sb)), (1, .ref 0), (2, .ref 1024), (3, .ref 1600), (4, .ref 1664), (5, vI i)] [] m2 := by
    intro K v9 m2 g9 hr9 hth ho9 hs9
    refine ga_aload_n ok 2 rfl rfl dL_law_835 ?_
    refine gd_X4_0 ok hG rfl lk_L_145 rfl (c_X4_thrown ok.fl hG) (by rw [hR]; exact ⟨by decide, by decide, by show k + 2 + 0 ≤ 603072; omega, by show n + 12 + 0 ≤ 7223402; omega⟩) (Nat.le_of_ble_eq_true rfl) dL_law_836 ?_
    rw [hth]
    refine ga_iload ok rfl dL_law_839 ?_
    refine ga_icmp_eq ok 846 (by decide) (by omega) (by omega) dL_law_841 (fun c_841 => ?_) (fun c_841 => ?_)
    · refine ga_iload ok rfl dL_law_846 ?_
      refine ga_if_ne ok 870 (by decide) (by omega) dL_law_848 (fun c_848 => ?_) (fun c_848 => ?_)
      · refine ga_goto ok 2494 (by decide) dL_law_870 ?_
        exact WA.wd (by show k + 2 + 0 ≤ k + 24; omega) (by show n + 12 + 0 ≤ n + 9206; omega) (WA.re (by exact ⟨rfl, rfl, rfl, rfl, rfl, rfl, trivial⟩) (kk m2 g9 hs9))
      · refine ga_aload_n ok 3 rfl rfl dL_law_851 ?_
        refine ga_iconst ok dL_law_852 ?_
        refine ga_laload_la ok (ar_lo hG rfl) (by omega) dL_law_853 ?_
        refine ga_iload ok rfl dL_law_854 ?_
        obtain ⟨ho8, h01⟩ := ho9 (by omega)
        refine ga_if_eq ok 863 (by decide) (by omega) dL_law_856 (fun c_856 => ?_) (fun c_856 => ?_)
        · refine ga_lconst (z := 0) ok dL_law_863 (by decide) ?_
          rw [show m2.1 1600 (0 : Int).toNat = 0 from ho8.trans (by rw [show v9 = 0 from c_856]; decide)]
          refine ga_lcmp ok dL_law_864 lcmp_0 ?_
          refine ga_if_eq ok 870 (by decide) (by omega) dL_law_865 (fun c_865 => ?_) (fun c_865 => ?_)
          · refine ga_goto ok 2494 (by decide) dL_law_870 ?_
            exact WA.wd (by show k + 2 + 0 ≤ k + 24; omega) (by show n + 12 + 0 ≤ n + 9206; omega) (WA.re (by exact ⟨rfl, rfl, rfl, rfl, rfl, rfl, trivial⟩) (kk m2 g9 hs9))
          · exact absurd rfl c_865
        · refine ga_lconst (z := 1) ok dL_law_859 (by decide) ?_
          refine ga_goto ok 864 (by decide) dL_law_860 ?_
          rw [show m2.1 1600 (0 : Int).toNat = 1 from ho8.trans (by rw [show v9 = 1 by omega]; decide)]
          refine ga_lcmp ok dL_law_864 lcmp_0 ?_
          refine ga_if_eq ok 870 (by decide) (by omega) dL_law_865 (fun c_865 => ?_) (fun c_865 => ?_)
          · refine ga_goto ok 2494 (by decide) dL_law_870 ?_
            exact WA.wd (by show k + 2 + 0 ≤ k + 24; omega) (by show n + 12 + 0 ≤ n + 9206; omega) (WA.re (by exact ⟨rfl, rfl, rfl, rfl, rfl, rfl, trivial⟩) (kk m2 g9 hs9))
          · exact absurd rfl c_865
    · exact absurd rfl c_841
  refine ga_aload_n ok 1 rfl rfl dL_law_798 ?_
  refine ga_aload_n ok 0 rfl rfl dL_law_799 ?_
  refine ga_iload ok rfl dL_law_800 ?_
  refine ga_iconst ok dL_law_802 ?_
  refine ga_iadd ok dL_law_803 ?_
  refine gs_scr ok hS hSc (by omega) dL_law_804 ?_
  refine ga_aload_n ok 0 rfl rfl dL_law_805 ?_
  refine ga_iload ok rfl dL_law_806 ?_
  refine ga_iconst ok dL_law_808 ?_
  refine ga_iadd ok dL_law_809 ?_
  refine gs_scr ok hS hSc (by omega) dL_law_810 ?_
  refine ga_aload_n ok 3 rfl rfl dL_law_811 ?_
  refine ga_callT ok [_, _, _, _] lw_L_172 (w_letsIn ok.fl hG hS hs.1.1.1 hs.1.1.2 (sx_rng xs _) (sx_rng xs _)) rfl (by rw [hR]; exact ⟨by decide, by decide, by show k + 2 ≤ 603072; omega, by show n + 12 ≤ 7223402; omega⟩) (Nat.le_of_ble_eq_true rfl) dL_law_812 (fun r9 m1 hq9 => ?_) (fun _ _ h => h.elim)
  obtain ⟨rfl, hr9, ho1, hf1⟩ := hq9
  simp only [Option.toList_some, List.singleton_append]
  have hY1 : YIs m1 g := hs.2.1.w (fun n _ b c => hf1 n b c)
  refine ga_istore ok hn6 dL_law_815 ?_
  refine ga_aload_n ok 2 rfl rfl dL_law_817 ?_
  refine ga_aload_n ok 0 rfl rfl dL_law_818 ?_
  refine ga_iload ok rfl dL_law_819 ?_
  refine ga_iconst ok dL_law_821 ?_
  refine ga_iadd ok dL_law_822 ?_
  refine gs_scr ok hS hSc (by omega) dL_law_823 ?_
  refine ga_aload_n ok 0 rfl rfl dL_law_824 ?_
  refine ga_iload ok rfl dL_law_825 ?_
  refine ga_iconst ok dL_law_827 ?_
  refine ga_iadd ok dL_law_828 ?_
  refine gs_scr ok hS hSc (by omega) dL_law_829 ?_
  refine gc_X4_2 ok hG rfl lk_L_174 rfl (c_X4_letsIn ok.fl hG hY1.1 hs.1.1.2 (sx_rng xs _) (sx_rng xs _)) (by rw [hR]; exact ⟨by decide, by decide, by show k + 2 + 0 ≤ 603072; omega, by show n + 12 + 0 ≤ 7223402; omega⟩) (Nat.le_of_ble_eq_true rfl) dL_law_830 (fun r9 m2 hq9 => ?_) (fun _ _ h => h.elim)
  obtain ⟨v9, rfl, hv9, hm2⟩ := hq9
  subst m2
  simp only [Option.toList_some, List.singleton_append]
  refine ga_istore ok hn7 dL_law_833 ?_
  exact WA.wd (by show k + 2 + 0 ≤ k + 2; omega) (by show n + 12 + 0 ≤ n + 12; omega) (WA.re (by exact ⟨rfl, rfl, rfl, rfl, rfl, rfl, rfl, rfl, trivial⟩) (tail _ v9 _ _ hr9 thM_at (fun h => ⟨(out_th (by decide)).trans ((ho1 h).trans (by rw [hv9 h])), by rw [hv9 h]; exact b2i_or _⟩) ((hs.ask hf1).mono (by omega))))
set_option maxHeartbeats 4000000 in
set_option maxRecDepth 100000 in
theorem lc_weightBits {G : GG} {E : EE} (ok : OK0 G E RL cL_law) (hG : MW G) (hS : SBW G) (hml : (e_c E).maxLocals = 9) (hR : e_R E = room_1) {sb sl : Nat} {xs : Nat → Int32} (hSc : SCR G E sb sl xs) {i : Int} (hi : 0 ≤ i ∧ i + 4 ≤ sl) {T : Int} (hT0 : 0 ≤ T ∧ T ≤ 999990000) {m : Mm} {g : Gm} (hs : LWS T m g) {k n : Nat} (hk : k + 24 ≤ 603072) (hn : n + 9206 ≤ 7223402)
    (kk : ∀ (m' : Mm) (g' : Gm), LWS (T + 1000) m' g' → WA G E (k + 24) (n + 9206) 2494 [(0, .ref (RAW + sb)), (1, .ref 0), (2, .ref 1024), (3, .ref 1600), (4, .ref 1664), (5, vI i)] [] m') : WA G E k n 873 [(0, .ref (RAW + sb)), (1, .ref 0), (2, .ref 1024), (3, .ref 1600), (4, .ref 1664), (5, vI i)] [] m := by
  have hn6 : 6 < (e_c E).maxLocals := by rw [hml]; decide
  have hn7 : 7 < (e_c E).maxLocals := by rw [hml]; decide
  have hn8 : 8 < (e_c E).maxLocals := by rw [hml]; decide
  obtain ⟨-, -, -, hsl⟩ := id hSc
  have tail : ∀ (K : Int) (v9 : Int) (m2 : Mm) (g9 : Gm), (0 ≤ K ∧ K ≤ 3) → m2.1 1024 6 = K → (K = 0 → m2.1 1600 0 = w32 v9) → LWS (T + 1000) m2 g9 → WA G E (k + 2) (n + 12) 910 [(7, vI v9), (6, vI K), (0, .ref (RAW + sb)), (1, .ref 0), (2, .ref 1024), (3, .ref 1600), (4, .ref 1664), (5, vI i)] [] m2 := by
    intro K v9 m2 g9 hr9 hth ho9 hs9
    refine ga_aload_n ok 2 rfl rfl dL_law_910 ?_
    refine gd_X4_0 ok hG rfl lk_L_145 rfl (c_X4_thrown ok.fl hG) (by rw [hR]; exact ⟨by decide, by decide, by show k + 2 + 0 ≤ 603072; omega, by show n + 12 + 0 ≤ 7223402; omega⟩) (Nat.le_of_ble_eq_true rfl) dL_law_911 ?_
    rw [hth]
    refine ga_iload ok rfl dL_law_914 ?_
    refine ga_icmp_eq ok 921 (by decide) (by omega) (by omega) dL_law_916 (fun c_916 => ?_) (fun c_916 => ?_)
    · refine ga_iload ok rfl dL_law_921 ?_
      refine ga_if_ne ok 938 (by decide) (by omega) dL_law_923 (fun c_923 => ?_) (fun c_923 => ?_)
      · refine ga_goto ok 2494 (by decide) dL_law_938 ?_
        exact WA.wd (by show k + 2 + 0 ≤ k + 24; omega) (by show n + 12 + 0 ≤ n + 9206; omega) (WA.re (by exact ⟨rfl, rfl, rfl, rfl, rfl, rfl, trivial⟩) (kk m2 g9 hs9))
      · refine ga_aload_n ok 3 rfl rfl dL_law_926 ?_
        refine ga_iconst ok dL_law_927 ?_
        refine ga_laload_la ok (ar_lo hG rfl) (by omega) dL_law_928 ?_
        rw [show m2.1 1600 (0 : Int).toNat = w32 v9 from ho9 (by omega)]
        refine ga_iload ok rfl dL_law_929 ?_
        refine ga_i2lW ok dL_law_931 ?_
        refine ga_lcmp ok dL_law_932 lcmp_0 ?_
        refine ga_if_eq ok 938 (by decide) (by omega) dL_law_933 (fun c_933 => ?_) (fun c_933 => ?_)
        · refine ga_goto ok 2494 (by decide) dL_law_938 ?_
          exact WA.wd (by show k + 2 + 0 ≤ k + 24; omega) (by show n + 12 + 0 ≤ n + 9206; omega) (WA.re (by exact ⟨rfl, rfl, rfl, rfl, rfl, rfl, trivial⟩) (kk m2 g9 hs9))
        · exact absurd rfl c_933
    · exact absurd rfl c_916
  refine ga_aload_n ok 1 rfl rfl dL_law_873 ?_
  refine ga_aload_n ok 0 rfl rfl dL_law_874 ?_
  refine ga_iload ok rfl dL_law_875 ?_
  refine ga_iconst ok dL_law_877 ?_
  refine ga_iadd ok dL_law_878 ?_
  refine gs_scr ok hS hSc (by omega) dL_law_879 ?_
  refine ga_aload_n ok 0 rfl rfl dL_law_880 ?_
  refine ga_iload ok rfl dL_law_881 ?_
  refine ga_iconst ok dL_law_883 ?_
  refine ga_iadd ok dL_law_884 ?_
  refine gs_scr ok hS hSc (by omega) dL_law_885 ?_
  refine ga_aload_n ok 3 rfl rfl dL_law_886 ?_
  refine ga_callT ok [_, _, _, _] lw_L_175 (w_weightBits ok.fl hG hS hs.1.1.1 hs.1.1.2 (sx_rng xs _) (sx_rng xs _)) rfl (by rw [hR]; exact ⟨by decide, by decide, by show k + 2 ≤ 603072; omega, by show n + 12 ≤ 7223402; omega⟩) (Nat.le_of_ble_eq_true rfl) dL_law_887 (fun r9 m1 hq9 => ?_) (fun _ _ h => h.elim)
  obtain ⟨rfl, hr9, ho1, hf1⟩ := hq9
  simp only [Option.toList_some, List.singleton_append]
  have hY1 : YIs m1 g := hs.2.1.w (fun n _ b c => hf1 n b c)
  refine ga_istore ok hn6 dL_law_890 ?_
  refine ga_aload_n ok 2 rfl rfl dL_law_892 ?_
  refine ga_aload_n ok 0 rfl rfl dL_law_893 ?_
  refine ga_iload ok rfl dL_law_894 ?_
  refine ga_iconst ok dL_law_896 ?_
  refine ga_iadd ok dL_law_897 ?_
  refine gs_scr ok hS hSc (by omega) dL_law_898 ?_
  refine ga_aload_n ok 0 rfl rfl dL_law_899 ?_
  refine ga_iload ok rfl dL_law_900 ?_
  refine ga_iconst ok dL_law_902 ?_
  refine ga_iadd ok dL_law_903 ?_
  refine gs_scr ok hS hSc (by omega) dL_law_904 ?_
  refine gc_X4_2 ok hG rfl lk_L_177 rfl (c_X4_weightBits ok.fl hG hY1.1 hs.1.1.2 (sx_rng xs _) (sx_rng xs _)) (by rw [hR]; exact ⟨by decide, by decide, by show k + 2 + 0 ≤ 603072; omega, by show n + 12 + 0 ≤ 7223402; omega⟩) (Nat.le_of_ble_eq_true rfl) dL_law_905 (fun r9 m2 hq9 => ?_) (fun _ _ h => h.elim)
  obtain ⟨v9, rfl, hv9, hm2⟩ := hq9
  subst m2
  simp only [Option.toList_some, List.singleton_append]
  refine ga_istore ok hn7 dL_law_908 ?_
  exact WA.wd (by show k + 2 + 0 ≤ k + 2; omega) (by show n + 12 + 0 ≤ n + 12; omega) (WA.re (by exact ⟨rfl, rfl, rfl, rfl, rfl, rfl, rfl, rfl, trivial⟩) (tail _ v9 _ _ hr9 thM_at (fun h => (out_th (by decide)).trans ((ho1 h).trans (by rw [hv9 h]))) ((hs.ask hf1).mono (by omega))))
set_option maxHeartbeats 4000000 in
set_option maxRecDepth 100000 in
theorem lc_counted {G : GG} {E : EE} (ok : OK0 G E RL cL_law) (hG : MW G) (hS : SBW G) (hml : (e_c E).maxLocals = 9) (hR : e_R E = room_1) {sb sl : Nat} {xs : Nat → Int32} (hSc : SCR G E sb sl xs) {i : Int} (hi : 0 ≤ i ∧ i + 4 ≤ sl) {T : Int} (hT0 : 0 ≤ T ∧ T ≤ 999990000) {m : Mm} {g : Gm} (hs : LWS T m g) {k n : Nat} (hk : k + 24 ≤ 603072) (hn : n + 9206 ≤ 7223402)
    (kk : ∀ (m' : Mm) (g' : Gm), LWS (T + 1000) m' g' → WA G E (k + 24) (n + 9206) 2494 [(0, .ref (RAW + sb)), (1, .ref 0), (2, .ref 1024), (3, .ref 1600), (4, .ref 1664), (5, vI i)] [] m') : WA G E k n 941 [(0, .ref (RAW + sb)), (1, .ref 0), (2, .ref 1024), (3, .ref 1600), (4, .ref 1664), (5, vI i)] [] m := by
  have hn6 : 6 < (e_c E).maxLocals := by rw [hml]; decide
  have hn7 : 7 < (e_c E).maxLocals := by rw [hml]; decide
  have hn8 : 8 < (e_c E).maxLocals := by rw [hml]; decide
  obtain ⟨-, -, -, hsl⟩ := id hSc
  have tail : ∀ (K : Int) (v9 : Int) (m2 : Mm) (g9 : Gm), (0 ≤ K ∧ K ≤ 3) → m2.1 1024 6 = K → (K = 0 → m2.1 1600 0 = w32 v9) → LWS (T + 1000) m2 g9 → WA G E (k + 2) (n + 12) 978 [(7, vI v9), (6, vI K), (0, .ref (RAW + sb)), (1, .ref 0), (2, .ref 1024), (3, .ref 1600), (4, .ref 1664), (5, vI i)] [] m2 := by
    intro K v9 m2 g9 hr9 hth ho9 hs9
    refine ga_aload_n ok 2 rfl rfl dL_law_978 ?_
    refine gd_X4_0 ok hG rfl lk_L_145 rfl (c_X4_thrown ok.fl hG) (by rw [hR]; exact ⟨by decide, by decide, by show k + 2 + 0 ≤ 603072; omega, by show n + 12 + 0 ≤ 7223402; omega⟩) (Nat.le_of_ble_eq_true rfl) dL_law_979 ?_
    rw [hth]
    refine ga_iload ok rfl dL_law_982 ?_
    refine ga_icmp_eq ok 989 (by decide) (by omega) (by omega) dL_law_984 (fun c_984 => ?_) (fun c_984 => ?_)
    · refine ga_iload ok rfl dL_law_989 ?_
      refine ga_if_ne ok 1006 (by decide) (by omega) dL_law_991 (fun c_991 => ?_) (fun c_991 => ?_)
      · refine ga_goto ok 2494 (by decide) dL_law_1006 ?_
        exact WA.wd (by show k + 2 + 0 ≤ k + 24; omega) (by show n + 12 + 0 ≤ n + 9206; omega) (WA.re (by exact ⟨rfl, rfl, rfl, rfl, rfl, rfl, trivial⟩) (kk m2 g9 hs9))
      · refine ga_aload_n ok 3 rfl rfl dL_law_994 ?_
        refine ga_iconst ok dL_law_995 ?_
        refine ga_laload_la ok (ar_lo hG rfl) (by omega) dL_law_996 ?_
        rw [show m2.1 1600 (0 : Int).toNat = w32 v9 from ho9 (by omega)]
        refine ga_iload ok rfl dL_law_997 ?_
        refine ga_i2lW ok dL_law_999 ?_
        refine ga_lcmp ok dL_law_1000 lcmp_0 ?_
        refine ga_if_eq ok 1006 (by decide) (by omega) dL_law_1001 (fun c_1001 => ?_) (fun c_1001 => ?_)
        · refine ga_goto ok 2494 (by decide) dL_law_1006 ?_
          exact WA.wd (by show k + 2 + 0 ≤ k + 24; omega) (by show n + 12 + 0 ≤ n + 9206; omega) (WA.re (by exact ⟨rfl, rfl, rfl, rfl, rfl, rfl, trivial⟩) (kk m2 g9 hs9))
        · exact absurd rfl c_1001
    · exact absurd rfl c_984
  refine ga_aload_n ok 1 rfl rfl dL_law_941 ?_
  refine ga_aload_n ok 0 rfl rfl dL_law_942 ?_
  refine ga_iload ok rfl dL_law_943 ?_
  refine ga_iconst ok dL_law_945 ?_
  refine ga_iadd ok dL_law_946 ?_
  refine gs_scr ok hS hSc (by omega) dL_law_947 ?_
  refine ga_aload_n ok 0 rfl rfl dL_law_948 ?_
  refine ga_iload ok rfl dL_law_949 ?_
  refine ga_iconst ok dL_law_951 ?_
  refine ga_iadd ok dL_law_952 ?_
  refine gs_scr ok hS hSc (by omega) dL_law_953 ?_
  refine ga_aload_n ok 3 rfl rfl dL_law_954 ?_
  refine ga_callT ok [_, _, _, _] lw_L_178 (w_counted ok.fl hG hS hs.1.1.1 hs.1.1.2 (sx_rng xs _) (sx_rng xs _)) rfl (by rw [hR]; exact ⟨by decide, by decide, by show k + 2 ≤ 603072; omega, by show n + 12 ≤ 7223402; omega⟩) (Nat.le_of_ble_eq_true rfl) dL_law_955 (fun r9 m1 hq9 => ?_) (fun _ _ h => h.elim)
  obtain ⟨rfl, hr9, ho1, hf1⟩ := hq9
  simp only [Option.toList_some, List.singleton_append]
  have hY1 : YIs m1 g := hs.2.1.w (fun n _ b c => hf1 n b c)
  refine ga_istore ok hn6 dL_law_958 ?_
  refine ga_aload_n ok 2 rfl rfl dL_law_960 ?_
  refine ga_aload_n ok 0 rfl rfl dL_law_961 ?_
  refine ga_iload ok rfl dL_law_962 ?_
  refine ga_iconst ok dL_law_964 ?_
  refine ga_iadd ok dL_law_965 ?_
  refine gs_scr ok hS hSc (by omega) dL_law_966 ?_
  refine ga_aload_n ok 0 rfl rfl dL_law_967 ?_
  refine ga_iload ok rfl dL_law_968 ?_
  refine ga_iconst ok dL_law_970 ?_
  refine ga_iadd ok dL_law_971 ?_
  refine gs_scr ok hS hSc (by omega) dL_law_972 ?_
  refine gc_X4_2 ok hG rfl lk_L_180 rfl (c_X4_counted ok.fl hG hY1.1 hs.1.1.2 (sx_rng xs _) (sx_rng xs _)) (by rw [hR]; exact ⟨by decide, by decide, by show k + 2 + 0 ≤ 603072; omega, by show n + 12 + 0 ≤ 7223402; omega⟩) (Nat.le_of_ble_eq_true rfl) dL_law_973 (fun r9 m2 hq9 => ?_) (fun _ _ h => h.elim)
  obtain ⟨v9, rfl, hv9, hm2⟩ := hq9
  subst m2
  simp only [Option.toList_some, List.singleton_append]
  refine ga_istore ok hn7 dL_law_976 ?_
  exact WA.wd (by show k + 2 + 0 ≤ k + 2; omega) (by show n + 12 + 0 ≤ n + 12; omega) (WA.re (by exact ⟨rfl, rfl, rfl, rfl, rfl, rfl, rfl, rfl, trivial⟩) (tail _ v9 _ _ hr9 thM_at (fun h => (out_th (by decide)).trans ((ho1 h).trans (by rw [hv9 h]))) ((hs.ask hf1).mono (by omega))))
set_option maxHeartbeats 4000000 in
set_option maxRecDepth 100000 in
theorem lc_mean {G : GG} {E : EE} (ok : OK0 G E RL cL_law) (hG : MW G) (hS : SBW G) (hml : (e_c E).maxLocals = 9) (hR : e_R E = room_1) {sb sl : Nat} {xs : Nat → Int32} (hSc : SCR G E sb sl xs) {i : Int} (hi : 0 ≤ i ∧ i + 4 ≤ sl) {T : Int} (hT0 : 0 ≤ T ∧ T ≤ 999990000) {m : Mm} {g : Gm} (hs : LWS T m g) {k n : Nat} (hk : k + 24 ≤ 603072) (hn : n + 9206 ≤ 7223402)
    (kk : ∀ (m' : Mm) (g' : Gm), LWS (T + 1000) m' g' → WA G E (k + 24) (n + 9206) 2494 [(0, .ref (RAW + sb)), (1, .ref 0), (2, .ref 1024), (3, .ref 1600), (4, .ref 1664), (5, vI i)] [] m') : WA G E k n 1009 [(0, .ref (RAW + sb)), (1, .ref 0), (2, .ref 1024), (3, .ref 1600), (4, .ref 1664), (5, vI i)] [] m := by
  have hn6 : 6 < (e_c E).maxLocals := by rw [hml]; decide
  have hn7 : 7 < (e_c E).maxLocals := by rw [hml]; decide
  have hn8 : 8 < (e_c E).maxLocals := by rw [hml]; decide
  obtain ⟨-, -, -, hsl⟩ := id hSc
  have tail : ∀ (K : Int) (v9 : UInt32) (m2 : Mm) (g9 : Gm), (0 ≤ K ∧ K ≤ 3) → m2.1 1024 6 = K → (K = 0 → m2.1 1664 0 = ((FP.f2d v9).toNat : Int) ∧ vf_n64 (FP.f2d v9)) → LWS (T + 1000) m2 g9 → WA G E (k + 3) (n + 18) 1047 [(7, .float v9), (6, vI K), (0, .ref (RAW + sb)), (1, .ref 0), (2, .ref 1024), (3, .ref 1600), (4, .ref 1664), (5, vI i)] [] m2 := by
    intro K v9 m2 g9 hr9 hth ho9 hs9
    refine ga_aload_n ok 2 rfl rfl dL_law_1047 ?_
    refine gd_X4_0 ok hG rfl lk_L_145 rfl (c_X4_thrown ok.fl hG) (by rw [hR]; exact ⟨by decide, by decide, by show k + 3 + 0 ≤ 603072; omega, by show n + 18 + 0 ≤ 7223402; omega⟩) (Nat.le_of_ble_eq_true rfl) dL_law_1048 ?_
    rw [hth]
    refine ga_iload ok rfl dL_law_1051 ?_
    refine ga_icmp_eq ok 1058 (by decide) (by omega) (by omega) dL_law_1053 (fun c_1053 => ?_) (fun c_1053 => ?_)
    · refine ga_iload ok rfl dL_law_1058 ?_
      refine ga_if_ne ok 1096 (by decide) (by omega) dL_law_1060 (fun c_1060 => ?_) (fun c_1060 => ?_)
      · refine ga_goto ok 2494 (by decide) dL_law_1096 ?_
        exact WA.wd (by show k + 3 + 0 ≤ k + 24; omega) (by show n + 18 + 0 ≤ n + 9206; omega) (WA.re (by exact ⟨rfl, rfl, rfl, rfl, rfl, rfl, trivial⟩) (kk m2 g9 hs9))
      · refine ga_aload ok rfl dL_law_1063 ?_
        refine ga_iconst ok dL_law_1065 ?_
        refine ga_daload_da ok (ar_ld hG rfl) (by omega) dL_law_1066 ?_
        obtain ⟨ho8, hn64⟩ := ho9 (by omega)
        rw [show m2.1 1664 (0 : Int).toNat = ((FP.f2d v9).toNat : Int) from ho8, u64_r]
        refine ga_fload ok rfl dL_law_1067 ?_
        refine ga_f2d ok dL_law_1069 hn64 ?_
        refine ga_dcmp ok dL_law_1070 (dcmp_0 hn64) ?_
        refine ga_if_eq ok 1096 (by decide) (by omega) dL_law_1071 (fun c_1071 => ?_) (fun c_1071 => ?_)
        · refine ga_goto ok 2494 (by decide) dL_law_1096 ?_
          exact WA.wd (by show k + 3 + 0 ≤ k + 24; omega) (by show n + 18 + 0 ≤ n + 9206; omega) (WA.re (by exact ⟨rfl, rfl, rfl, rfl, rfl, rfl, trivial⟩) (kk m2 g9 hs9))
        · exact absurd rfl c_1071
    · exact absurd rfl c_1053
  refine ga_aload_n ok 1 rfl rfl dL_law_1009 ?_
  refine ga_aload_n ok 0 rfl rfl dL_law_1010 ?_
  refine ga_iload ok rfl dL_law_1011 ?_
  refine ga_iconst ok dL_law_1013 ?_
  refine ga_iadd ok dL_law_1014 ?_
  refine gs_scr ok hS hSc (by omega) dL_law_1015 ?_
  refine ga_aload_n ok 0 rfl rfl dL_law_1016 ?_
  refine ga_iload ok rfl dL_law_1017 ?_
  refine ga_iconst ok dL_law_1019 ?_
  refine ga_iadd ok dL_law_1020 ?_
  refine gs_scr ok hS hSc (by omega) dL_law_1021 ?_
  refine ga_aload ok rfl dL_law_1022 ?_
  refine ga_callT ok [_, _, _, _] lw_L_181 (w_mean ok.fl hG hS hs.1.1.1 hs.1.1.2 (by omega) (sx_rng xs _) (sx_rng xs _)) rfl (by rw [hR]; exact ⟨by decide, by decide, by show k + 3 ≤ 603072; omega, by show n + 18 ≤ 7223402; omega⟩) (Nat.le_of_ble_eq_true rfl) dL_law_1024 (fun r9 m1 hq9 => ?_) (fun _ _ h => h.elim)
  obtain ⟨rfl, hr9, ho1, hf1⟩ := hq9
  simp only [Option.toList_some, List.singleton_append]
  have hY1 : YIs m1 g := hs.2.1.w (fun n _ b c => hf1 n b c)
  refine ga_istore ok hn6 dL_law_1027 ?_
  refine ga_aload_n ok 2 rfl rfl dL_law_1029 ?_
  refine ga_aload_n ok 0 rfl rfl dL_law_1030 ?_
  refine ga_iload ok rfl dL_law_1031 ?_
  refine ga_iconst ok dL_law_1033 ?_
  refine ga_iadd ok dL_law_1034 ?_
  refine gs_scr ok hS hSc (by omega) dL_law_1035 ?_
  refine ga_aload_n ok 0 rfl rfl dL_law_1036 ?_
  refine ga_iload ok rfl dL_law_1037 ?_
  refine ga_iconst ok dL_law_1039 ?_
  refine ga_iadd ok dL_law_1040 ?_
  refine gs_scr ok hS hSc (by omega) dL_law_1041 ?_
  refine gc_X4_2 ok hG rfl lk_L_184 rfl (c_X4_mean ok.fl hG hY1.1 hs.1.1.2 (by omega) (sx_rng xs _) (sx_rng xs _)) (by rw [hR]; exact ⟨by decide, by decide, by show k + 3 + 0 ≤ 603072; omega, by show n + 18 + 0 ≤ 7223402; omega⟩) (Nat.le_of_ble_eq_true rfl) dL_law_1042 (fun r9 m2 hq9 => ?_) (fun _ _ h => h.elim)
  obtain ⟨v9, rfl, hv9, hm2⟩ := hq9
  subst m2
  simp only [Option.toList_some, List.singleton_append]
  refine ga_fstore ok hn7 dL_law_1045 ?_
  exact WA.wd (by show k + 3 + 0 ≤ k + 3; omega) (by show n + 18 + 0 ≤ n + 18; omega) (WA.re (by exact ⟨rfl, rfl, rfl, rfl, rfl, rfl, rfl, rfl, trivial⟩) (tail _ v9 _ _ hr9 thM_at (fun h => ⟨(out_th (by decide)).trans ((ho1 h).1.trans (by rw [hv9 h])), by rw [hv9 h]; exact (ho1 h).2⟩) ((hs.ask hf1).mono (by omega))))
set_option maxHeartbeats 4000000 in
set_option maxRecDepth 100000 in
theorem lc_strongest {G : GG} {E : EE} (ok : OK0 G E RL cL_law) (hG : MW G) (hS : SBW G) (hml : (e_c E).maxLocals = 9) (hR : e_R E = room_1) {sb sl : Nat} {xs : Nat → Int32} (hSc : SCR G E sb sl xs) {i : Int} (hi : 0 ≤ i ∧ i + 4 ≤ sl) {T : Int} (hT0 : 0 ≤ T ∧ T ≤ 999990000) {m : Mm} {g : Gm} (hs : LWS T m g) {k n : Nat} (hk : k + 24 ≤ 603072) (hn : n + 9206 ≤ 7223402)
    (kk : ∀ (m' : Mm) (g' : Gm), LWS (T + 1000) m' g' → WA G E (k + 24) (n + 9206) 2494 [(0, .ref (RAW + sb)), (1, .ref 0), (2, .ref 1024), (3, .ref 1600), (4, .ref 1664), (5, vI i)] [] m') : WA G E k n 1099 [(0, .ref (RAW + sb)), (1, .ref 0), (2, .ref 1024), (3, .ref 1600), (4, .ref 1664), (5, vI i)] [] m := by
  have hn6 : 6 < (e_c E).maxLocals := by rw [hml]; decide
  have hn7 : 7 < (e_c E).maxLocals := by rw [hml]; decide
  have hn8 : 8 < (e_c E).maxLocals := by rw [hml]; decide
  obtain ⟨-, -, -, hsl⟩ := id hSc
  have tail : ∀ (K : Int) (v9 : Int) (m2 : Mm) (g9 : Gm), (0 ≤ K ∧ K ≤ 3) → m2.1 1024 6 = K → (K = 0 → m2.1 1600 0 = w32 v9) → LWS (T + 1000) m2 g9 → WA G E (k + 2) (n + 12) 1136 [(7, vI v9), (6, vI K), (0, .ref (RAW + sb)), (1, .ref 0), (2, .ref 1024), (3, .ref 1600), (4, .ref 1664), (5, vI i)] [] m2 := by
    intro K v9 m2 g9 hr9 hth ho9 hs9
    refine ga_aload_n ok 2 rfl rfl dL_law_1136 ?_
    refine gd_X4_0 ok hG rfl lk_L_145 rfl (c_X4_thrown ok.fl hG) (by rw [hR]; exact ⟨by decide, by decide, by show k + 2 + 0 ≤ 603072; omega, by show n + 12 + 0 ≤ 7223402; omega⟩) (Nat.le_of_ble_eq_true rfl) dL_law_1137 ?_
    rw [hth]
    refine ga_iload ok rfl dL_law_1140 ?_
    refine ga_icmp_eq ok 1147 (by decide) (by omega) (by omega) dL_law_1142 (fun c_1142 => ?_) (fun c_1142 => ?_)
    · refine ga_iload ok rfl dL_law_1147 ?_
      refine ga_if_ne ok 1164 (by decide) (by omega) dL_law_1149 (fun c_1149 => ?_) (fun c_1149 => ?_)
      · refine ga_goto ok 2494 (by decide) dL_law_1164 ?_
        exact WA.wd (by show k + 2 + 0 ≤ k + 24; omega) (by show n + 12 + 0 ≤ n + 9206; omega) (WA.re (by exact ⟨rfl, rfl, rfl, rfl, rfl, rfl, trivial⟩) (kk m2 g9 hs9))
      · refine ga_aload_n ok 3 rfl rfl dL_law_1152 ?_
        refine ga_iconst ok dL_law_1153 ?_
        refine ga_laload_la ok (ar_lo hG rfl) (by omega) dL_law_1154 ?_
        rw [show m2.1 1600 (0 : Int).toNat = w32 v9 from ho9 (by omega)]
        refine ga_iload ok rfl dL_law_1155 ?_
        refine ga_i2lW ok dL_law_1157 ?_
        refine ga_lcmp ok dL_law_1158 lcmp_0 ?_
        refine ga_if_eq ok 1164 (by decide) (by omega) dL_law_1159 (fun c_1159 => ?_) (fun c_1159 => ?_)
        · refine ga_goto ok 2494 (by decide) dL_law_1164 ?_
          exact WA.wd (by show k + 2 + 0 ≤ k + 24; omega) (by show n + 12 + 0 ≤ n + 9206; omega) (WA.re (by exact ⟨rfl, rfl, rfl, rfl, rfl, rfl, trivial⟩) (kk m2 g9 hs9))
        · exact absurd rfl c_1159
    · exact absurd rfl c_1142
  refine ga_aload_n ok 1 rfl rfl dL_law_1099 ?_
  refine ga_aload_n ok 0 rfl rfl dL_law_1100 ?_
  refine ga_iload ok rfl dL_law_1101 ?_
  refine ga_iconst ok dL_law_1103 ?_
  refine ga_iadd ok dL_law_1104 ?_
  refine gs_scr ok hS hSc (by omega) dL_law_1105 ?_
  refine ga_aload_n ok 0 rfl rfl dL_law_1106 ?_
  refine ga_iload ok rfl dL_law_1107 ?_
  refine ga_iconst ok dL_law_1109 ?_
  refine ga_iadd ok dL_law_1110 ?_
  refine gs_scr ok hS hSc (by omega) dL_law_1111 ?_
  refine ga_aload_n ok 3 rfl rfl dL_law_1112 ?_
  refine ga_callT ok [_, _, _, _] lw_L_185 (w_strongest ok.fl hG hS hs.1.1.1 hs.1.1.2 (sx_rng xs _) (sx_rng xs _)) rfl (by rw [hR]; exact ⟨by decide, by decide, by show k + 2 ≤ 603072; omega, by show n + 12 ≤ 7223402; omega⟩) (Nat.le_of_ble_eq_true rfl) dL_law_1113 (fun r9 m1 hq9 => ?_) (fun _ _ h => h.elim)
  obtain ⟨rfl, hr9, ho1, hf1⟩ := hq9
  simp only [Option.toList_some, List.singleton_append]
  have hY1 : YIs m1 g := hs.2.1.w (fun n _ b c => hf1 n b c)
  refine ga_istore ok hn6 dL_law_1116 ?_
  refine ga_aload_n ok 2 rfl rfl dL_law_1118 ?_
  refine ga_aload_n ok 0 rfl rfl dL_law_1119 ?_
  refine ga_iload ok rfl dL_law_1120 ?_
  refine ga_iconst ok dL_law_1122 ?_
  refine ga_iadd ok dL_law_1123 ?_
  refine gs_scr ok hS hSc (by omega) dL_law_1124 ?_
  refine ga_aload_n ok 0 rfl rfl dL_law_1125 ?_
  refine ga_iload ok rfl dL_law_1126 ?_
  refine ga_iconst ok dL_law_1128 ?_
  refine ga_iadd ok dL_law_1129 ?_
  refine gs_scr ok hS hSc (by omega) dL_law_1130 ?_
  refine gc_X4_2 ok hG rfl lk_L_187 rfl (c_X4_strongest ok.fl hG hY1.1 hs.1.1.2 (sx_rng xs _) (sx_rng xs _)) (by rw [hR]; exact ⟨by decide, by decide, by show k + 2 + 0 ≤ 603072; omega, by show n + 12 + 0 ≤ 7223402; omega⟩) (Nat.le_of_ble_eq_true rfl) dL_law_1131 (fun r9 m2 hq9 => ?_) (fun _ _ h => h.elim)
  obtain ⟨v9, rfl, hv9, hm2⟩ := hq9
  subst m2
  simp only [Option.toList_some, List.singleton_append]
  refine ga_istore ok hn7 dL_law_1134 ?_
  exact WA.wd (by show k + 2 + 0 ≤ k + 2; omega) (by show n + 12 + 0 ≤ n + 12; omega) (WA.re (by exact ⟨rfl, rfl, rfl, rfl, rfl, rfl, rfl, rfl, trivial⟩) (tail _ v9 _ _ hr9 thM_at (fun h => (out_th (by decide)).trans ((ho1 h).trans (congrArg w32 ((strong_f (ak_P h)).2.trans (hv9 h).symm)))) ((hs.ask hf1).mono (by omega))))
set_option maxHeartbeats 4000000 in
set_option maxRecDepth 100000 in
theorem lc_closest {G : GG} {E : EE} (ok : OK0 G E RL cL_law) (hG : MW G) (hS : SBW G) (hml : (e_c E).maxLocals = 9) (hR : e_R E = room_1) {sb sl : Nat} {xs : Nat → Int32} (hSc : SCR G E sb sl xs) {i : Int} (hi : 0 ≤ i ∧ i + 4 ≤ sl) {T : Int} (hT0 : 0 ≤ T ∧ T ≤ 999990000) {m : Mm} {g : Gm} (hs : LWS T m g) {k n : Nat} (hk : k + 24 ≤ 603072) (hn : n + 9206 ≤ 7223402)
    (kk : ∀ (m' : Mm) (g' : Gm), LWS (T + 1000) m' g' → WA G E (k + 24) (n + 9206) 2494 [(0, .ref (RAW + sb)), (1, .ref 0), (2, .ref 1024), (3, .ref 1600), (4, .ref 1664), (5, vI i)] [] m') : WA G E k n 1167 [(0, .ref (RAW + sb)), (1, .ref 0), (2, .ref 1024), (3, .ref 1600), (4, .ref 1664), (5, vI i)] [] m := by
  have hn6 : 6 < (e_c E).maxLocals := by rw [hml]; decide
  have hn7 : 7 < (e_c E).maxLocals := by rw [hml]; decide
  have hn8 : 8 < (e_c E).maxLocals := by rw [hml]; decide
  obtain ⟨-, -, -, hsl⟩ := id hSc
  have tail : ∀ (K : Int) (v9 : Int) (m2 : Mm) (g9 : Gm), (0 ≤ K ∧ K ≤ 3) → m2.1 1024 6 = K → (K = 0 → m2.1 1600 0 = w32 v9) → LWS (T + 1000) m2 g9 → WA G E (k + 2) (n + 12) 1192 [(7, vI v9), (6, vI K), (0, .ref (RAW + sb)), (1, .ref 0), (2, .ref 1024), (3, .ref 1600), (4, .ref 1664), (5, vI i)] [] m2 := by
    intro K v9 m2 g9 hr9 hth ho9 hs9
    refine ga_aload_n ok 2 rfl rfl dL_law_1192 ?_
    refine gd_X4_0 ok hG rfl lk_L_145 rfl (c_X4_thrown ok.fl hG) (by rw [hR]; exact ⟨by decide, by decide, by show k + 2 + 0 ≤ 603072; omega, by show n + 12 + 0 ≤ 7223402; omega⟩) (Nat.le_of_ble_eq_true rfl) dL_law_1193 ?_
    rw [hth]
    refine ga_iload ok rfl dL_law_1196 ?_
    refine ga_icmp_eq ok 1203 (by decide) (by omega) (by omega) dL_law_1198 (fun c_1198 => ?_) (fun c_1198 => ?_)
    · refine ga_iload ok rfl dL_law_1203 ?_
      refine ga_if_ne ok 1220 (by decide) (by omega) dL_law_1205 (fun c_1205 => ?_) (fun c_1205 => ?_)
      · refine ga_goto ok 2494 (by decide) dL_law_1220 ?_
        exact WA.wd (by show k + 2 + 0 ≤ k + 24; omega) (by show n + 12 + 0 ≤ n + 9206; omega) (WA.re (by exact ⟨rfl, rfl, rfl, rfl, rfl, rfl, trivial⟩) (kk m2 g9 hs9))
      · refine ga_aload_n ok 3 rfl rfl dL_law_1208 ?_
        refine ga_iconst ok dL_law_1209 ?_
        refine ga_laload_la ok (ar_lo hG rfl) (by omega) dL_law_1210 ?_
        rw [show m2.1 1600 (0 : Int).toNat = w32 v9 from ho9 (by omega)]
        refine ga_iload ok rfl dL_law_1211 ?_
        refine ga_i2lW ok dL_law_1213 ?_
        refine ga_lcmp ok dL_law_1214 lcmp_0 ?_
        refine ga_if_eq ok 1220 (by decide) (by omega) dL_law_1215 (fun c_1215 => ?_) (fun c_1215 => ?_)
        · refine ga_goto ok 2494 (by decide) dL_law_1220 ?_
          exact WA.wd (by show k + 2 + 0 ≤ k + 24; omega) (by show n + 12 + 0 ≤ n + 9206; omega) (WA.re (by exact ⟨rfl, rfl, rfl, rfl, rfl, rfl, trivial⟩) (kk m2 g9 hs9))
        · exact absurd rfl c_1215
    · exact absurd rfl c_1198
  refine ga_aload_n ok 1 rfl rfl dL_law_1167 ?_
  refine ga_aload_n ok 0 rfl rfl dL_law_1168 ?_
  refine ga_iload ok rfl dL_law_1169 ?_
  refine ga_iconst ok dL_law_1171 ?_
  refine ga_iadd ok dL_law_1172 ?_
  refine gs_scr ok hS hSc (by omega) dL_law_1173 ?_
  refine ga_aload_n ok 3 rfl rfl dL_law_1174 ?_
  refine ga_callT ok [_, _, _] lw_L_188 (w_closest ok.fl hG hS hs.1.1.1 hs.1.1.2 (sx_rng xs _)) rfl (by rw [hR]; exact ⟨by decide, by decide, by show k + 2 ≤ 603072; omega, by show n + 12 ≤ 7223402; omega⟩) (Nat.le_of_ble_eq_true rfl) dL_law_1175 (fun r9 m1 hq9 => ?_) (fun _ _ h => h.elim)
  obtain ⟨rfl, hr9, ho1, hf1⟩ := hq9
  simp only [Option.toList_some, List.singleton_append]
  have hY1 : YIs m1 g := hs.2.1.w (fun n _ b c => hf1 n b c)
  refine ga_istore ok hn6 dL_law_1178 ?_
  refine ga_aload_n ok 2 rfl rfl dL_law_1180 ?_
  refine ga_aload_n ok 0 rfl rfl dL_law_1181 ?_
  refine ga_iload ok rfl dL_law_1182 ?_
  refine ga_iconst ok dL_law_1184 ?_
  refine ga_iadd ok dL_law_1185 ?_
  refine gs_scr ok hS hSc (by omega) dL_law_1186 ?_
  refine gc_X4_1 ok hG rfl lk_L_190 rfl (c_X4_closest ok.fl hG hY1.1 hs.1.1.2 (sx_rng xs _)) (by rw [hR]; exact ⟨by decide, by decide, by show k + 2 + 0 ≤ 603072; omega, by show n + 12 + 0 ≤ 7223402; omega⟩) (Nat.le_of_ble_eq_true rfl) dL_law_1187 (fun r9 m2 hq9 => ?_) (fun _ _ h => h.elim)
  obtain ⟨v9, rfl, hv9, hm2⟩ := hq9
  subst m2
  simp only [Option.toList_some, List.singleton_append]
  refine ga_istore ok hn7 dL_law_1190 ?_
  exact WA.wd (by show k + 2 + 0 ≤ k + 2; omega) (by show n + 12 + 0 ≤ n + 12; omega) (WA.re (by exact ⟨rfl, rfl, rfl, rfl, rfl, rfl, rfl, rfl, trivial⟩) (tail _ v9 _ _ hr9 thM_at (fun h => (out_th (by decide)).trans ((ho1 h).trans (by rw [hv9 h]))) ((hs.ask hf1).mono (by omega))))
set_option maxHeartbeats 4000000 in
set_option maxRecDepth 100000 in
theorem lc_knows {G : GG} {E : EE} (ok : OK0 G E RL cL_law) (hG : MW G) (hS : SBW G) (hml : (e_c E).maxLocals = 9) (hR : e_R E = room_1) {sb sl : Nat} {xs : Nat → Int32} (hSc : SCR G E sb sl xs) {i : Int} (hi : 0 ≤ i ∧ i + 4 ≤ sl) {T : Int} (hT0 : 0 ≤ T ∧ T ≤ 999990000) {m : Mm} {g : Gm} (hs : LWS T m g) {k n : Nat} (hk : k + 24 ≤ 603072) (hn : n + 9206 ≤ 7223402)
    (kk : ∀ (m' : Mm) (g' : Gm), LWS (T + 1000) m' g' → WA G E (k + 24) (n + 9206) 2494 [(0, .ref (RAW + sb)), (1, .ref 0), (2, .ref 1024), (3, .ref 1600), (4, .ref 1664), (5, vI i)] [] m') : WA G E k n 1223 [(0, .ref (RAW + sb)), (1, .ref 0), (2, .ref 1024), (3, .ref 1600), (4, .ref 1664), (5, vI i)] [] m := by
  have hn6 : 6 < (e_c E).maxLocals := by rw [hml]; decide
  have hn7 : 7 < (e_c E).maxLocals := by rw [hml]; decide
  have hn8 : 8 < (e_c E).maxLocals := by rw [hml]; decide
  obtain ⟨-, -, -, hsl⟩ := id hSc
  have tail : ∀ (K : Int) (v9 : UInt32) (m2 : Mm) (g9 : Gm), (0 ≤ K ∧ K ≤ 3) → m2.1 1024 6 = K → (K = 0 → m2.1 1664 0 = ((FP.f2d v9).toNat : Int) ∧ vf_n64 (FP.f2d v9)) → LWS (T + 1000) m2 g9 → WA G E (k + 2) (n + 12) 1261 [(7, .float v9), (6, vI K), (0, .ref (RAW + sb)), (1, .ref 0), (2, .ref 1024), (3, .ref 1600), (4, .ref 1664), (5, vI i)] [] m2 := by
    intro K v9 m2 g9 hr9 hth ho9 hs9
    refine ga_aload_n ok 2 rfl rfl dL_law_1261 ?_
    refine gd_X4_0 ok hG rfl lk_L_145 rfl (c_X4_thrown ok.fl hG) (by rw [hR]; exact ⟨by decide, by decide, by show k + 2 + 0 ≤ 603072; omega, by show n + 12 + 0 ≤ 7223402; omega⟩) (Nat.le_of_ble_eq_true rfl) dL_law_1262 ?_
    rw [hth]
    refine ga_iload ok rfl dL_law_1265 ?_
    refine ga_icmp_eq ok 1272 (by decide) (by omega) (by omega) dL_law_1267 (fun c_1267 => ?_) (fun c_1267 => ?_)
    · refine ga_iload ok rfl dL_law_1272 ?_
      refine ga_if_ne ok 1310 (by decide) (by omega) dL_law_1274 (fun c_1274 => ?_) (fun c_1274 => ?_)
      · refine ga_goto ok 2494 (by decide) dL_law_1310 ?_
        exact WA.wd (by show k + 2 + 0 ≤ k + 24; omega) (by show n + 12 + 0 ≤ n + 9206; omega) (WA.re (by exact ⟨rfl, rfl, rfl, rfl, rfl, rfl, trivial⟩) (kk m2 g9 hs9))
      · refine ga_aload ok rfl dL_law_1277 ?_
        refine ga_iconst ok dL_law_1279 ?_
        refine ga_daload_da ok (ar_ld hG rfl) (by omega) dL_law_1280 ?_
        obtain ⟨ho8, hn64⟩ := ho9 (by omega)
        rw [show m2.1 1664 (0 : Int).toNat = ((FP.f2d v9).toNat : Int) from ho8, u64_r]
        refine ga_fload ok rfl dL_law_1281 ?_
        refine ga_f2d ok dL_law_1283 hn64 ?_
        refine ga_dcmp ok dL_law_1284 (dcmp_0 hn64) ?_
        refine ga_if_eq ok 1310 (by decide) (by omega) dL_law_1285 (fun c_1285 => ?_) (fun c_1285 => ?_)
        · refine ga_goto ok 2494 (by decide) dL_law_1310 ?_
          exact WA.wd (by show k + 2 + 0 ≤ k + 24; omega) (by show n + 12 + 0 ≤ n + 9206; omega) (WA.re (by exact ⟨rfl, rfl, rfl, rfl, rfl, rfl, trivial⟩) (kk m2 g9 hs9))
        · exact absurd rfl c_1285
    · exact absurd rfl c_1267
  refine ga_aload_n ok 1 rfl rfl dL_law_1223 ?_
  refine ga_aload_n ok 0 rfl rfl dL_law_1224 ?_
  refine ga_iload ok rfl dL_law_1225 ?_
  refine ga_iconst ok dL_law_1227 ?_
  refine ga_iadd ok dL_law_1228 ?_
  refine gs_scr ok hS hSc (by omega) dL_law_1229 ?_
  refine ga_aload_n ok 0 rfl rfl dL_law_1230 ?_
  refine ga_iload ok rfl dL_law_1231 ?_
  refine ga_iconst ok dL_law_1233 ?_
  refine ga_iadd ok dL_law_1234 ?_
  refine gs_scr ok hS hSc (by omega) dL_law_1235 ?_
  refine ga_aload ok rfl dL_law_1236 ?_
  refine ga_callT ok [_, _, _, _] lw_L_191 (w_knows ok.fl hG hS hs.1.1.1 hs.1.1.2 (sx_rng xs _) (sx_rng xs _)) rfl (by rw [hR]; exact ⟨by decide, by decide, by show k + 2 ≤ 603072; omega, by show n + 12 ≤ 7223402; omega⟩) (Nat.le_of_ble_eq_true rfl) dL_law_1238 (fun r9 m1 hq9 => ?_) (fun _ _ h => h.elim)
  obtain ⟨rfl, hr9, ho1, hf1⟩ := hq9
  simp only [Option.toList_some, List.singleton_append]
  have hY1 : YIs m1 g := hs.2.1.w (fun n _ b c => hf1 n b c)
  refine ga_istore ok hn6 dL_law_1241 ?_
  refine ga_aload_n ok 2 rfl rfl dL_law_1243 ?_
  refine ga_aload_n ok 0 rfl rfl dL_law_1244 ?_
  refine ga_iload ok rfl dL_law_1245 ?_
  refine ga_iconst ok dL_law_1247 ?_
  refine ga_iadd ok dL_law_1248 ?_
  refine gs_scr ok hS hSc (by omega) dL_law_1249 ?_
  refine ga_aload_n ok 0 rfl rfl dL_law_1250 ?_
  refine ga_iload ok rfl dL_law_1251 ?_
  refine ga_iconst ok dL_law_1253 ?_
  refine ga_iadd ok dL_law_1254 ?_
  refine gs_scr ok hS hSc (by omega) dL_law_1255 ?_
  refine gc_X4_2 ok hG rfl lk_L_193 rfl (c_X4_knows ok.fl hG hY1.1 hs.1.1.2 (sx_rng xs _) (sx_rng xs _)) (by rw [hR]; exact ⟨by decide, by decide, by show k + 2 + 0 ≤ 603072; omega, by show n + 12 + 0 ≤ 7223402; omega⟩) (Nat.le_of_ble_eq_true rfl) dL_law_1256 (fun r9 m2 hq9 => ?_) (fun _ _ h => h.elim)
  obtain ⟨v9, rfl, hv9, hm2⟩ := hq9
  subst m2
  simp only [Option.toList_some, List.singleton_append]
  refine ga_fstore ok hn7 dL_law_1259 ?_
  exact WA.wd (by show k + 2 + 0 ≤ k + 2; omega) (by show n + 12 + 0 ≤ n + 12; omega) (WA.re (by exact ⟨rfl, rfl, rfl, rfl, rfl, rfl, rfl, rfl, trivial⟩) (tail _ v9 _ _ hr9 thM_at (fun h => ⟨(out_th (by decide)).trans ((ho1 h).1.trans (by rw [hv9 h])), by rw [hv9 h]; exact (ho1 h).2⟩) ((hs.ask hf1).mono (by omega))))
set_option maxHeartbeats 4000000 in
set_option maxRecDepth 100000 in
theorem lc_wouldPush {G : GG} {E : EE} (ok : OK0 G E RL cL_law) (hG : MW G) (hS : SBW G) (hml : (e_c E).maxLocals = 9) (hR : e_R E = room_1) {sb sl : Nat} {xs : Nat → Int32} (hSc : SCR G E sb sl xs) {i : Int} (hi : 0 ≤ i ∧ i + 4 ≤ sl) {T : Int} (hT0 : 0 ≤ T ∧ T ≤ 999990000) {m : Mm} {g : Gm} (hs : LWS T m g) {k n : Nat} (hk : k + 24 ≤ 603072) (hn : n + 9206 ≤ 7223402)
    (kk : ∀ (m' : Mm) (g' : Gm), LWS (T + 1000) m' g' → WA G E (k + 24) (n + 9206) 2494 [(0, .ref (RAW + sb)), (1, .ref 0), (2, .ref 1024), (3, .ref 1600), (4, .ref 1664), (5, vI i)] [] m') : WA G E k n 1573 [(0, .ref (RAW + sb)), (1, .ref 0), (2, .ref 1024), (3, .ref 1600), (4, .ref 1664), (5, vI i)] [] m := by
  have hn6 : 6 < (e_c E).maxLocals := by rw [hml]; decide
  have hn7 : 7 < (e_c E).maxLocals := by rw [hml]; decide
  have hn8 : 8 < (e_c E).maxLocals := by rw [hml]; decide
  obtain ⟨-, -, -, hsl⟩ := id hSc
  have tail : ∀ (K : Int) (v9 : Int) (m2 : Mm) (g9 : Gm), (0 ≤ K ∧ K ≤ 3) → m2.1 1024 6 = K → (K = 0 → m2.1 1600 0 = w32 v9 ∧ (v9 = 0 ∨ v9 = 1)) → LWS (T + 1000) m2 g9 → WA G E (k + 2) (n + 12) 1610 [(7, vI v9), (6, vI K), (0, .ref (RAW + sb)), (1, .ref 0), (2, .ref 1024), (3, .ref 1600), (4, .ref 1664), (5, vI i)] [] m2 := by
    intro K v9 m2 g9 hr9 hth ho9 hs9
    refine ga_aload_n ok 2 rfl rfl dL_law_1610 ?_
    refine gd_X4_0 ok hG rfl lk_L_145 rfl (c_X4_thrown ok.fl hG) (by rw [hR]; exact ⟨by decide, by decide, by show k + 2 + 0 ≤ 603072; omega, by show n + 12 + 0 ≤ 7223402; omega⟩) (Nat.le_of_ble_eq_true rfl) dL_law_1611 ?_
    rw [hth]
    refine ga_iload ok rfl dL_law_1614 ?_
    refine ga_icmp_eq ok 1621 (by decide) (by omega) (by omega) dL_law_1616 (fun c_1616 => ?_) (fun c_1616 => ?_)
    · refine ga_iload ok rfl dL_law_1621 ?_
      refine ga_if_ne ok 1645 (by decide) (by omega) dL_law_1623 (fun c_1623 => ?_) (fun c_1623 => ?_)
      · refine ga_goto ok 2494 (by decide) dL_law_1645 ?_
        exact WA.wd (by show k + 2 + 0 ≤ k + 24; omega) (by show n + 12 + 0 ≤ n + 9206; omega) (WA.re (by exact ⟨rfl, rfl, rfl, rfl, rfl, rfl, trivial⟩) (kk m2 g9 hs9))
      · refine ga_aload_n ok 3 rfl rfl dL_law_1626 ?_
        refine ga_iconst ok dL_law_1627 ?_
        refine ga_laload_la ok (ar_lo hG rfl) (by omega) dL_law_1628 ?_
        refine ga_iload ok rfl dL_law_1629 ?_
        obtain ⟨ho8, h01⟩ := ho9 (by omega)
        refine ga_if_eq ok 1638 (by decide) (by omega) dL_law_1631 (fun c_1631 => ?_) (fun c_1631 => ?_)
        · refine ga_lconst (z := 0) ok dL_law_1638 (by decide) ?_
          rw [show m2.1 1600 (0 : Int).toNat = 0 from ho8.trans (by rw [show v9 = 0 from c_1631]; decide)]
          refine ga_lcmp ok dL_law_1639 lcmp_0 ?_
          refine ga_if_eq ok 1645 (by decide) (by omega) dL_law_1640 (fun c_1640 => ?_) (fun c_1640 => ?_)
          · refine ga_goto ok 2494 (by decide) dL_law_1645 ?_
            exact WA.wd (by show k + 2 + 0 ≤ k + 24; omega) (by show n + 12 + 0 ≤ n + 9206; omega) (WA.re (by exact ⟨rfl, rfl, rfl, rfl, rfl, rfl, trivial⟩) (kk m2 g9 hs9))
          · exact absurd rfl c_1640
        · refine ga_lconst (z := 1) ok dL_law_1634 (by decide) ?_
          refine ga_goto ok 1639 (by decide) dL_law_1635 ?_
          rw [show m2.1 1600 (0 : Int).toNat = 1 from ho8.trans (by rw [show v9 = 1 by omega]; decide)]
          refine ga_lcmp ok dL_law_1639 lcmp_0 ?_
          refine ga_if_eq ok 1645 (by decide) (by omega) dL_law_1640 (fun c_1640 => ?_) (fun c_1640 => ?_)
          · refine ga_goto ok 2494 (by decide) dL_law_1645 ?_
            exact WA.wd (by show k + 2 + 0 ≤ k + 24; omega) (by show n + 12 + 0 ≤ n + 9206; omega) (WA.re (by exact ⟨rfl, rfl, rfl, rfl, rfl, rfl, trivial⟩) (kk m2 g9 hs9))
          · exact absurd rfl c_1640
    · exact absurd rfl c_1616
  refine ga_aload_n ok 1 rfl rfl dL_law_1573 ?_
  refine ga_aload_n ok 0 rfl rfl dL_law_1574 ?_
  refine ga_iload ok rfl dL_law_1575 ?_
  refine ga_iconst ok dL_law_1577 ?_
  refine ga_iadd ok dL_law_1578 ?_
  refine gs_scr ok hS hSc (by omega) dL_law_1579 ?_
  refine ga_aload_n ok 0 rfl rfl dL_law_1580 ?_
  refine ga_iload ok rfl dL_law_1581 ?_
  refine ga_iconst ok dL_law_1583 ?_
  refine ga_iadd ok dL_law_1584 ?_
  refine gs_scr ok hS hSc (by omega) dL_law_1585 ?_
  refine ga_aload_n ok 3 rfl rfl dL_law_1586 ?_
  refine ga_callT ok [_, _, _, _] lw_L_206 (w_wouldPush ok.fl hG hS hs.1.1.1 hs.1.1.2 (sx_rng xs _) (sx_rng xs _)) rfl (by rw [hR]; exact ⟨by decide, by decide, by show k + 2 ≤ 603072; omega, by show n + 12 ≤ 7223402; omega⟩) (Nat.le_of_ble_eq_true rfl) dL_law_1587 (fun r9 m1 hq9 => ?_) (fun _ _ h => h.elim)
  obtain ⟨rfl, hr9, ho1, hf1⟩ := hq9
  simp only [Option.toList_some, List.singleton_append]
  have hY1 : YIs m1 g := hs.2.1.w (fun n _ b c => hf1 n b c)
  refine ga_istore ok hn6 dL_law_1590 ?_
  refine ga_aload_n ok 2 rfl rfl dL_law_1592 ?_
  refine ga_aload_n ok 0 rfl rfl dL_law_1593 ?_
  refine ga_iload ok rfl dL_law_1594 ?_
  refine ga_iconst ok dL_law_1596 ?_
  refine ga_iadd ok dL_law_1597 ?_
  refine gs_scr ok hS hSc (by omega) dL_law_1598 ?_
  refine ga_aload_n ok 0 rfl rfl dL_law_1599 ?_
  refine ga_iload ok rfl dL_law_1600 ?_
  refine ga_iconst ok dL_law_1602 ?_
  refine ga_iadd ok dL_law_1603 ?_
  refine gs_scr ok hS hSc (by omega) dL_law_1604 ?_
  refine gc_X4_2 ok hG rfl lk_L_208 rfl (c_X4_wouldPush ok.fl hG hY1.1 hs.1.1.2 (sx_rng xs _) (sx_rng xs _)) (by rw [hR]; exact ⟨by decide, by decide, by show k + 2 + 0 ≤ 603072; omega, by show n + 12 + 0 ≤ 7223402; omega⟩) (Nat.le_of_ble_eq_true rfl) dL_law_1605 (fun r9 m2 hq9 => ?_) (fun _ _ h => h.elim)
  obtain ⟨v9, rfl, hv9, hm2⟩ := hq9
  subst m2
  simp only [Option.toList_some, List.singleton_append]
  refine ga_istore ok hn7 dL_law_1608 ?_
  exact WA.wd (by show k + 2 + 0 ≤ k + 2; omega) (by show n + 12 + 0 ≤ n + 12; omega) (WA.re (by exact ⟨rfl, rfl, rfl, rfl, rfl, rfl, rfl, rfl, trivial⟩) (tail _ v9 _ _ hr9 thM_at (fun h => ⟨(out_th (by decide)).trans ((ho1 h).trans (by rw [hv9 h])), by rw [hv9 h]; exact b2i_or _⟩) ((hs.ask hf1).mono (by omega))))
set_option maxHeartbeats 4000000 in
set_option maxRecDepth 100000 in
theorem lc_votes {G : GG} {E : EE} (ok : OK0 G E RL cL_law) (hG : MW G) (hS : SBW G) (hml : (e_c E).maxLocals = 9) (hR : e_R E = room_1) {sb sl : Nat} {xs : Nat → Int32} (hSc : SCR G E sb sl xs) {i : Int} (hi : 0 ≤ i ∧ i + 4 ≤ sl) {T : Int} (hT0 : 0 ≤ T ∧ T ≤ 999990000) {m : Mm} {g : Gm} (hs : LWS T m g) {k n : Nat} (hk : k + 24 ≤ 603072) (hn : n + 9206 ≤ 7223402)
    (kk : ∀ (m' : Mm) (g' : Gm), LWS (T + 1000) m' g' → WA G E (k + 24) (n + 9206) 2494 [(0, .ref (RAW + sb)), (1, .ref 0), (2, .ref 1024), (3, .ref 1600), (4, .ref 1664), (5, vI i)] [] m') : WA G E k n 1648 [(0, .ref (RAW + sb)), (1, .ref 0), (2, .ref 1024), (3, .ref 1600), (4, .ref 1664), (5, vI i)] [] m := by
  have hn6 : 6 < (e_c E).maxLocals := by rw [hml]; decide
  have hn7 : 7 < (e_c E).maxLocals := by rw [hml]; decide
  have hn8 : 8 < (e_c E).maxLocals := by rw [hml]; decide
  obtain ⟨-, -, -, hsl⟩ := id hSc
  have tail : ∀ (K : Int) (v9 : Int) (m2 : Mm) (g9 : Gm), (0 ≤ K ∧ K ≤ 3) → m2.1 1024 6 = K → (K = 0 → m2.1 1600 0 = w32 v9) → LWS (T + 1000) m2 g9 → WA G E (k + 1) (n + 6) 1673 [(7, vI v9), (6, vI K), (0, .ref (RAW + sb)), (1, .ref 0), (2, .ref 1024), (3, .ref 1600), (4, .ref 1664), (5, vI i)] [] m2 := by
    intro K v9 m2 g9 hr9 hth ho9 hs9
    refine ga_aload_n ok 2 rfl rfl dL_law_1673 ?_
    refine gd_X4_0 ok hG rfl lk_L_145 rfl (c_X4_thrown ok.fl hG) (by rw [hR]; exact ⟨by decide, by decide, by show k + 1 + 0 ≤ 603072; omega, by show n + 6 + 0 ≤ 7223402; omega⟩) (Nat.le_of_ble_eq_true rfl) dL_law_1674 ?_
    rw [hth]
    refine ga_iload ok rfl dL_law_1677 ?_
    refine ga_icmp_eq ok 1684 (by decide) (by omega) (by omega) dL_law_1679 (fun c_1679 => ?_) (fun c_1679 => ?_)
    · refine ga_iload ok rfl dL_law_1684 ?_
      refine ga_if_ne ok 1701 (by decide) (by omega) dL_law_1686 (fun c_1686 => ?_) (fun c_1686 => ?_)
      · refine ga_goto ok 2494 (by decide) dL_law_1701 ?_
        exact WA.wd (by show k + 1 + 0 ≤ k + 24; omega) (by show n + 6 + 0 ≤ n + 9206; omega) (WA.re (by exact ⟨rfl, rfl, rfl, rfl, rfl, rfl, trivial⟩) (kk m2 g9 hs9))
      · refine ga_aload_n ok 3 rfl rfl dL_law_1689 ?_
        refine ga_iconst ok dL_law_1690 ?_
        refine ga_laload_la ok (ar_lo hG rfl) (by omega) dL_law_1691 ?_
        rw [show m2.1 1600 (0 : Int).toNat = w32 v9 from ho9 (by omega)]
        refine ga_iload ok rfl dL_law_1692 ?_
        refine ga_i2lW ok dL_law_1694 ?_
        refine ga_lcmp ok dL_law_1695 lcmp_0 ?_
        refine ga_if_eq ok 1701 (by decide) (by omega) dL_law_1696 (fun c_1696 => ?_) (fun c_1696 => ?_)
        · refine ga_goto ok 2494 (by decide) dL_law_1701 ?_
          exact WA.wd (by show k + 1 + 0 ≤ k + 24; omega) (by show n + 6 + 0 ≤ n + 9206; omega) (WA.re (by exact ⟨rfl, rfl, rfl, rfl, rfl, rfl, trivial⟩) (kk m2 g9 hs9))
        · exact absurd rfl c_1696
    · exact absurd rfl c_1679
  refine ga_aload_n ok 1 rfl rfl dL_law_1648 ?_
  refine ga_aload_n ok 0 rfl rfl dL_law_1649 ?_
  refine ga_iload ok rfl dL_law_1650 ?_
  refine ga_iconst ok dL_law_1652 ?_
  refine ga_iadd ok dL_law_1653 ?_
  refine gs_scr ok hS hSc (by omega) dL_law_1654 ?_
  refine ga_aload_n ok 3 rfl rfl dL_law_1655 ?_
  refine ga_callT ok [_, _, _] lw_L_209 (w_votes ok.fl hG hS hs.1.1.1 hs.1.1.2 (sx_rng xs _)) rfl (by rw [hR]; exact ⟨by decide, by decide, by show k + 1 ≤ 603072; omega, by show n + 6 ≤ 7223402; omega⟩) (Nat.le_of_ble_eq_true rfl) dL_law_1656 (fun r9 m1 hq9 => ?_) (fun _ _ h => h.elim)
  obtain ⟨rfl, hr9, ho1, hf1⟩ := hq9
  simp only [Option.toList_some, List.singleton_append]
  have hY1 : YIs m1 g := hs.2.1.w (fun n _ b c => hf1 n b c)
  refine ga_istore ok hn6 dL_law_1659 ?_
  refine ga_aload_n ok 2 rfl rfl dL_law_1661 ?_
  refine ga_aload_n ok 0 rfl rfl dL_law_1662 ?_
  refine ga_iload ok rfl dL_law_1663 ?_
  refine ga_iconst ok dL_law_1665 ?_
  refine ga_iadd ok dL_law_1666 ?_
  refine gs_scr ok hS hSc (by omega) dL_law_1667 ?_
  refine gc_X4_1 ok hG rfl lk_L_211 rfl (c_X4_votes ok.fl hG hY1.1 hs.1.1.2 (sx_rng xs _)) (by rw [hR]; exact ⟨by decide, by decide, by show k + 1 + 0 ≤ 603072; omega, by show n + 6 + 0 ≤ 7223402; omega⟩) (Nat.le_of_ble_eq_true rfl) dL_law_1668 (fun r9 m2 hq9 => ?_) (fun _ _ h => h.elim)
  obtain ⟨v9, rfl, hv9, hm2⟩ := hq9
  subst m2
  simp only [Option.toList_some, List.singleton_append]
  refine ga_istore ok hn7 dL_law_1671 ?_
  exact WA.wd (by show k + 1 + 0 ≤ k + 1; omega) (by show n + 6 + 0 ≤ n + 6; omega) (WA.re (by exact ⟨rfl, rfl, rfl, rfl, rfl, rfl, rfl, rfl, trivial⟩) (tail _ v9 _ _ hr9 thM_at (fun h => (out_th (by decide)).trans ((ho1 h).trans (by rw [hv9 h]))) ((hs.ask hf1).mono (by omega))))
set_option maxHeartbeats 4000000 in
set_option maxRecDepth 100000 in
theorem lc_isVotedIn {G : GG} {E : EE} (ok : OK0 G E RL cL_law) (hG : MW G) (hS : SBW G) (hml : (e_c E).maxLocals = 9) (hR : e_R E = room_1) {sb sl : Nat} {xs : Nat → Int32} (hSc : SCR G E sb sl xs) {i : Int} (hi : 0 ≤ i ∧ i + 4 ≤ sl) {T : Int} (hT0 : 0 ≤ T ∧ T ≤ 999990000) {m : Mm} {g : Gm} (hs : LWS T m g) {k n : Nat} (hk : k + 24 ≤ 603072) (hn : n + 9206 ≤ 7223402)
    (kk : ∀ (m' : Mm) (g' : Gm), LWS (T + 1000) m' g' → WA G E (k + 24) (n + 9206) 2494 [(0, .ref (RAW + sb)), (1, .ref 0), (2, .ref 1024), (3, .ref 1600), (4, .ref 1664), (5, vI i)] [] m') : WA G E k n 1704 [(0, .ref (RAW + sb)), (1, .ref 0), (2, .ref 1024), (3, .ref 1600), (4, .ref 1664), (5, vI i)] [] m := by
  have hn6 : 6 < (e_c E).maxLocals := by rw [hml]; decide
  have hn7 : 7 < (e_c E).maxLocals := by rw [hml]; decide
  have hn8 : 8 < (e_c E).maxLocals := by rw [hml]; decide
  obtain ⟨-, -, -, hsl⟩ := id hSc
  have tail : ∀ (K : Int) (v9 : Int) (m2 : Mm) (g9 : Gm), (0 ≤ K ∧ K ≤ 3) → m2.1 1024 6 = K → (K = 0 → m2.1 1600 0 = w32 v9 ∧ (v9 = 0 ∨ v9 = 1)) → LWS (T + 1000) m2 g9 → WA G E (k + 1) (n + 6) 1729 [(7, vI v9), (6, vI K), (0, .ref (RAW + sb)), (1, .ref 0), (2, .ref 1024), (3, .ref 1600), (4, .ref 1664), (5, vI i)] [] m2 := by
    intro K v9 m2 g9 hr9 hth ho9 hs9
    refine ga_aload_n ok 2 rfl rfl dL_law_1729 ?_
    refine gd_X4_0 ok hG rfl lk_L_145 rfl (c_X4_thrown ok.fl hG) (by rw [hR]; exact ⟨by decide, by decide, by show k + 1 + 0 ≤ 603072; omega, by show n + 6 + 0 ≤ 7223402; omega⟩) (Nat.le_of_ble_eq_true rfl) dL_law_1730 ?_
    rw [hth]
    refine ga_iload ok rfl dL_law_1733 ?_
    refine ga_icmp_eq ok 1740 (by decide) (by omega) (by omega) dL_law_1735 (fun c_1735 => ?_) (fun c_1735 => ?_)
    · refine ga_iload ok rfl dL_law_1740 ?_
      refine ga_if_ne ok 1764 (by decide) (by omega) dL_law_1742 (fun c_1742 => ?_) (fun c_1742 => ?_)
      · refine ga_goto ok 2494 (by decide) dL_law_1764 ?_
        exact WA.wd (by show k + 1 + 0 ≤ k + 24; omega) (by show n + 6 + 0 ≤ n + 9206; omega) (WA.re (by exact ⟨rfl, rfl, rfl, rfl, rfl, rfl, trivial⟩) (kk m2 g9 hs9))
      · refine ga_aload_n ok 3 rfl rfl dL_law_1745 ?_
        refine ga_iconst ok dL_law_1746 ?_
        refine ga_laload_la ok (ar_lo hG rfl) (by omega) dL_law_1747 ?_
        refine ga_iload ok rfl dL_law_1748 ?_
        obtain ⟨ho8, h01⟩ := ho9 (by omega)
        refine ga_if_eq ok 1757 (by decide) (by omega) dL_law_1750 (fun c_1750 => ?_) (fun c_1750 => ?_)
        · refine ga_lconst (z := 0) ok dL_law_1757 (by decide) ?_
          rw [show m2.1 1600 (0 : Int).toNat = 0 from ho8.trans (by rw [show v9 = 0 from c_1750]; decide)]
          refine ga_lcmp ok dL_law_1758 lcmp_0 ?_
          refine ga_if_eq ok 1764 (by decide) (by omega) dL_law_1759 (fun c_1759 => ?_) (fun c_1759 => ?_)
          · refine ga_goto ok 2494 (by decide) dL_law_1764 ?_
            exact WA.wd (by show k + 1 + 0 ≤ k + 24; omega) (by show n + 6 + 0 ≤ n + 9206; omega) (WA.re (by exact ⟨rfl, rfl, rfl, rfl, rfl, rfl, trivial⟩) (kk m2 g9 hs9))
          · exact absurd rfl c_1759
        · refine ga_lconst (z := 1) ok dL_law_1753 (by decide) ?_
          refine ga_goto ok 1758 (by decide) dL_law_1754 ?_
          rw [show m2.1 1600 (0 : Int).toNat = 1 from ho8.trans (by rw [show v9 = 1 by omega]; decide)]
          refine ga_lcmp ok dL_law_1758 lcmp_0 ?_
          refine ga_if_eq ok 1764 (by decide) (by omega) dL_law_1759 (fun c_1759 => ?_) (fun c_1759 => ?_)
          · refine ga_goto ok 2494 (by decide) dL_law_1764 ?_
            exact WA.wd (by show k + 1 + 0 ≤ k + 24; omega) (by show n + 6 + 0 ≤ n + 9206; omega) (WA.re (by exact ⟨rfl, rfl, rfl, rfl, rfl, rfl, trivial⟩) (kk m2 g9 hs9))
          · exact absurd rfl c_1759
    · exact absurd rfl c_1735
  refine ga_aload_n ok 1 rfl rfl dL_law_1704 ?_
  refine ga_aload_n ok 0 rfl rfl dL_law_1705 ?_
  refine ga_iload ok rfl dL_law_1706 ?_
  refine ga_iconst ok dL_law_1708 ?_
  refine ga_iadd ok dL_law_1709 ?_
  refine gs_scr ok hS hSc (by omega) dL_law_1710 ?_
  refine ga_aload_n ok 3 rfl rfl dL_law_1711 ?_
  refine ga_callT ok [_, _, _] lw_L_212 (w_isVotedIn ok.fl hG hS hs.1.1.1 hs.1.1.2 (sx_rng xs _)) rfl (by rw [hR]; exact ⟨by decide, by decide, by show k + 1 ≤ 603072; omega, by show n + 6 ≤ 7223402; omega⟩) (Nat.le_of_ble_eq_true rfl) dL_law_1712 (fun r9 m1 hq9 => ?_) (fun _ _ h => h.elim)
  obtain ⟨rfl, hr9, ho1, hf1⟩ := hq9
  simp only [Option.toList_some, List.singleton_append]
  have hY1 : YIs m1 g := hs.2.1.w (fun n _ b c => hf1 n b c)
  refine ga_istore ok hn6 dL_law_1715 ?_
  refine ga_aload_n ok 2 rfl rfl dL_law_1717 ?_
  refine ga_aload_n ok 0 rfl rfl dL_law_1718 ?_
  refine ga_iload ok rfl dL_law_1719 ?_
  refine ga_iconst ok dL_law_1721 ?_
  refine ga_iadd ok dL_law_1722 ?_
  refine gs_scr ok hS hSc (by omega) dL_law_1723 ?_
  refine gc_X4_1 ok hG rfl lk_L_214 rfl (c_X4_isVotedIn ok.fl hG hY1.1 hs.1.1.2 (sx_rng xs _)) (by rw [hR]; exact ⟨by decide, by decide, by show k + 1 + 0 ≤ 603072; omega, by show n + 6 + 0 ≤ 7223402; omega⟩) (Nat.le_of_ble_eq_true rfl) dL_law_1724 (fun r9 m2 hq9 => ?_) (fun _ _ h => h.elim)
  obtain ⟨v9, rfl, hv9, hm2⟩ := hq9
  subst m2
  simp only [Option.toList_some, List.singleton_append]
  refine ga_istore ok hn7 dL_law_1727 ?_
  exact WA.wd (by show k + 1 + 0 ≤ k + 1; omega) (by show n + 6 + 0 ≤ n + 6; omega) (WA.re (by exact ⟨rfl, rfl, rfl, rfl, rfl, rfl, rfl, rfl, trivial⟩) (tail _ v9 _ _ hr9 thM_at (fun h => ⟨(out_th (by decide)).trans ((ho1 h).trans (by rw [hv9 h])), by rw [hv9 h]; exact b2i_or _⟩) ((hs.ask hf1).mono (by omega))))
set_option maxHeartbeats 4000000 in
set_option maxRecDepth 100000 in
theorem lc_agree {G : GG} {E : EE} (ok : OK0 G E RL cL_law) (hG : MW G) (hS : SBW G) (hml : (e_c E).maxLocals = 9) (hR : e_R E = room_1) {sb sl : Nat} {xs : Nat → Int32} (hSc : SCR G E sb sl xs) {i : Int} (hi : 0 ≤ i ∧ i + 4 ≤ sl) {T : Int} (hT0 : 0 ≤ T ∧ T ≤ 999990000) {m : Mm} {g : Gm} (hs : LWS T m g) {k n : Nat} (hk : k + 24 ≤ 603072) (hn : n + 9206 ≤ 7223402)
    (kk : ∀ (m' : Mm) (g' : Gm), LWS (T + 1000) m' g' → WA G E (k + 24) (n + 9206) 2494 [(0, .ref (RAW + sb)), (1, .ref 0), (2, .ref 1024), (3, .ref 1600), (4, .ref 1664), (5, vI i)] [] m') : WA G E k n 1767 [(0, .ref (RAW + sb)), (1, .ref 0), (2, .ref 1024), (3, .ref 1600), (4, .ref 1664), (5, vI i)] [] m := by
  have hn6 : 6 < (e_c E).maxLocals := by rw [hml]; decide
  have hn7 : 7 < (e_c E).maxLocals := by rw [hml]; decide
  have hn8 : 8 < (e_c E).maxLocals := by rw [hml]; decide
  obtain ⟨-, -, -, hsl⟩ := id hSc
  have tail : ∀ (K : Int) (v9 : Int) (m2 : Mm) (g9 : Gm), (0 ≤ K ∧ K ≤ 3) → m2.1 1024 6 = K → (K = 0 → m2.1 1600 0 = w32 v9) → LWS (T + 1000) m2 g9 → WA G E (k + 2) (n + 12) 1804 [(7, vI v9), (6, vI K), (0, .ref (RAW + sb)), (1, .ref 0), (2, .ref 1024), (3, .ref 1600), (4, .ref 1664), (5, vI i)] [] m2 := by
    intro K v9 m2 g9 hr9 hth ho9 hs9
    refine ga_aload_n ok 2 rfl rfl dL_law_1804 ?_
    refine gd_X4_0 ok hG rfl lk_L_145 rfl (c_X4_thrown ok.fl hG) (by rw [hR]; exact ⟨by decide, by decide, by show k + 2 + 0 ≤ 603072; omega, by show n + 12 + 0 ≤ 7223402; omega⟩) (Nat.le_of_ble_eq_true rfl) dL_law_1805 ?_
    rw [hth]
    refine ga_iload ok rfl dL_law_1808 ?_
    refine ga_icmp_eq ok 1815 (by decide) (by omega) (by omega) dL_law_1810 (fun c_1810 => ?_) (fun c_1810 => ?_)
    · refine ga_iload ok rfl dL_law_1815 ?_
      refine ga_if_ne ok 1832 (by decide) (by omega) dL_law_1817 (fun c_1817 => ?_) (fun c_1817 => ?_)
      · refine ga_goto ok 2494 (by decide) dL_law_1832 ?_
        exact WA.wd (by show k + 2 + 0 ≤ k + 24; omega) (by show n + 12 + 0 ≤ n + 9206; omega) (WA.re (by exact ⟨rfl, rfl, rfl, rfl, rfl, rfl, trivial⟩) (kk m2 g9 hs9))
      · refine ga_aload_n ok 3 rfl rfl dL_law_1820 ?_
        refine ga_iconst ok dL_law_1821 ?_
        refine ga_laload_la ok (ar_lo hG rfl) (by omega) dL_law_1822 ?_
        rw [show m2.1 1600 (0 : Int).toNat = w32 v9 from ho9 (by omega)]
        refine ga_iload ok rfl dL_law_1823 ?_
        refine ga_i2lW ok dL_law_1825 ?_
        refine ga_lcmp ok dL_law_1826 lcmp_0 ?_
        refine ga_if_eq ok 1832 (by decide) (by omega) dL_law_1827 (fun c_1827 => ?_) (fun c_1827 => ?_)
        · refine ga_goto ok 2494 (by decide) dL_law_1832 ?_
          exact WA.wd (by show k + 2 + 0 ≤ k + 24; omega) (by show n + 12 + 0 ≤ n + 9206; omega) (WA.re (by exact ⟨rfl, rfl, rfl, rfl, rfl, rfl, trivial⟩) (kk m2 g9 hs9))
        · exact absurd rfl c_1827
    · exact absurd rfl c_1810
  refine ga_aload_n ok 1 rfl rfl dL_law_1767 ?_
  refine ga_aload_n ok 0 rfl rfl dL_law_1768 ?_
  refine ga_iload ok rfl dL_law_1769 ?_
  refine ga_iconst ok dL_law_1771 ?_
  refine ga_iadd ok dL_law_1772 ?_
  refine gs_scr ok hS hSc (by omega) dL_law_1773 ?_
  refine ga_aload_n ok 0 rfl rfl dL_law_1774 ?_
  refine ga_iload ok rfl dL_law_1775 ?_
  refine ga_iconst ok dL_law_1777 ?_
  refine ga_iadd ok dL_law_1778 ?_
  refine gs_scr ok hS hSc (by omega) dL_law_1779 ?_
  refine ga_aload_n ok 3 rfl rfl dL_law_1780 ?_
  refine ga_callT ok [_, _, _, _] lw_L_215 (w_agree ok.fl hG hS hs.1.1.1 hs.1.1.2 (sx_rng xs _) (sx_rng xs _)) rfl (by rw [hR]; exact ⟨by decide, by decide, by show k + 2 ≤ 603072; omega, by show n + 12 ≤ 7223402; omega⟩) (Nat.le_of_ble_eq_true rfl) dL_law_1781 (fun r9 m1 hq9 => ?_) (fun _ _ h => h.elim)
  obtain ⟨rfl, hr9, ho1, hf1⟩ := hq9
  simp only [Option.toList_some, List.singleton_append]
  have hY1 : YIs m1 g := hs.2.1.w (fun n _ b c => hf1 n b c)
  refine ga_istore ok hn6 dL_law_1784 ?_
  refine ga_aload_n ok 2 rfl rfl dL_law_1786 ?_
  refine ga_aload_n ok 0 rfl rfl dL_law_1787 ?_
  refine ga_iload ok rfl dL_law_1788 ?_
  refine ga_iconst ok dL_law_1790 ?_
  refine ga_iadd ok dL_law_1791 ?_
  refine gs_scr ok hS hSc (by omega) dL_law_1792 ?_
  refine ga_aload_n ok 0 rfl rfl dL_law_1793 ?_
  refine ga_iload ok rfl dL_law_1794 ?_
  refine ga_iconst ok dL_law_1796 ?_
  refine ga_iadd ok dL_law_1797 ?_
  refine gs_scr ok hS hSc (by omega) dL_law_1798 ?_
  refine gc_X4_2 ok hG rfl lk_L_217 rfl (c_X4_agree ok.fl hG hY1.1 hs.1.1.2 (sx_rng xs _) (sx_rng xs _)) (by rw [hR]; exact ⟨by decide, by decide, by show k + 2 + 0 ≤ 603072; omega, by show n + 12 + 0 ≤ 7223402; omega⟩) (Nat.le_of_ble_eq_true rfl) dL_law_1799 (fun r9 m2 hq9 => ?_) (fun _ _ h => h.elim)
  obtain ⟨v9, rfl, hv9, hm2⟩ := hq9
  subst m2
  simp only [Option.toList_some, List.singleton_append]
  refine ga_istore ok hn7 dL_law_1802 ?_
  exact WA.wd (by show k + 2 + 0 ≤ k + 2; omega) (by show n + 12 + 0 ≤ n + 12; omega) (WA.re (by exact ⟨rfl, rfl, rfl, rfl, rfl, rfl, rfl, rfl, trivial⟩) (tail _ v9 _ _ hr9 thM_at (fun h => (out_th (by decide)).trans ((ho1 h).trans (by rw [hv9 h]))) ((hs.ask hf1).mono (by omega))))
set_option maxHeartbeats 4000000 in
set_option maxRecDepth 100000 in
theorem lc_ranked {G : GG} {E : EE} (ok : OK0 G E RL cL_law) (hG : MW G) (hS : SBW G) (hml : (e_c E).maxLocals = 9) (hR : e_R E = room_1) {sb sl : Nat} {xs : Nat → Int32} (hSc : SCR G E sb sl xs) {i : Int} (hi : 0 ≤ i ∧ i + 4 ≤ sl) {T : Int} (hT0 : 0 ≤ T ∧ T ≤ 999990000) {m : Mm} {g : Gm} (hs : LWS T m g) {k n : Nat} (hk : k + 24 ≤ 603072) (hn : n + 9206 ≤ 7223402)
    (kk : ∀ (m' : Mm) (g' : Gm), LWS (T + 1000) m' g' → WA G E (k + 24) (n + 9206) 2494 [(0, .ref (RAW + sb)), (1, .ref 0), (2, .ref 1024), (3, .ref 1600), (4, .ref 1664), (5, vI i)] [] m') : WA G E k n 1848 [(0, .ref (RAW + sb)), (1, .ref 0), (2, .ref 1024), (3, .ref 1600), (4, .ref 1664), (5, vI i)] [] m := by
  have hn6 : 6 < (e_c E).maxLocals := by rw [hml]; decide
  have hn7 : 7 < (e_c E).maxLocals := by rw [hml]; decide
  have hn8 : 8 < (e_c E).maxLocals := by rw [hml]; decide
  obtain ⟨-, -, -, hsl⟩ := id hSc
  have tail : ∀ (K : Int) (v9 : Int) (m2 : Mm) (g9 : Gm), (0 ≤ K ∧ K ≤ 3) → m2.1 1024 6 = K → (K = 0 → m2.1 1600 0 = w32 v9) → LWS (T + 1000) m2 g9 → WA G E (k + 1) (n + 6) 1873 [(7, vI v9), (6, vI K), (0, .ref (RAW + sb)), (1, .ref 0), (2, .ref 1024), (3, .ref 1600), (4, .ref 1664), (5, vI i)] [] m2 := by
    intro K v9 m2 g9 hr9 hth ho9 hs9
    refine ga_aload_n ok 2 rfl rfl dL_law_1873 ?_
    refine gd_X4_0 ok hG rfl lk_L_145 rfl (c_X4_thrown ok.fl hG) (by rw [hR]; exact ⟨by decide, by decide, by show k + 1 + 0 ≤ 603072; omega, by show n + 6 + 0 ≤ 7223402; omega⟩) (Nat.le_of_ble_eq_true rfl) dL_law_1874 ?_
    rw [hth]
    refine ga_iload ok rfl dL_law_1877 ?_
    refine ga_icmp_eq ok 1884 (by decide) (by omega) (by omega) dL_law_1879 (fun c_1879 => ?_) (fun c_1879 => ?_)
    · refine ga_iload ok rfl dL_law_1884 ?_
      refine ga_if_ne ok 1901 (by decide) (by omega) dL_law_1886 (fun c_1886 => ?_) (fun c_1886 => ?_)
      · refine ga_goto ok 2494 (by decide) dL_law_1901 ?_
        exact WA.wd (by show k + 1 + 0 ≤ k + 24; omega) (by show n + 6 + 0 ≤ n + 9206; omega) (WA.re (by exact ⟨rfl, rfl, rfl, rfl, rfl, rfl, trivial⟩) (kk m2 g9 hs9))
      · refine ga_aload_n ok 3 rfl rfl dL_law_1889 ?_
        refine ga_iconst ok dL_law_1890 ?_
        refine ga_laload_la ok (ar_lo hG rfl) (by omega) dL_law_1891 ?_
        rw [show m2.1 1600 (0 : Int).toNat = w32 v9 from ho9 (by omega)]
        refine ga_iload ok rfl dL_law_1892 ?_
        refine ga_i2lW ok dL_law_1894 ?_
        refine ga_lcmp ok dL_law_1895 lcmp_0 ?_
        refine ga_if_eq ok 1901 (by decide) (by omega) dL_law_1896 (fun c_1896 => ?_) (fun c_1896 => ?_)
        · refine ga_goto ok 2494 (by decide) dL_law_1901 ?_
          exact WA.wd (by show k + 1 + 0 ≤ k + 24; omega) (by show n + 6 + 0 ≤ n + 9206; omega) (WA.re (by exact ⟨rfl, rfl, rfl, rfl, rfl, rfl, trivial⟩) (kk m2 g9 hs9))
        · exact absurd rfl c_1896
    · exact absurd rfl c_1879
  refine ga_aload_n ok 1 rfl rfl dL_law_1848 ?_
  refine ga_aload_n ok 0 rfl rfl dL_law_1849 ?_
  refine ga_iload ok rfl dL_law_1850 ?_
  refine ga_iconst ok dL_law_1852 ?_
  refine ga_iadd ok dL_law_1853 ?_
  refine gs_scr ok hS hSc (by omega) dL_law_1854 ?_
  refine ga_aload_n ok 3 rfl rfl dL_law_1855 ?_
  refine ga_callT ok [_, _, _] lw_L_222 (w_ranked ok.fl hG hS hs.1.1.1 hs.1.1.2 (by omega) (sx_rng xs _)) rfl (by rw [hR]; exact ⟨by decide, by decide, by show k + 1 ≤ 603072; omega, by show n + 6 ≤ 7223402; omega⟩) (Nat.le_of_ble_eq_true rfl) dL_law_1856 (fun r9 m1 hq9 => ?_) (fun _ _ h => h.elim)
  obtain ⟨rfl, hr9, ho1, hf1⟩ := hq9
  simp only [Option.toList_some, List.singleton_append]
  have hY1 : YIs m1 g := hs.2.1.w (fun n _ b c => hf1 n b c)
  refine ga_istore ok hn6 dL_law_1859 ?_
  refine ga_aload_n ok 2 rfl rfl dL_law_1861 ?_
  refine ga_aload_n ok 0 rfl rfl dL_law_1862 ?_
  refine ga_iload ok rfl dL_law_1863 ?_
  refine ga_iconst ok dL_law_1865 ?_
  refine ga_iadd ok dL_law_1866 ?_
  refine gs_scr ok hS hSc (by omega) dL_law_1867 ?_
  refine gc_X4_1 ok hG rfl lk_L_224 rfl (c_X4_ranked ok.fl hG hY1.1 hs.1.1.2 (by omega) (sx_rng xs _)) (by rw [hR]; exact ⟨by decide, by decide, by show k + 1 + 0 ≤ 603072; omega, by show n + 6 + 0 ≤ 7223402; omega⟩) (Nat.le_of_ble_eq_true rfl) dL_law_1868 (fun r9 m2 hq9 => ?_) (fun _ _ h => h.elim)
  obtain ⟨v9, rfl, hv9, hm2⟩ := hq9
  subst m2
  simp only [Option.toList_some, List.singleton_append]
  refine ga_istore ok hn7 dL_law_1871 ?_
  exact WA.wd (by show k + 1 + 0 ≤ k + 1; omega) (by show n + 6 + 0 ≤ n + 6; omega) (WA.re (by exact ⟨rfl, rfl, rfl, rfl, rfl, rfl, rfl, rfl, trivial⟩) (tail _ v9 _ _ hr9 thM_at (fun h => (out_th (by decide)).trans ((ho1 h).trans (congrArg w32 ((rank_f (bb_P h)).2.trans (hv9 h).symm)))) ((hs.ask hf1).mono (by omega))))
set_option maxHeartbeats 4000000 in
set_option maxRecDepth 100000 in
theorem lc_account {G : GG} {E : EE} (ok : OK0 G E RL cL_law) (hG : MW G) (hS : SBW G) (hml : (e_c E).maxLocals = 9) (hR : e_R E = room_1) {sb sl : Nat} {xs : Nat → Int32} (hSc : SCR G E sb sl xs) {i : Int} (hi : 0 ≤ i ∧ i + 4 ≤ sl) {T : Int} (hT0 : 0 ≤ T ∧ T ≤ 999990000) {m : Mm} {g : Gm} (hs : LWS T m g) {k n : Nat} (hk : k + 24 ≤ 603072) (hn : n + 9206 ≤ 7223402)
    (kk : ∀ (m' : Mm) (g' : Gm), LWS (T + 1000) m' g' → WA G E (k + 24) (n + 9206) 2494 [(0, .ref (RAW + sb)), (1, .ref 0), (2, .ref 1024), (3, .ref 1600), (4, .ref 1664), (5, vI i)] [] m') : WA G E k n 2259 [(0, .ref (RAW + sb)), (1, .ref 0), (2, .ref 1024), (3, .ref 1600), (4, .ref 1664), (5, vI i)] [] m := by
  have hn6 : 6 < (e_c E).maxLocals := by rw [hml]; decide
  have hn7 : 7 < (e_c E).maxLocals := by rw [hml]; decide
  have hn8 : 8 < (e_c E).maxLocals := by rw [hml]; decide
  obtain ⟨-, -, -, hsl⟩ := id hSc
  have tail : ∀ (K : Int) (v9 : Int) (m2 : Mm) (g9 : Gm), (0 ≤ K ∧ K ≤ 3) → m2.1 1024 6 = K → (K = 0 → m2.1 1600 0 = w32 v9) → LWS (T + 1000) m2 g9 → WA G E (k + 1) (n + 6) 2284 [(7, vI v9), (6, vI K), (0, .ref (RAW + sb)), (1, .ref 0), (2, .ref 1024), (3, .ref 1600), (4, .ref 1664), (5, vI i)] [] m2 := by
    intro K v9 m2 g9 hr9 hth ho9 hs9
    refine ga_aload_n ok 2 rfl rfl dL_law_2284 ?_
    refine gd_X4_0 ok hG rfl lk_L_145 rfl (c_X4_thrown ok.fl hG) (by rw [hR]; exact ⟨by decide, by decide, by show k + 1 + 0 ≤ 603072; omega, by show n + 6 + 0 ≤ 7223402; omega⟩) (Nat.le_of_ble_eq_true rfl) dL_law_2285 ?_
    rw [hth]
    refine ga_iload ok rfl dL_law_2288 ?_
    refine ga_icmp_eq ok 2295 (by decide) (by omega) (by omega) dL_law_2290 (fun c_2290 => ?_) (fun c_2290 => ?_)
    · refine ga_iload ok rfl dL_law_2295 ?_
      refine ga_if_ne ok 2312 (by decide) (by omega) dL_law_2297 (fun c_2297 => ?_) (fun c_2297 => ?_)
      · refine ga_goto ok 2494 (by decide) dL_law_2312 ?_
        exact WA.wd (by show k + 1 + 0 ≤ k + 24; omega) (by show n + 6 + 0 ≤ n + 9206; omega) (WA.re (by exact ⟨rfl, rfl, rfl, rfl, rfl, rfl, trivial⟩) (kk m2 g9 hs9))
      · refine ga_aload_n ok 3 rfl rfl dL_law_2300 ?_
        refine ga_iconst ok dL_law_2301 ?_
        refine ga_laload_la ok (ar_lo hG rfl) (by omega) dL_law_2302 ?_
        rw [show m2.1 1600 (0 : Int).toNat = w32 v9 from ho9 (by omega)]
        refine ga_iload ok rfl dL_law_2303 ?_
        refine ga_i2lW ok dL_law_2305 ?_
        refine ga_lcmp ok dL_law_2306 lcmp_0 ?_
        refine ga_if_eq ok 2312 (by decide) (by omega) dL_law_2307 (fun c_2307 => ?_) (fun c_2307 => ?_)
        · refine ga_goto ok 2494 (by decide) dL_law_2312 ?_
          exact WA.wd (by show k + 1 + 0 ≤ k + 24; omega) (by show n + 6 + 0 ≤ n + 9206; omega) (WA.re (by exact ⟨rfl, rfl, rfl, rfl, rfl, rfl, trivial⟩) (kk m2 g9 hs9))
        · exact absurd rfl c_2307
    · exact absurd rfl c_2290
  refine ga_aload_n ok 1 rfl rfl dL_law_2259 ?_
  refine ga_aload_n ok 0 rfl rfl dL_law_2260 ?_
  refine ga_iload ok rfl dL_law_2261 ?_
  refine ga_iconst ok dL_law_2263 ?_
  refine ga_iadd ok dL_law_2264 ?_
  refine gs_scr ok hS hSc (by omega) dL_law_2265 ?_
  refine ga_aload_n ok 3 rfl rfl dL_law_2266 ?_
  refine ga_callT ok [_, _, _] lw_L_250 (w_account ok.fl hG hS hs.1.1.1 hs.1.1.2 (sx_rng xs _)) rfl (by rw [hR]; exact ⟨by decide, by decide, by show k + 1 ≤ 603072; omega, by show n + 6 ≤ 7223402; omega⟩) (Nat.le_of_ble_eq_true rfl) dL_law_2267 (fun r9 m1 hq9 => ?_) (fun _ _ h => h.elim)
  rw [show m.1 640 1 = g.tn from hs.1.2.2.2.2.1.1, show m.1 0 6 = g.kt from hs.1.2.2.1.1] at hq9
  obtain ⟨rfl, hr9, ho1, hf1⟩ := hq9
  simp only [Option.toList_some, List.singleton_append]
  have hY1 : YIs m1 g := hs.2.1.w (fun n _ b c => hf1 n b c)
  refine ga_istore ok hn6 dL_law_2270 ?_
  refine ga_aload_n ok 2 rfl rfl dL_law_2272 ?_
  refine ga_aload_n ok 0 rfl rfl dL_law_2273 ?_
  refine ga_iload ok rfl dL_law_2274 ?_
  refine ga_iconst ok dL_law_2276 ?_
  refine ga_iadd ok dL_law_2277 ?_
  refine gs_scr ok hS hSc (by omega) dL_law_2278 ?_
  refine gc_X4_1 ok hG rfl lk_L_252 rfl (c_X4_account ok.fl hG hY1.1 hs.1.1.2 (sx_rng xs _)) (by rw [hR]; exact ⟨by decide, by decide, by show k + 1 + 0 ≤ 603072; omega, by show n + 6 + 0 ≤ 7223402; omega⟩) (Nat.le_of_ble_eq_true rfl) dL_law_2279 (fun r9 m2 hq9 => ?_) (fun _ _ h => h.elim)
  rw [show m1.1 1024 14 = g.tn from hY1.2.2.2.2.1.1, show m1.1 1024 5 = g.kt from hY1.2.2.1.1] at hq9
  obtain ⟨v9, rfl, hv9, hm2⟩ := hq9
  subst m2
  simp only [Option.toList_some, List.singleton_append]
  refine ga_istore ok hn7 dL_law_2282 ?_
  exact WA.wd (by show k + 1 + 0 ≤ k + 1; omega) (by show n + 6 + 0 ≤ n + 6; omega) (WA.re (by exact ⟨rfl, rfl, rfl, rfl, rfl, rfl, rfl, rfl, trivial⟩) (tail _ v9 _ _ hr9 thM_at (fun h => (out_th (by decide)).trans ((ho1 h).trans (by rw [hv9 h]))) ((hs.ask hf1).mono (by omega))))
set_option maxHeartbeats 4000000 in
set_option maxRecDepth 100000 in
theorem lc_refusal {G : GG} {E : EE} (ok : OK0 G E RL cL_law) (hG : MW G) (hS : SBW G) (hml : (e_c E).maxLocals = 9) (hR : e_R E = room_1) {sb sl : Nat} {xs : Nat → Int32} (hSc : SCR G E sb sl xs) {i : Int} (hi : 0 ≤ i ∧ i + 4 ≤ sl) {T : Int} (hT0 : 0 ≤ T ∧ T ≤ 999990000) {m : Mm} {g : Gm} (hs : LWS T m g) {k n : Nat} (hk : k + 24 ≤ 603072) (hn : n + 9206 ≤ 7223402)
    (kk : ∀ (m' : Mm) (g' : Gm), LWS (T + 1000) m' g' → WA G E (k + 24) (n + 9206) 2494 [(0, .ref (RAW + sb)), (1, .ref 0), (2, .ref 1024), (3, .ref 1600), (4, .ref 1664), (5, vI i)] [] m') : WA G E k n 2187 [(0, .ref (RAW + sb)), (1, .ref 0), (2, .ref 1024), (3, .ref 1600), (4, .ref 1664), (5, vI i)] [] m := by
  have hn6 : 6 < (e_c E).maxLocals := by rw [hml]; decide
  have hn7 : 7 < (e_c E).maxLocals := by rw [hml]; decide
  have hn8 : 8 < (e_c E).maxLocals := by rw [hml]; decide
  obtain ⟨-, -, -, hsl⟩ := id hSc
  have tail : ∀ (K : Int) (v9 : Int) (m2 : Mm) (g9 : Gm), (0 ≤ K ∧ K ≤ 3) → m2.1 1024 6 = K → (K = 0 → m2.1 1600 0 = w32 v9) → LWS (T + 1000) m2 g9 → WA G E (k + 1) (n + 6) 2228 [(7, vI v9), (6, vI K), (0, .ref (RAW + sb)), (1, .ref 0), (2, .ref 1024), (3, .ref 1600), (4, .ref 1664), (5, vI i)] [] m2 := by
    intro K v9 m2 g9 hr9 hth ho9 hs9
    refine ga_aload_n ok 2 rfl rfl dL_law_2228 ?_
    refine gd_X4_0 ok hG rfl lk_L_145 rfl (c_X4_thrown ok.fl hG) (by rw [hR]; exact ⟨by decide, by decide, by show k + 1 + 0 ≤ 603072; omega, by show n + 6 + 0 ≤ 7223402; omega⟩) (Nat.le_of_ble_eq_true rfl) dL_law_2229 ?_
    rw [hth]
    refine ga_iload ok rfl dL_law_2232 ?_
    refine ga_icmp_eq ok 2239 (by decide) (by omega) (by omega) dL_law_2234 (fun c_2234 => ?_) (fun c_2234 => ?_)
    · refine ga_iload ok rfl dL_law_2239 ?_
      refine ga_if_ne ok 2256 (by decide) (by omega) dL_law_2241 (fun c_2241 => ?_) (fun c_2241 => ?_)
      · refine ga_goto ok 2494 (by decide) dL_law_2256 ?_
        exact WA.wd (by show k + 1 + 0 ≤ k + 24; omega) (by show n + 6 + 0 ≤ n + 9206; omega) (WA.re (by exact ⟨rfl, rfl, rfl, rfl, rfl, rfl, trivial⟩) (kk m2 g9 hs9))
      · refine ga_aload_n ok 3 rfl rfl dL_law_2244 ?_
        refine ga_iconst ok dL_law_2245 ?_
        refine ga_laload_la ok (ar_lo hG rfl) (by omega) dL_law_2246 ?_
        rw [show m2.1 1600 (0 : Int).toNat = w32 v9 from ho9 (by omega)]
        refine ga_iload ok rfl dL_law_2247 ?_
        refine ga_i2lW ok dL_law_2249 ?_
        refine ga_lcmp ok dL_law_2250 lcmp_0 ?_
        refine ga_if_eq ok 2256 (by decide) (by omega) dL_law_2251 (fun c_2251 => ?_) (fun c_2251 => ?_)
        · refine ga_goto ok 2494 (by decide) dL_law_2256 ?_
          exact WA.wd (by show k + 1 + 0 ≤ k + 24; omega) (by show n + 6 + 0 ≤ n + 9206; omega) (WA.re (by exact ⟨rfl, rfl, rfl, rfl, rfl, rfl, trivial⟩) (kk m2 g9 hs9))
        · exact absurd rfl c_2251
    · exact absurd rfl c_2234
  refine ga_aload_n ok 1 rfl rfl dL_law_2187 ?_
  refine ga_aload_n ok 0 rfl rfl dL_law_2188 ?_
  refine ga_iload ok rfl dL_law_2189 ?_
  refine ga_iconst ok dL_law_2191 ?_
  refine ga_iadd ok dL_law_2192 ?_
  refine gs_scr ok hS hSc (by omega) dL_law_2193 ?_
  refine ga_if_eq ok 2201 (by decide) (sx_rng xs _) dL_law_2194 (fun c_2194 => ?_) (fun c_2194 => ?_)
  · refine ga_iconst ok dL_law_2201 ?_
    refine ga_aload_n ok 3 rfl rfl dL_law_2202 ?_
    refine ga_callT ok [_, _, _] lw_L_246 (w_refusal ok.fl hG hS hs.1.rs9 (by first | exact Or.inl rfl | exact Or.inr rfl)) rfl (by rw [hR]; exact ⟨by decide, by decide, by show k + 1 ≤ 603072; omega, by show n + 6 ≤ 7223402; omega⟩) (Nat.le_of_ble_eq_true rfl) dL_law_2203 (fun r9 m1 hq9 => ?_) (fun _ _ h => h.elim)
    rw [show m.1 0 11 = g.rs from hs.1.2.2.2.1.1.2.1, show m.1 0 12 = g.dt from hs.1.2.2.2.1.1.2.2] at hq9
    obtain ⟨rfl, hr9, ho1, hf1⟩ := hq9
    simp only [Option.toList_some, List.singleton_append]
    have hY1 : YIs m1 g := hs.2.1.w (fun n _ b c => hf1 n b c)
    refine ga_istore ok hn6 dL_law_2206 ?_
    refine ga_aload_n ok 2 rfl rfl dL_law_2208 ?_
    refine ga_aload_n ok 0 rfl rfl dL_law_2209 ?_
    refine ga_iload ok rfl dL_law_2210 ?_
    refine ga_iconst ok dL_law_2212 ?_
    refine ga_iadd ok dL_law_2213 ?_
    refine gs_scr ok hS hSc (by omega) dL_law_2214 ?_
    refine ga_if_eq ok 2222 (by decide) (sx_rng xs _) dL_law_2215 (fun c_2215 => ?_) (fun c_2215 => ?_)
    · refine ga_iconst ok dL_law_2222 ?_
      refine gc_X4_1 ok hG rfl lk_L_249 rfl (c_X4_refusal ok.fl hG (YIs.rs9 hs.1 hY1) (by first | exact Or.inl rfl | exact Or.inr rfl)) (by rw [hR]; exact ⟨by decide, by decide, by show k + 1 + 0 ≤ 603072; omega, by show n + 6 + 0 ≤ 7223402; omega⟩) (Nat.le_of_ble_eq_true rfl) dL_law_2223 (fun r9 m2 hq9 => ?_) (fun _ _ h => h.elim)
      rw [show m1.1 1024 7 = g.rs from hY1.2.2.2.1.1, show m1.1 1024 8 = g.dt from hY1.2.2.2.1.2.1] at hq9
      obtain ⟨v9, rfl, hv9, hm2⟩ := hq9
      subst m2
      simp only [Option.toList_some, List.singleton_append]
      refine ga_istore ok hn7 dL_law_2226 ?_
      exact WA.wd (by show k + 1 + 0 ≤ k + 1; omega) (by show n + 6 + 0 ≤ n + 6; omega) (WA.re (by exact ⟨rfl, rfl, rfl, rfl, rfl, rfl, rfl, rfl, trivial⟩) (tail _ v9 _ _ hr9 thM_at (fun h => (out_th (by decide)).trans ((ho1 h).trans (by rw [hv9 h]))) ((hs.ask hf1).mono (by omega))))
    · exact absurd c_2194 c_2215
  · refine ga_iconst ok dL_law_2197 ?_
    refine ga_goto ok 2202 (by decide) dL_law_2198 ?_
    refine ga_aload_n ok 3 rfl rfl dL_law_2202 ?_
    refine ga_callT ok [_, _, _] lw_L_246 (w_refusal ok.fl hG hS hs.1.rs9 (by first | exact Or.inl rfl | exact Or.inr rfl)) rfl (by rw [hR]; exact ⟨by decide, by decide, by show k + 1 ≤ 603072; omega, by show n + 6 ≤ 7223402; omega⟩) (Nat.le_of_ble_eq_true rfl) dL_law_2203 (fun r9 m1 hq9 => ?_) (fun _ _ h => h.elim)
    rw [show m.1 0 11 = g.rs from hs.1.2.2.2.1.1.2.1, show m.1 0 12 = g.dt from hs.1.2.2.2.1.1.2.2] at hq9
    obtain ⟨rfl, hr9, ho1, hf1⟩ := hq9
    simp only [Option.toList_some, List.singleton_append]
    have hY1 : YIs m1 g := hs.2.1.w (fun n _ b c => hf1 n b c)
    refine ga_istore ok hn6 dL_law_2206 ?_
    refine ga_aload_n ok 2 rfl rfl dL_law_2208 ?_
    refine ga_aload_n ok 0 rfl rfl dL_law_2209 ?_
    refine ga_iload ok rfl dL_law_2210 ?_
    refine ga_iconst ok dL_law_2212 ?_
    refine ga_iadd ok dL_law_2213 ?_
    refine gs_scr ok hS hSc (by omega) dL_law_2214 ?_
    refine ga_if_eq ok 2222 (by decide) (sx_rng xs _) dL_law_2215 (fun c_2215 => ?_) (fun c_2215 => ?_)
    · exact absurd c_2215 c_2194
    · refine ga_iconst ok dL_law_2218 ?_
      refine ga_goto ok 2223 (by decide) dL_law_2219 ?_
      refine gc_X4_1 ok hG rfl lk_L_249 rfl (c_X4_refusal ok.fl hG (YIs.rs9 hs.1 hY1) (by first | exact Or.inl rfl | exact Or.inr rfl)) (by rw [hR]; exact ⟨by decide, by decide, by show k + 1 + 0 ≤ 603072; omega, by show n + 6 + 0 ≤ 7223402; omega⟩) (Nat.le_of_ble_eq_true rfl) dL_law_2223 (fun r9 m2 hq9 => ?_) (fun _ _ h => h.elim)
      rw [show m1.1 1024 7 = g.rs from hY1.2.2.2.1.1, show m1.1 1024 8 = g.dt from hY1.2.2.2.1.2.1] at hq9
      obtain ⟨v9, rfl, hv9, hm2⟩ := hq9
      subst m2
      simp only [Option.toList_some, List.singleton_append]
      refine ga_istore ok hn7 dL_law_2226 ?_
      exact WA.wd (by show k + 1 + 0 ≤ k + 1; omega) (by show n + 6 + 0 ≤ n + 6; omega) (WA.re (by exact ⟨rfl, rfl, rfl, rfl, rfl, rfl, rfl, rfl, trivial⟩) (tail _ v9 _ _ hr9 thM_at (fun h => (out_th (by decide)).trans ((ho1 h).trans (by rw [hv9 h]))) ((hs.ask hf1).mono (by omega))))
set_option maxHeartbeats 4000000 in
set_option maxRecDepth 100000 in
theorem lc_meanBadges {G : GG} {E : EE} (ok : OK0 G E RL cL_law) (hG : MW G) (hS : SBW G) (hml : (e_c E).maxLocals = 9) (hR : e_R E = room_1) {sb sl : Nat} {xs : Nat → Int32} (hSc : SCR G E sb sl xs) {i : Int} (hi : 0 ≤ i ∧ i + 4 ≤ sl) {T : Int} (hT0 : 0 ≤ T ∧ T ≤ 999990000) {m : Mm} {g : Gm} (hs : LWS T m g) {k n : Nat} (hk : k + 24 ≤ 603072) (hn : n + 9206 ≤ 7223402)
    (kk : ∀ (m' : Mm) (g' : Gm), LWS (T + 1000) m' g' → WA G E (k + 24) (n + 9206) 2494 [(0, .ref (RAW + sb)), (1, .ref 0), (2, .ref 1024), (3, .ref 1600), (4, .ref 1664), (5, vI i)] [] m') : WA G E k n 2328 [(0, .ref (RAW + sb)), (1, .ref 0), (2, .ref 1024), (3, .ref 1600), (4, .ref 1664), (5, vI i)] [] m := by
  have hn6 : 6 < (e_c E).maxLocals := by rw [hml]; decide
  have hn7 : 7 < (e_c E).maxLocals := by rw [hml]; decide
  have hn8 : 8 < (e_c E).maxLocals := by rw [hml]; decide
  obtain ⟨-, -, -, hsl⟩ := id hSc
  have tail : ∀ (K : Int) (v9 : UInt64) (m2 : Mm) (g9 : Gm), (0 ≤ K ∧ K ≤ 3) → m2.1 1024 6 = K → (K = 0 → m2.1 1664 0 = (v9.toNat : Int) ∧ vf_n64 v9) → LWS (T + 1000) m2 g9 → WA G E (k + 2) (n + 12) 2342 [(7, .double v9), (6, vI K), (0, .ref (RAW + sb)), (1, .ref 0), (2, .ref 1024), (3, .ref 1600), (4, .ref 1664), (5, vI i)] [] m2 := by
    intro K v9 m2 g9 hr9 hth ho9 hs9
    refine ga_aload_n ok 2 rfl rfl dL_law_2342 ?_
    refine gd_X4_0 ok hG rfl lk_L_145 rfl (c_X4_thrown ok.fl hG) (by rw [hR]; exact ⟨by decide, by decide, by show k + 2 + 0 ≤ 603072; omega, by show n + 12 + 0 ≤ 7223402; omega⟩) (Nat.le_of_ble_eq_true rfl) dL_law_2343 ?_
    rw [hth]
    refine ga_iload ok rfl dL_law_2346 ?_
    refine ga_icmp_eq ok 2353 (by decide) (by omega) (by omega) dL_law_2348 (fun c_2348 => ?_) (fun c_2348 => ?_)
    · refine ga_iload ok rfl dL_law_2353 ?_
      refine ga_if_ne ok 2390 (by decide) (by omega) dL_law_2355 (fun c_2355 => ?_) (fun c_2355 => ?_)
      · refine ga_goto ok 2494 (by decide) dL_law_2390 ?_
        exact WA.wd (by show k + 2 + 0 ≤ k + 24; omega) (by show n + 12 + 0 ≤ n + 9206; omega) (WA.re (by exact ⟨rfl, rfl, rfl, rfl, rfl, rfl, trivial⟩) (kk m2 g9 hs9))
      · refine ga_aload ok rfl dL_law_2358 ?_
        refine ga_iconst ok dL_law_2360 ?_
        refine ga_daload_da ok (ar_ld hG rfl) (by omega) dL_law_2361 ?_
        obtain ⟨ho8, hn64⟩ := ho9 (by omega)
        rw [show m2.1 1664 (0 : Int).toNat = (v9.toNat : Int) from ho8, u64_r]
        refine ga_dload ok rfl dL_law_2362 ?_
        refine ga_dcmp ok dL_law_2364 (dcmp_0 hn64) ?_
        refine ga_if_eq ok 2390 (by decide) (by omega) dL_law_2365 (fun c_2365 => ?_) (fun c_2365 => ?_)
        · refine ga_goto ok 2494 (by decide) dL_law_2390 ?_
          exact WA.wd (by show k + 2 + 0 ≤ k + 24; omega) (by show n + 12 + 0 ≤ n + 9206; omega) (WA.re (by exact ⟨rfl, rfl, rfl, rfl, rfl, rfl, trivial⟩) (kk m2 g9 hs9))
        · exact absurd rfl c_2365
    · exact absurd rfl c_2348
  refine ga_aload_n ok 1 rfl rfl dL_law_2328 ?_
  refine ga_aload ok rfl dL_law_2329 ?_
  refine ga_callT ok [_, _] lw_L_258 (w_meanBadges ok.fl hG hS hs.1.1.1 hs.1.1.2) rfl (by rw [hR]; exact ⟨by decide, by decide, by show k + 2 ≤ 603072; omega, by show n + 12 ≤ 7223402; omega⟩) (Nat.le_of_ble_eq_true rfl) dL_law_2331 (fun r9 m1 hq9 => ?_) (fun _ _ h => h.elim)
  obtain ⟨rfl, hr9, ho1, hf1⟩ := hq9
  simp only [Option.toList_some, List.singleton_append]
  have hY1 : YIs m1 g := hs.2.1.w (fun n _ b c => hf1 n b c)
  refine ga_istore ok hn6 dL_law_2334 ?_
  refine ga_aload_n ok 2 rfl rfl dL_law_2336 ?_
  refine gc_X4_0 ok hG rfl lk_L_261 rfl (c_X4_meanBadges ok.fl hG hY1.1 hs.1.1.2) (by rw [hR]; exact ⟨by decide, by decide, by show k + 2 + 0 ≤ 603072; omega, by show n + 12 + 0 ≤ 7223402; omega⟩) (Nat.le_of_ble_eq_true rfl) dL_law_2337 (fun r9 m2 hq9 => ?_) (fun _ _ h => h.elim)
  obtain ⟨v9, rfl, hv9, hm2⟩ := hq9
  subst m2
  simp only [Option.toList_some, List.singleton_append]
  refine ga_dstore ok hn8 dL_law_2340 ?_
  exact WA.wd (by show k + 2 + 0 ≤ k + 2; omega) (by show n + 12 + 0 ≤ n + 12; omega) (WA.re (by exact ⟨rfl, rfl, rfl, rfl, rfl, rfl, rfl, rfl, trivial⟩) (tail _ v9 _ _ hr9 thM_at (fun h => ⟨(out_th (by decide)).trans ((ho1 h).1.trans (by rw [hv9 (fun e => by rw [if_pos e] at h; exact absurd h (by decide))])), by rw [hv9 (fun e => by rw [if_pos e] at h; exact absurd h (by decide))]; exact (ho1 h).2⟩) ((hs.ask hf1).mono (by omega))))
set_option maxHeartbeats 4000000 in
set_option maxRecDepth 100000 in
theorem lc_character {G : GG} {E : EE} (ok : OK0 G E RL cL_law) (hG : MW G) (hS : SBW G) (hml : (e_c E).maxLocals = 9) (hR : e_R E = room_1) {sb sl : Nat} {xs : Nat → Int32} (hSc : SCR G E sb sl xs) {i : Int} (hi : 0 ≤ i ∧ i + 4 ≤ sl) {T : Int} (hT0 : 0 ≤ T ∧ T ≤ 999990000) {m : Mm} {g : Gm} (hs : LWS T m g) {k n : Nat} (hk : k + 24 ≤ 603072) (hn : n + 9206 ≤ 7223402)
    (kk : ∀ (m' : Mm) (g' : Gm), LWS (T + 1000) m' g' → WA G E (k + 24) (n + 9206) 2494 [(0, .ref (RAW + sb)), (1, .ref 0), (2, .ref 1024), (3, .ref 1600), (4, .ref 1664), (5, vI i)] [] m') : WA G E k n 2016 [(0, .ref (RAW + sb)), (1, .ref 0), (2, .ref 1024), (3, .ref 1600), (4, .ref 1664), (5, vI i)] [] m := by
  have hn6 : 6 < (e_c E).maxLocals := by rw [hml]; decide
  have hn7 : 7 < (e_c E).maxLocals := by rw [hml]; decide
  have hn8 : 8 < (e_c E).maxLocals := by rw [hml]; decide
  obtain ⟨-, -, -, hsl⟩ := id hSc
  have tail : ∀ (K : Int) (v9 : Int) (m2 : Mm) (g9 : Gm), (0 ≤ K ∧ K ≤ 3) → m2.1 1024 6 = K → (K = 0 → m2.1 1600 0 = w32 v9) → LWS (T + 1000) m2 g9 → WA G E (k + 1) (n + 6) 2041 [(7, vI v9), (6, vI K), (0, .ref (RAW + sb)), (1, .ref 0), (2, .ref 1024), (3, .ref 1600), (4, .ref 1664), (5, vI i)] [] m2 := by
    intro K v9 m2 g9 hr9 hth ho9 hs9
    refine ga_aload_n ok 2 rfl rfl dL_law_2041 ?_
    refine gd_X4_0 ok hG rfl lk_L_145 rfl (c_X4_thrown ok.fl hG) (by rw [hR]; exact ⟨by decide, by decide, by show k + 1 + 0 ≤ 603072; omega, by show n + 6 + 0 ≤ 7223402; omega⟩) (Nat.le_of_ble_eq_true rfl) dL_law_2042 ?_
    rw [hth]
    refine ga_iload ok rfl dL_law_2045 ?_
    refine ga_icmp_eq ok 2052 (by decide) (by omega) (by omega) dL_law_2047 (fun c_2047 => ?_) (fun c_2047 => ?_)
    · refine ga_iload ok rfl dL_law_2052 ?_
      refine ga_if_ne ok 2069 (by decide) (by omega) dL_law_2054 (fun c_2054 => ?_) (fun c_2054 => ?_)
      · refine ga_goto ok 2494 (by decide) dL_law_2069 ?_
        exact WA.wd (by show k + 1 + 0 ≤ k + 24; omega) (by show n + 6 + 0 ≤ n + 9206; omega) (WA.re (by exact ⟨rfl, rfl, rfl, rfl, rfl, rfl, trivial⟩) (kk m2 g9 hs9))
      · refine ga_aload_n ok 3 rfl rfl dL_law_2057 ?_
        refine ga_iconst ok dL_law_2058 ?_
        refine ga_laload_la ok (ar_lo hG rfl) (by omega) dL_law_2059 ?_
        rw [show m2.1 1600 (0 : Int).toNat = w32 v9 from ho9 (by omega)]
        refine ga_iload ok rfl dL_law_2060 ?_
        refine ga_i2lW ok dL_law_2062 ?_
        refine ga_lcmp ok dL_law_2063 lcmp_0 ?_
        refine ga_if_eq ok 2069 (by decide) (by omega) dL_law_2064 (fun c_2064 => ?_) (fun c_2064 => ?_)
        · refine ga_goto ok 2494 (by decide) dL_law_2069 ?_
          exact WA.wd (by show k + 1 + 0 ≤ k + 24; omega) (by show n + 6 + 0 ≤ n + 9206; omega) (WA.re (by exact ⟨rfl, rfl, rfl, rfl, rfl, rfl, trivial⟩) (kk m2 g9 hs9))
        · exact absurd rfl c_2064
    · exact absurd rfl c_2047
  refine ga_aload_n ok 1 rfl rfl dL_law_2016 ?_
  refine ga_aload_n ok 0 rfl rfl dL_law_2017 ?_
  refine ga_iload ok rfl dL_law_2018 ?_
  refine ga_iconst ok dL_law_2020 ?_
  refine ga_iadd ok dL_law_2021 ?_
  refine gs_scr ok hS hSc (by omega) dL_law_2022 ?_
  refine ga_aload_n ok 3 rfl rfl dL_law_2023 ?_
  refine ga_callT ok [_, _, _] lw_L_231 (w_character ok.fl hG hS hs.1 hs.2.2.1 hs.2.2.2 (sx_rng xs _)) rfl (by rw [hR]; exact ⟨by decide, by decide, by show k + 1 ≤ 603072; omega, by show n + 6 ≤ 7223402; omega⟩) (Nat.le_of_ble_eq_true rfl) dL_law_2024 (fun r9 m1 hq9 => ?_) (fun _ _ h => h.elim)
  obtain ⟨rfl, hr9, ho1, hf1⟩ := hq9
  simp only [Option.toList_some, List.singleton_append]
  have hY1 : YIs m1 g := hs.2.1.w (fun n _ b c => hf1 n b c)
  refine ga_istore ok hn6 dL_law_2027 ?_
  refine ga_aload_n ok 2 rfl rfl dL_law_2029 ?_
  refine ga_aload_n ok 0 rfl rfl dL_law_2030 ?_
  refine ga_iload ok rfl dL_law_2031 ?_
  refine ga_iconst ok dL_law_2033 ?_
  refine ga_iadd ok dL_law_2034 ?_
  refine gs_scr ok hS hSc (by omega) dL_law_2035 ?_
  refine gc_X4_1 ok hG rfl lk_L_233 rfl (c_X4_character ok.fl hG hY1 hs.2.2.2 (sx_rng xs _)) (by rw [hR]; exact ⟨by decide, by decide, by show k + 1 + 0 ≤ 603072; omega, by show n + 6 + 0 ≤ 7223402; omega⟩) (Nat.le_of_ble_eq_true rfl) dL_law_2036 (fun r9 m2 hq9 => ?_) (fun _ _ h => h.elim)
  obtain ⟨v9, rfl, hv9, hm2⟩ := hq9
  subst m2
  simp only [Option.toList_some, List.singleton_append]
  refine ga_istore ok hn7 dL_law_2039 ?_
  exact WA.wd (by show k + 1 + 0 ≤ k + 1; omega) (by show n + 6 + 0 ≤ n + 6; omega) (WA.re (by exact ⟨rfl, rfl, rfl, rfl, rfl, rfl, rfl, rfl, trivial⟩) (tail _ v9 _ _ hr9 thM_at (fun h => (out_th (by decide)).trans ((ho1 h).trans (by rw [hv9 h]))) ((hs.ask hf1).mono (by omega))))
set_option maxHeartbeats 4000000 in
set_option maxRecDepth 100000 in
theorem lc_line {G : GG} {E : EE} (ok : OK0 G E RL cL_law) (hG : MW G) (hS : SBW G) (hml : (e_c E).maxLocals = 9) (hR : e_R E = room_1) {sb sl : Nat} {xs : Nat → Int32} (hSc : SCR G E sb sl xs) {i : Int} (hi : 0 ≤ i ∧ i + 4 ≤ sl) {T : Int} (hT0 : 0 ≤ T ∧ T ≤ 999990000) {m : Mm} {g : Gm} (hs : LWS T m g) {k n : Nat} (hk : k + 24 ≤ 603072) (hn : n + 9206 ≤ 7223402)
    (kk : ∀ (m' : Mm) (g' : Gm), LWS (T + 1000) m' g' → WA G E (k + 24) (n + 9206) 2494 [(0, .ref (RAW + sb)), (1, .ref 0), (2, .ref 1024), (3, .ref 1600), (4, .ref 1664), (5, vI i)] [] m') : WA G E k n 1904 [(0, .ref (RAW + sb)), (1, .ref 0), (2, .ref 1024), (3, .ref 1600), (4, .ref 1664), (5, vI i)] [] m := by
  have hn6 : 6 < (e_c E).maxLocals := by rw [hml]; decide
  have hn7 : 7 < (e_c E).maxLocals := by rw [hml]; decide
  have hn8 : 8 < (e_c E).maxLocals := by rw [hml]; decide
  obtain ⟨-, -, -, hsl⟩ := id hSc
  have tail : ∀ (K : Int) (v9 : Int) (m2 : Mm) (g9 : Gm), (0 ≤ K ∧ K ≤ 3) → m2.1 1024 6 = K → (K = 0 → m2.1 1600 0 = w32 v9) → LWS (T + 1000) m2 g9 → WA G E (k + 16) (n + 4900) 1929 [(7, vI v9), (6, vI K), (0, .ref (RAW + sb)), (1, .ref 0), (2, .ref 1024), (3, .ref 1600), (4, .ref 1664), (5, vI i)] [] m2 := by
    intro K v9 m2 g9 hr9 hth ho9 hs9
    refine ga_aload_n ok 2 rfl rfl dL_law_1929 ?_
    refine gd_X4_0 ok hG rfl lk_L_145 rfl (c_X4_thrown ok.fl hG) (by rw [hR]; exact ⟨by decide, by decide, by show k + 16 + 0 ≤ 603072; omega, by show n + 4900 + 0 ≤ 7223402; omega⟩) (Nat.le_of_ble_eq_true rfl) dL_law_1930 ?_
    rw [hth]
    refine ga_iload ok rfl dL_law_1933 ?_
    refine ga_icmp_eq ok 1940 (by decide) (by omega) (by omega) dL_law_1935 (fun c_1935 => ?_) (fun c_1935 => ?_)
    · refine ga_iload ok rfl dL_law_1940 ?_
      refine ga_if_ne ok 1957 (by decide) (by omega) dL_law_1942 (fun c_1942 => ?_) (fun c_1942 => ?_)
      · refine ga_goto ok 2494 (by decide) dL_law_1957 ?_
        exact WA.wd (by show k + 16 + 0 ≤ k + 24; omega) (by show n + 4900 + 0 ≤ n + 9206; omega) (WA.re (by exact ⟨rfl, rfl, rfl, rfl, rfl, rfl, trivial⟩) (kk m2 g9 hs9))
      · refine ga_aload_n ok 3 rfl rfl dL_law_1945 ?_
        refine ga_iconst ok dL_law_1946 ?_
        refine ga_laload_la ok (ar_lo hG rfl) (by omega) dL_law_1947 ?_
        rw [show m2.1 1600 (0 : Int).toNat = w32 v9 from ho9 (by omega)]
        refine ga_iload ok rfl dL_law_1948 ?_
        refine ga_i2lW ok dL_law_1950 ?_
        refine ga_lcmp ok dL_law_1951 lcmp_0 ?_
        refine ga_if_eq ok 1957 (by decide) (by omega) dL_law_1952 (fun c_1952 => ?_) (fun c_1952 => ?_)
        · refine ga_goto ok 2494 (by decide) dL_law_1957 ?_
          exact WA.wd (by show k + 16 + 0 ≤ k + 24; omega) (by show n + 4900 + 0 ≤ n + 9206; omega) (WA.re (by exact ⟨rfl, rfl, rfl, rfl, rfl, rfl, trivial⟩) (kk m2 g9 hs9))
        · exact absurd rfl c_1952
    · exact absurd rfl c_1935
  refine ga_aload_n ok 1 rfl rfl dL_law_1904 ?_
  refine ga_aload_n ok 0 rfl rfl dL_law_1905 ?_
  refine ga_iload ok rfl dL_law_1906 ?_
  refine ga_iconst ok dL_law_1908 ?_
  refine ga_iadd ok dL_law_1909 ?_
  refine gs_scr ok hS hSc (by omega) dL_law_1910 ?_
  refine ga_aload_n ok 3 rfl rfl dL_law_1911 ?_
  refine ga_callT ok [_, _, _] lw_L_225 (w_line ok.fl hG hS hs.1 hs.2.2.1 (sx_rng xs _)) rfl (by rw [hR]; exact ⟨by decide, by decide, by show k + 16 ≤ 603072; omega, by show n + 4900 ≤ 7223402; omega⟩) (Nat.le_of_ble_eq_true rfl) dL_law_1912 (fun r9 m1 hq9 => ?_) (fun _ _ h => h.elim)
  obtain ⟨rfl, hr9, ho1, hX1, hB1, hf1⟩ := hq9
  simp only [Option.toList_some, List.singleton_append]
  have hY1 : YIs m1 g := hs.2.1.w hf1
  refine ga_istore ok hn6 dL_law_1915 ?_
  refine ga_aload_n ok 2 rfl rfl dL_law_1917 ?_
  refine ga_aload_n ok 0 rfl rfl dL_law_1918 ?_
  refine ga_iload ok rfl dL_law_1919 ?_
  refine ga_iconst ok dL_law_1921 ?_
  refine ga_iadd ok dL_law_1922 ?_
  refine gs_scr ok hS hSc (by omega) dL_law_1923 ?_
  refine gc_X4_1 ok hG rfl lk_L_227 rfl (c_X4_line ok.fl hG hY1 hs.1.1.2 (sx_rng xs _)) (by rw [hR]; exact ⟨by decide, by decide, by show k + 16 + 0 ≤ 603072; omega, by show n + 4900 + 0 ≤ 7223402; omega⟩) (Nat.le_of_ble_eq_true rfl) dL_law_1924 (fun r9 m2 hq9 => ?_) (fun _ _ h => h.elim)
  obtain ⟨v9, rfl, hv9, hY2, hth, hf2⟩ := hq9
  simp only [Option.toList_some, List.singleton_append]
  refine ga_istore ok hn7 dL_law_1927 ?_
  exact WA.wd (by show k + 16 + 0 ≤ k + 16; omega) (by show n + 4900 + 0 ≤ n + 4900; omega) (WA.re (by exact ⟨rfl, rfl, rfl, rfl, rfl, rfl, rfl, rfl, trivial⟩) (tail _ v9 _ _ hr9 hth (fun h => (show m2.1 1600 0 = m1.1 1600 0 by rw [(hf2 1600 (Or.inr (by omega))).1]).trans ((ho1 h).trans (by rw [hv9 h]))) ((LWS.lin hX1 hB1 hY2 hf2 (sp_line_ok hs.2.2.2)).mono (by omega))))
set_option maxHeartbeats 4000000 in
set_option maxRecDepth 100000 in
theorem lc_guardLine {G : GG} {E : EE} (ok : OK0 G E RL cL_law) (hG : MW G) (hS : SBW G) (hml : (e_c E).maxLocals = 9) (hR : e_R E = room_1) {sb sl : Nat} {xs : Nat → Int32} (hSc : SCR G E sb sl xs) {i : Int} (hi : 0 ≤ i ∧ i + 4 ≤ sl) {T : Int} (hT0 : 0 ≤ T ∧ T ≤ 999990000) {m : Mm} {g : Gm} (hs : LWS T m g) {k n : Nat} (hk : k + 24 ≤ 603072) (hn : n + 9206 ≤ 7223402)
    (kk : ∀ (m' : Mm) (g' : Gm), LWS (T + 1000) m' g' → WA G E (k + 24) (n + 9206) 2494 [(0, .ref (RAW + sb)), (1, .ref 0), (2, .ref 1024), (3, .ref 1600), (4, .ref 1664), (5, vI i)] [] m') : WA G E k n 1960 [(0, .ref (RAW + sb)), (1, .ref 0), (2, .ref 1024), (3, .ref 1600), (4, .ref 1664), (5, vI i)] [] m := by
  have hn6 : 6 < (e_c E).maxLocals := by rw [hml]; decide
  have hn7 : 7 < (e_c E).maxLocals := by rw [hml]; decide
  have hn8 : 8 < (e_c E).maxLocals := by rw [hml]; decide
  obtain ⟨-, -, -, hsl⟩ := id hSc
  have tail : ∀ (K : Int) (v9 : Int) (m2 : Mm) (g9 : Gm), (0 ≤ K ∧ K ≤ 3) → m2.1 1024 6 = K → (K = 0 → m2.1 1600 0 = w32 v9) → LWS (T + 1000) m2 g9 → WA G E (k + 24) (n + 9206) 1985 [(7, vI v9), (6, vI K), (0, .ref (RAW + sb)), (1, .ref 0), (2, .ref 1024), (3, .ref 1600), (4, .ref 1664), (5, vI i)] [] m2 := by
    intro K v9 m2 g9 hr9 hth ho9 hs9
    refine ga_aload_n ok 2 rfl rfl dL_law_1985 ?_
    refine gd_X4_0 ok hG rfl lk_L_145 rfl (c_X4_thrown ok.fl hG) (by rw [hR]; exact ⟨by decide, by decide, by show k + 24 + 0 ≤ 603072; omega, by show n + 9206 + 0 ≤ 7223402; omega⟩) (Nat.le_of_ble_eq_true rfl) dL_law_1986 ?_
    rw [hth]
    refine ga_iload ok rfl dL_law_1989 ?_
    refine ga_icmp_eq ok 1996 (by decide) (by omega) (by omega) dL_law_1991 (fun c_1991 => ?_) (fun c_1991 => ?_)
    · refine ga_iload ok rfl dL_law_1996 ?_
      refine ga_if_ne ok 2013 (by decide) (by omega) dL_law_1998 (fun c_1998 => ?_) (fun c_1998 => ?_)
      · refine ga_goto ok 2494 (by decide) dL_law_2013 ?_
        exact WA.wd (by show k + 24 + 0 ≤ k + 24; omega) (by show n + 9206 + 0 ≤ n + 9206; omega) (WA.re (by exact ⟨rfl, rfl, rfl, rfl, rfl, rfl, trivial⟩) (kk m2 g9 hs9))
      · refine ga_aload_n ok 3 rfl rfl dL_law_2001 ?_
        refine ga_iconst ok dL_law_2002 ?_
        refine ga_laload_la ok (ar_lo hG rfl) (by omega) dL_law_2003 ?_
        rw [show m2.1 1600 (0 : Int).toNat = w32 v9 from ho9 (by omega)]
        refine ga_iload ok rfl dL_law_2004 ?_
        refine ga_i2lW ok dL_law_2006 ?_
        refine ga_lcmp ok dL_law_2007 lcmp_0 ?_
        refine ga_if_eq ok 2013 (by decide) (by omega) dL_law_2008 (fun c_2008 => ?_) (fun c_2008 => ?_)
        · refine ga_goto ok 2494 (by decide) dL_law_2013 ?_
          exact WA.wd (by show k + 24 + 0 ≤ k + 24; omega) (by show n + 9206 + 0 ≤ n + 9206; omega) (WA.re (by exact ⟨rfl, rfl, rfl, rfl, rfl, rfl, trivial⟩) (kk m2 g9 hs9))
        · exact absurd rfl c_2008
    · exact absurd rfl c_1991
  refine ga_aload_n ok 1 rfl rfl dL_law_1960 ?_
  refine ga_aload_n ok 0 rfl rfl dL_law_1961 ?_
  refine ga_iload ok rfl dL_law_1962 ?_
  refine ga_iconst ok dL_law_1964 ?_
  refine ga_iadd ok dL_law_1965 ?_
  refine gs_scr ok hS hSc (by omega) dL_law_1966 ?_
  refine ga_aload_n ok 3 rfl rfl dL_law_1967 ?_
  refine ga_callT ok [_, _, _] lw_L_228 (w_guardLine ok.fl hG hS hs.1 hs.2.2.1 (sx_rng xs _)) rfl (by rw [hR]; exact ⟨by decide, by decide, by show k + 24 ≤ 603072; omega, by show n + 9206 ≤ 7223402; omega⟩) (Nat.le_of_ble_eq_true rfl) dL_law_1968 (fun r9 m1 hq9 => ?_) (fun _ _ h => h.elim)
  obtain ⟨rfl, hr9, ho1, hX1, hB1, hf1⟩ := hq9
  simp only [Option.toList_some, List.singleton_append]
  have hY1 : YIs m1 g := hs.2.1.w hf1
  refine ga_istore ok hn6 dL_law_1971 ?_
  refine ga_aload_n ok 2 rfl rfl dL_law_1973 ?_
  refine ga_aload_n ok 0 rfl rfl dL_law_1974 ?_
  refine ga_iload ok rfl dL_law_1975 ?_
  refine ga_iconst ok dL_law_1977 ?_
  refine ga_iadd ok dL_law_1978 ?_
  refine gs_scr ok hS hSc (by omega) dL_law_1979 ?_
  refine gc_X4_1 ok hG rfl lk_L_230 rfl (c_X4_guardLine ok.fl hG hY1 hs.1.1.2 (sx_rng xs _)) (by rw [hR]; exact ⟨by decide, by decide, by show k + 24 + 0 ≤ 603072; omega, by show n + 9206 + 0 ≤ 7223402; omega⟩) (Nat.le_of_ble_eq_true rfl) dL_law_1980 (fun r9 m2 hq9 => ?_) (fun _ _ h => h.elim)
  obtain ⟨v9, rfl, hv9, hY2, hth, hf2⟩ := hq9
  simp only [Option.toList_some, List.singleton_append]
  refine ga_istore ok hn7 dL_law_1983 ?_
  exact WA.wd (by show k + 24 + 0 ≤ k + 24; omega) (by show n + 9206 + 0 ≤ n + 9206; omega) (WA.re (by exact ⟨rfl, rfl, rfl, rfl, rfl, rfl, rfl, rfl, trivial⟩) (tail _ v9 _ _ hr9 hth (fun h => (show m2.1 1600 0 = m1.1 1600 0 by rw [(hf2 1600 (Or.inr (by omega))).1]).trans ((ho1 h).trans (by rw [hv9 h]))) ((LWS.lin hX1 hB1 hY2 hf2 (sp_guardLine_ok hs.2.2.2)).mono (by omega))))
set_option maxHeartbeats 4000000 in
set_option maxRecDepth 100000 in
theorem lc_mistaken {G : GG} {E : EE} (ok : OK0 G E RL cL_law) (hG : MW G) (hS : SBW G) (hml : (e_c E).maxLocals = 9) (hR : e_R E = room_1) {sb sl : Nat} {xs : Nat → Int32} (hSc : SCR G E sb sl xs) {i : Int} (hi : 0 ≤ i ∧ i + 4 ≤ sl) {T : Int} (hT0 : 0 ≤ T ∧ T ≤ 999990000) {m : Mm} {g : Gm} (hs : LWS T m g) {k n : Nat} (hk : k + 24 ≤ 603072) (hn : n + 9206 ≤ 7223402)
    (kk : ∀ (m' : Mm) (g' : Gm), LWS (T + 1000) m' g' → WA G E (k + 24) (n + 9206) 2494 [(0, .ref (RAW + sb)), (1, .ref 0), (2, .ref 1024), (3, .ref 1600), (4, .ref 1664), (5, vI i)] [] m') : WA G E k n 1835 [(0, .ref (RAW + sb)), (1, .ref 0), (2, .ref 1024), (3, .ref 1600), (4, .ref 1664), (5, vI i)] [] m := by
  have hn6 : 6 < (e_c E).maxLocals := by rw [hml]; decide
  have hn7 : 7 < (e_c E).maxLocals := by rw [hml]; decide
  have hn8 : 8 < (e_c E).maxLocals := by rw [hml]; decide
  obtain ⟨-, -, -, hsl⟩ := id hSc
  refine ga_aload_n ok 1 rfl rfl dL_law_1835 ?_
  refine gd_X3_0 ok hG rfl lk_L_218 rfl (c_X3_mistaken ok.fl hG hs.1.1.1 hs.1.1.2) (by rw [hR]; exact ⟨by decide, by decide, by show k + 0 ≤ 603072; omega, by show n + 0 ≤ 7223402; omega⟩) (Nat.le_of_ble_eq_true rfl) dL_law_1836 ?_
  refine ga_aload_n ok 2 rfl rfl dL_law_1839 ?_
  refine gd_X4_0 ok hG rfl lk_L_221 rfl (c_X4_mistaken ok.fl hG hs.2.1.1 hs.1.1.2) (by rw [hR]; exact ⟨by decide, by decide, by show k + 0 + 0 ≤ 603072; omega, by show n + 0 + 0 ≤ 7223402; omega⟩) (Nat.le_of_ble_eq_true rfl) dL_law_1840 ?_
  rw [vI_w (z := mst g.r)]
  refine ga_icmp_eq ok 2494 (by decide) (w32_rng _) (w32_rng _) dL_law_1843 (fun c_1843 => ?_) (fun c_1843 => ?_)
  · exact WA.wd (by show k + 0 + 0 ≤ k + 24; omega) (by show n + 0 + 0 ≤ n + 9206; omega) (WA.re (by exact ⟨rfl, rfl, rfl, rfl, rfl, rfl, trivial⟩) (kk _ _ (((hs.ask (K := 0) WEq.rf).mono (by omega)))))
  · exact absurd rfl c_1843
set_option maxHeartbeats 4000000 in
set_option maxRecDepth 100000 in
theorem lc_errorPosition {G : GG} {E : EE} (ok : OK0 G E RL cL_law) (hG : MW G) (hS : SBW G) (hml : (e_c E).maxLocals = 9) (hR : e_R E = room_1) {sb sl : Nat} {xs : Nat → Int32} (hSc : SCR G E sb sl xs) {i : Int} (hi : 0 ≤ i ∧ i + 4 ≤ sl) {T : Int} (hT0 : 0 ≤ T ∧ T ≤ 999990000) {m : Mm} {g : Gm} (hs : LWS T m g) {k n : Nat} (hk : k + 24 ≤ 603072) (hn : n + 9206 ≤ 7223402)
    (kk : ∀ (m' : Mm) (g' : Gm), LWS (T + 1000) m' g' → WA G E (k + 24) (n + 9206) 2494 [(0, .ref (RAW + sb)), (1, .ref 0), (2, .ref 1024), (3, .ref 1600), (4, .ref 1664), (5, vI i)] [] m') : WA G E k n 2174 [(0, .ref (RAW + sb)), (1, .ref 0), (2, .ref 1024), (3, .ref 1600), (4, .ref 1664), (5, vI i)] [] m := by
  have hn6 : 6 < (e_c E).maxLocals := by rw [hml]; decide
  have hn7 : 7 < (e_c E).maxLocals := by rw [hml]; decide
  have hn8 : 8 < (e_c E).maxLocals := by rw [hml]; decide
  obtain ⟨-, -, -, hsl⟩ := id hSc
  refine ga_aload_n ok 1 rfl rfl dL_law_2174 ?_
  refine gd_X3_0 ok hG rfl lk_L_242 rfl (c_X3_errorPosition ok.fl hG) (by rw [hR]; exact ⟨by decide, by decide, by show k + 0 ≤ 603072; omega, by show n + 0 ≤ 7223402; omega⟩) (Nat.le_of_ble_eq_true rfl) dL_law_2175 ?_
  rw [show m.1 0 10 = g.er from hs.1.2.2.2.1.1.1]
  refine ga_aload_n ok 2 rfl rfl dL_law_2178 ?_
  refine gd_X4_0 ok hG rfl lk_L_245 rfl (c_X4_errorPosition ok.fl hG) (by rw [hR]; exact ⟨by decide, by decide, by show k + 0 + 0 ≤ 603072; omega, by show n + 0 + 0 ≤ 7223402; omega⟩) (Nat.le_of_ble_eq_true rfl) dL_law_2179 ?_
  rw [show m.1 1024 17 = g.er from hs.2.1.2.2.2.1.2.2]
  rw [vI_w (z := g.er)]
  refine ga_icmp_eq ok 2494 (by decide) (w32_rng _) (w32_rng _) dL_law_2182 (fun c_2182 => ?_) (fun c_2182 => ?_)
  · exact WA.wd (by show k + 0 + 0 ≤ k + 24; omega) (by show n + 0 + 0 ≤ n + 9206; omega) (WA.re (by exact ⟨rfl, rfl, rfl, rfl, rfl, rfl, trivial⟩) (kk _ _ (((hs.ask (K := 0) WEq.rf).mono (by omega)))))
  · exact absurd rfl c_2182
set_option maxHeartbeats 4000000 in
set_option maxRecDepth 100000 in
theorem lc_isWell {G : GG} {E : EE} (ok : OK0 G E RL cL_law) (hG : MW G) (hS : SBW G) (hml : (e_c E).maxLocals = 9) (hR : e_R E = room_1) {sb sl : Nat} {xs : Nat → Int32} (hSc : SCR G E sb sl xs) {i : Int} (hi : 0 ≤ i ∧ i + 4 ≤ sl) {T : Int} (hT0 : 0 ≤ T ∧ T ≤ 999990000) {m : Mm} {g : Gm} (hs : LWS T m g) {k n : Nat} (hk : k + 24 ≤ 603072) (hn : n + 9206 ≤ 7223402)
    (kk : ∀ (m' : Mm) (g' : Gm), LWS (T + 1000) m' g' → WA G E (k + 24) (n + 9206) 2494 [(0, .ref (RAW + sb)), (1, .ref 0), (2, .ref 1024), (3, .ref 1600), (4, .ref 1664), (5, vI i)] [] m') : WA G E k n 2315 [(0, .ref (RAW + sb)), (1, .ref 0), (2, .ref 1024), (3, .ref 1600), (4, .ref 1664), (5, vI i)] [] m := by
  have hn6 : 6 < (e_c E).maxLocals := by rw [hml]; decide
  have hn7 : 7 < (e_c E).maxLocals := by rw [hml]; decide
  have hn8 : 8 < (e_c E).maxLocals := by rw [hml]; decide
  obtain ⟨-, -, -, hsl⟩ := id hSc
  refine ga_aload_n ok 1 rfl rfl dL_law_2315 ?_
  refine gd_X3_0 ok hG rfl lk_L_253 rfl (c_X3_isWell ok.fl hG hs.1.1.1 hs.1.1.2) (by rw [hR]; exact ⟨by decide, by decide, by show k + 0 ≤ 603072; omega, by show n + 0 ≤ 7223402; omega⟩) (Nat.le_of_ble_eq_true rfl) dL_law_2316 ?_
  refine ga_aload_n ok 2 rfl rfl dL_law_2319 ?_
  refine gd_X4_0 ok hG rfl lk_L_257 rfl (c_X4_isWell ok.fl hG) (by rw [hR]; exact ⟨by decide, by decide, by show k + 0 + 0 ≤ 603072; omega, by show n + 0 + 0 ≤ 7223402; omega⟩) (Nat.le_of_ble_eq_true rfl) dL_law_2320 ?_
  rw [vI_w (z := 1)]
  refine ga_icmp_eq ok 2494 (by decide) (w32_rng _) (w32_rng _) dL_law_2323 (fun c_2323 => ?_) (fun c_2323 => ?_)
  · exact WA.wd (by show k + 0 + 0 ≤ k + 24; omega) (by show n + 0 + 0 ≤ n + 9206; omega) (WA.re (by exact ⟨rfl, rfl, rfl, rfl, rfl, rfl, trivial⟩) (kk _ _ (((hs.ask (K := 0) WEq.rf).mono (by omega)))))
  · exact absurd rfl c_2323
set_option maxHeartbeats 4000000 in
set_option maxRecDepth 100000 in
theorem lc_save {G : GG} {E : EE} (ok : OK0 G E RL cL_law) (hG : MW G) (hS : SBW G) (hml : (e_c E).maxLocals = 9) (hR : e_R E = room_1) {sb sl : Nat} {xs : Nat → Int32} (hSc : SCR G E sb sl xs) {i : Int} (hi : 0 ≤ i ∧ i + 4 ≤ sl) {T : Int} (hT0 : 0 ≤ T ∧ T ≤ 999990000) {m : Mm} {g : Gm} (hs : LWS T m g) {k n : Nat} (hk : k + 24 ≤ 603072) (hn : n + 9206 ≤ 7223402)
    (kk : ∀ (m' : Mm) (g' : Gm), LWS (T + 1000) m' g' → WA G E (k + 24) (n + 9206) 2494 [(0, .ref (RAW + sb)), (1, .ref 0), (2, .ref 1024), (3, .ref 1600), (4, .ref 1664), (5, vI i)] [] m') : WA G E k n 2437 [(0, .ref (RAW + sb)), (1, .ref 0), (2, .ref 1024), (3, .ref 1600), (4, .ref 1664), (5, vI i)] [] m := by
  have hn6 : 6 < (e_c E).maxLocals := by rw [hml]; decide
  have hn7 : 7 < (e_c E).maxLocals := by rw [hml]; decide
  have hn8 : 8 < (e_c E).maxLocals := by rw [hml]; decide
  obtain ⟨-, -, -, hsl⟩ := id hSc
  refine ga_aload_n ok 1 rfl rfl dL_law_2437 ?_
  refine gc_X3_0 ok hG rfl lk_L_265 rfl (c_X3_save ok.fl hG hs.1 ⟨hT0.1, by omega⟩) (by rw [hR]; exact ⟨by decide, by decide, by show k + 4 ≤ 603072; omega, by show n + 24 ≤ 7223402; omega⟩) (Nat.le_of_ble_eq_true rfl) dL_law_2438 (fun r9 m1 hq9 => ?_) (fun _ _ h => h.elim)
  obtain ⟨h0, rfl, hX1, hf1⟩ := hq9
  simp only [Option.toList_some, List.singleton_append]
  have hY1 : YIs m1 g := hs.2.1.w (fun n a b c => hf1 n (by omega))
  refine ga_aload_n ok 2 rfl rfl dL_law_2441 ?_
  refine gc_X4_0 ok hG rfl lk_L_268 rfl (c_X4_save ok.fl hG hY1) (by rw [hR]; exact ⟨by decide, by decide, by show k + 4 + 0 ≤ 603072; omega, by show n + 24 + 0 ≤ 7223402; omega⟩) (Nat.le_of_ble_eq_true rfl) dL_law_2442 (fun r9 m2 hq9 => ?_) (fun _ _ h => h.elim)
  obtain ⟨v9, rfl, hv9, hY2, hth, hf2⟩ := hq9
  simp only [Option.toList_some, List.singleton_append]
  rw [hv9 h0]
  rw [vI_w (z := (sp_save g).2.1)]
  refine ga_icmp_eq ok 2494 (by decide) (w32_rng _) (w32_rng _) dL_law_2445 (fun c_2445 => ?_) (fun c_2445 => ?_)
  · exact WA.wd (by show k + 4 + 0 ≤ k + 24; omega) (by show n + 24 + 0 ≤ n + 9206; omega) (WA.re (by exact ⟨rfl, rfl, rfl, rfl, rfl, rfl, trivial⟩) (kk _ _ (hs.chg hX1 hf1.w hY2 hf2)))
  · exact absurd rfl c_2445
