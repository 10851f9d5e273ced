/-! THE LAW -/
set_option maxHeartbeats 4000000 in
set_option maxRecDepth 100000 in
theorem law_run {G : GG} {E : EE} (ok0 : OK0 G E RL cL_law) (ao : AO2 (e_s E)) (hG : MW G) (hA : ADF G) (hS : SBW G) (hml : (e_c E).maxLocals = 2) (hR : e_R E = room_1) {la lv : Nat → Nat} {sb sl : Nat} {xs : Nat → Int32} (hg : LGW G la lv sb sl xs) {N0 : Nat} {z : Int} (h00 : g_ad G 0 = N0) (hinj : ∀ n, dmM n → g_ad G n ≠ g_ad G 960 ∧ g_ad G n ≠ g_ad G 960 + 1)
    (hend : ∀ (Xs : XS) (L : List (Nat × Value)) (m : Mm), WA (GX G Xs) E 795840 6705888 52 L [vI 1] m) : WB G E z N0 [] (fun _ => False) N0 0 0 0 [(0, .ref (RAW + sb))] [] := by
  have ok : ∀ {Xs : XS}, OK0 (GX G Xs) E RL cL_law := fun {_} => ok0.gx
  have hn0 : 0 < (e_c E).maxLocals := by rw [hml]; decide
  have hn1 : 1 < (e_c E).maxLocals := by rw [hml]; decide
  refine wb_aload_n ok0 0 rfl rfl dL_law_0 ?_
  refine wb_callD (sb := sb) ok0 ao lk_L_186 (c_L_drawn ok0.fl hG hA hS hg h00 hinj) (by rw [hR]; exact ⟨by decide, by decide, Nat.le_of_ble_eq_true rfl, Nat.le_of_ble_eq_true rfl⟩) (Nat.le_of_ble_eq_true rfl) dL_law_1 (fun r9 m1 X1 hq9 => ?_)
  obtain ⟨rfl, ⟨g, hX, htn⟩, rfl⟩ := hq9
  simp only [Option.toList_some, List.singleton_append]
  refine ga_astore_n ok 1 rfl hn1 dL_law_4 ?_
  refine ga_aload_n ok 1 rfl rfl dL_law_5 ?_
  refine ga_ifnullR ok dL_law_6 ?_
  refine ga_aload_n ok 0 rfl rfl dL_law_9 ?_
  refine ga_aload_n ok 1 rfl rfl dL_law_10 ?_
  refine gl_callL ok0 [.ref (RAW + sb), .ref 0] lk_L_190 (c_L_weighed ok0.fl hG hS hg hX (by omega)) rfl (by rw [hR]; exact ⟨by decide, by decide, Nat.le_of_ble_eq_true rfl, Nat.le_of_ble_eq_true rfl⟩) (Nat.le_of_ble_eq_true rfl) dL_law_11 (fun r9 m20 Y20 hq9 => ?_)
  obtain ⟨g2, rfl, hX2, er2, et2⟩ := hq9
  simp only [Option.toList_some, List.singleton_append]
  refine ga_if_eq ok 51 (by decide) (by omega) dL_law_14 (fun c_14 => ?_) (fun c_14 => ?_)
  · exact absurd c_14 (by decide)
  · refine ga_aload_n ok 1 rfl rfl dL_law_17 ?_
    refine gl_callL ok0 [.ref 0] lk_L_194 (c_L_knew ok0.fl hG hS hX2 (by omega)) rfl (by rw [hR]; exact ⟨by decide, by decide, Nat.le_of_ble_eq_true rfl, Nat.le_of_ble_eq_true rfl⟩) (Nat.le_of_ble_eq_true rfl) dL_law_18 (fun r9 m9 X9 hq9 => ?_)
    obtain ⟨rfl, hm9, hxs⟩ := hq9
    subst m9
    subst X9
    simp only [Option.toList_some, List.singleton_append]
    refine ga_if_eq ok 51 (by decide) (by omega) dL_law_21 (fun c_21 => ?_) (fun c_21 => ?_)
    · exact absurd c_21 (by decide)
    · refine ga_aload_n ok 0 rfl rfl dL_law_24 ?_
      refine ga_aload_n ok 1 rfl rfl dL_law_25 ?_
      refine gl_callL ok0 [.ref (RAW + sb), .ref 0] lk_L_198 (c_L_voted ok0.fl hG hS hg hX2 (by omega)) rfl (by rw [hR]; exact ⟨by decide, by decide, Nat.le_of_ble_eq_true rfl, Nat.le_of_ble_eq_true rfl⟩) (Nat.le_of_ble_eq_true rfl) dL_law_26 (fun r9 m9 X9 hq9 => ?_)
      obtain ⟨rfl, hm9, hxs⟩ := hq9
      subst m9
      subst X9
      simp only [Option.toList_some, List.singleton_append]
      refine ga_if_eq ok 51 (by decide) (by omega) dL_law_29 (fun c_29 => ?_) (fun c_29 => ?_)
      · exact absurd c_29 (by decide)
      · refine ga_aload_n ok 1 rfl rfl dL_law_32 ?_
        refine gl_callL ok0 [.ref 0] lk_L_201 (c_L_visited ok0.fl hG hS hg hX2 (by omega)) rfl (by rw [hR]; exact ⟨by decide, by decide, Nat.le_of_ble_eq_true rfl, Nat.le_of_ble_eq_true rfl⟩) (Nat.le_of_ble_eq_true rfl) dL_law_33 (fun r9 m21 Y21 hq9 => ?_)
        obtain ⟨g3, rfl, hX3, er3, et3⟩ := hq9
        simp only [Option.toList_some, List.singleton_append]
        refine ga_if_eq ok 51 (by decide) (by omega) dL_law_36 (fun c_36 => ?_) (fun c_36 => ?_)
        · exact absurd c_36 (by decide)
        · refine ga_aload_n ok 0 rfl rfl dL_law_39 ?_
          refine ga_aload_n ok 1 rfl rfl dL_law_40 ?_
          refine gl_callL ok0 [.ref (RAW + sb), .ref 0] lk_L_204 (c_L_undone ok0.fl hG hS hg hX3 (by omega) (by rw [et3, et2]; exact htn)) rfl (by rw [hR]; exact ⟨by decide, by decide, Nat.le_of_ble_eq_true rfl, Nat.le_of_ble_eq_true rfl⟩) (Nat.le_of_ble_eq_true rfl) dL_law_41 (fun r9 m22 Y22 hq9 => ?_)
          obtain ⟨g4, rfl, hX4⟩ := hq9
          simp only [Option.toList_some, List.singleton_append]
          refine ga_if_eq ok 51 (by decide) (by omega) dL_law_44 (fun c_44 => ?_) (fun c_44 => ?_)
          · exact absurd c_44 (by decide)
          · refine ga_iconst ok dL_law_47 ?_
            refine ga_goto ok 52 (by decide) dL_law_48 ?_
            exact WA.wd (Nat.le_of_ble_eq_true rfl) (Nat.le_of_ble_eq_true rfl) (hend _ _ _)
