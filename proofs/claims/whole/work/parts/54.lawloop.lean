/-! THE LAW'S LOOP -/
set_option maxHeartbeats 8000000 in
set_option maxRecDepth 100000 in
theorem law_loop {G : GG} {E : EE} (ok : OK0 G E RL cL_law) (hG : MW G) (hS : SBW G) (hml : (e_c E).maxLocals = 9) (hR : e_R E = room_1) {sb sl : Nat} {xs : Nat → Int32} (hSc : SCR G E sb sl xs) {T0 : Int} (hT0 : 0 ≤ T0 ∧ T0 ≤ 900000000) {k0 n0 : Nat} (hk0 : k0 + 24 * 512 ≤ 603072) (hn0 : n0 + 9206 * 512 ≤ 7223402)
    (hend : ∀ (i : Int) (m : Mm), WA G E 603072 7223402 2500 [(0, .ref (RAW + sb)), (1, .ref 0), (2, .ref 1024), (3, .ref 1600), (4, .ref 1664), (5, vI i)] [] m) : ∀ (j : Nat) (i : Int) (m : Mm) (g : Gm), (i = 4 * (j : Int) ∧ i ≤ sl ∧ j ≤ 512 ∧ LWS (T0 + 1000 * j) m g) → WA G E (k0 + 24 * j) (n0 + 9206 * j) 28 [(0, .ref (RAW + sb)), (1, .ref 0), (2, .ref 1024), (3, .ref 1600), (4, .ref 1664), (5, vI i)] [] m := by
  have hn5 : 5 < (e_c E).maxLocals := by rw [hml]; decide
  obtain ⟨-, -, -, hsl⟩ := id hSc
  refine wl4 _ (fun j _ _ _ => 513 - j) _ ?_
  intro j i m g hi ih
  obtain ⟨hij, hil, hj, hs⟩ := hi
  refine ga_iload ok rfl dL_law_28 ?_
  refine ga_aload_n ok 0 rfl rfl dL_law_30 ?_
  refine gs_slen ok hS hSc dL_law_31 ?_
  refine ga_iconst ok dL_law_32 ?_
  refine ga_isub ok dL_law_33 ?_
  refine ga_icmp_gt ok 2500 (by decide) (by omega) (by omega) dL_law_34 (fun c_34 => ?_) (fun c_34 => ?_)
  · exact WA.wd (by omega) (by omega) (WA.re (by exact ⟨rfl, rfl, rfl, rfl, rfl, rfl, trivial⟩) (hend i m))
  · refine ga_aload_n ok 0 rfl rfl dL_law_37 ?_
    refine ga_iload ok rfl dL_law_38 ?_
    refine gs_scr ok hS hSc (by omega) dL_law_40 ?_
    refine ga_bipush ok dL_law_41 (by decide) ?_
    refine ga_iand ok 6 dL_law_43 (by decide) (by decide) ?_
    obtain ⟨v, hv⟩ : ∃ v, v = sx xs i.toNat % 2 ^ 6 := ⟨_, rfl⟩
    rw [← hv]
    have hv9 : 0 ≤ v ∧ v < 64 := by rw [hv, show (2 : Int) ^ 6 = 64 from rfl]; omega
    have next : ∀ (m' : Mm) (g' : Gm), LWS (T0 + 1000 * j + 1000) m' g' → WA G E (k0 + 24 * j + 24) (n0 + 9206 * j + 9206) 2494 [(0, .ref (RAW + sb)), (1, .ref 0), (2, .ref 1024), (3, .ref 1600), (4, .ref 1664), (5, vI i)] [] m' := by
      intro m' g' hs'
      refine ga_iinc ok rfl hn5 dL_law_2494 ?_
      refine ga_goto ok 28 (by decide) dL_law_2497 ?_
      exact WA.wd (by omega) (by omega) (WA.re (by exact ⟨rfl, rfl, rfl, rfl, rfl, rfl, trivial⟩) (ih (j + 1) (i + 4) m' g' ⟨by push_cast; omega, by omega, by omega, by rw [show T0 + 1000 * ((j + 1 : Nat) : Int) = T0 + 1000 * j + 1000 by push_cast; omega]; exact hs'⟩ (by omega)))
    rcases (show v = 0 ∨ v = 1 ∨ v = 2 ∨ v = 3 ∨ v = 4 ∨ v = 5 ∨ v = 6 ∨ v = 7 ∨ v = 8 ∨ v = 9 ∨ v = 10 ∨ v = 11 ∨ v = 12 ∨ v = 13 ∨ v = 14 ∨ v = 15 ∨ v = 16 ∨ v = 17 ∨ v = 18 ∨ v = 19 ∨ v = 20 ∨ v = 21 ∨ v = 22 ∨ v = 23 ∨ v = 24 ∨ v = 25 ∨ v = 26 ∨ v = 27 ∨ v = 28 ∨ v = 29 ∨ v = 30 ∨ v = 31 ∨ v = 32 ∨ v = 33 ∨ v = 34 ∨ v = 35 ∨ v = 36 ∨ v = 37 ∨ (v < 0 ∨ 37 < v) by omega) with rfl | rfl | rfl | rfl | rfl | rfl | rfl | rfl | rfl | rfl | rfl | rfl | rfl | rfl | rfl | rfl | rfl | rfl | rfl | rfl | rfl | rfl | rfl | rfl | rfl | rfl | rfl | rfl | rfl | rfl | rfl | rfl | rfl | rfl | rfl | rfl | rfl | rfl | hout
    · refine ga_tableIn (off := 168) ok 212 (by decide) (by decide) (by decide) (by decide) dL_law_44 ?_
      exact lc_guard ok hG hS hml hR hSc ⟨by omega, by omega⟩ ⟨by omega, by omega⟩ hs (by omega) (by omega) next
    · refine ga_tableIn (off := 224) ok 268 (by decide) (by decide) (by decide) (by decide) dL_law_44 ?_
      exact lc_rate ok hG hS hml hR hSc ⟨by omega, by omega⟩ ⟨by omega, by omega⟩ hs (by omega) (by omega) next
    · refine ga_tableIn (off := 292) ok 336 (by decide) (by decide) (by decide) (by decide) dL_law_44 ?_
      exact lc_caution ok hG hS hml hR hSc ⟨by omega, by omega⟩ ⟨by omega, by omega⟩ hs (by omega) (by omega) next
    · refine ga_tableIn (off := 360) ok 404 (by decide) (by decide) (by decide) (by decide) dL_law_44 ?_
      exact lc_visitor ok hG hS hml hR hSc ⟨by omega, by omega⟩ ⟨by omega, by omega⟩ hs (by omega) (by omega) next
    · refine ga_tableIn (off := 444) ok 488 (by decide) (by decide) (by decide) (by decide) dL_law_44 ?_
      exact lc_forget ok hG hS hml hR hSc ⟨by omega, by omega⟩ ⟨by omega, by omega⟩ hs (by omega) (by omega) next
    · refine ga_tableIn (off := 500) ok 544 (by decide) (by decide) (by decide) (by decide) dL_law_44 ?_
      exact lc_visitorOf ok hG hS hml hR hSc ⟨by omega, by omega⟩ ⟨by omega, by omega⟩ hs (by omega) (by omega) next
    · refine ga_tableIn (off := 568) ok 612 (by decide) (by decide) (by decide) (by decide) dL_law_44 ?_
      exact lc_guardOf ok hG hS hml hR hSc ⟨by omega, by omega⟩ ⟨by omega, by omega⟩ hs (by omega) (by omega) next
    · refine ga_tableIn (off := 636) ok 680 (by decide) (by decide) (by decide) (by decide) dL_law_44 ?_
      exact lc_margin ok hG hS hml hR hSc ⟨by omega, by omega⟩ ⟨by omega, by omega⟩ hs (by omega) (by omega) next
    · refine ga_tableIn (off := 754) ok 798 (by decide) (by decide) (by decide) (by decide) dL_law_44 ?_
      exact lc_letsIn ok hG hS hml hR hSc ⟨by omega, by omega⟩ ⟨by omega, by omega⟩ hs (by omega) (by omega) next
    · refine ga_tableIn (off := 829) ok 873 (by decide) (by decide) (by decide) (by decide) dL_law_44 ?_
      exact lc_weightBits ok hG hS hml hR hSc ⟨by omega, by omega⟩ ⟨by omega, by omega⟩ hs (by omega) (by omega) next
    · refine ga_tableIn (off := 897) ok 941 (by decide) (by decide) (by decide) (by decide) dL_law_44 ?_
      exact lc_counted ok hG hS hml hR hSc ⟨by omega, by omega⟩ ⟨by omega, by omega⟩ hs (by omega) (by omega) next
    · refine ga_tableIn (off := 965) ok 1009 (by decide) (by decide) (by decide) (by decide) dL_law_44 ?_
      exact lc_mean ok hG hS hml hR hSc ⟨by omega, by omega⟩ ⟨by omega, by omega⟩ hs (by omega) (by omega) next
    · refine ga_tableIn (off := 1055) ok 1099 (by decide) (by decide) (by decide) (by decide) dL_law_44 ?_
      exact lc_strongest ok hG hS hml hR hSc ⟨by omega, by omega⟩ ⟨by omega, by omega⟩ hs (by omega) (by omega) next
    · refine ga_tableIn (off := 1123) ok 1167 (by decide) (by decide) (by decide) (by decide) dL_law_44 ?_
      exact lc_closest ok hG hS hml hR hSc ⟨by omega, by omega⟩ ⟨by omega, by omega⟩ hs (by omega) (by omega) next
    · refine ga_tableIn (off := 1179) ok 1223 (by decide) (by decide) (by decide) (by decide) dL_law_44 ?_
      exact lc_knows ok hG hS hml hR hSc ⟨by omega, by omega⟩ ⟨by omega, by omega⟩ hs (by omega) (by omega) next
    · refine ga_tableIn (off := 1269) ok 1313 (by decide) (by decide) (by decide) (by decide) dL_law_44 ?_
      exact lc_teach ok hG hS hml hR hSc ⟨by omega, by omega⟩ ⟨by omega, by omega⟩ hs (by omega) (by omega) next
    · refine ga_tableIn (off := 1337) ok 1381 (by decide) (by decide) (by decide) (by decide) dL_law_44 ?_
      exact lc_day ok hG hS hml hR hSc ⟨by omega, by omega⟩ ⟨by omega, by omega⟩ hs (by omega) (by omega) next
    · refine ga_tableIn (off := 1393) ok 1437 (by decide) (by decide) (by decide) (by decide) dL_law_44 ?_
      exact lc_days ok hG hS hml hR hSc ⟨by omega, by omega⟩ ⟨by omega, by omega⟩ hs (by omega) (by omega) next
    · refine ga_tableIn (off := 1461) ok 1505 (by decide) (by decide) (by decide) (by decide) dL_law_44 ?_
      exact lc_wouldCalm ok hG hS hml hR hSc ⟨by omega, by omega⟩ ⟨by omega, by omega⟩ hs (by omega) (by omega) next
    · refine ga_tableIn (off := 1529) ok 1573 (by decide) (by decide) (by decide) (by decide) dL_law_44 ?_
      exact lc_wouldPush ok hG hS hml hR hSc ⟨by omega, by omega⟩ ⟨by omega, by omega⟩ hs (by omega) (by omega) next
    · refine ga_tableIn (off := 1604) ok 1648 (by decide) (by decide) (by decide) (by decide) dL_law_44 ?_
      exact lc_votes ok hG hS hml hR hSc ⟨by omega, by omega⟩ ⟨by omega, by omega⟩ hs (by omega) (by omega) next
    · refine ga_tableIn (off := 1660) ok 1704 (by decide) (by decide) (by decide) (by decide) dL_law_44 ?_
      exact lc_isVotedIn ok hG hS hml hR hSc ⟨by omega, by omega⟩ ⟨by omega, by omega⟩ hs (by omega) (by omega) next
    · refine ga_tableIn (off := 1723) ok 1767 (by decide) (by decide) (by decide) (by decide) dL_law_44 ?_
      exact lc_agree ok hG hS hml hR hSc ⟨by omega, by omega⟩ ⟨by omega, by omega⟩ hs (by omega) (by omega) next
    · refine ga_tableIn (off := 1791) ok 1835 (by decide) (by decide) (by decide) (by decide) dL_law_44 ?_
      exact lc_mistaken ok hG hS hml hR hSc ⟨by omega, by omega⟩ ⟨by omega, by omega⟩ hs (by omega) (by omega) next
    · refine ga_tableIn (off := 1804) ok 1848 (by decide) (by decide) (by decide) (by decide) dL_law_44 ?_
      exact lc_ranked ok hG hS hml hR hSc ⟨by omega, by omega⟩ ⟨by omega, by omega⟩ hs (by omega) (by omega) next
    · refine ga_tableIn (off := 1860) ok 1904 (by decide) (by decide) (by decide) (by decide) dL_law_44 ?_
      exact lc_line ok hG hS hml hR hSc ⟨by omega, by omega⟩ ⟨by omega, by omega⟩ hs (by omega) (by omega) next
    · refine ga_tableIn (off := 1916) ok 1960 (by decide) (by decide) (by decide) (by decide) dL_law_44 ?_
      exact lc_guardLine ok hG hS hml hR hSc ⟨by omega, by omega⟩ ⟨by omega, by omega⟩ hs (by omega) (by omega) next
    · refine ga_tableIn (off := 1972) ok 2016 (by decide) (by decide) (by decide) (by decide) dL_law_44 ?_
      exact lc_character ok hG hS hml hR hSc ⟨by omega, by omega⟩ ⟨by omega, by omega⟩ hs (by omega) (by omega) next
    · refine ga_tableIn (off := 2028) ok 2072 (by decide) (by decide) (by decide) (by decide) dL_law_44 ?_
      exact lc_append ok hG hS hml hR hSc ⟨by omega, by omega⟩ ⟨by omega, by omega⟩ hs (by omega) (by omega) next
    · refine ga_tableIn (off := 2086) ok 2130 (by decide) (by decide) (by decide) (by decide) dL_law_44 ?_
      exact lc_run ok hG hS hml hR hSc ⟨by omega, by omega⟩ ⟨by omega, by omega⟩ hs (by omega) (by omega) next
    · refine ga_tableIn (off := 2130) ok 2174 (by decide) (by decide) (by decide) (by decide) dL_law_44 ?_
      exact lc_errorPosition ok hG hS hml hR hSc ⟨by omega, by omega⟩ ⟨by omega, by omega⟩ hs (by omega) (by omega) next
    · refine ga_tableIn (off := 2143) ok 2187 (by decide) (by decide) (by decide) (by decide) dL_law_44 ?_
      exact lc_refusal ok hG hS hml hR hSc ⟨by omega, by omega⟩ ⟨by omega, by omega⟩ hs (by omega) (by omega) next
    · refine ga_tableIn (off := 2215) ok 2259 (by decide) (by decide) (by decide) (by decide) dL_law_44 ?_
      exact lc_account ok hG hS hml hR hSc ⟨by omega, by omega⟩ ⟨by omega, by omega⟩ hs (by omega) (by omega) next
    · refine ga_tableIn (off := 2271) ok 2315 (by decide) (by decide) (by decide) (by decide) dL_law_44 ?_
      exact lc_isWell ok hG hS hml hR hSc ⟨by omega, by omega⟩ ⟨by omega, by omega⟩ hs (by omega) (by omega) next
    · refine ga_tableIn (off := 2284) ok 2328 (by decide) (by decide) (by decide) (by decide) dL_law_44 ?_
      exact lc_meanBadges ok hG hS hml hR hSc ⟨by omega, by omega⟩ ⟨by omega, by omega⟩ hs (by omega) (by omega) next
    · refine ga_tableIn (off := 2349) ok 2393 (by decide) (by decide) (by decide) (by decide) dL_law_44 ?_
      exact lc_undo ok hG hS hml hR hSc ⟨by omega, by omega⟩ ⟨by omega, by omega⟩ hs (by omega) (by omega) next
    · refine ga_tableIn (off := 2393) ok 2437 (by decide) (by decide) (by decide) (by decide) dL_law_44 ?_
      exact lc_save ok hG hS hml hR hSc ⟨by omega, by omega⟩ ⟨by omega, by omega⟩ hs (by omega) (by omega) next
    · refine ga_tableIn (off := 2406) ok 2450 (by decide) (by decide) (by decide) (by decide) dL_law_44 ?_
      exact lc_restore ok hG hS hml hR hSc ⟨by omega, by omega⟩ ⟨by omega, by omega⟩ hs (by omega) (by omega) next
    · refine ga_tableOut ok 2494 (by omega) hout (by decide) dL_law_44 ?_
      exact WA.wd (by omega) (by omega) (next m g (hs.mono (by omega)))
