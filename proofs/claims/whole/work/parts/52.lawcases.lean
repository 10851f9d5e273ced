/-! THE LAW'S CASES -/
theorem vI_w {z : Int} : vI z = vI (w32 z) := by
  show Value.int _ = Value.int (Int32.ofInt (Int32.ofInt z).toInt)
  rw [Int32.ofInt_toInt]
theorem w32_rng (z : Int) : -2147483648 ≤ w32 z ∧ w32 z ≤ 2147483647 := ⟨Int32.le_toInt _, by have := Int32.toInt_lt (Int32.ofInt z); unfold w32; omega⟩
theorem ak_P {r : Nat → Int} {g : Int} {P : Prop} [Decidable P] (h : ask r g (decide P) = 0) : P := by
  unfold ask at h
  by_cases e : isG r g = true
  · rw [if_pos e] at h
    by_cases e2 : P
    · exact e2
    · rw [if_neg (by simpa using e2)] at h
      exact absurd h (by decide)
  · rw [if_neg e] at h
    exact absurd h (by decide)
theorem bb_P {p : Prop} [Decidable p] (h : (if decide p = true then (0 : Int) else 1) = 0) : p := by
  by_cases e : p
  · exact e
  · rw [if_neg (by simpa using e)] at h
    exact absurd h (by decide)
theorem YIs.rs9 {T : Int} {m m1 : Mm} {g : Gm} (h : XIs T m g) (hY : YIs m1 g) : -2147483648 ≤ m1.1 1024 7 ∧ m1.1 1024 7 ≤ 2147483647 := by
  obtain ⟨-, -, h3, -⟩ := h.2.2.2.1
  rw [hY.2.2.2.1.1]
  omega
theorem guardOf_eq {r : Nat → Int} {g what : Int} (h : 0 ≤ what ∧ what ≤ 6) : (if what = 0 then rg r g.toNat 0 else if what = 1 then rg r g.toNat 1 else if what = 2 then rg r g.toNat 2 else if what = 3 then rg r g.toNat 3 else if what = 4 then ofG r g.toNat else if what = 5 then rg r g.toNat 4 else rg r g.toNat 5) = (if what = 4 then ofG r g.toNat else rg r g.toNat (if what < 4 then what.toNat else if what = 5 then 4 else 5)) := by
  rcases (show what = 0 ∨ what = 1 ∨ what = 2 ∨ what = 3 ∨ what = 4 ∨ what = 5 ∨ what = 6 by omega) with rfl | rfl | rfl | rfl | rfl | rfl | rfl <;> rfl
set_option maxHeartbeats 4000000 in
set_option maxRecDepth 100000 in
theorem lc_guard {G : GG} {E : EE} (ok : OK0 G E RL cL_law) (hG : MW G) (hS : SBW G) (hml : (e_c E).maxLocals = 9) (hR : e_R E = room_1) {sb sl : Nat} {xs : Nat → Int32} (hSc : SCR G E sb sl xs) {i : Int} (hi : 0 ≤ i ∧ i + 4 ≤ sl) {T : Int} (hT0 : 0 ≤ T ∧ T ≤ 999990000) {m : Mm} {g : Gm} (hs : LWS T m g) {k n : Nat} (hk : k + 24 ≤ 603072) (hn : n + 9206 ≤ 7223402)
    (kk : ∀ (m' : Mm) (g' : Gm), LWS (T + 1000) m' g' → WA G E (k + 24) (n + 9206) 2494 [(0, .ref (RAW + sb)), (1, .ref 0), (2, .ref 1024), (3, .ref 1600), (4, .ref 1664), (5, vI i)] [] m') : WA G E k n 212 [(0, .ref (RAW + sb)), (1, .ref 0), (2, .ref 1024), (3, .ref 1600), (4, .ref 1664), (5, vI i)] [] m := by
  have hn6 : 6 < (e_c E).maxLocals := by rw [hml]; decide
  have hn7 : 7 < (e_c E).maxLocals := by rw [hml]; decide
  have hn8 : 8 < (e_c E).maxLocals := by rw [hml]; decide
  obtain ⟨-, -, -, hsl⟩ := id hSc
  have tail : ∀ (K : Int) (v9 : Int) (m2 : Mm) (g9 : Gm), (0 ≤ K ∧ K ≤ 3) → m2.1 1024 6 = K → (K = 0 → m2.1 1600 0 = w32 v9) → LWS (T + 1000) m2 g9 → WA G E (k + 4) (n + 24) 237 [(7, vI v9), (6, vI K), (0, .ref (RAW + sb)), (1, .ref 0), (2, .ref 1024), (3, .ref 1600), (4, .ref 1664), (5, vI i)] [] m2 := by
    intro K v9 m2 g9 hr9 hth ho9 hs9
    refine ga_aload_n ok 2 rfl rfl dL_law_237 ?_
    refine gd_X4_0 ok hG rfl lk_L_145 rfl (c_X4_thrown ok.fl hG) (by rw [hR]; exact ⟨by decide, by decide, by show k + 4 + 0 ≤ 603072; omega, by show n + 24 + 0 ≤ 7223402; omega⟩) (Nat.le_of_ble_eq_true rfl) dL_law_238 ?_
    rw [hth]
    refine ga_iload ok rfl dL_law_241 ?_
    refine ga_icmp_eq ok 248 (by decide) (by omega) (by omega) dL_law_243 (fun c_243 => ?_) (fun c_243 => ?_)
    · refine ga_iload ok rfl dL_law_248 ?_
      refine ga_if_ne ok 265 (by decide) (by omega) dL_law_250 (fun c_250 => ?_) (fun c_250 => ?_)
      · refine ga_goto ok 2494 (by decide) dL_law_265 ?_
        exact WA.wd (by show k + 4 + 0 ≤ k + 24; omega) (by show n + 24 + 0 ≤ n + 9206; omega) (WA.re (by exact ⟨rfl, rfl, rfl, rfl, rfl, rfl, trivial⟩) (kk m2 g9 hs9))
      · refine ga_aload_n ok 3 rfl rfl dL_law_253 ?_
        refine ga_iconst ok dL_law_254 ?_
        refine ga_laload_la ok (ar_lo hG rfl) (by omega) dL_law_255 ?_
        rw [show m2.1 1600 (0 : Int).toNat = w32 v9 from ho9 (by omega)]
        refine ga_iload ok rfl dL_law_256 ?_
        refine ga_i2lW ok dL_law_258 ?_
        refine ga_lcmp ok dL_law_259 lcmp_0 ?_
        refine ga_if_eq ok 265 (by decide) (by omega) dL_law_260 (fun c_260 => ?_) (fun c_260 => ?_)
        · refine ga_goto ok 2494 (by decide) dL_law_265 ?_
          exact WA.wd (by show k + 4 + 0 ≤ k + 24; omega) (by show n + 24 + 0 ≤ n + 9206; omega) (WA.re (by exact ⟨rfl, rfl, rfl, rfl, rfl, rfl, trivial⟩) (kk m2 g9 hs9))
        · exact absurd rfl c_260
    · exact absurd rfl c_243
  refine ga_aload_n ok 1 rfl rfl dL_law_212 ?_
  refine ga_aload_n ok 0 rfl rfl dL_law_213 ?_
  refine ga_iload ok rfl dL_law_214 ?_
  refine ga_iconst ok dL_law_216 ?_
  refine ga_iadd ok dL_law_217 ?_
  refine gs_scr ok hS hSc (by omega) dL_law_218 ?_
  refine ga_aload_n ok 3 rfl rfl dL_law_219 ?_
  refine ga_callT ok [_, _, _] lw_L_139 (w_guard ok.fl hG hS hs.1 ⟨hT0.1, by omega⟩ (sx_rng xs _)) rfl (by rw [hR]; exact ⟨by decide, by decide, by show k + 4 ≤ 603072; omega, by show n + 24 ≤ 7223402; omega⟩) (Nat.le_of_ble_eq_true rfl) dL_law_220 (fun r9 m1 hq9 => ?_) (fun _ _ h => h.elim)
  obtain ⟨rfl, hr9, ho1, hX1, hf1⟩ := hq9
  simp only [Option.toList_some, List.singleton_append]
  have hY1 : YIs m1 g := hs.2.1.w (fun n a b c => hf1 n (by omega) b c)
  refine ga_istore ok hn6 dL_law_223 ?_
  refine ga_aload_n ok 2 rfl rfl dL_law_225 ?_
  refine ga_aload_n ok 0 rfl rfl dL_law_226 ?_
  refine ga_iload ok rfl dL_law_227 ?_
  refine ga_iconst ok dL_law_229 ?_
  refine ga_iadd ok dL_law_230 ?_
  refine gs_scr ok hS hSc (by omega) dL_law_231 ?_
  refine gc_X4_1 ok hG rfl lk_L_144 rfl (c_X4_guard ok.fl hG hY1 hs.1.1.2 (sx_rng xs _)) (by rw [hR]; exact ⟨by decide, by decide, by show k + 4 + 0 ≤ 603072; omega, by show n + 24 + 0 ≤ 7223402; omega⟩) (Nat.le_of_ble_eq_true rfl) dL_law_232 (fun r9 m2 hq9 => ?_) (fun _ _ h => h.elim)
  obtain ⟨v9, rfl, hv9, hY2, hth, hf2⟩ := hq9
  simp only [Option.toList_some, List.singleton_append]
  refine ga_istore ok hn7 dL_law_235 ?_
  exact WA.wd (by show k + 4 + 0 ≤ k + 4; omega) (by show n + 24 + 0 ≤ n + 24; omega) (WA.re (by exact ⟨rfl, rfl, rfl, rfl, rfl, rfl, rfl, rfl, trivial⟩) (tail _ v9 _ _ hr9 hth (fun h => (show m2.1 1600 0 = m1.1 1600 0 by rw [(hf2 1600 (Or.inr (by omega))).1]).trans ((ho1 h).trans (by rw [hv9 h]))) (hs.chg hX1 hf1 hY2 hf2)))
set_option maxHeartbeats 4000000 in
set_option maxRecDepth 100000 in
theorem lc_rate {G : GG} {E : EE} (ok : OK0 G E RL cL_law) (hG : MW G) (hS : SBW G) (hml : (e_c E).maxLocals = 9) (hR : e_R E = room_1) {sb sl : Nat} {xs : Nat → Int32} (hSc : SCR G E sb sl xs) {i : Int} (hi : 0 ≤ i ∧ i + 4 ≤ sl) {T : Int} (hT0 : 0 ≤ T ∧ T ≤ 999990000) {m : Mm} {g : Gm} (hs : LWS T m g) {k n : Nat} (hk : k + 24 ≤ 603072) (hn : n + 9206 ≤ 7223402)
    (kk : ∀ (m' : Mm) (g' : Gm), LWS (T + 1000) m' g' → WA G E (k + 24) (n + 9206) 2494 [(0, .ref (RAW + sb)), (1, .ref 0), (2, .ref 1024), (3, .ref 1600), (4, .ref 1664), (5, vI i)] [] m') : WA G E k n 268 [(0, .ref (RAW + sb)), (1, .ref 0), (2, .ref 1024), (3, .ref 1600), (4, .ref 1664), (5, vI i)] [] m := by
  have hn6 : 6 < (e_c E).maxLocals := by rw [hml]; decide
  have hn7 : 7 < (e_c E).maxLocals := by rw [hml]; decide
  have hn8 : 8 < (e_c E).maxLocals := by rw [hml]; decide
  obtain ⟨-, -, -, hsl⟩ := id hSc
  have tail : ∀ (K : Int) (v9 : Int) (m2 : Mm) (g9 : Gm), (0 ≤ K ∧ K ≤ 3) → m2.1 1024 6 = K → (K = 0 → m2.1 1600 0 = w32 v9) → LWS (T + 1000) m2 g9 → WA G E (k + 4) (n + 24) 305 [(7, vI v9), (6, vI K), (0, .ref (RAW + sb)), (1, .ref 0), (2, .ref 1024), (3, .ref 1600), (4, .ref 1664), (5, vI i)] [] m2 := by
    intro K v9 m2 g9 hr9 hth ho9 hs9
    refine ga_aload_n ok 2 rfl rfl dL_law_305 ?_
    refine gd_X4_0 ok hG rfl lk_L_145 rfl (c_X4_thrown ok.fl hG) (by rw [hR]; exact ⟨by decide, by decide, by show k + 4 + 0 ≤ 603072; omega, by show n + 24 + 0 ≤ 7223402; omega⟩) (Nat.le_of_ble_eq_true rfl) dL_law_306 ?_
    rw [hth]
    refine ga_iload ok rfl dL_law_309 ?_
    refine ga_icmp_eq ok 316 (by decide) (by omega) (by omega) dL_law_311 (fun c_311 => ?_) (fun c_311 => ?_)
    · refine ga_iload ok rfl dL_law_316 ?_
      refine ga_if_ne ok 333 (by decide) (by omega) dL_law_318 (fun c_318 => ?_) (fun c_318 => ?_)
      · refine ga_goto ok 2494 (by decide) dL_law_333 ?_
        exact WA.wd (by show k + 4 + 0 ≤ k + 24; omega) (by show n + 24 + 0 ≤ n + 9206; omega) (WA.re (by exact ⟨rfl, rfl, rfl, rfl, rfl, rfl, trivial⟩) (kk m2 g9 hs9))
      · refine ga_aload_n ok 3 rfl rfl dL_law_321 ?_
        refine ga_iconst ok dL_law_322 ?_
        refine ga_laload_la ok (ar_lo hG rfl) (by omega) dL_law_323 ?_
        rw [show m2.1 1600 (0 : Int).toNat = w32 v9 from ho9 (by omega)]
        refine ga_iload ok rfl dL_law_324 ?_
        refine ga_i2lW ok dL_law_326 ?_
        refine ga_lcmp ok dL_law_327 lcmp_0 ?_
        refine ga_if_eq ok 333 (by decide) (by omega) dL_law_328 (fun c_328 => ?_) (fun c_328 => ?_)
        · refine ga_goto ok 2494 (by decide) dL_law_333 ?_
          exact WA.wd (by show k + 4 + 0 ≤ k + 24; omega) (by show n + 24 + 0 ≤ n + 9206; omega) (WA.re (by exact ⟨rfl, rfl, rfl, rfl, rfl, rfl, trivial⟩) (kk m2 g9 hs9))
        · exact absurd rfl c_328
    · exact absurd rfl c_311
  refine ga_aload_n ok 1 rfl rfl dL_law_268 ?_
  refine ga_aload_n ok 0 rfl rfl dL_law_269 ?_
  refine ga_iload ok rfl dL_law_270 ?_
  refine ga_iconst ok dL_law_272 ?_
  refine ga_iadd ok dL_law_273 ?_
  refine gs_scr ok hS hSc (by omega) dL_law_274 ?_
  refine ga_aload_n ok 0 rfl rfl dL_law_275 ?_
  refine ga_iload ok rfl dL_law_276 ?_
  refine ga_iconst ok dL_law_278 ?_
  refine ga_iadd ok dL_law_279 ?_
  refine gs_scr ok hS hSc (by omega) dL_law_280 ?_
  refine ga_aload_n ok 3 rfl rfl dL_law_281 ?_
  refine ga_callT ok [_, _, _, _] lw_L_148 (w_rate ok.fl hG hS hs.1 ⟨hT0.1, by omega⟩ (sx_rng xs _) (sx_rng xs _)) rfl (by rw [hR]; exact ⟨by decide, by decide, by show k + 4 ≤ 603072; omega, by show n + 24 ≤ 7223402; omega⟩) (Nat.le_of_ble_eq_true rfl) dL_law_282 (fun r9 m1 hq9 => ?_) (fun _ _ h => h.elim)
  obtain ⟨rfl, hr9, ho1, hX1, hf1⟩ := hq9
  simp only [Option.toList_some, List.singleton_append]
  have hY1 : YIs m1 g := hs.2.1.w (fun n a b c => hf1 n (by omega) b c)
  refine ga_istore ok hn6 dL_law_285 ?_
  refine ga_aload_n ok 2 rfl rfl dL_law_287 ?_
  refine ga_aload_n ok 0 rfl rfl dL_law_288 ?_
  refine ga_iload ok rfl dL_law_289 ?_
  refine ga_iconst ok dL_law_291 ?_
  refine ga_iadd ok dL_law_292 ?_
  refine gs_scr ok hS hSc (by omega) dL_law_293 ?_
  refine ga_aload_n ok 0 rfl rfl dL_law_294 ?_
  refine ga_iload ok rfl dL_law_295 ?_
  refine ga_iconst ok dL_law_297 ?_
  refine ga_iadd ok dL_law_298 ?_
  refine gs_scr ok hS hSc (by omega) dL_law_299 ?_
  refine gc_X4_2 ok hG rfl lk_L_151 rfl (c_X4_rate ok.fl hG hY1 hs.1.1.2 (sx_rng xs _) (sx_rng xs _)) (by rw [hR]; exact ⟨by decide, by decide, by show k + 4 + 0 ≤ 603072; omega, by show n + 24 + 0 ≤ 7223402; omega⟩) (Nat.le_of_ble_eq_true rfl) dL_law_300 (fun r9 m2 hq9 => ?_) (fun _ _ h => h.elim)
  obtain ⟨v9, rfl, hv9, hY2, hth, hf2⟩ := hq9
  simp only [Option.toList_some, List.singleton_append]
  refine ga_istore ok hn7 dL_law_303 ?_
  exact WA.wd (by show k + 4 + 0 ≤ k + 4; omega) (by show n + 24 + 0 ≤ n + 24; omega) (WA.re (by exact ⟨rfl, rfl, rfl, rfl, rfl, rfl, rfl, rfl, trivial⟩) (tail _ v9 _ _ hr9 hth (fun h => (show m2.1 1600 0 = m1.1 1600 0 by rw [(hf2 1600 (Or.inr (by omega))).1]).trans ((ho1 h).trans (by rw [hv9 h]))) (hs.chg hX1 hf1 hY2 hf2)))
set_option maxHeartbeats 4000000 in
set_option maxRecDepth 100000 in
theorem lc_caution {G : GG} {E : EE} (ok : OK0 G E RL cL_law) (hG : MW G) (hS : SBW G) (hml : (e_c E).maxLocals = 9) (hR : e_R E = room_1) {sb sl : Nat} {xs : Nat → Int32} (hSc : SCR G E sb sl xs) {i : Int} (hi : 0 ≤ i ∧ i + 4 ≤ sl) {T : Int} (hT0 : 0 ≤ T ∧ T ≤ 999990000) {m : Mm} {g : Gm} (hs : LWS T m g) {k n : Nat} (hk : k + 24 ≤ 603072) (hn : n + 9206 ≤ 7223402)
    (kk : ∀ (m' : Mm) (g' : Gm), LWS (T + 1000) m' g' → WA G E (k + 24) (n + 9206) 2494 [(0, .ref (RAW + sb)), (1, .ref 0), (2, .ref 1024), (3, .ref 1600), (4, .ref 1664), (5, vI i)] [] m') : WA G E k n 336 [(0, .ref (RAW + sb)), (1, .ref 0), (2, .ref 1024), (3, .ref 1600), (4, .ref 1664), (5, vI i)] [] m := by
  have hn6 : 6 < (e_c E).maxLocals := by rw [hml]; decide
  have hn7 : 7 < (e_c E).maxLocals := by rw [hml]; decide
  have hn8 : 8 < (e_c E).maxLocals := by rw [hml]; decide
  obtain ⟨-, -, -, hsl⟩ := id hSc
  have tail : ∀ (K : Int) (v9 : Int) (m2 : Mm) (g9 : Gm), (0 ≤ K ∧ K ≤ 3) → m2.1 1024 6 = K → (K = 0 → m2.1 1600 0 = w32 v9) → LWS (T + 1000) m2 g9 → WA G E (k + 4) (n + 24) 373 [(7, vI v9), (6, vI K), (0, .ref (RAW + sb)), (1, .ref 0), (2, .ref 1024), (3, .ref 1600), (4, .ref 1664), (5, vI i)] [] m2 := by
    intro K v9 m2 g9 hr9 hth ho9 hs9
    refine ga_aload_n ok 2 rfl rfl dL_law_373 ?_
    refine gd_X4_0 ok hG rfl lk_L_145 rfl (c_X4_thrown ok.fl hG) (by rw [hR]; exact ⟨by decide, by decide, by show k + 4 + 0 ≤ 603072; omega, by show n + 24 + 0 ≤ 7223402; omega⟩) (Nat.le_of_ble_eq_true rfl) dL_law_374 ?_
    rw [hth]
    refine ga_iload ok rfl dL_law_377 ?_
    refine ga_icmp_eq ok 384 (by decide) (by omega) (by omega) dL_law_379 (fun c_379 => ?_) (fun c_379 => ?_)
    · refine ga_iload ok rfl dL_law_384 ?_
      refine ga_if_ne ok 401 (by decide) (by omega) dL_law_386 (fun c_386 => ?_) (fun c_386 => ?_)
      · refine ga_goto ok 2494 (by decide) dL_law_401 ?_
        exact WA.wd (by show k + 4 + 0 ≤ k + 24; omega) (by show n + 24 + 0 ≤ n + 9206; omega) (WA.re (by exact ⟨rfl, rfl, rfl, rfl, rfl, rfl, trivial⟩) (kk m2 g9 hs9))
      · refine ga_aload_n ok 3 rfl rfl dL_law_389 ?_
        refine ga_iconst ok dL_law_390 ?_
        refine ga_laload_la ok (ar_lo hG rfl) (by omega) dL_law_391 ?_
        rw [show m2.1 1600 (0 : Int).toNat = w32 v9 from ho9 (by omega)]
        refine ga_iload ok rfl dL_law_392 ?_
        refine ga_i2lW ok dL_law_394 ?_
        refine ga_lcmp ok dL_law_395 lcmp_0 ?_
        refine ga_if_eq ok 401 (by decide) (by omega) dL_law_396 (fun c_396 => ?_) (fun c_396 => ?_)
        · refine ga_goto ok 2494 (by decide) dL_law_401 ?_
          exact WA.wd (by show k + 4 + 0 ≤ k + 24; omega) (by show n + 24 + 0 ≤ n + 9206; omega) (WA.re (by exact ⟨rfl, rfl, rfl, rfl, rfl, rfl, trivial⟩) (kk m2 g9 hs9))
        · exact absurd rfl c_396
    · exact absurd rfl c_379
  refine ga_aload_n ok 1 rfl rfl dL_law_336 ?_
  refine ga_aload_n ok 0 rfl rfl dL_law_337 ?_
  refine ga_iload ok rfl dL_law_338 ?_
  refine ga_iconst ok dL_law_340 ?_
  refine ga_iadd ok dL_law_341 ?_
  refine gs_scr ok hS hSc (by omega) dL_law_342 ?_
  refine ga_aload_n ok 0 rfl rfl dL_law_343 ?_
  refine ga_iload ok rfl dL_law_344 ?_
  refine ga_iconst ok dL_law_346 ?_
  refine ga_iadd ok dL_law_347 ?_
  refine gs_scr ok hS hSc (by omega) dL_law_348 ?_
  refine ga_aload_n ok 3 rfl rfl dL_law_349 ?_
  refine ga_callT ok [_, _, _, _] lw_L_152 (w_caution ok.fl hG hS hs.1 ⟨hT0.1, by omega⟩ (sx_rng xs _) (sx_rng xs _)) rfl (by rw [hR]; exact ⟨by decide, by decide, by show k + 4 ≤ 603072; omega, by show n + 24 ≤ 7223402; omega⟩) (Nat.le_of_ble_eq_true rfl) dL_law_350 (fun r9 m1 hq9 => ?_) (fun _ _ h => h.elim)
  obtain ⟨rfl, hr9, ho1, hX1, hf1⟩ := hq9
  simp only [Option.toList_some, List.singleton_append]
  have hY1 : YIs m1 g := hs.2.1.w (fun n a b c => hf1 n (by omega) b c)
  refine ga_istore ok hn6 dL_law_353 ?_
  refine ga_aload_n ok 2 rfl rfl dL_law_355 ?_
  refine ga_aload_n ok 0 rfl rfl dL_law_356 ?_
  refine ga_iload ok rfl dL_law_357 ?_
  refine ga_iconst ok dL_law_359 ?_
  refine ga_iadd ok dL_law_360 ?_
  refine gs_scr ok hS hSc (by omega) dL_law_361 ?_
  refine ga_aload_n ok 0 rfl rfl dL_law_362 ?_
  refine ga_iload ok rfl dL_law_363 ?_
  refine ga_iconst ok dL_law_365 ?_
  refine ga_iadd ok dL_law_366 ?_
  refine gs_scr ok hS hSc (by omega) dL_law_367 ?_
  refine gc_X4_2 ok hG rfl lk_L_154 rfl (c_X4_caution ok.fl hG hY1 hs.1.1.2 (sx_rng xs _) (sx_rng xs _)) (by rw [hR]; exact ⟨by decide, by decide, by show k + 4 + 0 ≤ 603072; omega, by show n + 24 + 0 ≤ 7223402; omega⟩) (Nat.le_of_ble_eq_true rfl) dL_law_368 (fun r9 m2 hq9 => ?_) (fun _ _ h => h.elim)
  obtain ⟨v9, rfl, hv9, hY2, hth, hf2⟩ := hq9
  simp only [Option.toList_some, List.singleton_append]
  refine ga_istore ok hn7 dL_law_371 ?_
  exact WA.wd (by show k + 4 + 0 ≤ k + 4; omega) (by show n + 24 + 0 ≤ n + 24; omega) (WA.re (by exact ⟨rfl, rfl, rfl, rfl, rfl, rfl, rfl, rfl, trivial⟩) (tail _ v9 _ _ hr9 hth (fun h => (show m2.1 1600 0 = m1.1 1600 0 by rw [(hf2 1600 (Or.inr (by omega))).1]).trans ((ho1 h).trans (by rw [hv9 h]))) (hs.chg hX1 hf1 hY2 hf2)))
set_option maxHeartbeats 4000000 in
set_option maxRecDepth 100000 in
theorem lc_visitor {G : GG} {E : EE} (ok : OK0 G E RL cL_law) (hG : MW G) (hS : SBW G) (hml : (e_c E).maxLocals = 9) (hR : e_R E = room_1) {sb sl : Nat} {xs : Nat → Int32} (hSc : SCR G E sb sl xs) {i : Int} (hi : 0 ≤ i ∧ i + 4 ≤ sl) {T : Int} (hT0 : 0 ≤ T ∧ T ≤ 999990000) {m : Mm} {g : Gm} (hs : LWS T m g) {k n : Nat} (hk : k + 24 ≤ 603072) (hn : n + 9206 ≤ 7223402)
    (kk : ∀ (m' : Mm) (g' : Gm), LWS (T + 1000) m' g' → WA G E (k + 24) (n + 9206) 2494 [(0, .ref (RAW + sb)), (1, .ref 0), (2, .ref 1024), (3, .ref 1600), (4, .ref 1664), (5, vI i)] [] m') : WA G E k n 404 [(0, .ref (RAW + sb)), (1, .ref 0), (2, .ref 1024), (3, .ref 1600), (4, .ref 1664), (5, vI i)] [] m := by
  have hn6 : 6 < (e_c E).maxLocals := by rw [hml]; decide
  have hn7 : 7 < (e_c E).maxLocals := by rw [hml]; decide
  have hn8 : 8 < (e_c E).maxLocals := by rw [hml]; decide
  obtain ⟨-, -, -, hsl⟩ := id hSc
  have tail : ∀ (K : Int) (v9 : Int) (m2 : Mm) (g9 : Gm), (0 ≤ K ∧ K ≤ 3) → m2.1 1024 6 = K → (K = 0 → m2.1 1600 0 = w32 v9) → LWS (T + 1000) m2 g9 → WA G E (k + 4) (n + 24) 457 [(7, vI v9), (6, vI K), (0, .ref (RAW + sb)), (1, .ref 0), (2, .ref 1024), (3, .ref 1600), (4, .ref 1664), (5, vI i)] [] m2 := by
    intro K v9 m2 g9 hr9 hth ho9 hs9
    refine ga_aload_n ok 2 rfl rfl dL_law_457 ?_
    refine gd_X4_0 ok hG rfl lk_L_145 rfl (c_X4_thrown ok.fl hG) (by rw [hR]; exact ⟨by decide, by decide, by show k + 4 + 0 ≤ 603072; omega, by show n + 24 + 0 ≤ 7223402; omega⟩) (Nat.le_of_ble_eq_true rfl) dL_law_458 ?_
    rw [hth]
    refine ga_iload ok rfl dL_law_461 ?_
    refine ga_icmp_eq ok 468 (by decide) (by omega) (by omega) dL_law_463 (fun c_463 => ?_) (fun c_463 => ?_)
    · refine ga_iload ok rfl dL_law_468 ?_
      refine ga_if_ne ok 485 (by decide) (by omega) dL_law_470 (fun c_470 => ?_) (fun c_470 => ?_)
      · refine ga_goto ok 2494 (by decide) dL_law_485 ?_
        exact WA.wd (by show k + 4 + 0 ≤ k + 24; omega) (by show n + 24 + 0 ≤ n + 9206; omega) (WA.re (by exact ⟨rfl, rfl, rfl, rfl, rfl, rfl, trivial⟩) (kk m2 g9 hs9))
      · refine ga_aload_n ok 3 rfl rfl dL_law_473 ?_
        refine ga_iconst ok dL_law_474 ?_
        refine ga_laload_la ok (ar_lo hG rfl) (by omega) dL_law_475 ?_
        rw [show m2.1 1600 (0 : Int).toNat = w32 v9 from ho9 (by omega)]
        refine ga_iload ok rfl dL_law_476 ?_
        refine ga_i2lW ok dL_law_478 ?_
        refine ga_lcmp ok dL_law_479 lcmp_0 ?_
        refine ga_if_eq ok 485 (by decide) (by omega) dL_law_480 (fun c_480 => ?_) (fun c_480 => ?_)
        · refine ga_goto ok 2494 (by decide) dL_law_485 ?_
          exact WA.wd (by show k + 4 + 0 ≤ k + 24; omega) (by show n + 24 + 0 ≤ n + 9206; omega) (WA.re (by exact ⟨rfl, rfl, rfl, rfl, rfl, rfl, trivial⟩) (kk m2 g9 hs9))
        · exact absurd rfl c_480
    · exact absurd rfl c_463
  refine ga_aload_n ok 1 rfl rfl dL_law_404 ?_
  refine ga_aload_n ok 0 rfl rfl dL_law_405 ?_
  refine ga_iload ok rfl dL_law_406 ?_
  refine ga_iconst ok dL_law_408 ?_
  refine ga_iadd ok dL_law_409 ?_
  refine gs_scr ok hS hSc (by omega) dL_law_410 ?_
  refine ga_aload_n ok 0 rfl rfl dL_law_411 ?_
  refine ga_iload ok rfl dL_law_412 ?_
  refine ga_iconst ok dL_law_414 ?_
  refine ga_iadd ok dL_law_415 ?_
  refine gs_scr ok hS hSc (by omega) dL_law_416 ?_
  refine ga_if_eq ok 424 (by decide) (sx_rng xs _) dL_law_417 (fun c_417 => ?_) (fun c_417 => ?_)
  · refine ga_iconst ok dL_law_424 ?_
    refine ga_aload_n ok 3 rfl rfl dL_law_425 ?_
    refine ga_callT ok [_, _, _, _] lw_L_155 (w_visitor ok.fl hG hS hs.1 ⟨hT0.1, by omega⟩ (sx_rng xs _) (by first | exact Or.inl rfl | exact Or.inr rfl)) rfl (by rw [hR]; exact ⟨by decide, by decide, by show k + 4 ≤ 603072; omega, by show n + 24 ≤ 7223402; omega⟩) (Nat.le_of_ble_eq_true rfl) dL_law_426 (fun r9 m1 hq9 => ?_) (fun _ _ h => h.elim)
    obtain ⟨rfl, hr9, ho1, hX1, hf1⟩ := hq9
    simp only [Option.toList_some, List.singleton_append]
    have hY1 : YIs m1 g := hs.2.1.w (fun n a b c => hf1 n (by omega) b c)
    refine ga_istore ok hn6 dL_law_429 ?_
    refine ga_aload_n ok 2 rfl rfl dL_law_431 ?_
    refine ga_aload_n ok 0 rfl rfl dL_law_432 ?_
    refine ga_iload ok rfl dL_law_433 ?_
    refine ga_iconst ok dL_law_435 ?_
    refine ga_iadd ok dL_law_436 ?_
    refine gs_scr ok hS hSc (by omega) dL_law_437 ?_
    refine ga_aload_n ok 0 rfl rfl dL_law_438 ?_
    refine ga_iload ok rfl dL_law_439 ?_
    refine ga_iconst ok dL_law_441 ?_
    refine ga_iadd ok dL_law_442 ?_
    refine gs_scr ok hS hSc (by omega) dL_law_443 ?_
    refine ga_if_eq ok 451 (by decide) (sx_rng xs _) dL_law_444 (fun c_444 => ?_) (fun c_444 => ?_)
    · refine ga_iconst ok dL_law_451 ?_
      refine gc_X4_2 ok hG rfl lk_L_158 rfl (c_X4_visitor ok.fl hG hY1 hs.1.1.2 (sx_rng xs _) (by first | exact Or.inl rfl | exact Or.inr rfl)) (by rw [hR]; exact ⟨by decide, by decide, by show k + 4 + 0 ≤ 603072; omega, by show n + 24 + 0 ≤ 7223402; omega⟩) (Nat.le_of_ble_eq_true rfl) dL_law_452 (fun r9 m2 hq9 => ?_) (fun _ _ h => h.elim)
      obtain ⟨v9, rfl, hv9, hY2, hth, hf2⟩ := hq9
      simp only [Option.toList_some, List.singleton_append]
      refine ga_istore ok hn7 dL_law_455 ?_
      exact WA.wd (by show k + 4 + 0 ≤ k + 4; omega) (by show n + 24 + 0 ≤ n + 24; omega) (WA.re (by exact ⟨rfl, rfl, rfl, rfl, rfl, rfl, rfl, rfl, trivial⟩) (tail _ v9 _ _ hr9 hth (fun h => (show m2.1 1600 0 = m1.1 1600 0 by rw [(hf2 1600 (Or.inr (by omega))).1]).trans ((ho1 h).trans (by rw [hv9 h]))) (hs.chg hX1 hf1 hY2 hf2)))
    · exact absurd c_417 c_444
  · refine ga_iconst ok dL_law_420 ?_
    refine ga_goto ok 425 (by decide) dL_law_421 ?_
    refine ga_aload_n ok 3 rfl rfl dL_law_425 ?_
    refine ga_callT ok [_, _, _, _] lw_L_155 (w_visitor ok.fl hG hS hs.1 ⟨hT0.1, by omega⟩ (sx_rng xs _) (by first | exact Or.inl rfl | exact Or.inr rfl)) rfl (by rw [hR]; exact ⟨by decide, by decide, by show k + 4 ≤ 603072; omega, by show n + 24 ≤ 7223402; omega⟩) (Nat.le_of_ble_eq_true rfl) dL_law_426 (fun r9 m1 hq9 => ?_) (fun _ _ h => h.elim)
    obtain ⟨rfl, hr9, ho1, hX1, hf1⟩ := hq9
    simp only [Option.toList_some, List.singleton_append]
    have hY1 : YIs m1 g := hs.2.1.w (fun n a b c => hf1 n (by omega) b c)
    refine ga_istore ok hn6 dL_law_429 ?_
    refine ga_aload_n ok 2 rfl rfl dL_law_431 ?_
    refine ga_aload_n ok 0 rfl rfl dL_law_432 ?_
    refine ga_iload ok rfl dL_law_433 ?_
    refine ga_iconst ok dL_law_435 ?_
    refine ga_iadd ok dL_law_436 ?_
    refine gs_scr ok hS hSc (by omega) dL_law_437 ?_
    refine ga_aload_n ok 0 rfl rfl dL_law_438 ?_
    refine ga_iload ok rfl dL_law_439 ?_
    refine ga_iconst ok dL_law_441 ?_
    refine ga_iadd ok dL_law_442 ?_
    refine gs_scr ok hS hSc (by omega) dL_law_443 ?_
    refine ga_if_eq ok 451 (by decide) (sx_rng xs _) dL_law_444 (fun c_444 => ?_) (fun c_444 => ?_)
    · exact absurd c_444 c_417
    · refine ga_iconst ok dL_law_447 ?_
      refine ga_goto ok 452 (by decide) dL_law_448 ?_
      refine gc_X4_2 ok hG rfl lk_L_158 rfl (c_X4_visitor ok.fl hG hY1 hs.1.1.2 (sx_rng xs _) (by first | exact Or.inl rfl | exact Or.inr rfl)) (by rw [hR]; exact ⟨by decide, by decide, by show k + 4 + 0 ≤ 603072; omega, by show n + 24 + 0 ≤ 7223402; omega⟩) (Nat.le_of_ble_eq_true rfl) dL_law_452 (fun r9 m2 hq9 => ?_) (fun _ _ h => h.elim)
      obtain ⟨v9, rfl, hv9, hY2, hth, hf2⟩ := hq9
      simp only [Option.toList_some, List.singleton_append]
      refine ga_istore ok hn7 dL_law_455 ?_
      exact WA.wd (by show k + 4 + 0 ≤ k + 4; omega) (by show n + 24 + 0 ≤ n + 24; omega) (WA.re (by exact ⟨rfl, rfl, rfl, rfl, rfl, rfl, rfl, rfl, trivial⟩) (tail _ v9 _ _ hr9 hth (fun h => (show m2.1 1600 0 = m1.1 1600 0 by rw [(hf2 1600 (Or.inr (by omega))).1]).trans ((ho1 h).trans (by rw [hv9 h]))) (hs.chg hX1 hf1 hY2 hf2)))
set_option maxHeartbeats 4000000 in
set_option maxRecDepth 100000 in
theorem lc_forget {G : GG} {E : EE} (ok : OK0 G E RL cL_law) (hG : MW G) (hS : SBW G) (hml : (e_c E).maxLocals = 9) (hR : e_R E = room_1) {sb sl : Nat} {xs : Nat → Int32} (hSc : SCR G E sb sl xs) {i : Int} (hi : 0 ≤ i ∧ i + 4 ≤ sl) {T : Int} (hT0 : 0 ≤ T ∧ T ≤ 999990000) {m : Mm} {g : Gm} (hs : LWS T m g) {k n : Nat} (hk : k + 24 ≤ 603072) (hn : n + 9206 ≤ 7223402)
    (kk : ∀ (m' : Mm) (g' : Gm), LWS (T + 1000) m' g' → WA G E (k + 24) (n + 9206) 2494 [(0, .ref (RAW + sb)), (1, .ref 0), (2, .ref 1024), (3, .ref 1600), (4, .ref 1664), (5, vI i)] [] m') : WA G E k n 488 [(0, .ref (RAW + sb)), (1, .ref 0), (2, .ref 1024), (3, .ref 1600), (4, .ref 1664), (5, vI i)] [] m := by
  have hn6 : 6 < (e_c E).maxLocals := by rw [hml]; decide
  have hn7 : 7 < (e_c E).maxLocals := by rw [hml]; decide
  have hn8 : 8 < (e_c E).maxLocals := by rw [hml]; decide
  obtain ⟨-, -, -, hsl⟩ := id hSc
  have tail : ∀ (K : Int) (v9 : Int) (m2 : Mm) (g9 : Gm), (0 ≤ K ∧ K ≤ 3) → m2.1 1024 6 = K → (K = 0 → m2.1 1600 0 = w32 v9) → LWS (T + 1000) m2 g9 → WA G E (k + 4) (n + 24) 513 [(7, vI v9), (6, vI K), (0, .ref (RAW + sb)), (1, .ref 0), (2, .ref 1024), (3, .ref 1600), (4, .ref 1664), (5, vI i)] [] m2 := by
    intro K v9 m2 g9 hr9 hth ho9 hs9
    refine ga_aload_n ok 2 rfl rfl dL_law_513 ?_
    refine gd_X4_0 ok hG rfl lk_L_145 rfl (c_X4_thrown ok.fl hG) (by rw [hR]; exact ⟨by decide, by decide, by show k + 4 + 0 ≤ 603072; omega, by show n + 24 + 0 ≤ 7223402; omega⟩) (Nat.le_of_ble_eq_true rfl) dL_law_514 ?_
    rw [hth]
    refine ga_iload ok rfl dL_law_517 ?_
    refine ga_icmp_eq ok 524 (by decide) (by omega) (by omega) dL_law_519 (fun c_519 => ?_) (fun c_519 => ?_)
    · refine ga_iload ok rfl dL_law_524 ?_
      refine ga_if_ne ok 541 (by decide) (by omega) dL_law_526 (fun c_526 => ?_) (fun c_526 => ?_)
      · refine ga_goto ok 2494 (by decide) dL_law_541 ?_
        exact WA.wd (by show k + 4 + 0 ≤ k + 24; omega) (by show n + 24 + 0 ≤ n + 9206; omega) (WA.re (by exact ⟨rfl, rfl, rfl, rfl, rfl, rfl, trivial⟩) (kk m2 g9 hs9))
      · refine ga_aload_n ok 3 rfl rfl dL_law_529 ?_
        refine ga_iconst ok dL_law_530 ?_
        refine ga_laload_la ok (ar_lo hG rfl) (by omega) dL_law_531 ?_
        rw [show m2.1 1600 (0 : Int).toNat = w32 v9 from ho9 (by omega)]
        refine ga_iload ok rfl dL_law_532 ?_
        refine ga_i2lW ok dL_law_534 ?_
        refine ga_lcmp ok dL_law_535 lcmp_0 ?_
        refine ga_if_eq ok 541 (by decide) (by omega) dL_law_536 (fun c_536 => ?_) (fun c_536 => ?_)
        · refine ga_goto ok 2494 (by decide) dL_law_541 ?_
          exact WA.wd (by show k + 4 + 0 ≤ k + 24; omega) (by show n + 24 + 0 ≤ n + 9206; omega) (WA.re (by exact ⟨rfl, rfl, rfl, rfl, rfl, rfl, trivial⟩) (kk m2 g9 hs9))
        · exact absurd rfl c_536
    · exact absurd rfl c_519
  refine ga_aload_n ok 1 rfl rfl dL_law_488 ?_
  refine ga_aload_n ok 0 rfl rfl dL_law_489 ?_
  refine ga_iload ok rfl dL_law_490 ?_
  refine ga_iconst ok dL_law_492 ?_
  refine ga_iadd ok dL_law_493 ?_
  refine gs_scr ok hS hSc (by omega) dL_law_494 ?_
  refine ga_aload_n ok 3 rfl rfl dL_law_495 ?_
  refine ga_callT ok [_, _, _] lw_L_159 (w_forget ok.fl hG hS hs.1 ⟨hT0.1, by omega⟩ (sx_rng xs _)) rfl (by rw [hR]; exact ⟨by decide, by decide, by show k + 4 ≤ 603072; omega, by show n + 24 ≤ 7223402; omega⟩) (Nat.le_of_ble_eq_true rfl) dL_law_496 (fun r9 m1 hq9 => ?_) (fun _ _ h => h.elim)
  obtain ⟨rfl, hr9, ho1, hX1, hf1⟩ := hq9
  simp only [Option.toList_some, List.singleton_append]
  have hY1 : YIs m1 g := hs.2.1.w (fun n a b c => hf1 n (by omega) b c)
  refine ga_istore ok hn6 dL_law_499 ?_
  refine ga_aload_n ok 2 rfl rfl dL_law_501 ?_
  refine ga_aload_n ok 0 rfl rfl dL_law_502 ?_
  refine ga_iload ok rfl dL_law_503 ?_
  refine ga_iconst ok dL_law_505 ?_
  refine ga_iadd ok dL_law_506 ?_
  refine gs_scr ok hS hSc (by omega) dL_law_507 ?_
  refine gc_X4_1 ok hG rfl lk_L_161 rfl (c_X4_forget ok.fl hG hY1 hs.1.1.2 (sx_rng xs _)) (by rw [hR]; exact ⟨by decide, by decide, by show k + 4 + 0 ≤ 603072; omega, by show n + 24 + 0 ≤ 7223402; omega⟩) (Nat.le_of_ble_eq_true rfl) dL_law_508 (fun r9 m2 hq9 => ?_) (fun _ _ h => h.elim)
  obtain ⟨v9, rfl, hv9, hY2, hth, hf2⟩ := hq9
  simp only [Option.toList_some, List.singleton_append]
  refine ga_istore ok hn7 dL_law_511 ?_
  exact WA.wd (by show k + 4 + 0 ≤ k + 4; omega) (by show n + 24 + 0 ≤ n + 24; omega) (WA.re (by exact ⟨rfl, rfl, rfl, rfl, rfl, rfl, rfl, rfl, trivial⟩) (tail _ v9 _ _ hr9 hth (fun h => (show m2.1 1600 0 = m1.1 1600 0 by rw [(hf2 1600 (Or.inr (by omega))).1]).trans ((ho1 h).trans (by rw [hv9 h]))) (hs.chg hX1 hf1 hY2 hf2)))
set_option maxHeartbeats 4000000 in
set_option maxRecDepth 100000 in
theorem lc_teach {G : GG} {E : EE} (ok : OK0 G E RL cL_law) (hG : MW G) (hS : SBW G) (hml : (e_c E).maxLocals = 9) (hR : e_R E = room_1) {sb sl : Nat} {xs : Nat → Int32} (hSc : SCR G E sb sl xs) {i : Int} (hi : 0 ≤ i ∧ i + 4 ≤ sl) {T : Int} (hT0 : 0 ≤ T ∧ T ≤ 999990000) {m : Mm} {g : Gm} (hs : LWS T m g) {k n : Nat} (hk : k + 24 ≤ 603072) (hn : n + 9206 ≤ 7223402)
    (kk : ∀ (m' : Mm) (g' : Gm), LWS (T + 1000) m' g' → WA G E (k + 24) (n + 9206) 2494 [(0, .ref (RAW + sb)), (1, .ref 0), (2, .ref 1024), (3, .ref 1600), (4, .ref 1664), (5, vI i)] [] m') : WA G E k n 1313 [(0, .ref (RAW + sb)), (1, .ref 0), (2, .ref 1024), (3, .ref 1600), (4, .ref 1664), (5, vI i)] [] m := by
  have hn6 : 6 < (e_c E).maxLocals := by rw [hml]; decide
  have hn7 : 7 < (e_c E).maxLocals := by rw [hml]; decide
  have hn8 : 8 < (e_c E).maxLocals := by rw [hml]; decide
  obtain ⟨-, -, -, hsl⟩ := id hSc
  have tail : ∀ (K : Int) (v9 : Int) (m2 : Mm) (g9 : Gm), (0 ≤ K ∧ K ≤ 3) → m2.1 1024 6 = K → (K = 0 → m2.1 1600 0 = w32 v9) → LWS (T + 1000) m2 g9 → WA G E (k + 4) (n + 24) 1350 [(7, vI v9), (6, vI K), (0, .ref (RAW + sb)), (1, .ref 0), (2, .ref 1024), (3, .ref 1600), (4, .ref 1664), (5, vI i)] [] m2 := by
    intro K v9 m2 g9 hr9 hth ho9 hs9
    refine ga_aload_n ok 2 rfl rfl dL_law_1350 ?_
    refine gd_X4_0 ok hG rfl lk_L_145 rfl (c_X4_thrown ok.fl hG) (by rw [hR]; exact ⟨by decide, by decide, by show k + 4 + 0 ≤ 603072; omega, by show n + 24 + 0 ≤ 7223402; omega⟩) (Nat.le_of_ble_eq_true rfl) dL_law_1351 ?_
    rw [hth]
    refine ga_iload ok rfl dL_law_1354 ?_
    refine ga_icmp_eq ok 1361 (by decide) (by omega) (by omega) dL_law_1356 (fun c_1356 => ?_) (fun c_1356 => ?_)
    · refine ga_iload ok rfl dL_law_1361 ?_
      refine ga_if_ne ok 1378 (by decide) (by omega) dL_law_1363 (fun c_1363 => ?_) (fun c_1363 => ?_)
      · refine ga_goto ok 2494 (by decide) dL_law_1378 ?_
        exact WA.wd (by show k + 4 + 0 ≤ k + 24; omega) (by show n + 24 + 0 ≤ n + 9206; omega) (WA.re (by exact ⟨rfl, rfl, rfl, rfl, rfl, rfl, trivial⟩) (kk m2 g9 hs9))
      · refine ga_aload_n ok 3 rfl rfl dL_law_1366 ?_
        refine ga_iconst ok dL_law_1367 ?_
        refine ga_laload_la ok (ar_lo hG rfl) (by omega) dL_law_1368 ?_
        rw [show m2.1 1600 (0 : Int).toNat = w32 v9 from ho9 (by omega)]
        refine ga_iload ok rfl dL_law_1369 ?_
        refine ga_i2lW ok dL_law_1371 ?_
        refine ga_lcmp ok dL_law_1372 lcmp_0 ?_
        refine ga_if_eq ok 1378 (by decide) (by omega) dL_law_1373 (fun c_1373 => ?_) (fun c_1373 => ?_)
        · refine ga_goto ok 2494 (by decide) dL_law_1378 ?_
          exact WA.wd (by show k + 4 + 0 ≤ k + 24; omega) (by show n + 24 + 0 ≤ n + 9206; omega) (WA.re (by exact ⟨rfl, rfl, rfl, rfl, rfl, rfl, trivial⟩) (kk m2 g9 hs9))
        · exact absurd rfl c_1373
    · exact absurd rfl c_1356
  refine ga_aload_n ok 1 rfl rfl dL_law_1313 ?_
  refine ga_aload_n ok 0 rfl rfl dL_law_1314 ?_
  refine ga_iload ok rfl dL_law_1315 ?_
  refine ga_iconst ok dL_law_1317 ?_
  refine ga_iadd ok dL_law_1318 ?_
  refine gs_scr ok hS hSc (by omega) dL_law_1319 ?_
  refine ga_aload_n ok 0 rfl rfl dL_law_1320 ?_
  refine ga_iload ok rfl dL_law_1321 ?_
  refine ga_iconst ok dL_law_1323 ?_
  refine ga_iadd ok dL_law_1324 ?_
  refine gs_scr ok hS hSc (by omega) dL_law_1325 ?_
  refine ga_aload_n ok 3 rfl rfl dL_law_1326 ?_
  refine ga_callT ok [_, _, _, _] lw_L_194 (w_teach ok.fl hG hS hs.1 ⟨hT0.1, by omega⟩ (sx_rng xs _) (sx_rng xs _)) rfl (by rw [hR]; exact ⟨by decide, by decide, by show k + 4 ≤ 603072; omega, by show n + 24 ≤ 7223402; omega⟩) (Nat.le_of_ble_eq_true rfl) dL_law_1327 (fun r9 m1 hq9 => ?_) (fun _ _ h => h.elim)
  obtain ⟨rfl, hr9, ho1, hX1, hf1⟩ := hq9
  simp only [Option.toList_some, List.singleton_append]
  have hY1 : YIs m1 g := hs.2.1.w (fun n a b c => hf1 n (by omega) b c)
  refine ga_istore ok hn6 dL_law_1330 ?_
  refine ga_aload_n ok 2 rfl rfl dL_law_1332 ?_
  refine ga_aload_n ok 0 rfl rfl dL_law_1333 ?_
  refine ga_iload ok rfl dL_law_1334 ?_
  refine ga_iconst ok dL_law_1336 ?_
  refine ga_iadd ok dL_law_1337 ?_
  refine gs_scr ok hS hSc (by omega) dL_law_1338 ?_
  refine ga_aload_n ok 0 rfl rfl dL_law_1339 ?_
  refine ga_iload ok rfl dL_law_1340 ?_
  refine ga_iconst ok dL_law_1342 ?_
  refine ga_iadd ok dL_law_1343 ?_
  refine gs_scr ok hS hSc (by omega) dL_law_1344 ?_
  refine gc_X4_2 ok hG rfl lk_L_196 rfl (c_X4_teach ok.fl hG hY1 hs.1.1.2 (sx_rng xs _) (sx_rng xs _)) (by rw [hR]; exact ⟨by decide, by decide, by show k + 4 + 0 ≤ 603072; omega, by show n + 24 + 0 ≤ 7223402; omega⟩) (Nat.le_of_ble_eq_true rfl) dL_law_1345 (fun r9 m2 hq9 => ?_) (fun _ _ h => h.elim)
  obtain ⟨v9, rfl, hv9, hY2, hth, hf2⟩ := hq9
  simp only [Option.toList_some, List.singleton_append]
  refine ga_istore ok hn7 dL_law_1348 ?_
  exact WA.wd (by show k + 4 + 0 ≤ k + 4; omega) (by show n + 24 + 0 ≤ n + 24; omega) (WA.re (by exact ⟨rfl, rfl, rfl, rfl, rfl, rfl, rfl, rfl, trivial⟩) (tail _ v9 _ _ hr9 hth (fun h => (show m2.1 1600 0 = m1.1 1600 0 by rw [(hf2 1600 (Or.inr (by omega))).1]).trans ((ho1 h).trans (by rw [hv9 h]))) (hs.chg hX1 hf1 hY2 hf2)))
set_option maxHeartbeats 4000000 in
set_option maxRecDepth 100000 in
theorem lc_day {G : GG} {E : EE} (ok : OK0 G E RL cL_law) (hG : MW G) (hS : SBW G) (hml : (e_c E).maxLocals = 9) (hR : e_R E = room_1) {sb sl : Nat} {xs : Nat → Int32} (hSc : SCR G E sb sl xs) {i : Int} (hi : 0 ≤ i ∧ i + 4 ≤ sl) {T : Int} (hT0 : 0 ≤ T ∧ T ≤ 999990000) {m : Mm} {g : Gm} (hs : LWS T m g) {k n : Nat} (hk : k + 24 ≤ 603072) (hn : n + 9206 ≤ 7223402)
    (kk : ∀ (m' : Mm) (g' : Gm), LWS (T + 1000) m' g' → WA G E (k + 24) (n + 9206) 2494 [(0, .ref (RAW + sb)), (1, .ref 0), (2, .ref 1024), (3, .ref 1600), (4, .ref 1664), (5, vI i)] [] m') : WA G E k n 1381 [(0, .ref (RAW + sb)), (1, .ref 0), (2, .ref 1024), (3, .ref 1600), (4, .ref 1664), (5, vI i)] [] m := by
  have hn6 : 6 < (e_c E).maxLocals := by rw [hml]; decide
  have hn7 : 7 < (e_c E).maxLocals := by rw [hml]; decide
  have hn8 : 8 < (e_c E).maxLocals := by rw [hml]; decide
  obtain ⟨-, -, -, hsl⟩ := id hSc
  have tail : ∀ (K : Int) (v9 : Int) (m2 : Mm) (g9 : Gm), (0 ≤ K ∧ K ≤ 3) → m2.1 1024 6 = K → (K = 0 → m2.1 1600 0 = w32 v9) → LWS (T + 1000) m2 g9 → WA G E (k + 4) (n + 24) 1406 [(7, vI v9), (6, vI K), (0, .ref (RAW + sb)), (1, .ref 0), (2, .ref 1024), (3, .ref 1600), (4, .ref 1664), (5, vI i)] [] m2 := by
    intro K v9 m2 g9 hr9 hth ho9 hs9
    refine ga_aload_n ok 2 rfl rfl dL_law_1406 ?_
    refine gd_X4_0 ok hG rfl lk_L_145 rfl (c_X4_thrown ok.fl hG) (by rw [hR]; exact ⟨by decide, by decide, by show k + 4 + 0 ≤ 603072; omega, by show n + 24 + 0 ≤ 7223402; omega⟩) (Nat.le_of_ble_eq_true rfl) dL_law_1407 ?_
    rw [hth]
    refine ga_iload ok rfl dL_law_1410 ?_
    refine ga_icmp_eq ok 1417 (by decide) (by omega) (by omega) dL_law_1412 (fun c_1412 => ?_) (fun c_1412 => ?_)
    · refine ga_iload ok rfl dL_law_1417 ?_
      refine ga_if_ne ok 1434 (by decide) (by omega) dL_law_1419 (fun c_1419 => ?_) (fun c_1419 => ?_)
      · refine ga_goto ok 2494 (by decide) dL_law_1434 ?_
        exact WA.wd (by show k + 4 + 0 ≤ k + 24; omega) (by show n + 24 + 0 ≤ n + 9206; omega) (WA.re (by exact ⟨rfl, rfl, rfl, rfl, rfl, rfl, trivial⟩) (kk m2 g9 hs9))
      · refine ga_aload_n ok 3 rfl rfl dL_law_1422 ?_
        refine ga_iconst ok dL_law_1423 ?_
        refine ga_laload_la ok (ar_lo hG rfl) (by omega) dL_law_1424 ?_
        rw [show m2.1 1600 (0 : Int).toNat = w32 v9 from ho9 (by omega)]
        refine ga_iload ok rfl dL_law_1425 ?_
        refine ga_i2lW ok dL_law_1427 ?_
        refine ga_lcmp ok dL_law_1428 lcmp_0 ?_
        refine ga_if_eq ok 1434 (by decide) (by omega) dL_law_1429 (fun c_1429 => ?_) (fun c_1429 => ?_)
        · refine ga_goto ok 2494 (by decide) dL_law_1434 ?_
          exact WA.wd (by show k + 4 + 0 ≤ k + 24; omega) (by show n + 24 + 0 ≤ n + 9206; omega) (WA.re (by exact ⟨rfl, rfl, rfl, rfl, rfl, rfl, trivial⟩) (kk m2 g9 hs9))
        · exact absurd rfl c_1429
    · exact absurd rfl c_1412
  refine ga_aload_n ok 1 rfl rfl dL_law_1381 ?_
  refine ga_aload_n ok 0 rfl rfl dL_law_1382 ?_
  refine ga_iload ok rfl dL_law_1383 ?_
  refine ga_iconst ok dL_law_1385 ?_
  refine ga_iadd ok dL_law_1386 ?_
  refine gs_scr ok hS hSc (by omega) dL_law_1387 ?_
  refine ga_aload_n ok 3 rfl rfl dL_law_1388 ?_
  refine ga_callT ok [_, _, _] lw_L_197 (w_day ok.fl hG hS hs.1 ⟨hT0.1, by omega⟩ (sx_rng xs _)) rfl (by rw [hR]; exact ⟨by decide, by decide, by show k + 4 ≤ 603072; omega, by show n + 24 ≤ 7223402; omega⟩) (Nat.le_of_ble_eq_true rfl) dL_law_1389 (fun r9 m1 hq9 => ?_) (fun _ _ h => h.elim)
  obtain ⟨rfl, hr9, ho1, hX1, hf1⟩ := hq9
  simp only [Option.toList_some, List.singleton_append]
  have hY1 : YIs m1 g := hs.2.1.w (fun n a b c => hf1 n (by omega) b c)
  refine ga_istore ok hn6 dL_law_1392 ?_
  refine ga_aload_n ok 2 rfl rfl dL_law_1394 ?_
  refine ga_aload_n ok 0 rfl rfl dL_law_1395 ?_
  refine ga_iload ok rfl dL_law_1396 ?_
  refine ga_iconst ok dL_law_1398 ?_
  refine ga_iadd ok dL_law_1399 ?_
  refine gs_scr ok hS hSc (by omega) dL_law_1400 ?_
  refine gc_X4_1 ok hG rfl lk_L_199 rfl (c_X4_day ok.fl hG hY1 hs.1.1.2 (sx_rng xs _)) (by rw [hR]; exact ⟨by decide, by decide, by show k + 4 + 0 ≤ 603072; omega, by show n + 24 + 0 ≤ 7223402; omega⟩) (Nat.le_of_ble_eq_true rfl) dL_law_1401 (fun r9 m2 hq9 => ?_) (fun _ _ h => h.elim)
  obtain ⟨v9, rfl, hv9, hY2, hth, hf2⟩ := hq9
  simp only [Option.toList_some, List.singleton_append]
  refine ga_istore ok hn7 dL_law_1404 ?_
  exact WA.wd (by show k + 4 + 0 ≤ k + 4; omega) (by show n + 24 + 0 ≤ n + 24; omega) (WA.re (by exact ⟨rfl, rfl, rfl, rfl, rfl, rfl, rfl, rfl, trivial⟩) (tail _ v9 _ _ hr9 hth (fun h => (show m2.1 1600 0 = m1.1 1600 0 by rw [(hf2 1600 (Or.inr (by omega))).1]).trans ((ho1 h).trans (by rw [hv9 h]))) (hs.chg hX1 hf1 hY2 hf2)))
set_option maxHeartbeats 4000000 in
set_option maxRecDepth 100000 in
theorem lc_days {G : GG} {E : EE} (ok : OK0 G E RL cL_law) (hG : MW G) (hS : SBW G) (hml : (e_c E).maxLocals = 9) (hR : e_R E = room_1) {sb sl : Nat} {xs : Nat → Int32} (hSc : SCR G E sb sl xs) {i : Int} (hi : 0 ≤ i ∧ i + 4 ≤ sl) {T : Int} (hT0 : 0 ≤ T ∧ T ≤ 999990000) {m : Mm} {g : Gm} (hs : LWS T m g) {k n : Nat} (hk : k + 24 ≤ 603072) (hn : n + 9206 ≤ 7223402)
    (kk : ∀ (m' : Mm) (g' : Gm), LWS (T + 1000) m' g' → WA G E (k + 24) (n + 9206) 2494 [(0, .ref (RAW + sb)), (1, .ref 0), (2, .ref 1024), (3, .ref 1600), (4, .ref 1664), (5, vI i)] [] m') : WA G E k n 1437 [(0, .ref (RAW + sb)), (1, .ref 0), (2, .ref 1024), (3, .ref 1600), (4, .ref 1664), (5, vI i)] [] m := by
  have hn6 : 6 < (e_c E).maxLocals := by rw [hml]; decide
  have hn7 : 7 < (e_c E).maxLocals := by rw [hml]; decide
  have hn8 : 8 < (e_c E).maxLocals := by rw [hml]; decide
  obtain ⟨-, -, -, hsl⟩ := id hSc
  have tail : ∀ (K : Int) (v9 : Int) (m2 : Mm) (g9 : Gm), (0 ≤ K ∧ K ≤ 3) → m2.1 1024 6 = K → (K = 0 → m2.1 1600 0 = w32 v9) → LWS (T + 1000) m2 g9 → WA G E (k + 4) (n + 24) 1474 [(7, vI v9), (6, vI K), (0, .ref (RAW + sb)), (1, .ref 0), (2, .ref 1024), (3, .ref 1600), (4, .ref 1664), (5, vI i)] [] m2 := by
    intro K v9 m2 g9 hr9 hth ho9 hs9
    refine ga_aload_n ok 2 rfl rfl dL_law_1474 ?_
    refine gd_X4_0 ok hG rfl lk_L_145 rfl (c_X4_thrown ok.fl hG) (by rw [hR]; exact ⟨by decide, by decide, by show k + 4 + 0 ≤ 603072; omega, by show n + 24 + 0 ≤ 7223402; omega⟩) (Nat.le_of_ble_eq_true rfl) dL_law_1475 ?_
    rw [hth]
    refine ga_iload ok rfl dL_law_1478 ?_
    refine ga_icmp_eq ok 1485 (by decide) (by omega) (by omega) dL_law_1480 (fun c_1480 => ?_) (fun c_1480 => ?_)
    · refine ga_iload ok rfl dL_law_1485 ?_
      refine ga_if_ne ok 1502 (by decide) (by omega) dL_law_1487 (fun c_1487 => ?_) (fun c_1487 => ?_)
      · refine ga_goto ok 2494 (by decide) dL_law_1502 ?_
        exact WA.wd (by show k + 4 + 0 ≤ k + 24; omega) (by show n + 24 + 0 ≤ n + 9206; omega) (WA.re (by exact ⟨rfl, rfl, rfl, rfl, rfl, rfl, trivial⟩) (kk m2 g9 hs9))
      · refine ga_aload_n ok 3 rfl rfl dL_law_1490 ?_
        refine ga_iconst ok dL_law_1491 ?_
        refine ga_laload_la ok (ar_lo hG rfl) (by omega) dL_law_1492 ?_
        rw [show m2.1 1600 (0 : Int).toNat = w32 v9 from ho9 (by omega)]
        refine ga_iload ok rfl dL_law_1493 ?_
        refine ga_i2lW ok dL_law_1495 ?_
        refine ga_lcmp ok dL_law_1496 lcmp_0 ?_
        refine ga_if_eq ok 1502 (by decide) (by omega) dL_law_1497 (fun c_1497 => ?_) (fun c_1497 => ?_)
        · refine ga_goto ok 2494 (by decide) dL_law_1502 ?_
          exact WA.wd (by show k + 4 + 0 ≤ k + 24; omega) (by show n + 24 + 0 ≤ n + 9206; omega) (WA.re (by exact ⟨rfl, rfl, rfl, rfl, rfl, rfl, trivial⟩) (kk m2 g9 hs9))
        · exact absurd rfl c_1497
    · exact absurd rfl c_1480
  refine ga_aload_n ok 1 rfl rfl dL_law_1437 ?_
  refine ga_aload_n ok 0 rfl rfl dL_law_1438 ?_
  refine ga_iload ok rfl dL_law_1439 ?_
  refine ga_iconst ok dL_law_1441 ?_
  refine ga_iadd ok dL_law_1442 ?_
  refine gs_scr ok hS hSc (by omega) dL_law_1443 ?_
  refine ga_aload_n ok 0 rfl rfl dL_law_1444 ?_
  refine ga_iload ok rfl dL_law_1445 ?_
  refine ga_iconst ok dL_law_1447 ?_
  refine ga_iadd ok dL_law_1448 ?_
  refine gs_scr ok hS hSc (by omega) dL_law_1449 ?_
  refine ga_aload_n ok 3 rfl rfl dL_law_1450 ?_
  refine ga_callT ok [_, _, _, _] lw_L_200 (w_days ok.fl hG hS hs.1 ⟨hT0.1, by omega⟩ (sx_rng xs _) (sx_rng xs _)) rfl (by rw [hR]; exact ⟨by decide, by decide, by show k + 4 ≤ 603072; omega, by show n + 24 ≤ 7223402; omega⟩) (Nat.le_of_ble_eq_true rfl) dL_law_1451 (fun r9 m1 hq9 => ?_) (fun _ _ h => h.elim)
  obtain ⟨rfl, hr9, ho1, hX1, hf1⟩ := hq9
  simp only [Option.toList_some, List.singleton_append]
  have hY1 : YIs m1 g := hs.2.1.w (fun n a b c => hf1 n (by omega) b c)
  refine ga_istore ok hn6 dL_law_1454 ?_
  refine ga_aload_n ok 2 rfl rfl dL_law_1456 ?_
  refine ga_aload_n ok 0 rfl rfl dL_law_1457 ?_
  refine ga_iload ok rfl dL_law_1458 ?_
  refine ga_iconst ok dL_law_1460 ?_
  refine ga_iadd ok dL_law_1461 ?_
  refine gs_scr ok hS hSc (by omega) dL_law_1462 ?_
  refine ga_aload_n ok 0 rfl rfl dL_law_1463 ?_
  refine ga_iload ok rfl dL_law_1464 ?_
  refine ga_iconst ok dL_law_1466 ?_
  refine ga_iadd ok dL_law_1467 ?_
  refine gs_scr ok hS hSc (by omega) dL_law_1468 ?_
  refine gc_X4_2 ok hG rfl lk_L_202 rfl (c_X4_days ok.fl hG hY1 hs.1.1.2 (sx_rng xs _) (sx_rng xs _)) (by rw [hR]; exact ⟨by decide, by decide, by show k + 4 + 0 ≤ 603072; omega, by show n + 24 + 0 ≤ 7223402; omega⟩) (Nat.le_of_ble_eq_true rfl) dL_law_1469 (fun r9 m2 hq9 => ?_) (fun _ _ h => h.elim)
  obtain ⟨v9, rfl, hv9, hY2, hth, hf2⟩ := hq9
  simp only [Option.toList_some, List.singleton_append]
  refine ga_istore ok hn7 dL_law_1472 ?_
  exact WA.wd (by show k + 4 + 0 ≤ k + 4; omega) (by show n + 24 + 0 ≤ n + 24; omega) (WA.re (by exact ⟨rfl, rfl, rfl, rfl, rfl, rfl, rfl, rfl, trivial⟩) (tail _ v9 _ _ hr9 hth (fun h => (show m2.1 1600 0 = m1.1 1600 0 by rw [(hf2 1600 (Or.inr (by omega))).1]).trans ((ho1 h).trans (by rw [hv9 h]))) (hs.chg hX1 hf1 hY2 hf2)))
set_option maxHeartbeats 4000000 in
set_option maxRecDepth 100000 in
theorem lc_wouldCalm {G : GG} {E : EE} (ok : OK0 G E RL cL_law) (hG : MW G) (hS : SBW G) (hml : (e_c E).maxLocals = 9) (hR : e_R E = room_1) {sb sl : Nat} {xs : Nat → Int32} (hSc : SCR G E sb sl xs) {i : Int} (hi : 0 ≤ i ∧ i + 4 ≤ sl) {T : Int} (hT0 : 0 ≤ T ∧ T ≤ 999990000) {m : Mm} {g : Gm} (hs : LWS T m g) {k n : Nat} (hk : k + 24 ≤ 603072) (hn : n + 9206 ≤ 7223402)
    (kk : ∀ (m' : Mm) (g' : Gm), LWS (T + 1000) m' g' → WA G E (k + 24) (n + 9206) 2494 [(0, .ref (RAW + sb)), (1, .ref 0), (2, .ref 1024), (3, .ref 1600), (4, .ref 1664), (5, vI i)] [] m') : WA G E k n 1505 [(0, .ref (RAW + sb)), (1, .ref 0), (2, .ref 1024), (3, .ref 1600), (4, .ref 1664), (5, vI i)] [] m := by
  have hn6 : 6 < (e_c E).maxLocals := by rw [hml]; decide
  have hn7 : 7 < (e_c E).maxLocals := by rw [hml]; decide
  have hn8 : 8 < (e_c E).maxLocals := by rw [hml]; decide
  obtain ⟨-, -, -, hsl⟩ := id hSc
  have tail : ∀ (K : Int) (v9 : Int) (m2 : Mm) (g9 : Gm), (0 ≤ K ∧ K ≤ 3) → m2.1 1024 6 = K → (K = 0 → m2.1 1600 0 = w32 v9) → LWS (T + 1000) m2 g9 → WA G E (k + 4) (n + 24) 1542 [(7, vI v9), (6, vI K), (0, .ref (RAW + sb)), (1, .ref 0), (2, .ref 1024), (3, .ref 1600), (4, .ref 1664), (5, vI i)] [] m2 := by
    intro K v9 m2 g9 hr9 hth ho9 hs9
    refine ga_aload_n ok 2 rfl rfl dL_law_1542 ?_
    refine gd_X4_0 ok hG rfl lk_L_145 rfl (c_X4_thrown ok.fl hG) (by rw [hR]; exact ⟨by decide, by decide, by show k + 4 + 0 ≤ 603072; omega, by show n + 24 + 0 ≤ 7223402; omega⟩) (Nat.le_of_ble_eq_true rfl) dL_law_1543 ?_
    rw [hth]
    refine ga_iload ok rfl dL_law_1546 ?_
    refine ga_icmp_eq ok 1553 (by decide) (by omega) (by omega) dL_law_1548 (fun c_1548 => ?_) (fun c_1548 => ?_)
    · refine ga_iload ok rfl dL_law_1553 ?_
      refine ga_if_ne ok 1570 (by decide) (by omega) dL_law_1555 (fun c_1555 => ?_) (fun c_1555 => ?_)
      · refine ga_goto ok 2494 (by decide) dL_law_1570 ?_
        exact WA.wd (by show k + 4 + 0 ≤ k + 24; omega) (by show n + 24 + 0 ≤ n + 9206; omega) (WA.re (by exact ⟨rfl, rfl, rfl, rfl, rfl, rfl, trivial⟩) (kk m2 g9 hs9))
      · refine ga_aload_n ok 3 rfl rfl dL_law_1558 ?_
        refine ga_iconst ok dL_law_1559 ?_
        refine ga_laload_la ok (ar_lo hG rfl) (by omega) dL_law_1560 ?_
        rw [show m2.1 1600 (0 : Int).toNat = w32 v9 from ho9 (by omega)]
        refine ga_iload ok rfl dL_law_1561 ?_
        refine ga_i2lW ok dL_law_1563 ?_
        refine ga_lcmp ok dL_law_1564 lcmp_0 ?_
        refine ga_if_eq ok 1570 (by decide) (by omega) dL_law_1565 (fun c_1565 => ?_) (fun c_1565 => ?_)
        · refine ga_goto ok 2494 (by decide) dL_law_1570 ?_
          exact WA.wd (by show k + 4 + 0 ≤ k + 24; omega) (by show n + 24 + 0 ≤ n + 9206; omega) (WA.re (by exact ⟨rfl, rfl, rfl, rfl, rfl, rfl, trivial⟩) (kk m2 g9 hs9))
        · exact absurd rfl c_1565
    · exact absurd rfl c_1548
  refine ga_aload_n ok 1 rfl rfl dL_law_1505 ?_
  refine ga_aload_n ok 0 rfl rfl dL_law_1506 ?_
  refine ga_iload ok rfl dL_law_1507 ?_
  refine ga_iconst ok dL_law_1509 ?_
  refine ga_iadd ok dL_law_1510 ?_
  refine gs_scr ok hS hSc (by omega) dL_law_1511 ?_
  refine ga_aload_n ok 0 rfl rfl dL_law_1512 ?_
  refine ga_iload ok rfl dL_law_1513 ?_
  refine ga_iconst ok dL_law_1515 ?_
  refine ga_iadd ok dL_law_1516 ?_
  refine gs_scr ok hS hSc (by omega) dL_law_1517 ?_
  refine ga_aload_n ok 3 rfl rfl dL_law_1518 ?_
  refine ga_callT ok [_, _, _, _] lw_L_203 (w_wouldCalm ok.fl hG hS hs.1 ⟨hT0.1, by omega⟩ (sx_rng xs _) (sx_rng xs _)) rfl (by rw [hR]; exact ⟨by decide, by decide, by show k + 4 ≤ 603072; omega, by show n + 24 ≤ 7223402; omega⟩) (Nat.le_of_ble_eq_true rfl) dL_law_1519 (fun r9 m1 hq9 => ?_) (fun _ _ h => h.elim)
  obtain ⟨rfl, hr9, ho1, hX1, hf1⟩ := hq9
  simp only [Option.toList_some, List.singleton_append]
  have hY1 : YIs m1 g := hs.2.1.w (fun n a b c => hf1 n (by omega) b c)
  refine ga_istore ok hn6 dL_law_1522 ?_
  refine ga_aload_n ok 2 rfl rfl dL_law_1524 ?_
  refine ga_aload_n ok 0 rfl rfl dL_law_1525 ?_
  refine ga_iload ok rfl dL_law_1526 ?_
  refine ga_iconst ok dL_law_1528 ?_
  refine ga_iadd ok dL_law_1529 ?_
  refine gs_scr ok hS hSc (by omega) dL_law_1530 ?_
  refine ga_aload_n ok 0 rfl rfl dL_law_1531 ?_
  refine ga_iload ok rfl dL_law_1532 ?_
  refine ga_iconst ok dL_law_1534 ?_
  refine ga_iadd ok dL_law_1535 ?_
  refine gs_scr ok hS hSc (by omega) dL_law_1536 ?_
  refine gc_X4_2 ok hG rfl lk_L_205 rfl (c_X4_wouldCalm ok.fl hG hY1 hs.1.1.2 (sx_rng xs _) (sx_rng xs _)) (by rw [hR]; exact ⟨by decide, by decide, by show k + 4 + 0 ≤ 603072; omega, by show n + 24 + 0 ≤ 7223402; omega⟩) (Nat.le_of_ble_eq_true rfl) dL_law_1537 (fun r9 m2 hq9 => ?_) (fun _ _ h => h.elim)
  obtain ⟨v9, rfl, hv9, hY2, hth, hf2⟩ := hq9
  simp only [Option.toList_some, List.singleton_append]
  refine ga_istore ok hn7 dL_law_1540 ?_
  exact WA.wd (by show k + 4 + 0 ≤ k + 4; omega) (by show n + 24 + 0 ≤ n + 24; omega) (WA.re (by exact ⟨rfl, rfl, rfl, rfl, rfl, rfl, rfl, rfl, trivial⟩) (tail _ v9 _ _ hr9 hth (fun h => (show m2.1 1600 0 = m1.1 1600 0 by rw [(hf2 1600 (Or.inr (by omega))).1]).trans ((ho1 h).trans (by rw [hv9 h]))) (hs.chg hX1 hf1 hY2 hf2)))
set_option maxHeartbeats 4000000 in
set_option maxRecDepth 100000 in
theorem lc_append {G : GG} {E : EE} (ok : OK0 G E RL cL_law) (hG : MW G) (hS : SBW G) (hml : (e_c E).maxLocals = 9) (hR : e_R E = room_1) {sb sl : Nat} {xs : Nat → Int32} (hSc : SCR G E sb sl xs) {i : Int} (hi : 0 ≤ i ∧ i + 4 ≤ sl) {T : Int} (hT0 : 0 ≤ T ∧ T ≤ 999990000) {m : Mm} {g : Gm} (hs : LWS T m g) {k n : Nat} (hk : k + 24 ≤ 603072) (hn : n + 9206 ≤ 7223402)
    (kk : ∀ (m' : Mm) (g' : Gm), LWS (T + 1000) m' g' → WA G E (k + 24) (n + 9206) 2494 [(0, .ref (RAW + sb)), (1, .ref 0), (2, .ref 1024), (3, .ref 1600), (4, .ref 1664), (5, vI i)] [] m') : WA G E k n 2072 [(0, .ref (RAW + sb)), (1, .ref 0), (2, .ref 1024), (3, .ref 1600), (4, .ref 1664), (5, vI i)] [] m := by
  have hn6 : 6 < (e_c E).maxLocals := by rw [hml]; decide
  have hn7 : 7 < (e_c E).maxLocals := by rw [hml]; decide
  have hn8 : 8 < (e_c E).maxLocals := by rw [hml]; decide
  obtain ⟨-, -, -, hsl⟩ := id hSc
  have tail : ∀ (K : Int) (v9 : Int) (m2 : Mm) (g9 : Gm), (0 ≤ K ∧ K ≤ 3) → m2.1 1024 6 = K → (K = 0 → m2.1 1600 0 = w32 v9) → LWS (T + 1000) m2 g9 → WA G E (k + 4) (n + 24) 2099 [(7, vI v9), (6, vI K), (0, .ref (RAW + sb)), (1, .ref 0), (2, .ref 1024), (3, .ref 1600), (4, .ref 1664), (5, vI i)] [] m2 := by
    intro K v9 m2 g9 hr9 hth ho9 hs9
    refine ga_aload_n ok 2 rfl rfl dL_law_2099 ?_
    refine gd_X4_0 ok hG rfl lk_L_145 rfl (c_X4_thrown ok.fl hG) (by rw [hR]; exact ⟨by decide, by decide, by show k + 4 + 0 ≤ 603072; omega, by show n + 24 + 0 ≤ 7223402; omega⟩) (Nat.le_of_ble_eq_true rfl) dL_law_2100 ?_
    rw [hth]
    refine ga_iload ok rfl dL_law_2103 ?_
    refine ga_icmp_eq ok 2110 (by decide) (by omega) (by omega) dL_law_2105 (fun c_2105 => ?_) (fun c_2105 => ?_)
    · refine ga_iload ok rfl dL_law_2110 ?_
      refine ga_if_ne ok 2127 (by decide) (by omega) dL_law_2112 (fun c_2112 => ?_) (fun c_2112 => ?_)
      · refine ga_goto ok 2494 (by decide) dL_law_2127 ?_
        exact WA.wd (by show k + 4 + 0 ≤ k + 24; omega) (by show n + 24 + 0 ≤ n + 9206; omega) (WA.re (by exact ⟨rfl, rfl, rfl, rfl, rfl, rfl, trivial⟩) (kk m2 g9 hs9))
      · refine ga_aload_n ok 3 rfl rfl dL_law_2115 ?_
        refine ga_iconst ok dL_law_2116 ?_
        refine ga_laload_la ok (ar_lo hG rfl) (by omega) dL_law_2117 ?_
        rw [show m2.1 1600 (0 : Int).toNat = w32 v9 from ho9 (by omega)]
        refine ga_iload ok rfl dL_law_2118 ?_
        refine ga_i2lW ok dL_law_2120 ?_
        refine ga_lcmp ok dL_law_2121 lcmp_0 ?_
        refine ga_if_eq ok 2127 (by decide) (by omega) dL_law_2122 (fun c_2122 => ?_) (fun c_2122 => ?_)
        · refine ga_goto ok 2494 (by decide) dL_law_2127 ?_
          exact WA.wd (by show k + 4 + 0 ≤ k + 24; omega) (by show n + 24 + 0 ≤ n + 9206; omega) (WA.re (by exact ⟨rfl, rfl, rfl, rfl, rfl, rfl, trivial⟩) (kk m2 g9 hs9))
        · exact absurd rfl c_2122
    · exact absurd rfl c_2105
  refine ga_aload_n ok 1 rfl rfl dL_law_2072 ?_
  refine ga_aload_n ok 0 rfl rfl dL_law_2073 ?_
  refine ga_iload ok rfl dL_law_2074 ?_
  refine ga_iconst ok dL_law_2076 ?_
  refine ga_iadd ok dL_law_2077 ?_
  refine gs_scr ok hS hSc (by omega) dL_law_2078 ?_
  refine ga_i2c ok dL_law_2079 ?_
  refine ga_aload_n ok 3 rfl rfl dL_law_2080 ?_
  refine ga_callT ok [_, _, _] lw_L_234 (w_append ok.fl hG hS hs.1 ⟨hT0.1, by omega⟩ (by omega)) rfl (by rw [hR]; exact ⟨by decide, by decide, by show k + 4 ≤ 603072; omega, by show n + 24 ≤ 7223402; omega⟩) (Nat.le_of_ble_eq_true rfl) dL_law_2081 (fun r9 m1 hq9 => ?_) (fun _ _ h => h.elim)
  obtain ⟨rfl, hr9, ho1, hX1, hf1⟩ := hq9
  simp only [Option.toList_some, List.singleton_append]
  have hY1 : YIs m1 g := hs.2.1.w (fun n a b c => hf1 n (by omega) b c)
  refine ga_istore ok hn6 dL_law_2084 ?_
  refine ga_aload_n ok 2 rfl rfl dL_law_2086 ?_
  refine ga_aload_n ok 0 rfl rfl dL_law_2087 ?_
  refine ga_iload ok rfl dL_law_2088 ?_
  refine ga_iconst ok dL_law_2090 ?_
  refine ga_iadd ok dL_law_2091 ?_
  refine gs_scr ok hS hSc (by omega) dL_law_2092 ?_
  refine ga_i2c ok dL_law_2093 ?_
  refine gc_X4_1 ok hG rfl lk_L_237 rfl (c_X4_append ok.fl hG hY1 (by omega)) (by rw [hR]; exact ⟨by decide, by decide, by show k + 4 + 0 ≤ 603072; omega, by show n + 24 + 0 ≤ 7223402; omega⟩) (Nat.le_of_ble_eq_true rfl) dL_law_2094 (fun r9 m2 hq9 => ?_) (fun _ _ h => h.elim)
  obtain ⟨v9, rfl, hv9, hY2, hth, hf2⟩ := hq9
  simp only [Option.toList_some, List.singleton_append]
  refine ga_istore ok hn7 dL_law_2097 ?_
  exact WA.wd (by show k + 4 + 0 ≤ k + 4; omega) (by show n + 24 + 0 ≤ n + 24; omega) (WA.re (by exact ⟨rfl, rfl, rfl, rfl, rfl, rfl, rfl, rfl, trivial⟩) (tail _ v9 _ _ hr9 hth (fun h => (show m2.1 1600 0 = m1.1 1600 0 by rw [(hf2 1600 (Or.inr (by omega))).1]).trans ((ho1 h).trans (by rw [hv9 h]))) (hs.chg hX1 hf1 hY2 hf2)))
set_option maxHeartbeats 4000000 in
set_option maxRecDepth 100000 in
theorem lc_run {G : GG} {E : EE} (ok : OK0 G E RL cL_law) (hG : MW G) (hS : SBW G) (hml : (e_c E).maxLocals = 9) (hR : e_R E = room_1) {sb sl : Nat} {xs : Nat → Int32} (hSc : SCR G E sb sl xs) {i : Int} (hi : 0 ≤ i ∧ i + 4 ≤ sl) {T : Int} (hT0 : 0 ≤ T ∧ T ≤ 999990000) {m : Mm} {g : Gm} (hs : LWS T m g) {k n : Nat} (hk : k + 24 ≤ 603072) (hn : n + 9206 ≤ 7223402)
    (kk : ∀ (m' : Mm) (g' : Gm), LWS (T + 1000) m' g' → WA G E (k + 24) (n + 9206) 2494 [(0, .ref (RAW + sb)), (1, .ref 0), (2, .ref 1024), (3, .ref 1600), (4, .ref 1664), (5, vI i)] [] m') : WA G E k n 2130 [(0, .ref (RAW + sb)), (1, .ref 0), (2, .ref 1024), (3, .ref 1600), (4, .ref 1664), (5, vI i)] [] m := by
  have hn6 : 6 < (e_c E).maxLocals := by rw [hml]; decide
  have hn7 : 7 < (e_c E).maxLocals := by rw [hml]; decide
  have hn8 : 8 < (e_c E).maxLocals := by rw [hml]; decide
  obtain ⟨-, -, -, hsl⟩ := id hSc
  have tail : ∀ (K : Int) (v9 : Int) (m2 : Mm) (g9 : Gm), (0 ≤ K ∧ K ≤ 3) → m2.1 1024 6 = K → (K = 0 → m2.1 1600 0 = w32 v9) → LWS (T + 1000) m2 g9 → WA G E (k + 4) (n + 24) 2143 [(7, vI v9), (6, vI K), (0, .ref (RAW + sb)), (1, .ref 0), (2, .ref 1024), (3, .ref 1600), (4, .ref 1664), (5, vI i)] [] m2 := by
    intro K v9 m2 g9 hr9 hth ho9 hs9
    refine ga_aload_n ok 2 rfl rfl dL_law_2143 ?_
    refine gd_X4_0 ok hG rfl lk_L_145 rfl (c_X4_thrown ok.fl hG) (by rw [hR]; exact ⟨by decide, by decide, by show k + 4 + 0 ≤ 603072; omega, by show n + 24 + 0 ≤ 7223402; omega⟩) (Nat.le_of_ble_eq_true rfl) dL_law_2144 ?_
    rw [hth]
    refine ga_iload ok rfl dL_law_2147 ?_
    refine ga_icmp_eq ok 2154 (by decide) (by omega) (by omega) dL_law_2149 (fun c_2149 => ?_) (fun c_2149 => ?_)
    · refine ga_iload ok rfl dL_law_2154 ?_
      refine ga_if_ne ok 2171 (by decide) (by omega) dL_law_2156 (fun c_2156 => ?_) (fun c_2156 => ?_)
      · refine ga_goto ok 2494 (by decide) dL_law_2171 ?_
        exact WA.wd (by show k + 4 + 0 ≤ k + 24; omega) (by show n + 24 + 0 ≤ n + 9206; omega) (WA.re (by exact ⟨rfl, rfl, rfl, rfl, rfl, rfl, trivial⟩) (kk m2 g9 hs9))
      · refine ga_aload_n ok 3 rfl rfl dL_law_2159 ?_
        refine ga_iconst ok dL_law_2160 ?_
        refine ga_laload_la ok (ar_lo hG rfl) (by omega) dL_law_2161 ?_
        rw [show m2.1 1600 (0 : Int).toNat = w32 v9 from ho9 (by omega)]
        refine ga_iload ok rfl dL_law_2162 ?_
        refine ga_i2lW ok dL_law_2164 ?_
        refine ga_lcmp ok dL_law_2165 lcmp_0 ?_
        refine ga_if_eq ok 2171 (by decide) (by omega) dL_law_2166 (fun c_2166 => ?_) (fun c_2166 => ?_)
        · refine ga_goto ok 2494 (by decide) dL_law_2171 ?_
          exact WA.wd (by show k + 4 + 0 ≤ k + 24; omega) (by show n + 24 + 0 ≤ n + 9206; omega) (WA.re (by exact ⟨rfl, rfl, rfl, rfl, rfl, rfl, trivial⟩) (kk m2 g9 hs9))
        · exact absurd rfl c_2166
    · exact absurd rfl c_2149
  refine ga_aload_n ok 1 rfl rfl dL_law_2130 ?_
  refine ga_aload_n ok 3 rfl rfl dL_law_2131 ?_
  refine ga_callT ok [_, _] lw_L_238 (w_run ok.fl hG hS hs.1 ⟨hT0.1, by omega⟩) rfl (by rw [hR]; exact ⟨by decide, by decide, by show k + 4 ≤ 603072; omega, by show n + 24 ≤ 7223402; omega⟩) (Nat.le_of_ble_eq_true rfl) dL_law_2132 (fun r9 m1 hq9 => ?_) (fun _ _ h => h.elim)
  obtain ⟨rfl, hr9, ho1, hX1, hf1⟩ := hq9
  simp only [Option.toList_some, List.singleton_append]
  have hY1 : YIs m1 g := hs.2.1.w (fun n a b c => hf1 n (by omega) b c)
  refine ga_istore ok hn6 dL_law_2135 ?_
  refine ga_aload_n ok 2 rfl rfl dL_law_2137 ?_
  refine gc_X4_0 ok hG rfl lk_L_241 rfl (c_X4_run ok.fl hG hY1 hs.1.1.2 hT0.1 (fun i hi => (hs.1.2.2.2.2.1.2.2 i hi).2)) (by rw [hR]; exact ⟨by decide, by decide, by show k + 4 + 0 ≤ 603072; omega, by show n + 24 + 0 ≤ 7223402; omega⟩) (Nat.le_of_ble_eq_true rfl) dL_law_2138 (fun r9 m2 hq9 => ?_) (fun _ _ h => h.elim)
  obtain ⟨v9, rfl, hv9, hY2, hth, hf2⟩ := hq9
  simp only [Option.toList_some, List.singleton_append]
  refine ga_istore ok hn7 dL_law_2141 ?_
  exact WA.wd (by show k + 4 + 0 ≤ k + 4; omega) (by show n + 24 + 0 ≤ n + 24; omega) (WA.re (by exact ⟨rfl, rfl, rfl, rfl, rfl, rfl, rfl, rfl, trivial⟩) (tail _ v9 _ _ hr9 hth (fun h => (show m2.1 1600 0 = m1.1 1600 0 by rw [(hf2 1600 (Or.inr (by omega))).1]).trans ((ho1 h).trans (by rw [hv9 h]))) (hs.chg hX1 hf1 hY2 hf2)))
set_option maxHeartbeats 4000000 in
set_option maxRecDepth 100000 in
theorem lc_undo {G : GG} {E : EE} (ok : OK0 G E RL cL_law) (hG : MW G) (hS : SBW G) (hml : (e_c E).maxLocals = 9) (hR : e_R E = room_1) {sb sl : Nat} {xs : Nat → Int32} (hSc : SCR G E sb sl xs) {i : Int} (hi : 0 ≤ i ∧ i + 4 ≤ sl) {T : Int} (hT0 : 0 ≤ T ∧ T ≤ 999990000) {m : Mm} {g : Gm} (hs : LWS T m g) {k n : Nat} (hk : k + 24 ≤ 603072) (hn : n + 9206 ≤ 7223402)
    (kk : ∀ (m' : Mm) (g' : Gm), LWS (T + 1000) m' g' → WA G E (k + 24) (n + 9206) 2494 [(0, .ref (RAW + sb)), (1, .ref 0), (2, .ref 1024), (3, .ref 1600), (4, .ref 1664), (5, vI i)] [] m') : WA G E k n 2393 [(0, .ref (RAW + sb)), (1, .ref 0), (2, .ref 1024), (3, .ref 1600), (4, .ref 1664), (5, vI i)] [] m := by
  have hn6 : 6 < (e_c E).maxLocals := by rw [hml]; decide
  have hn7 : 7 < (e_c E).maxLocals := by rw [hml]; decide
  have hn8 : 8 < (e_c E).maxLocals := by rw [hml]; decide
  obtain ⟨-, -, -, hsl⟩ := id hSc
  have tail : ∀ (K : Int) (v9 : Int) (m2 : Mm) (g9 : Gm), (0 ≤ K ∧ K ≤ 3) → m2.1 1024 6 = K → (K = 0 → m2.1 1600 0 = w32 v9) → LWS (T + 1000) m2 g9 → WA G E (k + 4) (n + 24) 2406 [(7, vI v9), (6, vI K), (0, .ref (RAW + sb)), (1, .ref 0), (2, .ref 1024), (3, .ref 1600), (4, .ref 1664), (5, vI i)] [] m2 := by
    intro K v9 m2 g9 hr9 hth ho9 hs9
    refine ga_aload_n ok 2 rfl rfl dL_law_2406 ?_
    refine gd_X4_0 ok hG rfl lk_L_145 rfl (c_X4_thrown ok.fl hG) (by rw [hR]; exact ⟨by decide, by decide, by show k + 4 + 0 ≤ 603072; omega, by show n + 24 + 0 ≤ 7223402; omega⟩) (Nat.le_of_ble_eq_true rfl) dL_law_2407 ?_
    rw [hth]
    refine ga_iload ok rfl dL_law_2410 ?_
    refine ga_icmp_eq ok 2417 (by decide) (by omega) (by omega) dL_law_2412 (fun c_2412 => ?_) (fun c_2412 => ?_)
    · refine ga_iload ok rfl dL_law_2417 ?_
      refine ga_if_ne ok 2434 (by decide) (by omega) dL_law_2419 (fun c_2419 => ?_) (fun c_2419 => ?_)
      · refine ga_goto ok 2494 (by decide) dL_law_2434 ?_
        exact WA.wd (by show k + 4 + 0 ≤ k + 24; omega) (by show n + 24 + 0 ≤ n + 9206; omega) (WA.re (by exact ⟨rfl, rfl, rfl, rfl, rfl, rfl, trivial⟩) (kk m2 g9 hs9))
      · refine ga_aload_n ok 3 rfl rfl dL_law_2422 ?_
        refine ga_iconst ok dL_law_2423 ?_
        refine ga_laload_la ok (ar_lo hG rfl) (by omega) dL_law_2424 ?_
        rw [show m2.1 1600 (0 : Int).toNat = w32 v9 from ho9 (by omega)]
        refine ga_iload ok rfl dL_law_2425 ?_
        refine ga_i2lW ok dL_law_2427 ?_
        refine ga_lcmp ok dL_law_2428 lcmp_0 ?_
        refine ga_if_eq ok 2434 (by decide) (by omega) dL_law_2429 (fun c_2429 => ?_) (fun c_2429 => ?_)
        · refine ga_goto ok 2494 (by decide) dL_law_2434 ?_
          exact WA.wd (by show k + 4 + 0 ≤ k + 24; omega) (by show n + 24 + 0 ≤ n + 9206; omega) (WA.re (by exact ⟨rfl, rfl, rfl, rfl, rfl, rfl, trivial⟩) (kk m2 g9 hs9))
        · exact absurd rfl c_2429
    · exact absurd rfl c_2412
  refine ga_aload_n ok 1 rfl rfl dL_law_2393 ?_
  refine ga_aload_n ok 3 rfl rfl dL_law_2394 ?_
  refine ga_callT ok [_, _] lw_L_262 (w_undo ok.fl hG hS hs.1 ⟨hT0.1, by omega⟩) rfl (by rw [hR]; exact ⟨by decide, by decide, by show k + 4 ≤ 603072; omega, by show n + 24 ≤ 7223402; omega⟩) (Nat.le_of_ble_eq_true rfl) dL_law_2395 (fun r9 m1 hq9 => ?_) (fun _ _ h => h.elim)
  obtain ⟨rfl, hr9, ho1, hX1, hf1⟩ := hq9
  simp only [Option.toList_some, List.singleton_append]
  have hY1 : YIs m1 g := hs.2.1.w (fun n a b c => hf1 n (by omega) b c)
  refine ga_istore ok hn6 dL_law_2398 ?_
  refine ga_aload_n ok 2 rfl rfl dL_law_2400 ?_
  refine gc_X4_0 ok hG rfl lk_L_264 rfl (c_X4_undo ok.fl hG hY1) (by rw [hR]; exact ⟨by decide, by decide, by show k + 4 + 0 ≤ 603072; omega, by show n + 24 + 0 ≤ 7223402; omega⟩) (Nat.le_of_ble_eq_true rfl) dL_law_2401 (fun r9 m2 hq9 => ?_) (fun _ _ h => h.elim)
  obtain ⟨v9, rfl, hv9, hY2, hth, hf2⟩ := hq9
  simp only [Option.toList_some, List.singleton_append]
  refine ga_istore ok hn7 dL_law_2404 ?_
  exact WA.wd (by show k + 4 + 0 ≤ k + 4; omega) (by show n + 24 + 0 ≤ n + 24; omega) (WA.re (by exact ⟨rfl, rfl, rfl, rfl, rfl, rfl, rfl, rfl, trivial⟩) (tail _ v9 _ _ hr9 hth (fun h => (show m2.1 1600 0 = m1.1 1600 0 by rw [(hf2 1600 (Or.inr (by omega))).1]).trans ((ho1 h).trans (by rw [hv9 h]))) (hs.chg hX1 hf1 hY2 hf2)))
set_option maxHeartbeats 4000000 in
set_option maxRecDepth 100000 in
theorem lc_restore {G : GG} {E : EE} (ok : OK0 G E RL cL_law) (hG : MW G) (hS : SBW G) (hml : (e_c E).maxLocals = 9) (hR : e_R E = room_1) {sb sl : Nat} {xs : Nat → Int32} (hSc : SCR G E sb sl xs) {i : Int} (hi : 0 ≤ i ∧ i + 4 ≤ sl) {T : Int} (hT0 : 0 ≤ T ∧ T ≤ 999990000) {m : Mm} {g : Gm} (hs : LWS T m g) {k n : Nat} (hk : k + 24 ≤ 603072) (hn : n + 9206 ≤ 7223402)
    (kk : ∀ (m' : Mm) (g' : Gm), LWS (T + 1000) m' g' → WA G E (k + 24) (n + 9206) 2494 [(0, .ref (RAW + sb)), (1, .ref 0), (2, .ref 1024), (3, .ref 1600), (4, .ref 1664), (5, vI i)] [] m') : WA G E k n 2450 [(0, .ref (RAW + sb)), (1, .ref 0), (2, .ref 1024), (3, .ref 1600), (4, .ref 1664), (5, vI i)] [] m := by
  have hn6 : 6 < (e_c E).maxLocals := by rw [hml]; decide
  have hn7 : 7 < (e_c E).maxLocals := by rw [hml]; decide
  have hn8 : 8 < (e_c E).maxLocals := by rw [hml]; decide
  obtain ⟨-, -, -, hsl⟩ := id hSc
  have tail : ∀ (K : Int) (v9 : Int) (m2 : Mm) (g9 : Gm), (0 ≤ K ∧ K ≤ 3) → m2.1 1024 6 = K → (K = 0 → m2.1 1600 0 = w32 v9) → LWS (T + 1000) m2 g9 → WA G E (k + 4) (n + 24) 2463 [(7, vI v9), (6, vI K), (0, .ref (RAW + sb)), (1, .ref 0), (2, .ref 1024), (3, .ref 1600), (4, .ref 1664), (5, vI i)] [] m2 := by
    intro K v9 m2 g9 hr9 hth ho9 hs9
    refine ga_aload_n ok 2 rfl rfl dL_law_2463 ?_
    refine gd_X4_0 ok hG rfl lk_L_145 rfl (c_X4_thrown ok.fl hG) (by rw [hR]; exact ⟨by decide, by decide, by show k + 4 + 0 ≤ 603072; omega, by show n + 24 + 0 ≤ 7223402; omega⟩) (Nat.le_of_ble_eq_true rfl) dL_law_2464 ?_
    rw [hth]
    refine ga_iload ok rfl dL_law_2467 ?_
    refine ga_icmp_eq ok 2474 (by decide) (by omega) (by omega) dL_law_2469 (fun c_2469 => ?_) (fun c_2469 => ?_)
    · refine ga_iload ok rfl dL_law_2474 ?_
      refine ga_if_ne ok 2491 (by decide) (by omega) dL_law_2476 (fun c_2476 => ?_) (fun c_2476 => ?_)
      · refine ga_goto ok 2494 (by decide) dL_law_2491 ?_
        exact WA.wd (by show k + 4 + 0 ≤ k + 24; omega) (by show n + 24 + 0 ≤ n + 9206; omega) (WA.re (by exact ⟨rfl, rfl, rfl, rfl, rfl, rfl, trivial⟩) (kk m2 g9 hs9))
      · refine ga_aload_n ok 3 rfl rfl dL_law_2479 ?_
        refine ga_iconst ok dL_law_2480 ?_
        refine ga_laload_la ok (ar_lo hG rfl) (by omega) dL_law_2481 ?_
        rw [show m2.1 1600 (0 : Int).toNat = w32 v9 from ho9 (by omega)]
        refine ga_iload ok rfl dL_law_2482 ?_
        refine ga_i2lW ok dL_law_2484 ?_
        refine ga_lcmp ok dL_law_2485 lcmp_0 ?_
        refine ga_if_eq ok 2491 (by decide) (by omega) dL_law_2486 (fun c_2486 => ?_) (fun c_2486 => ?_)
        · refine ga_goto ok 2494 (by decide) dL_law_2491 ?_
          exact WA.wd (by show k + 4 + 0 ≤ k + 24; omega) (by show n + 24 + 0 ≤ n + 9206; omega) (WA.re (by exact ⟨rfl, rfl, rfl, rfl, rfl, rfl, trivial⟩) (kk m2 g9 hs9))
        · exact absurd rfl c_2486
    · exact absurd rfl c_2469
  refine ga_aload_n ok 1 rfl rfl dL_law_2450 ?_
  refine ga_aload_n ok 3 rfl rfl dL_law_2451 ?_
  refine ga_callT ok [_, _] lw_L_269 (w_restore ok.fl hG hS hs.1 ⟨hT0.1, by omega⟩) rfl (by rw [hR]; exact ⟨by decide, by decide, by show k + 4 ≤ 603072; omega, by show n + 24 ≤ 7223402; omega⟩) (Nat.le_of_ble_eq_true rfl) dL_law_2452 (fun r9 m1 hq9 => ?_) (fun _ _ h => h.elim)
  obtain ⟨rfl, hr9, ho1, hX1, hf1⟩ := hq9
  simp only [Option.toList_some, List.singleton_append]
  have hY1 : YIs m1 g := hs.2.1.w (fun n a b c => hf1 n (by omega) b c)
  refine ga_istore ok hn6 dL_law_2455 ?_
  refine ga_aload_n ok 2 rfl rfl dL_law_2457 ?_
  refine gc_X4_0 ok hG rfl lk_L_271 rfl (c_X4_restore ok.fl hG hY1) (by rw [hR]; exact ⟨by decide, by decide, by show k + 4 + 0 ≤ 603072; omega, by show n + 24 + 0 ≤ 7223402; omega⟩) (Nat.le_of_ble_eq_true rfl) dL_law_2458 (fun r9 m2 hq9 => ?_) (fun _ _ h => h.elim)
  obtain ⟨v9, rfl, hv9, hY2, hth, hf2⟩ := hq9
  simp only [Option.toList_some, List.singleton_append]
  refine ga_istore ok hn7 dL_law_2461 ?_
  exact WA.wd (by show k + 4 + 0 ≤ k + 4; omega) (by show n + 24 + 0 ≤ n + 24; omega) (WA.re (by exact ⟨rfl, rfl, rfl, rfl, rfl, rfl, rfl, rfl, trivial⟩) (tail _ v9 _ _ hr9 hth (fun h => (show m2.1 1600 0 = m1.1 1600 0 by rw [(hf2 1600 (Or.inr (by omega))).1]).trans ((ho1 h).trans (by rw [hv9 h]))) (hs.chg hX1 hf1 hY2 hf2)))
