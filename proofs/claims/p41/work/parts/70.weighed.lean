/-! LINES THAT ARE ALIKE -/
theorem wl5 {A B C D F : Type} (P : A → B → C → D → F → Prop) (f : A → B → C → D → F → Nat) (Q : A → B → C → D → F → Prop) (h : ∀ a b c d e, P a b c d e → (∀ a' b' c' d' e', P a' b' c' d' e' → f a' b' c' d' e' < f a b c d e → Q a' b' c' d' e') → Q a b c d e) (a : A) (b : B) (c : C) (d : D) (e : F) (ha : P a b c d e) : Q a b c d e :=
  wl4 (fun a b c (q : D × F) => P a b c q.1 q.2) (fun a b c q => f a b c q.1 q.2) (fun a b c q => Q a b c q.1 q.2) (fun a b c q hp ih => h a b c q.1 q.2 hp (fun a' b' c' d' e' hp' hlt => ih a' b' c' (d', e') hp' hlt)) a b c (d, e) ha
def EqL (p q : (Nat → Int) × Int) : Prop := p.2 = q.2 ∧ ∀ j : Nat, (j : Int) < q.2 → p.1 j = q.1 j
theorem EqL.rf {p : (Nat → Int) × Int} : EqL p p := ⟨rfl, fun _ _ => rfl⟩
theorem EqL.tr {p q s : (Nat → Int) × Int} (h : EqL p q) (k : EqL q s) : EqL p s := ⟨h.1.trans k.1, fun j hj => (h.2 j (by rw [k.1]; exact hj)).trans (k.2 j hj)⟩
theorem EqL.put {p q : (Nat → Int) × Int} (h : EqL p q) (c : Int) : EqL (putL p c) (putL q c) := by
  obtain ⟨h1, h2⟩ := h
  refine ⟨by show p.2 + 1 = q.2 + 1; omega, fun j hj => ?_⟩
  have hj : (j : Int) < q.2 + 1 := hj
  show (if (j : Int) = p.2 then c else p.1 j) = if (j : Int) = q.2 then c else q.1 j
  by_cases e : (j : Int) = q.2
  · rw [if_pos (by omega), if_pos e]
  · rw [if_neg (by omega), if_neg e, h2 j (by omega)]
theorem EqL.nat {p q : (Nat → Int) × Int} (h : EqL p q) : ∀ (f : Nat) (v : Int), EqL (natL f p v) (natL f q v)
  | 0, v => h.put _
  | f + 1, v => by
    simp only [natL]
    refine EqL.put ?_ _
    split
    · exact h.nat f _
    · exact h
theorem EqL.num {p q : (Nat → Int) × Int} (h : EqL p q) (v : Int) : EqL (numL p v) (numL q v) := by
  unfold numL
  split
  · exact (h.put _).nat _ _
  · exact h.nat _ _
theorem EqL.cat {q p p' : (Nat → Int) × Int} (h : EqL p p') : EqL (catL q p.1 p.2) (catL q p'.1 p'.2) := by
  obtain ⟨h1, h2⟩ := h
  refine ⟨by show q.2 + p.2 = q.2 + p'.2; omega, fun j hj => ?_⟩
  have hj : (j : Int) < q.2 + p'.2 := hj
  show (if (j : Int) < q.2 then q.1 j else p.1 (j - q.2.toNat)) = if (j : Int) < q.2 then q.1 j else p'.1 (j - q.2.toNat)
  by_cases e : (j : Int) < q.2
  · rw [if_pos e, if_pos e]
  · rw [if_neg e, if_neg e, h2 _ (by omega)]
theorem EqL.catl {q q' : (Nat → Int) × Int} (h : EqL q q') {t : Nat → Int} {N : Int} : EqL (catL q t N) (catL q' t N) := by
  obtain ⟨h1, h2⟩ := h
  refine ⟨by show q.2 + N = q'.2 + N; omega, fun j hj => ?_⟩
  show (if (j : Int) < q.2 then q.1 j else t (j - q.2.toNat)) = if (j : Int) < q'.2 then q'.1 j else t (j - q'.2.toNat)
  rw [h1]
  by_cases e : (j : Int) < q'.2
  · rw [if_pos e, if_pos e, h2 j e]
  · rw [if_neg e, if_neg e]
theorem cat_put {q p : (Nat → Int) × Int} (hq : 0 ≤ q.2) (hp : 0 ≤ p.2) (c : Int) : EqL (catL q (putL p c).1 (putL p c).2) (putL (catL q p.1 p.2) c) := by
  refine ⟨by show q.2 + (p.2 + 1) = q.2 + p.2 + 1; omega, fun j hj => ?_⟩
  have hj : (j : Int) < q.2 + p.2 + 1 := hj
  show (if (j : Int) < q.2 then q.1 j else (if (((j - q.2.toNat : Nat)) : Int) = p.2 then c else p.1 (j - q.2.toNat))) = if (j : Int) = q.2 + p.2 then c else (if (j : Int) < q.2 then q.1 j else p.1 (j - q.2.toNat))
  by_cases e : (j : Int) < q.2
  · rw [if_pos e, if_neg (by omega), if_pos e]
  · rw [if_neg e]
    by_cases e2 : (j : Int) = q.2 + p.2
    · rw [if_pos (by omega), if_pos e2]
    · rw [if_neg (by omega), if_neg e2, if_neg e]
theorem cat_nat {q : (Nat → Int) × Int} (hq : 0 ≤ q.2) : ∀ (f : Nat) (p : (Nat → Int) × Int) (v : Int), 0 ≤ p.2 → EqL (catL q (natL f p v).1 (natL f p v).2) (natL f (catL q p.1 p.2) v)
  | 0, p, v, hp => cat_put hq hp _
  | f + 1, p, v, hp => by
    simp only [natL]
    refine (cat_put hq ?_ _).tr (EqL.put ?_ _)
    · split
      · have := (natL_2 f p (v / 10)).1; omega
      · exact hp
    · split
      · exact cat_nat hq f p _ hp
      · exact EqL.rf
theorem cat_num {q p : (Nat → Int) × Int} (hq : 0 ≤ q.2) (hp : 0 ≤ p.2) (v : Int) : EqL (catL q (numL p v).1 (numL p v).2) (numL (catL q p.1 p.2) v) := by
  unfold numL
  split
  · exact (cat_nat hq 4 _ _ (by show 0 ≤ p.2 + 1; omega)).tr ((cat_put hq hp 45).nat 4 _)
  · exact cat_nat hq 4 _ _ hp
theorem cat_0 {q : (Nat → Int) × Int} {t : Nat → Int} {N : Int} (hN : N = 0) : EqL (catL q t N) q := by
  subst hN
  refine ⟨by show q.2 + 0 = q.2; omega, fun j hj => ?_⟩
  show (if (j : Int) < q.2 then q.1 j else t (j - q.2.toNat)) = q.1 j
  rw [if_pos hj]
theorem cat_l {t : Nat → Int} {N : Int} : EqL (catL ln0 t N) (t, N) := by
  refine ⟨by show (0 : Int) + N = N; omega, fun j hj => ?_⟩
  show (if (j : Int) < 0 then (0 : Int) else t (j - (0 : Int).toNat)) = t j
  rw [if_neg (by omega)]
  rfl
theorem cat_32 : EqL (catL ln0 (lch [32]) ((1 : Nat) : Int)) (putL ln0 32) := by
  refine ⟨rfl, fun j hj => ?_⟩
  have hj : (j : Int) < 0 + 1 := hj
  have e : j = 0 := by omega
  subst e
  rfl
theorem txt_first {v : Int} : EqL (numL (catL ln0 (lch []) ((0 : Nat) : Int)) v) (numL ln0 v) := (cat_0 rfl).num v
theorem txt_same {t u : Nat → Int} {N : Int} {q0 : (Nat → Int) × Int} (h : EqL (t, N) q0) : EqL (catL (catL ln0 t N) u ((0 : Nat) : Int)) q0 := (cat_0 rfl).tr (cat_l.tr h)
theorem txt_step {t t2 : Nat → Int} {N N2 v : Int} {q0 : (Nat → Int) × Int} (h : EqL (t, N) q0) (hq : 0 ≤ q0.2) (h2 : EqL (t2, N2) (numL (catL ln0 (lch [32]) ((1 : Nat) : Int)) v)) : EqL (catL (catL ln0 t N) t2 N2) (numL (putL q0 32) v) := by
  have e1 : EqL (catL ln0 t N) q0 := cat_l.tr h
  have e2 : EqL (t2, N2) (numL (putL ln0 32) v) := h2.tr (cat_32.num v)
  refine (e1.catl (t := t2) (N := N2)).tr ?_
  refine (EqL.cat (q := q0) e2).tr ?_
  refine (cat_num hq (by show (0 : Int) ≤ 0 + 1; omega) v).tr ?_
  refine EqL.num ?_ v
  refine (cat_put hq (by show (0 : Int) ≤ 0; omega) 32).tr ?_
  exact (cat_0 rfl).put 32
theorem gLn_s {c : Nat → Int} {k : Nat} (hk : k ≠ 0) : gLn c (k + 1) = numL (putL (gLn c k) 32) (c k) := by
  show numL (if k = 0 then gLn c k else putL (gLn c k) 32) (c k) = _
  rw [if_neg hk]
theorem take_eq {t : Nat → Int} {N : Nat} {Q : (Nat → Int) × Int} (hN : Q.2 = N) (ht : ∀ j, j < N → t j = Q.1 j) : EqL (t, (N : Int)) Q := ⟨hN.symm, fun j hj => ht j (by omega)⟩
theorem WA.mid {G : GG} {E : EE} {k n pc : Nat} {L : List (Nat × Value)} {st : List Value} {m : Mm} {A B Xs : XS} (w : WA (GX G (A ++ Xs)) E k n pc L st m) : WA (GX G (A ++ (B ++ Xs))) E k n pc L st m :=
  WA.sub (fun x h => (List.mem_append.mp h).elim (List.mem_append_left _) (fun h => List.mem_append_right _ (List.mem_append_right _ h)))
    (fun h => List.Nodup.sublist ((List.Sublist.append_left (List.sublist_append_right B Xs) A).map Prod.fst) h) w
/-! PLACES -/
theorem strong_at {r : Nat → Int} {n p : Int} (hn : 0 ≤ n ∧ n < r 0) (hp : 0 ≤ p ∧ p < 10) : ∃ j : Nat, j < 10 ∧ q_strongest r n p = j ∧ cnt (Rst (gcn (rg r n.toNat))) j 10 = p := by
  obtain ⟨j, h1, h2⟩ := (Rst_so (gcn (rg r n.toNat))).sur (N := 10) (p := p) (by omega)
  refine ⟨j, h1, ?_, h2⟩
  have h3 : ffd (fun b => ahd (gcn (rg r n.toNat)) b 10) p 10 = j := ffd_yes (f := fun b => ahd (gcn (rg r n.toNat)) b 10) (by show ahd _ j 10 = p; rw [ahd_cnt]; exact h2) (fun u hu e => by
    have e : ahd (gcn (rg r n.toNat)) u 10 = p := e
    rw [ahd_cnt] at e
    have := (Rst_so (gcn (rg r n.toNat))).inj (N := 10) (show u < 10 by omega) h1 (by rw [e, h2])
    omega) 10 h1
  unfold q_strongest
  rw [if_pos hn, h3, if_pos (by omega)]
theorem strong_no {r : Nat → Int} {n p : Int} (hn : 0 ≤ n ∧ n < r 0) (hp : ¬ (0 ≤ p ∧ p ≤ 9)) : q_strongest r n p = -13 := by
  unfold q_strongest
  rw [if_pos hn, strong_n hp, if_neg (by decide)]
theorem SOr.ord {R : Nat → Nat → Bool} (h : SOr R) {N i j : Nat} (hi : i < N) (hj : j < N) (e : cnt R i N < cnt R j N) : R i j = true := by
  obtain ⟨h1, h2, h3⟩ := h
  have hne : i ≠ j := fun e9 => by rw [e9] at e; omega
  rcases h3 i j hne with h | h
  · exact h
  · have := cnt_lt (fun k hk => h2 k j i hk h) (h1 j) h N hj
    omega
theorem Rst_t {c : Nat → Int} {i j : Nat} (h : Rst c i j = true) : c (j + 1) < c (i + 1) ∨ (c (i + 1) = c (j + 1) ∧ i < j) := by
  unfold Rst at h
  rcases Bool.or_eq_true _ _ |>.mp h with h | h
  · exact Or.inl (of_decide_eq_true h)
  · obtain ⟨h1, h2⟩ := (Bool.and_eq_true _ _).mp h
    exact Or.inr ⟨of_decide_eq_true h1, of_decide_eq_true h2⟩
/-! WEIGHED -/
set_option maxHeartbeats 3000000 in
set_option maxRecDepth 100000 in
theorem c_L_weighed {G : GG} {l : Launch} (hfl : l.stackTraces = false) (hG : MW G) (hS : SBW G) {la lv : Nat → Nat} {sb sl : Nat} {xs : Nat → Int32} (hg : LGW G la lv sb sl xs) {m : Mm} {Xs : XS} {g : Gm} {T : Int} (hX : LWX T m g) (hT0 : 0 ≤ T ∧ T ≤ 990000000) : CL G l yL_weighed cL_weighed 9 (some .boolean) (RM 14 2600 172000) [.ref (RAW + sb), .ref 0] m (Xs) (fun r' m' Xs' => ∃ (g' : Gm), r' = some (vI 1) ∧ LWX T m' g' ∧ g'.r = g.r ∧ g'.tn = g.tn) := by
  refine CL.of RL [(0, .ref (RAW + sb)), (1, .ref 0)] hfl (by decide +kernel) rfl rfl (Nat.le_of_ble_eq_true rfl) ?_
  intro E ok0 en hml hEl hnam
  have hR : e_R E = RM 14 2600 172000 := en.2.2.2
  have ok : ∀ {Xs : XS}, OK0 (GX G Xs) E RL cL_weighed := fun {_} => ok0.gx
  have hn0 : 0 < (e_c E).maxLocals := by rw [hml]; decide
  have hn1 : 1 < (e_c E).maxLocals := by rw [hml]; decide
  have hn2 : 2 < (e_c E).maxLocals := by rw [hml]; decide
  have hn3 : 3 < (e_c E).maxLocals := by rw [hml]; decide
  have hn4 : 4 < (e_c E).maxLocals := by rw [hml]; decide
  have hn5 : 5 < (e_c E).maxLocals := by rw [hml]; decide
  have hn6 : 6 < (e_c E).maxLocals := by rw [hml]; decide
  have hn7 : 7 < (e_c E).maxLocals := by rw [hml]; decide
  have hn8 : 8 < (e_c E).maxLocals := by rw [hml]; decide
  have h04 : 0 ≤ g.r 0 ∧ g.r 0 ≤ 4 := hX.O.1
  refine ga_iconst ok dL_weighed_0 ?_
  refine ga_istore_n ok 2 rfl hn2 dL_weighed_1 ?_
  have loopG : ∀ (n : Int) (m1 : Mm) (g1 : Gm), ((0 ≤ n ∧ n ≤ g.r 0) ∧ LWX T m1 g1 ∧ g1.r = g.r ∧ g1.tn = g.tn) → WA (GX G Xs) E (600 * n.toNat) (40000 * n.toNat) 2 [(2, vI n), (0, .ref (RAW + sb)), (1, .ref 0)] [] m1 := by
    refine wl3 _ (fun n _ _ => (g.r 0 - n).toNat) _ ?_
    intro n m1 g1 hf9 ih
    obtain ⟨hn, hX1, er, et⟩ := hf9
    refine ga_iload_n ok 2 rfl rfl dL_weighed_2 ?_
    refine ga_aload_n ok 1 rfl rfl dL_weighed_3 ?_
    refine ga_iconst ok dL_weighed_4 ?_
    refine gl_callV ok0 hG hS [vI 0] lk_L_168 rfl hX1.h40 (fun G9 hG9 hS9 => (c_X3_account ok0.fl hG9 hX1.I hX1.O (what := 0) (by omega)).nox (fun _ _ h => by have := h.1.2; omega)) rfl (by rw [hR]; exact ⟨by decide, by decide, by simp only [RM]; omega, by simp only [RM]; omega⟩) (Nat.le_of_ble_eq_true rfl) dL_weighed_5 (fun r9 m1 hq9 => ?_)
    obtain ⟨-, rfl, hm9⟩ := hq9
    subst m1
    simp only [Option.toList_some, List.singleton_append]
    rw [if_pos trivial, er]
    refine ga_icmp_ge ok 553 (by decide) (by omega) (by omega) dL_weighed_8 (fun c_8 => ?_) (fun c_8 => ?_)
    · refine ga_aload_n ok 1 rfl rfl dL_weighed_553 ?_
      refine ga_aload_n ok 1 rfl rfl dL_weighed_554 ?_
      refine ga_iconst ok dL_weighed_555 ?_
      refine gl_callV ok0 hG hS [vI 0] lk_L_168 rfl hX1.h40 (fun G9 hG9 hS9 => (c_X3_account ok0.fl hG9 hX1.I hX1.O (what := 0) (by omega)).nox (fun _ _ h => by have := h.1.2; omega)) rfl (by rw [hR]; exact ⟨by decide, by decide, by simp only [RM]; omega, by simp only [RM]; omega⟩) (Nat.le_of_ble_eq_true rfl) dL_weighed_556 (fun r9 m1 hq9 => ?_)
      obtain ⟨-, rfl, hm9⟩ := hq9
      subst m1
      simp only [Option.toList_some, List.singleton_append]
      rw [if_pos trivial, er]
      refine gl_callT ok0 hG hS [.ref 0, vI (g.r 0)] lw_L_230 hX1.h40 (fun G9 hG9 hS9 => w_guardLine ok0.fl hG9 hS9 hX1 (by omega) (by omega)) rfl (by rw [hR]; exact ⟨by decide, by decide, by simp only [RM]; omega, by simp only [RM]; omega⟩) (Nat.le_of_ble_eq_true rfl) dL_weighed_559 (fun r9 m2 hq9 => ?_)
      obtain ⟨rfl, hm9⟩ := hq9.2 (by rw [er]; omega)
      subst m2
      simp only [Option.toList_some, List.singleton_append]
      refine ga_bipush ok dL_weighed_562 (by decide) ?_
      refine ga_icmp_ne ok 605 (by decide) (by omega) (by omega) dL_weighed_564 (fun c_564 => ?_) (fun c_564 => ?_)
      · exact absurd rfl c_564
      · refine ga_aload_n ok 1 rfl rfl dL_weighed_567 ?_
        refine ga_iconst ok dL_weighed_568 ?_
        refine ga_iconst ok dL_weighed_569 ?_
        refine ga_iconst ok dL_weighed_570 ?_
        refine gl_callT ok0 hG hS [.ref 0, vI (-1), vI 1, vI 0] lw_L_234 hX1.h40 (fun G9 hG9 hS9 => w_bits ok0.fl hG9 hS9 hX1 (by omega) (by omega) (by omega) (by omega)) rfl (by rw [hR]; exact ⟨by decide, by decide, by simp only [RM]; omega, by simp only [RM]; omega⟩) (Nat.le_of_ble_eq_true rfl) dL_weighed_571 (fun r9 m1 hq9 => ?_)
        obtain ⟨rfl, hm9⟩ := hq9
        subst m1
        simp only [Option.toList_some, List.singleton_append]
        rw [show q_bits g1.r (-1) 1 = -11 from by unfold q_bits; exact if_neg (by omega)]
        refine ga_bipush ok dL_weighed_574 (by decide) ?_
        refine ga_icmp_ne ok 605 (by decide) (by omega) (by omega) dL_weighed_576 (fun c_576 => ?_) (fun c_576 => ?_)
        · exact absurd rfl c_576
        · refine ga_aload_n ok 1 rfl rfl dL_weighed_579 ?_
          refine ga_aload_n ok 1 rfl rfl dL_weighed_580 ?_
          refine ga_iconst ok dL_weighed_581 ?_
          refine gl_callV ok0 hG hS [vI 0] lk_L_168 rfl hX1.h40 (fun G9 hG9 hS9 => (c_X3_account ok0.fl hG9 hX1.I hX1.O (what := 0) (by omega)).nox (fun _ _ h => by have := h.1.2; omega)) rfl (by rw [hR]; exact ⟨by decide, by decide, by simp only [RM]; omega, by simp only [RM]; omega⟩) (Nat.le_of_ble_eq_true rfl) dL_weighed_582 (fun r9 m1 hq9 => ?_)
          obtain ⟨-, rfl, hm9⟩ := hq9
          subst m1
          simp only [Option.toList_some, List.singleton_append]
          rw [if_pos trivial, er]
          refine ga_iconst ok dL_weighed_585 ?_
          refine gl_callT ok0 hG hS [.ref 0, vI (g.r 0), vI 0] lw_L_228 hX1.h40 (fun G9 hG9 hS9 => w_weightBits ok0.fl hG9 hS9 hX1 (by omega) (by omega) (by omega)) rfl (by rw [hR]; exact ⟨by decide, by decide, by simp only [RM]; omega, by simp only [RM]; omega⟩) (Nat.le_of_ble_eq_true rfl) dL_weighed_586 (fun r9 m1 hq9 => ?_)
          obtain ⟨rfl, hm9⟩ := hq9
          subst m1
          simp only [Option.toList_some, List.singleton_append]
          rw [er, show q_weightBits g.r (g.r 0) 0 = -11 from by unfold q_weightBits; exact if_neg (by omega)]
          refine ga_bipush ok dL_weighed_589 (by decide) ?_
          refine ga_icmp_ne ok 605 (by decide) (by omega) (by omega) dL_weighed_591 (fun c_591 => ?_) (fun c_591 => ?_)
          · exact absurd rfl c_591
          · refine ga_aload_n ok 1 rfl rfl dL_weighed_594 ?_
            refine gl_callV ok0 hG hS [] lk_L_248 rfl hX1.h40 (fun G9 hG9 hS9 => c_X3_isWell ok0.fl hG9 hX1.I hX1.O) rfl (by rw [hR]; exact ⟨by decide, by decide, by simp only [RM]; omega, by simp only [RM]; omega⟩) (Nat.le_of_ble_eq_true rfl) dL_weighed_595 (fun r9 m2 hq9 => ?_)
            obtain ⟨rfl, hm9⟩ := hq9
            subst m2
            simp only [Option.toList_some, List.singleton_append]
            refine ga_if_eq ok 605 (by decide) (by omega) dL_weighed_598 (fun c_598 => ?_) (fun c_598 => ?_)
            · exact absurd c_598 (by decide)
            · refine ga_iconst ok dL_weighed_601 ?_
              refine ga_goto ok 606 (by decide) dL_weighed_602 ?_
              exact gl_ireturn ok0 en rfl (nar01 (Or.inr rfl)) (by first | decide | (simp only [RM]; omega)) (by first | decide | (simp only [RM]; omega)) dL_weighed_606 ⟨g1, rfl, hX1, er, et⟩
    · have hn1 : 0 ≤ n ∧ n < g.r 0 := by omega
      have hO2 := (hX.O.rg hn1).2.2.1 2 (by omega) (by omega)
      refine ga_aload_n ok 1 rfl rfl dL_weighed_11 ?_
      refine ga_iload_n ok 2 rfl rfl dL_weighed_12 ?_
      refine gl_callL ok0 [.ref 0, vI n] lk_L_207 (c_L_counts ok0.fl hG hS hX1 (by omega) (by rw [er]; exact hn1)) rfl (by rw [hR]; exact ⟨by decide, by decide, by simp only [RM]; omega, by simp only [RM]; omega⟩) (Nat.le_of_ble_eq_true rfl) dL_weighed_13 (fun r9 m9 X9 hq9 => ?_)
      obtain ⟨hm9, q, f, rfl, hxs, hfc0⟩ := hq9
      subst m9
      subst X9
      simp only [Option.toList_some, List.singleton_append]
      obtain ⟨c, hc⟩ : ∃ c, c = gcn (rg g.r n.toNat) := ⟨_, rfl⟩
      have hfc : ∀ j, j < 11 → f j = c j := fun j hj => by rw [hfc0 j hj, er, hc]
      have hcB : cBd c := by rw [hc]; exact cBd.of hX.O hn1
      have hcb : cBd f := fun i hi => by rw [hfc i hi]; exact hcB i hi
      have hmem : (q, iA G 11 f) ∈ (q, iA G 11 f) :: Xs := List.mem_cons_self
      refine ga_astore_n ok 3 rfl hn3 dL_weighed_16 ?_
      refine gl_newSB ok0 hS (hg.at ok0).2.2 cl_SB ci_SB cn_SB li_L_213 (by rw [hR]; first | omega | (simp only [RM]; omega)) (by rw [hR]; first | omega | (simp only [RM]; omega)) (by rw [hR]; exact ⟨by decide, by decide⟩) (Nat.le_of_ble_eq_true rfl) dL_weighed_17 dL_weighed_20 dL_weighed_21 (fun a0 => ?_)
      obtain ⟨M0, hM0⟩ : ∃ M, M = m00 ((a0 + 1 : Nat) : Int) := ⟨_, rfl⟩
      have hb0 : BLs M0 ln0 := by rw [hM0]; exact m00_bls _ (by omega)
      rw [← hM0]
      obtain ⟨Q0, hQ0⟩ : ∃ Q, Q = ln0 := ⟨_, rfl⟩
      rw [← hQ0] at hb0
      have hl0 : LnOk Q0 := by rw [hQ0]; exact LnOk.z
      have hs0 : Q0.2 = 0 := by rw [hQ0]; rfl
      refine gl_ldcS ok0 hS rfl hg.1 0 (q := litL[0]) rfl dL_weighed_24 ?_
      refine gl_callSB ok0 hS [.ref (RAW + la 0)] [(la 0, lv 0, lch [], 0)] lv_L_216 rfl hb0.2.1 (fun x h => Or.inr ⟨_, List.mem_singleton.mp h⟩) (fun x h => by rw [List.mem_singleton.mp h]; exact (show SIN G _ (la 0) (lv 0) (lch []) 0 from hg.1.sin (i := 0) rfl)) (fun G9 hS9 hd9 h9 => c_J4_appendS (s := la 0) (v := lv 0) (t := lch []) (N := 0) ok0.fl trivial hS9 (h9 _ (List.mem_singleton.mpr rfl)) hd9 hb0 (by omega)) rfl (by rw [hR]; exact ⟨by decide, by decide, by simp only [RM]; omega, by simp only [RM]; omega⟩) (Nat.le_of_ble_eq_true rfl) dL_weighed_26 (fun M1 hb1 => ?_)
      replace hb1 := hb1.1
      have hl1 := hl0.cat (t := lch []) (N := 0) ((show SIN G [] (la 0) (lv 0) (lch []) 0 from hg.1.sin (i := 0) rfl)).1.2
      obtain ⟨Q1, hQ1⟩ : ∃ Q, Q = catL Q0 (lch []) ((0 : Nat) : Int) := ⟨_, rfl⟩
      rw [show catL Q0 (lch []) ((0 : Nat) : Int) = Q1 from hQ1.symm] at hb1 hl1
      have hs1 : Q1.2 = Q0.2 + 0 := by rw [hQ1]; rfl
      refine ga_aload_n ok 3 rfl rfl dL_weighed_29 ?_
      refine ga_iconst ok dL_weighed_30 ?_
      refine gl_iald (N := 11) (f := f) ok0 hS (List.mem_append_right _ hmem) (by decide) (by omega) dL_weighed_31 ?_
      rw [show f (0 : Int).toNat = c 0 from hfc 0 (by omega)]
      refine gl_callSB ok0 hS [vI (c 0)] [] lv_L_219 rfl hb1.2.1 (fun x h => Or.inl ⟨_, List.mem_singleton.mp h⟩) (fun x h => absurd h List.not_mem_nil) (fun G9 hS9 hd9 h9 => c_J4_appendI ok0.fl trivial hS9 hb1 (by have := hcB 0 (by omega); omega) (by omega)) rfl (by rw [hR]; exact ⟨by decide, by decide, by simp only [RM]; omega, by simp only [RM]; omega⟩) (Nat.le_of_ble_eq_true rfl) dL_weighed_32 (fun M2 hb2 => ?_)
      replace hb2 := hb2.1
      have hl2 := hl1.num (v := (c 0))
      have hs2 := numL_2 Q1 (c 0)
      obtain ⟨Q2, hQ2⟩ : ∃ Q, Q = numL Q1 (c 0) := ⟨_, rfl⟩
      rw [← hQ2] at hb2 hl2 hs2
      obtain ⟨N2, hN2⟩ : ∃ N : Nat, Q2.2 = N := ⟨Q2.2.toNat, by have := hl2.1; omega⟩
      refine gl_takeSB ok0 hS hb2 hN2 (by omega) lv_L_222 (by rw [hR]; exact ⟨by decide, by decide, by simp only [RM]; omega, by simp only [RM]; omega⟩) (Nat.le_of_ble_eq_true rfl) dL_weighed_35 (fun s2 v2 t2 ht2 => ?_)
      have hT2 := hl2.sin hN2 (by omega) ht2
      refine ga_astore ok hn4 dL_weighed_38 ?_
      refine ga_iconst ok dL_weighed_40 ?_
      refine ga_istore ok hn5 dL_weighed_41 ?_
      have hE0 : EqL (t2, (N2 : Int)) (gLn c 1) := by
        have e := take_eq hN2 ht2
        rw [hQ2, hQ1, hQ0] at e
        exact e.tr txt_first
      have loopA : ∀ (b : Int) (s v N : Nat) (t : Nat → Int), ((-1 ≤ b ∧ b ≤ 10) ∧ (N ≤ 100 ∧ ∀ j, j < N → 0 ≤ t j ∧ t j ≤ 127) ∧ EqL (t, (N : Int)) (gLn c (b.toNat + 1))) → WA (GX G (STX G s v t N ++ ((q, iA G 11 f) :: Xs))) E (600 * n.toNat + 40 + 20 * (b + 1).toNat) (40000 * n.toNat + 1300 + 2100 * (b + 1).toNat) 43 [(5, vI b), (4, .ref (RAW + s)), (0, .ref (RAW + sb)), (1, .ref 0), (2, vI n), (3, .ref (RAW + q))] [] m1 := by
        refine wl5 _ (fun b _ _ _ _ => (10 - b).toNat) _ ?_
        intro b s v N t hb9 loopA
        obtain ⟨hb0, hT, hE⟩ := hb9
        refine ga_iload ok rfl dL_weighed_43 ?_
        refine ga_bipush ok dL_weighed_45 (by decide) ?_
        refine ga_icmp_ge ok 135 (by decide) (by omega) (by omega) dL_weighed_47 (fun c_47 => ?_) (fun c_47 => ?_)
        · clear loopA
          have hsin : SIN G (STX G s v t N ++ ((q, iA G 11 f) :: Xs)) s v t N := ⟨hT, Or.inl (fun x h => List.mem_append_left _ h)⟩
          refine ga_aload_n ok 1 rfl rfl dL_weighed_135 ?_
          refine ga_iload_n ok 2 rfl rfl dL_weighed_136 ?_
          refine gl_callT ok0 hG hS [.ref 0, vI n] lw_L_230 hX1.h40 (fun G9 hG9 hS9 => w_guardLine ok0.fl hG9 hS9 hX1 (by omega) (by omega)) rfl (by rw [hR]; exact ⟨by decide, by decide, by simp only [RM]; omega, by simp only [RM]; omega⟩) (Nat.le_of_ble_eq_true rfl) dL_weighed_137 (fun r9 m2 hq9 => ?_)
          obtain ⟨rfl, hX2⟩ := hq9.1 (by rw [er]; exact hn1)
          simp only [Option.toList_some, List.singleton_append]
          rw [er, ← hc] at hX2 ⊢
          obtain ⟨g2, hg2⟩ : ∃ g2, g2 = lnG g1 (gLn c 11) := ⟨_, rfl⟩
          rw [← hg2] at hX2
          have er2 : g2.r = g.r := by rw [hg2]; exact er
          have et2 : g2.tn = g.tn := by rw [hg2]; exact et
          have hln2 : g2.ln = (gLn c 11).1 := by rw [hg2]; rfl
          have hnn2 : g2.nn = (gLn c 11).2 := by rw [hg2]; rfl
          rw [show b.toNat + 1 = 11 by omega] at hE
          have hNe : (N : Int) = (gLn c 11).2 := hE.1
          have hNb := gLn_2 c 11
          refine ga_aload ok rfl dL_weighed_140 ?_
          refine gl_callStr ok0 hS hX2.h40 hsin [] lv_L_127 rfl (fun _ h => absurd h List.not_mem_nil) (fun G9 hS9 h9 => c_J0_length ok0.fl trivial hS9 h9) rfl (by rw [hR]; exact ⟨by decide, by decide, by simp only [RM]; omega, by simp only [RM]; omega⟩) (Nat.le_of_ble_eq_true rfl) dL_weighed_142 ?_
          refine ga_icmp_ne ok 152 (by decide) (by omega) (by omega) dL_weighed_145 (fun c_145 => ?_) (fun c_145 => ?_)
          · exact absurd (by omega) c_145
          · refine ga_iconst ok dL_weighed_148 ?_
            refine ga_goto ok 153 (by decide) dL_weighed_149 ?_
            refine ga_istore ok hn5 dL_weighed_153 ?_
            refine ga_iconst ok dL_weighed_155 ?_
            refine ga_istore ok hn6 dL_weighed_156 ?_
            have loopB : ∀ (i : Int), (0 ≤ i ∧ i ≤ N) → WA (GX G (STX G s v t N ++ ((q, iA G 11 f) :: Xs))) E (600 * n.toNat + 320 + 2 * i.toNat) (40000 * n.toNat + 34000 + 8 * i.toNat) 158 [(6, vI i), (5, vI 1), (4, .ref (RAW + s)), (0, .ref (RAW + sb)), (1, .ref 0), (2, vI n), (3, .ref (RAW + q))] [] m2 := by
              refine wl1 _ (fun i => ((N : Int) - i).toNat) _ ?_
              intro i hi loopB
              refine ga_iload ok rfl dL_weighed_158 ?_
              refine ga_aload ok rfl dL_weighed_160 ?_
              refine gl_callStr ok0 hS hX2.h40 hsin [] lv_L_127 rfl (fun _ h => absurd h List.not_mem_nil) (fun G9 hS9 h9 => c_J0_length ok0.fl trivial hS9 h9) rfl (by rw [hR]; exact ⟨by decide, by decide, by simp only [RM]; omega, by simp only [RM]; omega⟩) (Nat.le_of_ble_eq_true rfl) dL_weighed_162 ?_
              refine ga_icmp_ge ok 202 (by decide) (by omega) (by omega) dL_weighed_165 (fun c_165 => ?_) (fun c_165 => ?_)
              · clear loopB
                refine ga_iconst ok dL_weighed_202 ?_
                refine ga_istore ok hn6 dL_weighed_203 ?_
                refine WA.drop ?_
                have loopC : ∀ (i : Int), (0 ≤ i ∧ i ≤ 6) → WA (GX G ((q, iA G 11 f) :: Xs)) E (600 * n.toNat + 480 + 6 * i.toNat) (40000 * n.toNat + 34700 + 50 * i.toNat) 205 [(6, vI i), (5, vI 1), (0, .ref (RAW + sb)), (1, .ref 0), (2, vI n), (3, .ref (RAW + q))] [] m2 := by
                  refine wl1 _ (fun i => (6 - i).toNat) _ ?_
                  intro i hi loopC
                  refine ga_iload ok rfl dL_weighed_205 ?_
                  refine ga_bipush ok dL_weighed_207 (by decide) ?_
                  refine ga_icmp_ge ok 312 (by decide) (by omega) (by omega) dL_weighed_209 (fun c_209 => ?_) (fun c_209 => ?_)
                  · clear loopC
                    refine ga_iconst ok dL_weighed_312 ?_
                    refine ga_istore ok hn6 dL_weighed_313 ?_
                    refine ga_iconst ok dL_weighed_315 ?_
                    refine ga_istore ok hn7 dL_weighed_316 ?_
                    have loopD : ∀ (p bf : Int), ((0 ≤ p ∧ p ≤ 10) ∧ ((p = 0 ∧ bf = -1) ∨ (1 ≤ p ∧ (0 ≤ bf ∧ bf < 10) ∧ cnt (Rst c) bf.toNat 10 = p - 1))) → WA (GX G ((q, iA G 11 f) :: Xs)) E (600 * n.toNat + 520 + 2 * p.toNat) (40000 * n.toNat + 35100 + 12 * p.toNat) 318 [(7, vI p), (6, vI bf), (5, vI 1), (0, .ref (RAW + sb)), (1, .ref 0), (2, vI n), (3, .ref (RAW + q))] [] m2 := by
                      refine wl2 _ (fun p _ => (10 - p).toNat) _ ?_
                      intro p bf hp9 loopD
                      obtain ⟨hp, hbf⟩ := hp9
                      refine ga_iload ok rfl dL_weighed_318 ?_
                      refine ga_bipush ok dL_weighed_320 (by decide) ?_
                      refine ga_icmp_ge ok 403 (by decide) (by omega) (by omega) dL_weighed_322 (fun c_322 => ?_) (fun c_322 => ?_)
                      · refine ga_iload ok rfl dL_weighed_403 ?_
                        refine ga_if_eq ok 537 (by decide) (by omega) dL_weighed_405 (fun c_405 => ?_) (fun c_405 => ?_)
                        · exact absurd c_405 (by omega)
                        · refine ga_aload_n ok 1 rfl rfl dL_weighed_408 ?_
                          refine ga_iload_n ok 2 rfl rfl dL_weighed_409 ?_
                          refine ga_bipush ok dL_weighed_410 (by decide) ?_
                          refine gl_callT ok0 hG hS [.ref 0, vI n, vI 10] lw_L_240 hX2.h40 (fun G9 hG9 hS9 => w_strongest ok0.fl hG9 hS9 hX2 (by omega) (by omega) (by omega)) rfl (by rw [hR]; exact ⟨by decide, by decide, by simp only [RM]; omega, by simp only [RM]; omega⟩) (Nat.le_of_ble_eq_true rfl) dL_weighed_412 (fun r9 m1 hq9 => ?_)
                          obtain ⟨rfl, hm9⟩ := hq9
                          subst m1
                          simp only [Option.toList_some, List.singleton_append]
                          rw [er2, strong_no hn1 (by omega)]
                          refine ga_bipush ok dL_weighed_415 (by decide) ?_
                          refine ga_icmp_ne ok 537 (by decide) (by omega) (by omega) dL_weighed_417 (fun c_417 => ?_) (fun c_417 => ?_)
                          · exact absurd rfl c_417
                          · refine ga_aload_n ok 1 rfl rfl dL_weighed_420 ?_
                            refine ga_iload_n ok 2 rfl rfl dL_weighed_421 ?_
                            refine ga_iconst ok dL_weighed_422 ?_
                            refine gl_callT ok0 hG hS [.ref 0, vI n, vI (-1)] lw_L_240 hX2.h40 (fun G9 hG9 hS9 => w_strongest ok0.fl hG9 hS9 hX2 (by omega) (by omega) (by omega)) rfl (by rw [hR]; exact ⟨by decide, by decide, by simp only [RM]; omega, by simp only [RM]; omega⟩) (Nat.le_of_ble_eq_true rfl) dL_weighed_423 (fun r9 m1 hq9 => ?_)
                            obtain ⟨rfl, hm9⟩ := hq9
                            subst m1
                            simp only [Option.toList_some, List.singleton_append]
                            rw [er2, strong_no hn1 (by omega)]
                            refine ga_bipush ok dL_weighed_426 (by decide) ?_
                            refine ga_icmp_ne ok 537 (by decide) (by omega) (by omega) dL_weighed_428 (fun c_428 => ?_) (fun c_428 => ?_)
                            · exact absurd rfl c_428
                            · refine ga_aload_n ok 1 rfl rfl dL_weighed_431 ?_
                              refine ga_iload_n ok 2 rfl rfl dL_weighed_432 ?_
                              refine ga_bipush ok dL_weighed_433 (by decide) ?_
                              refine gl_callT ok0 hG hS [.ref 0, vI n, vI 10] lw_L_228 hX2.h40 (fun G9 hG9 hS9 => w_weightBits ok0.fl hG9 hS9 hX2 (by omega) (by omega) (by omega)) rfl (by rw [hR]; exact ⟨by decide, by decide, by simp only [RM]; omega, by simp only [RM]; omega⟩) (Nat.le_of_ble_eq_true rfl) dL_weighed_435 (fun r9 m1 hq9 => ?_)
                              obtain ⟨rfl, hm9⟩ := hq9
                              subst m1
                              simp only [Option.toList_some, List.singleton_append]
                              rw [er2, show q_weightBits g.r n 10 = -12 from by unfold q_weightBits; rw [if_pos hn1]; exact if_neg (by omega)]
                              refine ga_bipush ok dL_weighed_438 (by decide) ?_
                              refine ga_icmp_ne ok 537 (by decide) (by omega) (by omega) dL_weighed_440 (fun c_440 => ?_) (fun c_440 => ?_)
                              · exact absurd rfl c_440
                              · refine ga_aload_n ok 1 rfl rfl dL_weighed_443 ?_
                                refine ga_iload_n ok 2 rfl rfl dL_weighed_444 ?_
                                refine ga_bipush ok dL_weighed_445 (by decide) ?_
                                refine gl_callT ok0 hG hS [.ref 0, vI n, vI (-2)] lw_L_181 hX2.h40 (fun G9 hG9 hS9 => w_counted ok0.fl hG9 hS9 hX2 (by omega) (by omega) (by omega)) rfl (by rw [hR]; exact ⟨by decide, by decide, by simp only [RM]; omega, by simp only [RM]; omega⟩) (Nat.le_of_ble_eq_true rfl) dL_weighed_447 (fun r9 m1 hq9 => ?_)
                                obtain ⟨rfl, hm9⟩ := hq9
                                subst m1
                                simp only [Option.toList_some, List.singleton_append]
                                rw [er2, show q_counted g.r n (-2) = -70012 from by unfold q_counted; rw [if_pos hn1]; exact if_neg (by omega)]
                                refine ga_ldc (z := -70012) ok dL_weighed_450 (tb_in 596 (by decide +kernel) (by decide +kernel)) ?_
                                refine ga_icmp_ne ok 537 (by decide) (by omega) (by omega) dL_weighed_452 (fun c_452 => ?_) (fun c_452 => ?_)
                                · exact absurd rfl c_452
                                · refine ga_aload_n ok 1 rfl rfl dL_weighed_455 ?_
                                  refine ga_iload_n ok 2 rfl rfl dL_weighed_456 ?_
                                  refine ga_iconst ok dL_weighed_457 ?_
                                  refine ga_iconst ok dL_weighed_458 ?_
                                  refine gl_callT ok0 hG hS [.ref 0, vI n, vI 0, vI 1] lw_L_234 hX2.h40 (fun G9 hG9 hS9 => w_bits ok0.fl hG9 hS9 hX2 (by omega) (by omega) (by omega) (by omega)) rfl (by rw [hR]; exact ⟨by decide, by decide, by simp only [RM]; omega, by simp only [RM]; omega⟩) (Nat.le_of_ble_eq_true rfl) dL_weighed_459 (fun r9 m1 hq9 => ?_)
                                  obtain ⟨rfl, hm9⟩ := hq9
                                  subst m1
                                  simp only [Option.toList_some, List.singleton_append]
                                  rw [er2, show q_bits g.r n 0 = -12 from by unfold q_bits; rw [if_pos hn1]; exact if_neg (by omega)]
                                  refine ga_bipush ok dL_weighed_462 (by decide) ?_
                                  refine ga_icmp_ne ok 537 (by decide) (by omega) (by omega) dL_weighed_464 (fun c_464 => ?_) (fun c_464 => ?_)
                                  · exact absurd rfl c_464
                                  · refine ga_aload_n ok 1 rfl rfl dL_weighed_467 ?_
                                    refine ga_iload_n ok 2 rfl rfl dL_weighed_468 ?_
                                    refine ga_sipush ok dL_weighed_469 (by decide) ?_
                                    refine gl_callT ok0 hG hS [.ref 0, vI n, vI 1024] lw_L_238 hX2.h40 (fun G9 hG9 hS9 => w_letsIn ok0.fl hG9 hS9 hX2 (by omega) (by omega) (by omega)) rfl (by rw [hR]; exact ⟨by decide, by decide, by simp only [RM]; omega, by simp only [RM]; omega⟩) (Nat.le_of_ble_eq_true rfl) dL_weighed_472 (fun r9 m1 hq9 => ?_)
                                    obtain ⟨rfl, hm9⟩ := hq9
                                    subst m1
                                    simp only [Option.toList_some, List.singleton_append]
                                    rw [er2, show q_letsIn g.r n 1024 = -12 from by unfold q_letsIn; rw [if_pos hn1]; exact if_neg (by omega)]
                                    refine ga_bipush ok dL_weighed_475 (by decide) ?_
                                    refine ga_icmp_ne ok 537 (by decide) (by omega) (by omega) dL_weighed_477 (fun c_477 => ?_) (fun c_477 => ?_)
                                    · exact absurd rfl c_477
                                    · refine ga_aload_n ok 1 rfl rfl dL_weighed_480 ?_
                                      refine ga_iload_n ok 2 rfl rfl dL_weighed_481 ?_
                                      refine ga_iconst ok dL_weighed_482 ?_
                                      refine gl_callT ok0 hG hS [.ref 0, vI n, vI (-1)] lw_L_242 hX2.h40 (fun G9 hG9 hS9 => w_meanBits ok0.fl hG9 hS9 hX2 (by omega) (by omega) (by omega)) rfl (by rw [hR]; exact ⟨by decide, by decide, by simp only [RM]; omega, by simp only [RM]; omega⟩) (Nat.le_of_ble_eq_true rfl) dL_weighed_483 (fun r9 m1 hq9 => ?_)
                                      obtain ⟨rfl, hm9⟩ := hq9
                                      subst m1
                                      simp only [Option.toList_some, List.singleton_append]
                                      rw [er2, show q_meanBits g.r n (-1) = -12 from by unfold q_meanBits; rw [if_pos hn1]; exact if_neg (by omega)]
                                      refine ga_bipush ok dL_weighed_486 (by decide) ?_
                                      refine ga_icmp_ne ok 537 (by decide) (by omega) (by omega) dL_weighed_488 (fun c_488 => ?_) (fun c_488 => ?_)
                                      · exact absurd rfl c_488
                                      · refine ga_aload_n ok 1 rfl rfl dL_weighed_491 ?_
                                        refine ga_iload_n ok 2 rfl rfl dL_weighed_492 ?_
                                        refine ga_iconst ok dL_weighed_493 ?_
                                        refine gl_callT ok0 hG hS [.ref 0, vI n, vI 0] lw_L_242 hX2.h40 (fun G9 hG9 hS9 => w_meanBits ok0.fl hG9 hS9 hX2 (by omega) (by omega) (by omega)) rfl (by rw [hR]; exact ⟨by decide, by decide, by simp only [RM]; omega, by simp only [RM]; omega⟩) (Nat.le_of_ble_eq_true rfl) dL_weighed_494 (fun r9 m1 hq9 => ?_)
                                        obtain ⟨rfl, hm9⟩ := hq9
                                        subst m1
                                        simp only [Option.toList_some, List.singleton_append]
                                        rw [er2]
                                        have hmb : rg g.r n.toNat 2 = 0 → q_meanBits g.r n 0 = -14 := fun h => by unfold q_meanBits; rw [if_pos hn1, if_pos (by omega)]; exact if_neg (fun h9 => h9 h)
                                        have hmr : -2147483648 ≤ q_meanBits g.r n 0 ∧ q_meanBits g.r n 0 ≤ 2147483647 := by
                                          unfold q_meanBits
                                          rw [if_pos hn1, if_pos (by omega)]
                                          split
                                          · exact fword_rng _
                                          · omega
                                        refine ga_bipush ok dL_weighed_497 (by decide) ?_
                                        refine ga_icmp_ne ok 506 (by decide) hmr (by omega) dL_weighed_499 (fun c_499 => ?_) (fun c_499 => ?_)
                                        · refine ga_iconst ok dL_weighed_506 ?_
                                          refine ga_aload_n ok 1 rfl rfl dL_weighed_507 ?_
                                          refine ga_iload_n ok 2 rfl rfl dL_weighed_508 ?_
                                          refine ga_iconst ok dL_weighed_509 ?_
                                          refine gl_callT ok0 hG hS [.ref 0, vI n, vI 2] lw_L_245 hX2.h40 (fun G9 hG9 hS9 => w_of ok0.fl hG9 hS9 hX2 (by omega) (by omega) (by omega)) rfl (by rw [hR]; exact ⟨by decide, by decide, by simp only [RM]; omega, by simp only [RM]; omega⟩) (Nat.le_of_ble_eq_true rfl) dL_weighed_510 (fun r9 m1 hq9 => ?_)
                                          obtain ⟨rfl, hm9⟩ := hq9
                                          subst m1
                                          simp only [Option.toList_some, List.singleton_append]
                                          rw [er2, show q_of g.r n 2 = rg g.r n.toNat 2 from by unfold q_of; rw [if_pos hn1, if_pos (by omega)]; rfl]
                                          refine ga_if_ne ok 520 (by decide) (by omega) dL_weighed_513 (fun c_513 => ?_) (fun c_513 => ?_)
                                          · refine ga_iconst ok dL_weighed_520 ?_
                                            refine ga_icmp_eq ok 533 (by decide) (by omega) (by omega) dL_weighed_521 (fun c_521 => ?_) (fun c_521 => ?_)
                                            · refine ga_iconst ok dL_weighed_533 ?_
                                              refine ga_goto ok 538 (by decide) dL_weighed_534 ?_
                                              refine ga_istore ok hn7 dL_weighed_538 ?_
                                              refine ga_iload ok rfl dL_weighed_540 ?_
                                              refine ga_if_ne ok 547 (by decide) (by omega) dL_weighed_542 (fun c_542 => ?_) (fun c_542 => ?_)
                                              · refine ga_iinc ok rfl hn2 dL_weighed_547 ?_
                                                refine ga_goto ok 2 (by decide) dL_weighed_550 ?_
                                                refine WA.drop (Xs' := [_]) ?_
                                                refine WA.wd (k2 := 600 * (n + 1).toNat) (n2 := 40000 * (n + 1).toNat) (by first | omega | (simp only [RM]; omega)) (by first | omega | (simp only [RM]; omega)) ?_
                                                exact WA.re (by exact ⟨rfl, rfl, rfl, trivial⟩) (ih (n + 1) m2 g2 ⟨by omega, hX2, er2, et2⟩ (by omega))
                                              · exact absurd c_542 (by decide)
                                            · exact absurd rfl c_521
                                          · exact absurd (hmb c_513) c_499
                                        · refine ga_iconst ok dL_weighed_502 ?_
                                          refine ga_goto ok 507 (by decide) dL_weighed_503 ?_
                                          refine ga_aload_n ok 1 rfl rfl dL_weighed_507 ?_
                                          refine ga_iload_n ok 2 rfl rfl dL_weighed_508 ?_
                                          refine ga_iconst ok dL_weighed_509 ?_
                                          refine gl_callT ok0 hG hS [.ref 0, vI n, vI 2] lw_L_245 hX2.h40 (fun G9 hG9 hS9 => w_of ok0.fl hG9 hS9 hX2 (by omega) (by omega) (by omega)) rfl (by rw [hR]; exact ⟨by decide, by decide, by simp only [RM]; omega, by simp only [RM]; omega⟩) (Nat.le_of_ble_eq_true rfl) dL_weighed_510 (fun r9 m1 hq9 => ?_)
                                          obtain ⟨rfl, hm9⟩ := hq9
                                          subst m1
                                          simp only [Option.toList_some, List.singleton_append]
                                          rw [er2, show q_of g.r n 2 = rg g.r n.toNat 2 from by unfold q_of; rw [if_pos hn1, if_pos (by omega)]; rfl]
                                          refine ga_if_ne ok 520 (by decide) (by omega) dL_weighed_513 (fun c_513 => ?_) (fun c_513 => ?_)
                                          · refine ga_iconst ok dL_weighed_520 ?_
                                            refine ga_icmp_eq ok 533 (by decide) (by omega) (by omega) dL_weighed_521 (fun c_521 => ?_) (fun c_521 => ?_)
                                            · exact absurd c_521 (by decide)
                                            · refine ga_aload_n ok 1 rfl rfl dL_weighed_524 ?_
                                              refine ga_iload_n ok 2 rfl rfl dL_weighed_525 ?_
                                              refine ga_iconst ok dL_weighed_526 ?_
                                              refine gl_callT ok0 hG hS [.ref 0, vI n, vI 2] lw_L_245 hX2.h40 (fun G9 hG9 hS9 => w_of ok0.fl hG9 hS9 hX2 (by omega) (by omega) (by omega)) rfl (by rw [hR]; exact ⟨by decide, by decide, by simp only [RM]; omega, by simp only [RM]; omega⟩) (Nat.le_of_ble_eq_true rfl) dL_weighed_527 (fun r9 m1 hq9 => ?_)
                                              obtain ⟨rfl, hm9⟩ := hq9
                                              subst m1
                                              simp only [Option.toList_some, List.singleton_append]
                                              rw [er2, show q_of g.r n 2 = rg g.r n.toNat 2 from by unfold q_of; rw [if_pos hn1, if_pos (by omega)]; rfl]
                                              refine ga_if_le ok 537 (by decide) (by omega) dL_weighed_530 (fun c_530 => ?_) (fun c_530 => ?_)
                                              · exact absurd c_530 (by omega)
                                              · refine ga_iconst ok dL_weighed_533 ?_
                                                refine ga_goto ok 538 (by decide) dL_weighed_534 ?_
                                                refine ga_istore ok hn7 dL_weighed_538 ?_
                                                refine ga_iload ok rfl dL_weighed_540 ?_
                                                refine ga_if_ne ok 547 (by decide) (by omega) dL_weighed_542 (fun c_542 => ?_) (fun c_542 => ?_)
                                                · refine ga_iinc ok rfl hn2 dL_weighed_547 ?_
                                                  refine ga_goto ok 2 (by decide) dL_weighed_550 ?_
                                                  refine WA.drop (Xs' := [_]) ?_
                                                  refine WA.wd (k2 := 600 * (n + 1).toNat) (n2 := 40000 * (n + 1).toNat) (by first | omega | (simp only [RM]; omega)) (by first | omega | (simp only [RM]; omega)) ?_
                                                  exact WA.re (by exact ⟨rfl, rfl, rfl, trivial⟩) (ih (n + 1) m2 g2 ⟨by omega, hX2, er2, et2⟩ (by omega))
                                                · exact absurd c_542 (by decide)
                                          · refine ga_iconst ok dL_weighed_516 ?_
                                            refine ga_goto ok 521 (by decide) dL_weighed_517 ?_
                                            refine ga_icmp_eq ok 533 (by decide) (by omega) (by omega) dL_weighed_521 (fun c_521 => ?_) (fun c_521 => ?_)
                                            · refine ga_iconst ok dL_weighed_533 ?_
                                              refine ga_goto ok 538 (by decide) dL_weighed_534 ?_
                                              refine ga_istore ok hn7 dL_weighed_538 ?_
                                              refine ga_iload ok rfl dL_weighed_540 ?_
                                              refine ga_if_ne ok 547 (by decide) (by omega) dL_weighed_542 (fun c_542 => ?_) (fun c_542 => ?_)
                                              · refine ga_iinc ok rfl hn2 dL_weighed_547 ?_
                                                refine ga_goto ok 2 (by decide) dL_weighed_550 ?_
                                                refine WA.drop (Xs' := [_]) ?_
                                                refine WA.wd (k2 := 600 * (n + 1).toNat) (n2 := 40000 * (n + 1).toNat) (by first | omega | (simp only [RM]; omega)) (by first | omega | (simp only [RM]; omega)) ?_
                                                exact WA.re (by exact ⟨rfl, rfl, rfl, trivial⟩) (ih (n + 1) m2 g2 ⟨by omega, hX2, er2, et2⟩ (by omega))
                                              · exact absurd c_542 (by decide)
                                            · exact absurd rfl c_521
                      · refine ga_iload ok rfl dL_weighed_325 ?_
                        refine ga_if_eq ok 403 (by decide) (by omega) dL_weighed_327 (fun c_327 => ?_) (fun c_327 => ?_)
                        · exact absurd c_327 (by omega)
                        · refine ga_aload_n ok 1 rfl rfl dL_weighed_330 ?_
                          refine ga_iload_n ok 2 rfl rfl dL_weighed_331 ?_
                          refine ga_iload ok rfl dL_weighed_332 ?_
                          refine gl_callT ok0 hG hS [.ref 0, vI n, vI p] lw_L_240 hX2.h40 (fun G9 hG9 hS9 => w_strongest ok0.fl hG9 hS9 hX2 (by omega) (by omega) (by omega)) rfl (by rw [hR]; exact ⟨by decide, by decide, by simp only [RM]; omega, by simp only [RM]; omega⟩) (Nat.le_of_ble_eq_true rfl) dL_weighed_334 (fun r9 m1 hq9 => ?_)
                          obtain ⟨rfl, hm9⟩ := hq9
                          subst m1
                          simp only [Option.toList_some, List.singleton_append]
                          obtain ⟨j, hj, hjs, hjc⟩ := strong_at (r := g.r) (n := n) (p := p) hn1 (by omega)
                          rw [er2, hjs]
                          refine ga_istore ok hn8 dL_weighed_337 ?_
                          refine ga_iload ok rfl dL_weighed_339 ?_
                          refine ga_if_lt ok 390 (by decide) (by omega) dL_weighed_341 (fun c_341 => ?_) (fun c_341 => ?_)
                          · exact absurd c_341 (by omega)
                          · refine ga_iload ok rfl dL_weighed_344 ?_
                            refine ga_if_lt ok 386 (by decide) (by omega) dL_weighed_346 (fun c_346 => ?_) (fun c_346 => ?_)
                            · refine ga_iconst ok dL_weighed_386 ?_
                              refine ga_goto ok 391 (by decide) dL_weighed_387 ?_
                              refine ga_istore ok hn5 dL_weighed_391 ?_
                              refine ga_iload ok rfl dL_weighed_393 ?_
                              refine ga_istore ok hn6 dL_weighed_395 ?_
                              refine ga_iinc ok rfl hn7 dL_weighed_397 ?_
                              refine ga_goto ok 318 (by decide) dL_weighed_400 ?_
                              refine WA.wd (k2 := 600 * n.toNat + 520 + 2 * (p + 1).toNat) (n2 := 40000 * n.toNat + 35100 + 12 * (p + 1).toNat) (by first | omega | (simp only [RM]; omega)) (by first | omega | (simp only [RM]; omega)) ?_
                              exact WA.re (by exact ⟨rfl, rfl, rfl, rfl, rfl, rfl, rfl, trivial⟩) (loopD (p + 1) (j : Int) ⟨by omega, Or.inr ⟨by omega, by omega, by rw [show ((j : Int)).toNat = j by omega, hc, hjc]; omega⟩⟩ (by omega))
                            · have hRo := Rst_t ((Rst_so c).ord (N := 10) (i := bf.toNat) (j := j) (by omega) hj (by rw [(hbf.resolve_left (by omega)).2.2, hc, hjc]; omega))
                              have e1 : (bf + 1).toNat = bf.toNat + 1 := by omega
                              have e2 : ((j : Int) + 1).toNat = j + 1 := by omega
                              rw [← e1, ← e2] at hRo
                              refine ga_aload_n ok 3 rfl rfl dL_weighed_349 ?_
                              refine ga_iload ok rfl dL_weighed_350 ?_
                              refine ga_iconst ok dL_weighed_352 ?_
                              refine ga_iadd ok dL_weighed_353 ?_
                              refine gl_iald (N := 11) (f := f) ok0 hS (hmem) (by decide) (by omega) dL_weighed_354 ?_
                              rw [show f (bf + 1).toNat = c (bf + 1).toNat from hfc _ (by omega)]
                              refine ga_aload_n ok 3 rfl rfl dL_weighed_355 ?_
                              refine ga_iload ok rfl dL_weighed_356 ?_
                              refine ga_iconst ok dL_weighed_358 ?_
                              refine ga_iadd ok dL_weighed_359 ?_
                              refine gl_iald (N := 11) (f := f) ok0 hS (hmem) (by decide) (by omega) dL_weighed_360 ?_
                              rw [show f ((j : Int) + 1).toNat = c ((j : Int) + 1).toNat from hfc _ (by omega)]
                              refine ga_icmp_gt ok 386 (by decide) (by have := hcB (bf + 1).toNat (by omega); omega) (by have := hcB ((j : Int) + 1).toNat (by omega); omega) dL_weighed_361 (fun c_361 => ?_) (fun c_361 => ?_)
                              · refine ga_iconst ok dL_weighed_386 ?_
                                refine ga_goto ok 391 (by decide) dL_weighed_387 ?_
                                refine ga_istore ok hn5 dL_weighed_391 ?_
                                refine ga_iload ok rfl dL_weighed_393 ?_
                                refine ga_istore ok hn6 dL_weighed_395 ?_
                                refine ga_iinc ok rfl hn7 dL_weighed_397 ?_
                                refine ga_goto ok 318 (by decide) dL_weighed_400 ?_
                                refine WA.wd (k2 := 600 * n.toNat + 520 + 2 * (p + 1).toNat) (n2 := 40000 * n.toNat + 35100 + 12 * (p + 1).toNat) (by first | omega | (simp only [RM]; omega)) (by first | omega | (simp only [RM]; omega)) ?_
                                exact WA.re (by exact ⟨rfl, rfl, rfl, rfl, rfl, rfl, rfl, trivial⟩) (loopD (p + 1) (j : Int) ⟨by omega, Or.inr ⟨by omega, by omega, by rw [show ((j : Int)).toNat = j by omega, hc, hjc]; omega⟩⟩ (by omega))
                              · refine ga_aload_n ok 3 rfl rfl dL_weighed_364 ?_
                                refine ga_iload ok rfl dL_weighed_365 ?_
                                refine ga_iconst ok dL_weighed_367 ?_
                                refine ga_iadd ok dL_weighed_368 ?_
                                refine gl_iald (N := 11) (f := f) ok0 hS (hmem) (by decide) (by omega) dL_weighed_369 ?_
                                rw [show f (bf + 1).toNat = c (bf + 1).toNat from hfc _ (by omega)]
                                refine ga_aload_n ok 3 rfl rfl dL_weighed_370 ?_
                                refine ga_iload ok rfl dL_weighed_371 ?_
                                refine ga_iconst ok dL_weighed_373 ?_
                                refine ga_iadd ok dL_weighed_374 ?_
                                refine gl_iald (N := 11) (f := f) ok0 hS (hmem) (by decide) (by omega) dL_weighed_375 ?_
                                rw [show f ((j : Int) + 1).toNat = c ((j : Int) + 1).toNat from hfc _ (by omega)]
                                refine ga_icmp_ne ok 390 (by decide) (by have := hcB (bf + 1).toNat (by omega); omega) (by have := hcB ((j : Int) + 1).toNat (by omega); omega) dL_weighed_376 (fun c_376 => ?_) (fun c_376 => ?_)
                                · exact absurd c_376 (by omega)
                                · refine ga_iload ok rfl dL_weighed_379 ?_
                                  refine ga_iload ok rfl dL_weighed_381 ?_
                                  refine ga_icmp_ge ok 390 (by decide) (by omega) (by omega) dL_weighed_383 (fun c_383 => ?_) (fun c_383 => ?_)
                                  · exact absurd c_383 (by omega)
                                  · refine ga_iconst ok dL_weighed_386 ?_
                                    refine ga_goto ok 391 (by decide) dL_weighed_387 ?_
                                    refine ga_istore ok hn5 dL_weighed_391 ?_
                                    refine ga_iload ok rfl dL_weighed_393 ?_
                                    refine ga_istore ok hn6 dL_weighed_395 ?_
                                    refine ga_iinc ok rfl hn7 dL_weighed_397 ?_
                                    refine ga_goto ok 318 (by decide) dL_weighed_400 ?_
                                    refine WA.wd (k2 := 600 * n.toNat + 520 + 2 * (p + 1).toNat) (n2 := 40000 * n.toNat + 35100 + 12 * (p + 1).toNat) (by first | omega | (simp only [RM]; omega)) (by first | omega | (simp only [RM]; omega)) ?_
                                    exact WA.re (by exact ⟨rfl, rfl, rfl, rfl, rfl, rfl, rfl, trivial⟩) (loopD (p + 1) (j : Int) ⟨by omega, Or.inr ⟨by omega, by omega, by rw [show ((j : Int)).toNat = j by omega, hc, hjc]; omega⟩⟩ (by omega))
                    refine WA.wd (k2 := 600 * n.toNat + 520 + 2 * (0 : Int).toNat) (n2 := 40000 * n.toNat + 35100 + 12 * (0 : Int).toNat) (by first | omega | (simp only [RM]; omega)) (by first | omega | (simp only [RM]; omega)) ?_
                    exact WA.re (by exact ⟨rfl, rfl, rfl, rfl, rfl, rfl, rfl, trivial⟩) (loopD 0 (-1) ⟨by omega, Or.inl ⟨rfl, rfl⟩⟩)
                  · refine ga_iconst ok dL_weighed_212 ?_
                    refine ga_aload_n ok 0 rfl rfl dL_weighed_213 ?_
                    refine ga_bipush ok dL_weighed_214 (by decide) ?_
                    refine ga_iload ok rfl dL_weighed_216 ?_
                    refine ga_iadd ok dL_weighed_218 ?_
                    refine gl_callL ok0 [.ref (RAW + sb), vI (21 + i)] lk_L_152 (c_L_cell ok0.fl hG hS hg (by omega)) rfl (by rw [hR]; exact ⟨by decide, by decide, by simp only [RM]; omega, by simp only [RM]; omega⟩) (Nat.le_of_ble_eq_true rfl) dL_weighed_219 (fun r9 m9 X9 hq9 => ?_)
                    obtain ⟨rfl, hm9, hxs⟩ := hq9
                    subst m9
                    subst X9
                    simp only [Option.toList_some, List.singleton_append]
                    refine ga_iconst ok dL_weighed_222 ?_
                    refine ga_iushrZ ok dL_weighed_223 ?_
                    refine ga_sipush ok dL_weighed_224 (by decide) ?_
                    refine ga_irem ok dL_weighed_227 (by have := zShr_rng (x := cel xs sl (21 + i)) (k := 1) (by omega); omega) (by omega) ?_
                    refine ga_iadd ok dL_weighed_228 ?_
                    refine ga_istore ok hn7 dL_weighed_229 ?_
                    obtain ⟨x, hx⟩ : ∃ x, x = (1 + zShr (cel xs sl (21 + i)) 1 % 1023) := ⟨_, rfl⟩
                    rw [← hx]
                    have hxr := zShr_rng (x := cel xs sl (21 + i)) (k := 1) (by omega)
                    have hmz := mg_bd hcB x
                    have hfw := fword_rng (fq (mg c x))
                    refine ga_aload_n ok 3 rfl rfl dL_weighed_231 ?_
                    refine ga_iload ok rfl dL_weighed_232 ?_
                    refine gl_callL ok0 [.ref (RAW + q), vI x] lk_L_183 (c_L_margin ok0.fl hS hmem hcb (by omega)) rfl (by rw [hR]; exact ⟨by decide, by decide, by simp only [RM]; omega, by simp only [RM]; omega⟩) (Nat.le_of_ble_eq_true rfl) dL_weighed_234 (fun r9 m9 X9 hq9 => ?_)
                    obtain ⟨rfl, hm9, hxs⟩ := hq9
                    subst m9
                    subst X9
                    simp only [Option.toList_some, List.singleton_append]
                    rw [show mg f x = mg c x from mgA_cong x 10 (by omega) hfc]
                    refine gd_J_1 ok lj_L_44 (c_Jf_bits ok0.fl hG (fq_nan (mg_bd hcB x))) (by rw [hR]; exact ⟨by decide, by decide, by simp only [RM]; omega, by simp only [RM]; omega⟩) (Nat.le_of_ble_eq_true rfl) dL_weighed_237 ?_
                    refine ga_istore ok hn8 dL_weighed_240 ?_
                    refine ga_iload ok rfl dL_weighed_242 ?_
                    refine ga_if_eq ok 303 (by decide) (by omega) dL_weighed_244 (fun c_244 => ?_) (fun c_244 => ?_)
                    · exact absurd c_244 (by omega)
                    · refine ga_aload_n ok 1 rfl rfl dL_weighed_247 ?_
                      refine ga_iload_n ok 2 rfl rfl dL_weighed_248 ?_
                      refine ga_iload ok rfl dL_weighed_249 ?_
                      refine ga_iconst ok dL_weighed_251 ?_
                      refine gl_callT ok0 hG hS [.ref 0, vI n, vI x, vI 0] lw_L_234 hX2.h40 (fun G9 hG9 hS9 => w_bits ok0.fl hG9 hS9 hX2 (by omega) (by omega) (by omega) (by omega)) rfl (by rw [hR]; exact ⟨by decide, by decide, by simp only [RM]; omega, by simp only [RM]; omega⟩) (Nat.le_of_ble_eq_true rfl) dL_weighed_252 (fun r9 m1 hq9 => ?_)
                      obtain ⟨rfl, hm9⟩ := hq9
                      subst m1
                      simp only [Option.toList_some, List.singleton_append]
                      rw [er2, show q_bits g.r n x = fword (fq (mg c x)) from by unfold q_bits; rw [if_pos hn1, hc]; exact if_pos (by omega)]
                      refine ga_iload ok rfl dL_weighed_255 ?_
                      refine ga_icmp_ne ok 303 (by decide) hfw hfw dL_weighed_257 (fun c_257 => ?_) (fun c_257 => ?_)
                      · exact absurd rfl c_257
                      · refine ga_aload_n ok 1 rfl rfl dL_weighed_260 ?_
                        refine ga_iload_n ok 2 rfl rfl dL_weighed_261 ?_
                        refine ga_iload ok rfl dL_weighed_262 ?_
                        refine ga_iconst ok dL_weighed_264 ?_
                        refine gl_callT ok0 hG hS [.ref 0, vI n, vI x, vI 1] lw_L_234 hX2.h40 (fun G9 hG9 hS9 => w_bits ok0.fl hG9 hS9 hX2 (by omega) (by omega) (by omega) (by omega)) rfl (by rw [hR]; exact ⟨by decide, by decide, by simp only [RM]; omega, by simp only [RM]; omega⟩) (Nat.le_of_ble_eq_true rfl) dL_weighed_265 (fun r9 m1 hq9 => ?_)
                        obtain ⟨rfl, hm9⟩ := hq9
                        subst m1
                        simp only [Option.toList_some, List.singleton_append]
                        rw [er2, show q_bits g.r n x = fword (fq (mg c x)) from by unfold q_bits; rw [if_pos hn1, hc]; exact if_pos (by omega)]
                        refine ga_iload ok rfl dL_weighed_268 ?_
                        refine ga_icmp_ne ok 303 (by decide) hfw hfw dL_weighed_270 (fun c_270 => ?_) (fun c_270 => ?_)
                        · exact absurd rfl c_270
                        · refine ga_aload_n ok 1 rfl rfl dL_weighed_273 ?_
                          refine ga_iload_n ok 2 rfl rfl dL_weighed_274 ?_
                          refine ga_iload ok rfl dL_weighed_275 ?_
                          refine gl_callT ok0 hG hS [.ref 0, vI n, vI x] lw_L_238 hX2.h40 (fun G9 hG9 hS9 => w_letsIn ok0.fl hG9 hS9 hX2 (by omega) (by omega) (by omega)) rfl (by rw [hR]; exact ⟨by decide, by decide, by simp only [RM]; omega, by simp only [RM]; omega⟩) (Nat.le_of_ble_eq_true rfl) dL_weighed_277 (fun r9 m1 hq9 => ?_)
                          obtain ⟨rfl, hm9⟩ := hq9
                          subst m1
                          simp only [Option.toList_some, List.singleton_append]
                          rw [er2, show q_letsIn g.r n x = b2i (adm c x) from by unfold q_letsIn; rw [if_pos hn1, hc]; exact if_pos (by omega)]
                          refine ga_aload_n ok 3 rfl rfl dL_weighed_280 ?_
                          refine ga_iload ok rfl dL_weighed_281 ?_
                          refine gl_callL ok0 [.ref (RAW + q), vI x] lk_L_183 (c_L_margin ok0.fl hS hmem hcb (by omega)) rfl (by rw [hR]; exact ⟨by decide, by decide, by simp only [RM]; omega, by simp only [RM]; omega⟩) (Nat.le_of_ble_eq_true rfl) dL_weighed_283 (fun r9 m9 X9 hq9 => ?_)
                          obtain ⟨rfl, hm9, hxs⟩ := hq9
                          subst m9
                          subst X9
                          simp only [Option.toList_some, List.singleton_append]
                          rw [show mg f x = mg c x from mgA_cong x 10 (by omega) hfc]
                          refine ga_fconst0 ok dL_weighed_286 ?_
                          refine ga_fcmp ok dL_weighed_287 (fq_cmpz0 hmz) ?_
                          refine ga_if_le ok 295 (by decide) (cmpz_rng _ _) dL_weighed_288 (fun c_288 => ?_) (fun c_288 => ?_)
                          · refine ga_iconst ok dL_weighed_295 ?_
                            refine ga_icmp_ne ok 303 (by decide) (b2i_rng _) (by omega) dL_weighed_296 (fun c_296 => ?_) (fun c_296 => ?_)
                            · exact absurd (show b2i (adm c x) = 0 from b2i_0.mpr (decide_eq_false (by have := cmpz_le.mp c_288; omega))) c_296
                            · refine ga_iconst ok dL_weighed_299 ?_
                              refine ga_goto ok 304 (by decide) dL_weighed_300 ?_
                              refine ga_istore ok hn5 dL_weighed_304 ?_
                              refine ga_iinc ok rfl hn6 dL_weighed_306 ?_
                              refine ga_goto ok 205 (by decide) dL_weighed_309 ?_
                              refine WA.wd (k2 := 600 * n.toNat + 480 + 6 * (i + 1).toNat) (n2 := 40000 * n.toNat + 34700 + 50 * (i + 1).toNat) (by first | omega | (simp only [RM]; omega)) (by first | omega | (simp only [RM]; omega)) ?_
                              exact WA.re (by exact ⟨rfl, rfl, rfl, rfl, rfl, rfl, trivial⟩) (loopC (i + 1) (by omega) (by omega))
                          · refine ga_iconst ok dL_weighed_291 ?_
                            refine ga_goto ok 296 (by decide) dL_weighed_292 ?_
                            refine ga_icmp_ne ok 303 (by decide) (b2i_rng _) (by omega) dL_weighed_296 (fun c_296 => ?_) (fun c_296 => ?_)
                            · exact absurd (show b2i (adm c x) = 1 from b2i_1.mpr (decide_eq_true (cmpz_gt.mp (by omega)))) c_296
                            · refine ga_iconst ok dL_weighed_299 ?_
                              refine ga_goto ok 304 (by decide) dL_weighed_300 ?_
                              refine ga_istore ok hn5 dL_weighed_304 ?_
                              refine ga_iinc ok rfl hn6 dL_weighed_306 ?_
                              refine ga_goto ok 205 (by decide) dL_weighed_309 ?_
                              refine WA.wd (k2 := 600 * n.toNat + 480 + 6 * (i + 1).toNat) (n2 := 40000 * n.toNat + 34700 + 50 * (i + 1).toNat) (by first | omega | (simp only [RM]; omega)) (by first | omega | (simp only [RM]; omega)) ?_
                              exact WA.re (by exact ⟨rfl, rfl, rfl, rfl, rfl, rfl, trivial⟩) (loopC (i + 1) (by omega) (by omega))
                refine WA.wd (k2 := 600 * n.toNat + 480 + 6 * (0 : Int).toNat) (n2 := 40000 * n.toNat + 34700 + 50 * (0 : Int).toNat) (by first | omega | (simp only [RM]; omega)) (by first | omega | (simp only [RM]; omega)) ?_
                exact WA.re (by exact ⟨rfl, rfl, rfl, rfl, rfl, rfl, trivial⟩) (loopC 0 (by omega))
              · have c_165 : i < (N : Int) := by omega
                refine ga_iload ok rfl dL_weighed_168 ?_
                refine ga_if_eq ok 202 (by decide) (by omega) dL_weighed_170 (fun c_170 => ?_) (fun c_170 => ?_)
                · exact absurd c_170 (by omega)
                · refine ga_aload_n ok 1 rfl rfl dL_weighed_173 ?_
                  refine ga_iload ok rfl dL_weighed_174 ?_
                  refine gl_callT ok0 hG hS [.ref 0, vI i] lw_L_232 hX2.h40 (fun G9 hG9 hS9 => w_character ok0.fl hG9 hS9 hX2 (by omega) (by omega)) rfl (by rw [hR]; exact ⟨by decide, by decide, by simp only [RM]; omega, by simp only [RM]; omega⟩) (Nat.le_of_ble_eq_true rfl) dL_weighed_176 (fun r9 m1 hq9 => ?_)
                  obtain ⟨rfl, hm9⟩ := hq9
                  subst m1
                  simp only [Option.toList_some, List.singleton_append]
                  rw [show q_character g2 i = t i.toNat from by unfold q_character; rw [if_pos (by rw [hnn2]; omega), hln2, ← hE.2 i.toNat (by omega)]]
                  refine ga_aload ok rfl dL_weighed_179 ?_
                  refine ga_iload ok rfl dL_weighed_181 ?_
                  refine gl_callStr ok0 hS hX2.h40 hsin [vI i] lv_L_132 rfl (fun x h => Or.inl ⟨_, List.mem_singleton.mp h⟩) (fun G9 hS9 h9 => c_J0_charAt ok0.fl trivial hS9 h9 ⟨hi.1, c_165⟩) rfl (by rw [hR]; exact ⟨by decide, by decide, by simp only [RM]; omega, by simp only [RM]; omega⟩) (Nat.le_of_ble_eq_true rfl) dL_weighed_183 ?_
                  have hti := hsin.1.2 i.toNat (by omega)
                  refine ga_icmp_ne ok 193 (by decide) (by omega) (by omega) dL_weighed_186 (fun c_186 => ?_) (fun c_186 => ?_)
                  · exact absurd rfl c_186
                  · refine ga_iconst ok dL_weighed_189 ?_
                    refine ga_goto ok 194 (by decide) dL_weighed_190 ?_
                    refine ga_istore ok hn5 dL_weighed_194 ?_
                    refine ga_iinc ok rfl hn6 dL_weighed_196 ?_
                    refine ga_goto ok 158 (by decide) dL_weighed_199 ?_
                    refine WA.wd (k2 := 600 * n.toNat + 320 + 2 * (i + 1).toNat) (n2 := 40000 * n.toNat + 34000 + 8 * (i + 1).toNat) (by first | omega | (simp only [RM]; omega)) (by first | omega | (simp only [RM]; omega)) ?_
                    exact WA.re (by exact ⟨rfl, rfl, rfl, rfl, rfl, rfl, rfl, trivial⟩) (loopB (i + 1) (by omega) (by omega))
            refine WA.wd (k2 := 600 * n.toNat + 320 + 2 * (0 : Int).toNat) (n2 := 40000 * n.toNat + 34000 + 8 * (0 : Int).toNat) (by first | omega | (simp only [RM]; omega)) (by first | omega | (simp only [RM]; omega)) ?_
            exact WA.re (by exact ⟨rfl, rfl, rfl, rfl, rfl, rfl, rfl, trivial⟩) (loopB 0 (by omega))
        · have hsin0 : SIN G (STX G s v t N ++ ((q, iA G 11 f) :: Xs)) s v t N := ⟨hT, Or.inl (fun x h => List.mem_append_left _ h)⟩
          have hNb := (gLn_2 c (b.toNat + 1))
          have hNe : (N : Int) = (gLn c (b.toNat + 1)).2 := hE.1
          refine gl_newSB ok0 hS (hg.at ok0).2.2 cl_SB ci_SB cn_SB li_L_213 (by rw [hR]; first | omega | (simp only [RM]; omega)) (by rw [hR]; first | omega | (simp only [RM]; omega)) (by rw [hR]; exact ⟨by decide, by decide⟩) (Nat.le_of_ble_eq_true rfl) dL_weighed_50 dL_weighed_53 dL_weighed_54 (fun a20 => ?_)
          obtain ⟨M20, hM20⟩ : ∃ M, M = m00 ((a20 + 1 : Nat) : Int) := ⟨_, rfl⟩
          have hb20 : BLs M20 ln0 := by rw [hM20]; exact m00_bls _ (by omega)
          rw [← hM20]
          obtain ⟨Q20, hQ20⟩ : ∃ Q, Q = ln0 := ⟨_, rfl⟩
          rw [← hQ20] at hb20
          have hl20 : LnOk Q20 := by rw [hQ20]; exact LnOk.z
          have hs20 : Q20.2 = 0 := by rw [hQ20]; rfl
          refine ga_aload ok rfl dL_weighed_57 ?_
          refine gl_callSB ok0 hS [.ref (RAW + s)] [(s, v, t, N)] lv_L_216 rfl hb20.2.1 (fun x h => Or.inr ⟨_, List.mem_singleton.mp h⟩) (fun x h => by rw [List.mem_singleton.mp h]; exact hsin0) (fun G9 hS9 hd9 h9 => c_J4_appendS (s := s) (v := v) (t := t) (N := N) ok0.fl trivial hS9 (h9 _ (List.mem_singleton.mpr rfl)) hd9 hb20 (by omega)) rfl (by rw [hR]; exact ⟨by decide, by decide, by simp only [RM]; omega, by simp only [RM]; omega⟩) (Nat.le_of_ble_eq_true rfl) dL_weighed_59 (fun M21 hb21 => ?_)
          replace hb21 := hb21.1
          have hl21 := hl20.cat (t := t) (N := N) (hsin0).1.2
          obtain ⟨Q21, hQ21⟩ : ∃ Q, Q = catL Q20 (t) ((N : Nat) : Int) := ⟨_, rfl⟩
          rw [show catL Q20 (t) ((N : Nat) : Int) = Q21 from hQ21.symm] at hb21 hl21
          have hs21 : Q21.2 = Q20.2 + N := by rw [hQ21]; rfl
          refine ga_iload ok rfl dL_weighed_62 ?_
          refine ga_if_ge ok 72 (by decide) (by omega) dL_weighed_64 (fun c_64 => ?_) (fun c_64 => ?_)
          · refine gl_newSB ok0 hS (hg.at ok0).2.2 cl_SB ci_SB cn_SB li_L_213 (by rw [hR]; first | omega | (simp only [RM]; omega)) (by rw [hR]; first | omega | (simp only [RM]; omega)) (by rw [hR]; exact ⟨by decide, by decide⟩) (Nat.le_of_ble_eq_true rfl) dL_weighed_72 dL_weighed_75 dL_weighed_76 (fun a30 => ?_)
            obtain ⟨M30, hM30⟩ : ∃ M, M = m00 ((a30 + 1 : Nat) : Int) := ⟨_, rfl⟩
            have hb30 : BLs M30 ln0 := by rw [hM30]; exact m00_bls _ (by omega)
            rw [← hM30]
            obtain ⟨Q30, hQ30⟩ : ∃ Q, Q = ln0 := ⟨_, rfl⟩
            rw [← hQ30] at hb30
            have hl30 : LnOk Q30 := by rw [hQ30]; exact LnOk.z
            have hs30 : Q30.2 = 0 := by rw [hQ30]; rfl
            refine gl_ldcS ok0 hS rfl hg.1 1 (q := litL[1]) rfl dL_weighed_79 ?_
            refine gl_callSB ok0 hS [.ref (RAW + la 1)] [(la 1, lv 1, lch [32], 1)] lv_L_216 rfl hb30.2.1 (fun x h => Or.inr ⟨_, List.mem_singleton.mp h⟩) (fun x h => by rw [List.mem_singleton.mp h]; exact (show SIN G _ (la 1) (lv 1) (lch [32]) 1 from hg.1.sin (i := 1) rfl)) (fun G9 hS9 hd9 h9 => c_J4_appendS (s := la 1) (v := lv 1) (t := lch [32]) (N := 1) ok0.fl trivial hS9 (h9 _ (List.mem_singleton.mpr rfl)) hd9 hb30 (by omega)) rfl (by rw [hR]; exact ⟨by decide, by decide, by simp only [RM]; omega, by simp only [RM]; omega⟩) (Nat.le_of_ble_eq_true rfl) dL_weighed_81 (fun M31 hb31 => ?_)
            replace hb31 := hb31.1
            have hl31 := hl30.cat (t := lch [32]) (N := 1) ((show SIN G [] (la 1) (lv 1) (lch [32]) 1 from hg.1.sin (i := 1) rfl)).1.2
            obtain ⟨Q31, hQ31⟩ : ∃ Q, Q = catL Q30 (lch [32]) ((1 : Nat) : Int) := ⟨_, rfl⟩
            rw [show catL Q30 (lch [32]) ((1 : Nat) : Int) = Q31 from hQ31.symm] at hb31 hl31
            have hs31 : Q31.2 = Q30.2 + 1 := by rw [hQ31]; rfl
            refine ga_aload_n ok 3 rfl rfl dL_weighed_84 ?_
            refine ga_iload ok rfl dL_weighed_85 ?_
            refine ga_iconst ok dL_weighed_87 ?_
            refine ga_iadd ok dL_weighed_88 ?_
            refine gl_iald (N := 11) (f := f) ok0 hS (List.mem_append_right _ (List.mem_append_right _ (List.mem_append_right _ hmem))) (by decide) (by omega) dL_weighed_89 ?_
            rw [show f (b + 1).toNat = c (b + 1).toNat from hfc _ (by omega)]
            refine gl_callSB ok0 hS [vI (c (b + 1).toNat)] [] lv_L_219 rfl hb31.2.1 (fun x h => Or.inl ⟨_, List.mem_singleton.mp h⟩) (fun x h => absurd h List.not_mem_nil) (fun G9 hS9 hd9 h9 => c_J4_appendI ok0.fl trivial hS9 hb31 (by have := hcB (b + 1).toNat (by omega); omega) (by omega)) rfl (by rw [hR]; exact ⟨by decide, by decide, by simp only [RM]; omega, by simp only [RM]; omega⟩) (Nat.le_of_ble_eq_true rfl) dL_weighed_90 (fun M32 hb32 => ?_)
            replace hb32 := hb32.1
            have hl32 := hl31.num (v := (c (b + 1).toNat))
            have hs32 := numL_2 Q31 (c (b + 1).toNat)
            obtain ⟨Q32, hQ32⟩ : ∃ Q, Q = numL Q31 (c (b + 1).toNat) := ⟨_, rfl⟩
            rw [← hQ32] at hb32 hl32 hs32
            obtain ⟨N32, hN32⟩ : ∃ N : Nat, Q32.2 = N := ⟨Q32.2.toNat, by have := hl32.1; omega⟩
            refine gl_takeSB ok0 hS hb32 hN32 (by omega) lv_L_222 (by rw [hR]; exact ⟨by decide, by decide, by simp only [RM]; omega, by simp only [RM]; omega⟩) (Nat.le_of_ble_eq_true rfl) dL_weighed_93 (fun s32 v32 t32 ht32 => ?_)
            have hT32 := hl32.sin hN32 (by omega) ht32
            refine WA.comm ?_
            refine gl_callSB ok0 hS [.ref (RAW + s32)] [(s32, v32, t32, N32)] lv_L_216 rfl hb21.2.1 (fun x h => Or.inr ⟨_, List.mem_singleton.mp h⟩) (fun x h => by rw [List.mem_singleton.mp h]; exact (show SIN G (STX G s32 v32 t32 N32 ++ (STX G s v t N ++ ((q, iA G 11 f) :: Xs))) s32 v32 t32 N32 from ⟨hT32, Or.inl (fun x h => List.mem_append_left _ h)⟩)) (fun G9 hS9 hd9 h9 => c_J4_appendS (s := s32) (v := v32) (t := t32) (N := N32) ok0.fl trivial hS9 (h9 _ (List.mem_singleton.mpr rfl)) hd9 hb21 (by omega)) rfl (by rw [hR]; exact ⟨by decide, by decide, by simp only [RM]; omega, by simp only [RM]; omega⟩) (Nat.le_of_ble_eq_true rfl) dL_weighed_96 (fun M22 hb22 => ?_)
            replace hb22 := hb22.1
            have hl22 := hl21.cat (t := t32) (N := N32) ((show SIN G (STX G s32 v32 t32 N32 ++ (STX G s v t N ++ ((q, iA G 11 f) :: Xs))) s32 v32 t32 N32 from ⟨hT32, Or.inl (fun x h => List.mem_append_left _ h)⟩)).1.2
            obtain ⟨Q22, hQ22⟩ : ∃ Q, Q = catL Q21 (t32) ((N32 : Nat) : Int) := ⟨_, rfl⟩
            rw [show catL Q21 (t32) ((N32 : Nat) : Int) = Q22 from hQ22.symm] at hb22 hl22
            have hs22 : Q22.2 = Q21.2 + N32 := by rw [hQ22]; rfl
            obtain ⟨N22, hN22⟩ : ∃ N : Nat, Q22.2 = N := ⟨Q22.2.toNat, by have := hl22.1; omega⟩
            refine gl_takeSB ok0 hS hb22 hN22 (by omega) lv_L_222 (by rw [hR]; exact ⟨by decide, by decide, by simp only [RM]; omega, by simp only [RM]; omega⟩) (Nat.le_of_ble_eq_true rfl) dL_weighed_99 (fun s22 v22 t22 ht22 => ?_)
            have hT22 := hl22.sin hN22 (by omega) ht22
            have hE2 : EqL (t22, (N22 : Int)) (gLn c ((b + 1).toNat + 1)) := by
              have e := take_eq hN22 ht22
              have e3 := take_eq hN32 ht32
              rw [hQ32, hQ31, hQ30] at e3
              rw [hQ22, hQ21, hQ20] at e
              rw [gLn_s (c := c) (k := (b + 1).toNat) (by omega)]
              rw [show b.toNat + 1 = (b + 1).toNat by omega] at hE
              exact e.tr (txt_step hE (gLn_2 c _).1 e3)
            refine WA.mid ?_
            refine WA.mid ?_
            refine ga_astore ok hn4 dL_weighed_102 ?_
            refine ga_aload_n ok 1 rfl rfl dL_weighed_104 ?_
            refine ga_iload_n ok 2 rfl rfl dL_weighed_105 ?_
            refine ga_iload ok rfl dL_weighed_106 ?_
            refine gl_callT ok0 hG hS [.ref 0, vI n, vI b] lw_L_228 hX1.h40 (fun G9 hG9 hS9 => w_weightBits ok0.fl hG9 hS9 hX1 (by omega) (by omega) (by omega)) rfl (by rw [hR]; exact ⟨by decide, by decide, by simp only [RM]; omega, by simp only [RM]; omega⟩) (Nat.le_of_ble_eq_true rfl) dL_weighed_108 (fun r9 m1 hq9 => ?_)
            obtain ⟨rfl, hm9⟩ := hq9
            subst m1
            simp only [Option.toList_some, List.singleton_append]
            rw [er, show q_weightBits g.r n b = fword (fq (c (b + 1).toNat)) from by unfold q_weightBits; rw [if_pos hn1, hc]; exact if_pos (by omega)]
            refine ga_aload_n ok 3 rfl rfl dL_weighed_111 ?_
            refine ga_iload ok rfl dL_weighed_112 ?_
            refine ga_iconst ok dL_weighed_114 ?_
            refine ga_iadd ok dL_weighed_115 ?_
            refine gl_iald (N := 11) (f := f) ok0 hS (List.mem_append_right _ hmem) (by decide) (by omega) dL_weighed_116 ?_
            rw [show f (b + 1).toNat = c (b + 1).toNat from hfc _ (by omega)]
            refine ga_i2f ok dL_weighed_117 ?_
            refine ga_ldcf (z := 1115684864) ok dL_weighed_118 (tb_in 819 (by decide +kernel) (by decide +kernel)) ?_
            refine ga_fdiv ok dL_weighed_120 (n32_of (by rw [fq_d]; exact fq_nan (cB24' hcB (by omega)))) ?_
            refine gd_J_1 ok lj_L_44 (c_Jf_bits ok0.fl hG (by rw [fq_d]; exact fq_nan (cB24' hcB (by omega)))) (by rw [hR]; exact ⟨by decide, by decide, by simp only [RM]; omega, by simp only [RM]; omega⟩) (Nat.le_of_ble_eq_true rfl) dL_weighed_121 ?_
            rw [fq_d]
            have hfw := fword_rng (fq (c (b + 1).toNat))
            refine ga_icmp_eq ok 129 (by decide) hfw hfw dL_weighed_124 (fun c_124 => ?_) (fun c_124 => ?_)
            · refine ga_iinc ok rfl hn5 dL_weighed_129 ?_
              refine ga_goto ok 43 (by decide) dL_weighed_132 ?_
              refine WA.wd (k2 := 600 * n.toNat + 40 + 20 * (b + 1 + 1).toNat) (n2 := 40000 * n.toNat + 1300 + 2100 * (b + 1 + 1).toNat) (by first | omega | (simp only [RM]; omega)) (by first | omega | (simp only [RM]; omega)) ?_
              exact WA.re (by exact ⟨rfl, rfl, rfl, rfl, rfl, rfl, trivial⟩) (loopA (b + 1) s22 v22 N22 t22 ⟨by omega, hT22, hE2⟩ (by omega))
            · exact absurd rfl c_124
          · refine gl_ldcS ok0 hS rfl hg.1 0 (q := litL[0]) rfl dL_weighed_67 ?_
            refine ga_goto ok 96 (by decide) dL_weighed_69 ?_
            refine gl_callSB ok0 hS [.ref (RAW + la 0)] [(la 0, lv 0, lch [], 0)] lv_L_216 rfl hb21.2.1 (fun x h => Or.inr ⟨_, List.mem_singleton.mp h⟩) (fun x h => by rw [List.mem_singleton.mp h]; exact (show SIN G _ (la 0) (lv 0) (lch []) 0 from hg.1.sin (i := 0) rfl)) (fun G9 hS9 hd9 h9 => c_J4_appendS (s := la 0) (v := lv 0) (t := lch []) (N := 0) ok0.fl trivial hS9 (h9 _ (List.mem_singleton.mpr rfl)) hd9 hb21 (by omega)) rfl (by rw [hR]; exact ⟨by decide, by decide, by simp only [RM]; omega, by simp only [RM]; omega⟩) (Nat.le_of_ble_eq_true rfl) dL_weighed_96 (fun M22 hb22 => ?_)
            replace hb22 := hb22.1
            have hl22 := hl21.cat (t := lch []) (N := 0) ((show SIN G [] (la 0) (lv 0) (lch []) 0 from hg.1.sin (i := 0) rfl)).1.2
            obtain ⟨Q22, hQ22⟩ : ∃ Q, Q = catL Q21 (lch []) ((0 : Nat) : Int) := ⟨_, rfl⟩
            rw [show catL Q21 (lch []) ((0 : Nat) : Int) = Q22 from hQ22.symm] at hb22 hl22
            have hs22 : Q22.2 = Q21.2 + 0 := by rw [hQ22]; rfl
            obtain ⟨N22, hN22⟩ : ∃ N : Nat, Q22.2 = N := ⟨Q22.2.toNat, by have := hl22.1; omega⟩
            refine gl_takeSB ok0 hS hb22 hN22 (by omega) lv_L_222 (by rw [hR]; exact ⟨by decide, by decide, by simp only [RM]; omega, by simp only [RM]; omega⟩) (Nat.le_of_ble_eq_true rfl) dL_weighed_99 (fun s22 v22 t22 ht22 => ?_)
            have hT22 := hl22.sin hN22 (by omega) ht22
            have hE2 : EqL (t22, (N22 : Int)) (gLn c ((b + 1).toNat + 1)) := by
              have e := take_eq hN22 ht22
              rw [hQ22, hQ21, hQ20] at e
              rw [show (b + 1).toNat + 1 = b.toNat + 1 by omega]
              exact e.tr (txt_same hE)
            refine WA.mid ?_
            refine ga_astore ok hn4 dL_weighed_102 ?_
            refine ga_aload_n ok 1 rfl rfl dL_weighed_104 ?_
            refine ga_iload_n ok 2 rfl rfl dL_weighed_105 ?_
            refine ga_iload ok rfl dL_weighed_106 ?_
            refine gl_callT ok0 hG hS [.ref 0, vI n, vI b] lw_L_228 hX1.h40 (fun G9 hG9 hS9 => w_weightBits ok0.fl hG9 hS9 hX1 (by omega) (by omega) (by omega)) rfl (by rw [hR]; exact ⟨by decide, by decide, by simp only [RM]; omega, by simp only [RM]; omega⟩) (Nat.le_of_ble_eq_true rfl) dL_weighed_108 (fun r9 m1 hq9 => ?_)
            obtain ⟨rfl, hm9⟩ := hq9
            subst m1
            simp only [Option.toList_some, List.singleton_append]
            rw [er, show q_weightBits g.r n b = fword (fq (c (b + 1).toNat)) from by unfold q_weightBits; rw [if_pos hn1, hc]; exact if_pos (by omega)]
            refine ga_aload_n ok 3 rfl rfl dL_weighed_111 ?_
            refine ga_iload ok rfl dL_weighed_112 ?_
            refine ga_iconst ok dL_weighed_114 ?_
            refine ga_iadd ok dL_weighed_115 ?_
            refine gl_iald (N := 11) (f := f) ok0 hS (List.mem_append_right _ hmem) (by decide) (by omega) dL_weighed_116 ?_
            rw [show f (b + 1).toNat = c (b + 1).toNat from hfc _ (by omega)]
            refine ga_i2f ok dL_weighed_117 ?_
            refine ga_ldcf (z := 1115684864) ok dL_weighed_118 (tb_in 819 (by decide +kernel) (by decide +kernel)) ?_
            refine ga_fdiv ok dL_weighed_120 (n32_of (by rw [fq_d]; exact fq_nan (cB24' hcB (by omega)))) ?_
            refine gd_J_1 ok lj_L_44 (c_Jf_bits ok0.fl hG (by rw [fq_d]; exact fq_nan (cB24' hcB (by omega)))) (by rw [hR]; exact ⟨by decide, by decide, by simp only [RM]; omega, by simp only [RM]; omega⟩) (Nat.le_of_ble_eq_true rfl) dL_weighed_121 ?_
            rw [fq_d]
            have hfw := fword_rng (fq (c (b + 1).toNat))
            refine ga_icmp_eq ok 129 (by decide) hfw hfw dL_weighed_124 (fun c_124 => ?_) (fun c_124 => ?_)
            · refine ga_iinc ok rfl hn5 dL_weighed_129 ?_
              refine ga_goto ok 43 (by decide) dL_weighed_132 ?_
              refine WA.wd (k2 := 600 * n.toNat + 40 + 20 * (b + 1 + 1).toNat) (n2 := 40000 * n.toNat + 1300 + 2100 * (b + 1 + 1).toNat) (by first | omega | (simp only [RM]; omega)) (by first | omega | (simp only [RM]; omega)) ?_
              exact WA.re (by exact ⟨rfl, rfl, rfl, rfl, rfl, rfl, trivial⟩) (loopA (b + 1) s22 v22 N22 t22 ⟨by omega, hT22, hE2⟩ (by omega))
            · exact absurd rfl c_124
      refine WA.wd (k2 := 600 * n.toNat + 40 + 20 * ((-1 : Int) + 1).toNat) (n2 := 40000 * n.toNat + 1300 + 2100 * ((-1 : Int) + 1).toNat) (by first | omega | (simp only [RM]; omega)) (by first | omega | (simp only [RM]; omega)) ?_
      exact WA.re (by exact ⟨rfl, rfl, rfl, rfl, rfl, rfl, trivial⟩) (loopA (-1) s2 v2 N2 t2 ⟨by omega, hT2, hE0⟩)
  exact WA.wd (Nat.le_refl _) (Nat.le_refl _) (WA.re (by exact ⟨rfl, rfl, rfl, trivial⟩) (loopG 0 m g ⟨by omega, hX, rfl, rfl⟩))
