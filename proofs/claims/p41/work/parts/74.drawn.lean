/-! DRAWN: guards who are taught visitors -/
def Cb (C : Int) (S : Nat → Int) : Prop := (0 ≤ S 0 ∧ S 0 ≤ 64) ∧ ∀ i, i < 11 → -C ≤ S (6 + i) ∧ S (6 + i) ≤ C
theorem Cb.mono {C C' : Int} {S : Nat → Int} (h : Cb C S) (hC : C ≤ C') : Cb C' S := ⟨h.1, fun i hi => by have := h.2 i hi; omega⟩
theorem Cb.dl {C : Int} {S : Nat → Int} (h : Cb C S) (F : Int) : -64 ≤ dlt S F ∧ dlt S F ≤ 64 := by
  have := h.1
  unfold dlt
  split <;> omega
theorem Cb.tok {C : Int} {S : Nat → Int} (h : Cb C S) (hC : C + 64 ≤ 60000) (x F : Int) : tOK S x F = true := by
  unfold tOK
  rw [Bool.or_eq_true]
  refine Or.inr (rok_t.mpr (fun i hi _ => ?_))
  have h1 : -C ≤ gcn S i ∧ gcn S i ≤ C := h.2 i hi
  have h2 := h.dl F
  omega
theorem Cb.ts {C : Int} {S : Nat → Int} (h : Cb C S) (x F : Int) : Cb (C + 64) (tS S x F) := by
  have h2 := h.dl F
  refine ⟨?_, fun i hi => ?_⟩
  · have e : tS S x F 0 = S 0 := by
      unfold tS
      rw [if_neg (by omega)]
      split
      · rw [if_neg (by omega), if_neg (by omega)]
      · rfl
    rw [e]
    exact h.1
  · have h1 := h.2 i hi
    unfold tS
    rw [if_neg (by omega)]
    split
    · rw [if_neg (by omega)]
      split
      · omega
      · omega
    · omega
theorem Cb.lp {C : Int} {S X F : Nat → Int} (h : Cb C S) : ∀ n : Nat, C + 64 * n ≤ 60000 → lpOK S X F n = true ∧ Cb (C + 64 * n) (lpS S X F n)
  | 0, _ => ⟨rfl, h.mono (by omega)⟩
  | n + 1, hn => by
    obtain ⟨h1, h2⟩ := Cb.lp h n (by omega)
    refine ⟨?_, ?_⟩
    · simp only [lpOK]
      rw [h1, h2.tok (by omega)]
      rfl
    · simp only [lpS]
      exact (h2.ts _ _).mono (by omega)
theorem Cb.es {C p : Int} {S : Nat → Int} (h : Cb C S) : Cb C (eS S p) := by
  refine ⟨?_, fun i hi => ?_⟩
  · have e : eS S p 0 = S 0 := by
      unfold eS
      rw [if_neg (by omega), if_neg (by omega), if_neg (by omega)]
    rw [e]
    exact h.1
  · have e : eS S p (6 + i) = S (6 + i) := by
      unfold eS
      rw [if_neg (by omega), if_neg (by omega), if_neg (by omega)]
    rw [e]
    exact h.2 i hi
theorem Cb.run {X F : Nat → Int} {n : Nat} (hn : n ≤ 12) : ∀ (f : Nat) (S : Nat → Int) (d C : Int), Cb C S → C + 768 * f ≤ 60000 → ∃ d' S', dRun X F n f S d = some (d', S') ∧ Cb (C + 768 * f) S'
  | 0, S, d, C, h, _ => ⟨d, S, rfl, h.mono (by omega)⟩
  | f + 1, S, d, C, h, hC => by
    obtain ⟨h1, h2⟩ := h.lp (X := X) (F := F) n (by omega)
    have h3 : Cb (C + 768) (dS S X F n) := (show Cb (C + 64 * n) (dS S X F n) from h2.es).mono (by omega)
    simp only [dRun]
    rw [if_pos h1]
    by_cases e : lpC S X F n = 0
    · rw [if_pos e]
      exact ⟨_, _, rfl, h3.mono (by omega)⟩
    · rw [if_neg e]
      obtain ⟨d', S', h4, h5⟩ := Cb.run hn f (dS S X F n) (d + 1) (C + 768) h3 (by omega)
      exact ⟨d', S', h4, h5.mono (by omega)⟩
def GB (C : Int) (r : Nat → Int) : Prop := ∀ u : Nat, (u : Int) < r 0 → Cb C (rg r u)
theorem GB.mono {C C' : Int} {r : Nat → Int} (h : GB C r) (hC : C ≤ C') : GB C' r := fun u hu => (h u hu).mono hC
theorem Cb.cg {C : Int} {S S' : Nat → Int} (h : Cb C S) (e : ∀ k, k < 27 → S' k = S k) : Cb C S' := ⟨by rw [e 0 (by omega)]; exact h.1, fun i hi => by rw [e (6 + i) (by omega)]; exact h.2 i hi⟩
theorem GB.st {C : Int} {r S : Nat → Int} {n : Nat} (h : GB C r) (hS : Cb C S) : GB C (stG r n S) := by
  intro u hu
  rw [lo_stG (by omega)] at hu
  by_cases e : u = n
  · exact hS.cg (fun k hk => by rw [rg_stG hk, if_pos e])
  · exact (h u hu).cg (fun k hk => by rw [rg_stG hk, if_neg e])
theorem wr_0 {z : Int} {X : Gm} : wr (0, z, X) = z := if_pos rfl
theorem wr_2 {X : Gm} : wr (2, 0, X) = -2 := if_neg (by show ¬ (2 : Int) = 0; decide)
theorem chG_r {g : Gm} {R : Nat → Int} : (chG g R).r = R := rfl
theorem chG_tn {g : Gm} {R : Nat → Int} : (chG g R).tn = g.tn := kpG_tn
theorem dw_guard {g : Gm} {x C : Int} (h0 : 0 ≤ g.r 0 ∧ g.r 0 < 4) (hx : 1 ≤ x ∧ x ≤ 64) (hC : 0 ≤ C) (hb : GB C g.r) : ∃ g', sp_guard g x = (0, g.r 0, g') ∧ g'.r 0 = g.r 0 + 1 ∧ g'.r 1 = g.r 1 ∧ GB C g'.r ∧ rg g'.r (g.r 0).toNat 1 = 0 ∧ g'.tn = g.tn := by
  refine ⟨chG g (adG g.r x), ?_, rfl, ?_, fun u hu => ?_, ?_, chG_tn⟩
  · unfold sp_guard
    rw [if_neg (fun h => h hx), if_neg (by omega)]
  · show adG g.r x 1 = g.r 1
    unfold adG
    rw [if_neg (by omega), if_neg (by omega)]
  · have hu : (u : Int) < g.r 0 + 1 := hu
    by_cases e : (u : Int) < g.r 0
    · exact (hb u e).cg (fun k hk => rg_adG_old e hk)
    · have e2 : u = (g.r 0).toNat := by omega
      subst e2
      refine Cb.cg (S := nS x) ?_ (fun k hk => rg_adG_new hk)
      refine ⟨?_, fun i hi => ?_⟩
      · show 0 ≤ nS x 0 ∧ nS x 0 ≤ 64
        unfold nS
        simp
        omega
      · have e3 : nS x (6 + i) = 0 := by
          unfold nS
          simp
        rw [e3]
        omega
  · show rg (adG g.r x) (g.r 0).toNat 1 = 0
    rw [rg_adG_new (by omega)]
    unfold nS
    simp
theorem dw_caution {g : Gm} {n y C : Int} (hn : 0 ≤ n ∧ n < g.r 0) (hy : 1 ≤ y ∧ y ≤ 256) (hz : rg g.r n.toNat 1 = 0) (hb : GB C g.r) : ∃ g', sp_caution g n y = (0, 0, g') ∧ g'.r 0 = g.r 0 ∧ g'.r 1 = g.r 1 ∧ GB C g'.r ∧ g'.tn = g.tn := by
  refine ⟨chG g (stG g.r n.toNat (rtS (rg g.r n.toNat) 1 y)), ?_, lo_stG (by omega), lo_stG (by omega), hb.st ?_, chG_tn⟩
  · unfold sp_caution
    rw [if_neg (fun h => h hn), if_neg (fun h => h (by omega)), if_neg (by omega), hz]
  · have h := hb n.toNat (by omega)
    refine ⟨?_, fun i hi => ?_⟩
    · show 0 ≤ rtS (rg g.r n.toNat) 1 y 0 ∧ rtS (rg g.r n.toNat) 1 y 0 ≤ 64
      unfold rtS
      rw [if_neg (by omega)]
      exact h.1
    · unfold rtS
      rw [if_neg (by omega)]
      exact h.2 i hi
theorem dw_visitor {g : Gm} {x f C : Int} (h1 : 0 ≤ g.r 1 ∧ g.r 1 ≤ 10) (hx : 1 ≤ x ∧ x ≤ 1023) (hb : GB C g.r) : ∃ (z : Int) (g' : Gm), wr (sp_visitor g x f) = z ∧ (sp_visitor g x f).2.2 = g' ∧ ((0 ≤ z ∧ z ≤ 12) ∨ (z = -2 ∧ g'.rs = 2)) ∧ g'.r 0 = g.r 0 ∧ (g.r 1 ≤ g'.r 1 ∧ g'.r 1 ≤ g.r 1 + 1) ∧ GB C g'.r ∧ g'.tn = g.tn := by
  refine ⟨_, _, rfl, rfl, ?_⟩
  unfold sp_visitor
  rw [if_neg (fun h => h hx)]
  split
  · exact ⟨Or.inr ⟨wr_2, rfl⟩, rfl, ⟨Int.le_refl _, by show g.r 1 ≤ g.r 1 + 1; omega⟩, hb, rfl⟩
  · rw [if_neg (by omega), wr_0]
    have e0 : adV g.r x f 0 = g.r 0 := by
      unfold adV
      rw [if_neg (by omega), if_neg (by omega), if_neg (by omega)]
    have e1 : adV g.r x f 1 = g.r 1 + 1 := by unfold adV; rw [if_pos rfl]
    refine ⟨Or.inl (by omega), e0, ?_, fun u hu => ?_, chG_tn⟩
    · show g.r 1 ≤ adV g.r x f 1 ∧ adV g.r x f 1 ≤ g.r 1 + 1
      rw [e1]
      omega
    · have hu : (u : Int) < adV g.r x f 0 := hu
      rw [e0] at hu
      exact (hb u hu).cg (fun k hk => rg_adV (by omega))
theorem dw_teach {g : Gm} {n v C : Int} (hn : 0 ≤ n ∧ n < g.r 0) (hv : 0 ≤ v ∧ v < g.r 1) (hC : 0 ≤ C ∧ C + 64 ≤ 60000) (hb : GB C g.r) : ∃ (z : Int) (g' : Gm), sp_teach g n v = (0, z, g') ∧ (0 ≤ z ∧ z ≤ 2147483647) ∧ g'.r 0 = g.r 0 ∧ g'.r 1 = g.r 1 ∧ GB (C + 64) g'.r ∧ g'.tn = g.tn := by
  have h := hb n.toNat (by omega)
  refine ⟨b2i (psS (rg g.r n.toNat) (vX g.r v.toNat) (vF g.r v.toNat)), chG g (stG g.r n.toNat (tS (rg g.r n.toNat) (vX g.r v.toNat) (vF g.r v.toNat))), ?_, ?_, lo_stG (by omega), lo_stG (by omega), (hb.mono (by omega)).st (h.ts _ _), chG_tn⟩
  · unfold sp_teach
    rw [if_neg (fun h9 => h9 ⟨hn, hv⟩), if_pos (h.tok (by omega) _ _)]
  · have := b2i_01 (psS (rg g.r n.toNat) (vX g.r v.toNat) (vF g.r v.toNat))
    omega
theorem dw_rn {g : Gm} {n C T : Int} {f : Nat} (hO : gtOk T g.r) (hn : 0 ≤ n ∧ n < g.r 0) (hC : C + 768 * f ≤ 60000) (hb : GB C g.r) : ∃ d S, dRun (vX g.r) (vF g.r) (g.r 1).toNat f (rg g.r n.toNat) 0 = some (d, S) ∧ Cb (C + 768 * f) S ∧ (0 ≤ d ∧ d ≤ f) ∧ (0 ≤ S 4 ∧ S 4 ≤ T + 13 * f) := by
  have h12 := hO.2.1
  obtain ⟨d, S, h1, h2⟩ := Cb.run (X := vX g.r) (F := vF g.r) (n := (g.r 1).toNat) (by omega) f (rg g.r n.toNat) 0 C (hb n.toNat (by omega)) hC
  obtain ⟨k1, k2, k3⟩ := gOk_dRun (by omega) f _ _ _ (hO.rg hn) d S h1
  exact ⟨d, S, h1, h2, by omega, k1.2.2.1 4 (by omega) (by omega)⟩
theorem dw_day {g : Gm} {n C T : Int} (hO : gtOk T g.r) (hT : T ≤ 100000000) (hn : 0 ≤ n ∧ n < g.r 0) (hv : 0 < g.r 1) (hC : 0 ≤ C ∧ C + 768 ≤ 60000) (hb : GB C g.r) : ∃ (z : Int) (g' : Gm), sp_day g n = (0, z, g') ∧ (0 ≤ z ∧ z ≤ 2147483647) ∧ g'.r 0 = g.r 0 ∧ g'.r 1 = g.r 1 ∧ GB (C + 768) g'.r ∧ g'.tn = g.tn := by
  obtain ⟨d, S, h1, h2, h3, h4⟩ := dw_rn (f := 1) hO hn (by omega) hb
  refine ⟨S 4, chG g (stG g.r n.toNat S), ?_, by omega, lo_stG (by omega), lo_stG (by omega), (hb.mono (by omega)).st (h2.mono (by omega)), chG_tn⟩
  unfold sp_day
  rw [if_neg (fun h => h hn), if_neg (by omega)]
  unfold rnD
  rw [show (1 : Int).toNat = 1 from rfl, h1]
theorem dw_days {g : Gm} {n most C T : Int} (hO : gtOk T g.r) (hT : T ≤ 100000000) (hn : 0 ≤ n ∧ n < g.r 0) (hv : 0 < g.r 1) (hm : 1 ≤ most ∧ most ≤ 4) (hC : 0 ≤ C ∧ C + 3072 ≤ 60000) (hb : GB C g.r) : ∃ (z : Int) (g' : Gm), sp_days g n most = (0, z, g') ∧ (0 ≤ z ∧ z ≤ 2147483647) ∧ g'.r 0 = g.r 0 ∧ g'.r 1 = g.r 1 ∧ GB (C + 3072) g'.r ∧ g'.tn = g.tn := by
  obtain ⟨d, S, h1, h2, h3, h4⟩ := dw_rn (f := most.toNat) hO hn (by omega) hb
  refine ⟨d, chG g (stG g.r n.toNat S), ?_, by omega, lo_stG (by omega), lo_stG (by omega), (hb.mono (by omega)).st (h2.mono (by omega)), chG_tn⟩
  unfold sp_days
  rw [if_neg (fun h => h hn), if_neg (fun h => h (by omega)), if_neg (by omega)]
  unfold rnD
  rw [h1]
/-! THE STATE AT FIRST -/
def g00 : Gm := mkG (fun _ => 0) (fun _ => 0) 0 (fun _ _ => 0) 0 0 0 (-1) (fun _ => 0) 0 (fun _ => 0) 0
theorem LWX_0 {z : Int} (hz : 0 ≤ z) : LWX 0 (m00 z) g00 := by
  have h64 : ∀ n, n ≠ 0 ∧ n ≠ 960 ∧ n ≠ 1024 → ∀ j, (m00 z).1 n j = 0 := fun n h j => m00_0 h j
  have e0 : ∀ j, j ≠ 10 → (m00 z).1 0 j = 0 := fun j h => by simp [m00, h]
  have k0 : (m00 z).1 960 0 = 0 := by simp [m00]
  have r0 : g00.r = fun _ => 0 := rfl
  have hg : gtIs (m00 z) 64 g00.r := ⟨h64 64 (by omega) 1, h64 64 (by omega) 4, fun v hv => by have hv : (v : Int) < 0 := hv; omega, fun j hj => by have hj : (j : Int) < 0 := hj; omega⟩
  have ho : gtOk 0 g00.r := ⟨by rw [r0]; decide, by rw [r0]; decide, fun v hv => by have hv : (v : Int) < 0 := hv; omega, fun j hj => by have hj : (j : Int) < 0 := hj; omega⟩
  refine ⟨⟨⟨hg, ho⟩, ⟨e0 3 (by omega), Or.inl rfl, fun h => absurd (show (0 : Int) = 1 from h) (by decide)⟩, ⟨e0 6 (by omega), by decide, by rw [e0 5 (by omega)]; decide, fun i hi => by have hi : (i : Int) < 0 := hi; omega⟩, ⟨⟨by simp [m00]; rfl, e0 11 (by omega), e0 12 (by omega)⟩, by decide, by decide, by decide⟩, ⟨h64 640 (by omega) 1, by decide, fun i hi => by have hi : (i : Int) < 0 := hi; omega⟩, ⟨k0, by decide, fun i hi => by have hi : (i : Int) < 0 := hi; omega⟩⟩, m00_bls z hz, ⟨by decide, fun i hi => by have hi : (i : Int) < 0 := hi; omega⟩⟩
theorem WA.gx0 {G : GG} {E : EE} {k n pc : Nat} {L : List (Nat × Value)} {st : List Value} {m : Mm} (w : WA (GX G []) E k n pc L st m) : WA G E k n pc L st m := fun H locs ls hW hS hl => w H locs ls (hW.xg XOK.nil) hS hl
/-! THE CONTRACT OF WHAT IS DRAWN -/
def CD (G : GG) (l : Launch) (N0 sb : Nat) (rm : Room) (Qr : Option Value → Mm → XS → Prop) : Prop :=
  Met l yL_drawn (Cond.code yL_drawn cL_drawn 10 (some (.object "GateGuards")) :: BIG) rm (va_Pc ([.ref (RAW + sb)].map (cv (g_ad G))) (fun U => SF G U ∧ AO2 U ∧ U.heap.size = N0)) (qL G Qr) rm.cells rm.slots (g_A G)
theorem blind_CD (G : GG) (N0 sb : Nat) : FrameBlind (va_Pc ([.ref (RAW + sb)].map (cv (g_ad G))) (fun U => SF G U ∧ AO2 U ∧ U.heap.size = N0)) := by
  intro a U g mk h
  obtain ⟨h1, h2, h3, h4⟩ := h
  exact ⟨h1, SF.moved (s := U) (State.WarmedH.refl U) (Nat.le_refl _) (fun q _ _ => rfl) h2, AO2.moved (State.WarmedH.refl U).alike h3, h4⟩
theorem CD.of {G : GG} {l : Launch} {N0 sb : Nat} {rm : Room} {Qr : Option Value → Mm → XS → Prop} {z : Int} (hfl : l.stackTraces = false)
    (body : ∀ E : EE, OK0 G E RL cL_drawn → AO2 (e_s E) → EndL G E rm (some (.object "GateGuards")) Qr → (e_c E).maxLocals = 10 → (e_l E) = l → (e_s E).heap.size = N0 → WB G E z N0 [] (fun _ => False) N0 0 0 0 [(0, .ref (RAW + sb))] []) : CD G l N0 sb rm Qr := by
  refine Met.ofW (cc := cL_drawn) (maxL := 10) (ret := some (.object "GateGuards")) (by decide +kernel) rfl ?_
  intro p e s m0 args below meth c s₁ B hml hP
  obtain ⟨rfl, hSF, hAO, hsz⟩ := hP
  have hts := atoms_spec (ws := Cond.code yL_drawn cL_drawn 10 (some (.object "GateGuards")) :: BIG) B.pre
  have hownc : s.vm.findClass RL = some m0.cls := findClass_of_methodNamed B.named
  have hl0 := lv_entry ([.ref (RAW + sb)].map (cv (g_ad G))) (n := 10) (by rw [sl_len]; exact Nat.le_of_ble_eq_true rfl)
  rw [lg_entry_eq]
  have hl1 : lv_has (lg_sl (List.map (cv (g_ad G)) [.ref (RAW + sb)]) ++ List.replicate (10 - (lg_sl (List.map (cv (g_ad G)) [.ref (RAW + sb)])).length) Slot.unset).toArray 10 (([(0, .ref (RAW + sb))] : List (Nat × Value)).map (cvp G)) := hl0
  obtain ⟨E, hE⟩ : ∃ E : EE, E = (p, l, e, (headSpec (Cond.code yL_drawn cL_drawn 10 (some (.object "GateGuards")) :: BIG) rm).room, s, m0, ([.ref (RAW + sb)].map (cv (g_ad G))).toArray, below, meth, c, MQ below (qL G Qr) ([.ref (RAW + sb)].map (cv (g_ad G))).toArray s rm.cells rm.slots (g_A G)) := ⟨_, rfl⟩
  have k := body E (by subst hE; exact ⟨B.exec, B.bytes, hownc, fun w hw => hts w (List.mem_cons_of_mem _ hw), hSF, hfl⟩) (by subst hE; exact hAO) (by subst hE; exact ⟨rfl, B.notSynchronized, B.returns, rfl⟩) (by subst hE; exact hml) (by subst hE; rfl) (by subst hE; exact hsz)
  have hml' : (e_c E).maxLocals = 10 := by subst hE; exact hml
  have k2 := k s.heap [] _ hsz (fun _ h => absurd h List.not_mem_nil) (fun _ h => h.elim) (fun a _ _ => by subst hE; rfl) (by subst hE; exact va_S.rf) (by rw [hml']; exact hl1)
  subst hE
  exact k2
/-- the law calls it -/
theorem wb_callD {G : GG} {E : EE} {own : String} {b : ByteArray} {k n pc : Nat} {L : List (Nat × Value)} {st : List Value} {z : Int} {N0 sb fq : Nat} {S : Nat → Prop} (ok : OK0 G E own b) (ao : AO2 (e_s E)) {index : Nat} {rm : Room} {Qr : Option Value → Mm → XS → Prop}
    (lk : LinkS own index yL_drawn cL_drawn 10 (some (.object "GateGuards")) 1) (hC : CD G (e_l E) N0 sb rm Qr) (hf : Fits (e_R E) rm 10 k n) (hw : (st.map fun v => v.category).sum ≤ 8)
    (d : decode b pc = .ok (.invokestatic index, 3))
    (kr : ∀ (r : Option Value) (m' : Mm) (Xs' : XS), Qr r m' Xs' → WA (GX G Xs') E (k + rm.cells) (n + rm.slots) (pc + 3) L (r.toList ++ st) m') : WB G E z N0 [] S fq k n pc L (.ref (RAW + sb) :: st) := by
  obtain ⟨f1, f2, f3, f4⟩ := hf
  intro H locs ls hN hU hS9 hF hS hl T hT X
  have hSA : va_S (g_A G) (e_s E).heap H locs := hS
  have hl0 : lv_has ls (e_c E).maxLocals (L.map (cvp G)) := hl
  have cw := cwS (R := e_R E) (s := e_s E) (args := e_a E) (own := own) (index := index) (y := yL_drawn) (bytes := cL_drawn) (maxL := 10) (ret := some (.object "GateGuards")) (Ts := BIG) (ws := Cond.code yL_drawn cL_drawn 10 (some (.object "GateGuards")) :: BIG) (ws' := BIG) (rm := rm) (mc := rm.cells) (ms := rm.slots) 1 ok.w (big_in (fun w hw => by
    rcases List.mem_append.mp hw with h | h
    · exact lk.1 w h
    · rcases List.mem_cons.mp h with h | h
      · rw [h]; exact lk.2.1
      · exact h)) rfl rfl rfl lk.2.2 ⟨f1, f2⟩
  have hr := va_runS (p := e_p E) (l := e_l E) (e := e_e E) (R := e_R E) (s := e_s E) (m := e_m E) (args := e_a E) (below := e_b E) (meth := e_t E) (c := e_c E) (H := H) (locs := locs) (cells := k) (slots := n) (As := [.ref (RAW + sb)].map (cv (g_ad G))) (rest := st.map (cv (g_ad G))) (g := F0 (e_m E) pc ls ((.ref (RAW + sb) :: st).map (cv (g_ad G)))) ⟨ok.x, ok.b, rfl, ok.o, ok.w⟩ hC cw ⟨blind_CD G N0 sb, fun U hU hWm => ⟨rfl, SF.moved hWm (by rw [hU]; exact hSA.1) (fun q h1 h2 => by rw [hU]; exact hSA.2.1 q h1 h2) ok.f, AO2.moved hWm.alike ao, by rw [hU]; exact hN⟩⟩ rfl rfl hl0.1 rfl (by have := sum_cv (g_ad G) st; exact lv_room (by omega)) d ⟨f3, f4⟩
  obtain ⟨v, st₀, t, T', Lc, h0, X', hL, e1, e2, ⟨⟨r, m', Xs', hv, hp, hb⟩, hF9⟩, hst⟩ := hr T hT X
  obtain ⟨k1, k2, k3⟩ := vx_keep h0 e1 hSA (fun q _ h => h) (fun q h => h) hL hF9
  have hv' : v = r.map (cv (g_ad G)) := by injection hv
  subst hv'
  obtain ⟨t2, a1, b1⟩ := kr r m' Xs' hp T'.heap (locs ++ Lc) ls (by rw [e1]; exact hb) k3 hl0 T' rfl X'
  refine ⟨t2, hst t2 ?_, b1⟩
  have e9 : (r.map (cv (g_ad G))).toList ++ st.map (cv (g_ad G)) = (r.toList ++ st).map (cv (g_ad G)) := by cases r <;> rfl
  rw [e9]
  exact a1
theorem li_L_151 : LinkI RL 151 yX3_init cX3_init 2 0 := ⟨List.forall_mem_cons.mpr ⟨tb_in 34 (by decide +kernel) (by decide +kernel), List.forall_mem_cons.mpr ⟨tb_in 35 (by decide +kernel) (by decide +kernel), List.forall_mem_cons.mpr ⟨tb_in 1 (by decide +kernel) (by decide +kernel), fun _ h => absurd h List.not_mem_nil⟩⟩⟩, tb_in 36 (by decide +kernel) (by decide +kernel), rfl, by decide +kernel⟩
theorem WB.toWA {G : GG} {E : EE} {k n pc : Nat} {L : List (Nat × Value)} {st : List Value} {N : Nat} {U : List (Nat × va_E)} {S : Nat → Prop} {fq : Nat} (hG : MW G) (hA : ADF G) (hS : SBW G) (hinj : ∀ n, dmM n → g_ad G n ≠ g_ad G 960 ∧ g_ad G n ≠ g_ad G 960 + 1) (hd : ∀ n, dmM n → S n) (hU : ∀ x ∈ UR G, x ∈ U) (w : WA G E k n pc L st (m00 (g_ad G 960 + 1 : Nat))) : WB G E (g_ad G 960 + 1 : Nat) N U S fq k n pc L st := by
  intro H locs ls h1 h2 h3 h4 h5 h6
  have hraw : g_ad G (RAW + (g_ad G 960 + 1)) = g_ad G 960 + 1 := hA.2.2.2.2.2.2.2 _
  have hbs : g_bs G ≤ g_ad G 960 := hA.2.2.2.2.2.2.1 _ (by omega)
  have k2 : (m00 (g_ad G 960 + 1 : Nat)).1 960 2 = (g_ad G 960 + 1 : Nat) := by simp [m00]
  have k3 : (m00 (g_ad G 960 + 1 : Nat)).1 960 3 = 16 := by simp [m00]
  have k4 : (m00 (g_ad G 960 + 1 : Nat)).1 960 4 = 0 := by simp [m00]
  have ks : sbF (m00 (g_ad G 960 + 1 : Nat)) = [.ref (g_ad G 960 + 1), vI 0, .int 0, .int 0] := by
    unfold sbF
    rw [k2]
    simp [m00]
    rfl
  have u1 := h2 _ (hU _ List.mem_cons_self)
  have u2 := h2 _ (hU _ (List.mem_cons_of_mem _ List.mem_cons_self))
  dsimp only at u1 u2
  rw [hraw] at u1 u2
  refine w H locs ls ⟨fun n hn => h3 n (hd n (by rw [← hG.1]; exact hn)), ?_⟩ h5 h6
  rw [hS.2.1]
  refine ⟨by rw [ks]; exact u1, by rw [k2, k3]; exact u2, ⟨Or.inl hbs, by rw [k2]; exact Or.inl (by show g_bs G ≤ g_ad G 960 + 1; omega), by rw [k2]; show g_ad G 960 + 1 ≠ g_ad G 960; omega, fun n hn => by rw [k2]; exact hinj n (by rw [← hG.1]; exact hn)⟩, fun h => by rw [k4] at h; exact absurd h (by decide)⟩
theorem SX_all {n : Nat} (h : dmM n) : (False ∨ SX n) := by
  have hgt : ∀ a, GT a n → 64 ≤ a ∧ a < 75 → SX n := fun a ha hb => by
    refine Or.inr (Or.inr ?_)
    by_cases e : a < 67
    · rcases (show a = 64 ∨ a = 65 ∨ a = 66 by omega) with rfl | rfl | rfl
      · exact Or.inl (Or.inl ha)
      · exact Or.inl (Or.inr (Or.inl ha))
      · exact Or.inl (Or.inr (Or.inr ha))
    · exact Or.inr (Or.inr ⟨a - 67, by omega, by rw [show 67 + (a - 67) = a by omega]; exact ha⟩)
  have hx : SX n → (False ∨ SX n) := fun h => Or.inr h
  unfold dmM at h
  rcases h with h | h | h | h | h | h | h | h | h | h | h | h | h | h | h
  · exact hx (Or.inl h)
  · exact hx (hgt n (Or.inl rfl) h)
  · exact hx (hgt (n - 64) (Or.inr (Or.inl (by omega))) (by omega))
  · exact hx (hgt (n - 128) (Or.inr (Or.inr (Or.inl (by omega)))) (by omega))
  · exact hx (hgt (n - 192) (Or.inr (Or.inr (Or.inr (Or.inl (by omega))))) (by omega))
  · by_cases e : n = 364
    · exact hx (Or.inr (Or.inr (Or.inr (Or.inl (Or.inl (Or.inl e))))))
    · exact hx (hgt (64 + (n - 320) / 4) (Or.inr (Or.inr (Or.inr (Or.inr ⟨(n - 320) % 4, by omega, Or.inl (by unfold gid; omega)⟩)))) (by omega))
  · by_cases e : n = 364 + 64
    · exact hx (Or.inr (Or.inr (Or.inr (Or.inl (Or.inl (Or.inr (Or.inl e)))))))
    · exact hx (hgt (64 + (n - 384) / 4) (Or.inr (Or.inr (Or.inr (Or.inr ⟨(n - 384) % 4, by omega, Or.inr (Or.inl (by unfold gid; omega))⟩)))) (by omega))
  · by_cases e : n = 364 + 128
    · exact hx (Or.inr (Or.inr (Or.inr (Or.inl (Or.inl (Or.inr (Or.inr (Or.inl e))))))))
    · exact hx (hgt (64 + (n - 448) / 4) (Or.inr (Or.inr (Or.inr (Or.inr ⟨(n - 448) % 4, by omega, Or.inr (Or.inr (Or.inl (by unfold gid; omega)))⟩)))) (by omega))
  · by_cases e : n = 364 + 192
    · exact hx (Or.inr (Or.inr (Or.inr (Or.inl (Or.inl (Or.inr (Or.inr (Or.inr e))))))))
    · exact hx (hgt (64 + (n - 512) / 4) (Or.inr (Or.inr (Or.inr (Or.inr ⟨(n - 512) % 4, by omega, Or.inr (Or.inr (Or.inr (by unfold gid; omega)))⟩)))) (by omega))
  · exact hx (Or.inr (Or.inl h))
  · exact hx (Or.inr (Or.inr (Or.inr (Or.inl (Or.inr (Or.inl h))))))
  · exact hx (Or.inr (Or.inr (Or.inr (Or.inl (Or.inr (Or.inr (Or.inl h)))))))
  · exact hx (Or.inr (Or.inr (Or.inr (Or.inl (Or.inr (Or.inr (Or.inr (Or.inl h))))))))
  · exact hx (Or.inr (Or.inr (Or.inr (Or.inl (Or.inr (Or.inr (Or.inr (Or.inr (Or.inl h)))))))))
  · exact hx (Or.inr (Or.inr (Or.inr (Or.inl (Or.inr (Or.inr (Or.inr (Or.inr (Or.inr h)))))))))
set_option maxHeartbeats 4000000 in
set_option maxRecDepth 100000 in
theorem drawn_start {G : GG} {E : EE} (ok : OK0 G E RL cL_drawn) (ao : AO2 (e_s E)) (hG : MW G) (hA : ADF G) (hS : SBW G) (hml : (e_c E).maxLocals = 10) (hR : e_R E = RM 12 700 6000) {sb N0 : Nat} (hN0 : (e_s E).heap.size = N0) (h00 : g_ad G 0 = N0) (hinj : ∀ n, dmM n → g_ad G n ≠ g_ad G 960 ∧ g_ad G n ≠ g_ad G 960 + 1)
    (kk : WA G E 250 2600 8 [(1, .ref 0), (0, .ref (RAW + sb))] [] (m00 (g_ad G 960 + 1 : Nat))) : WB G E (g_ad G 960 + 1 : Nat) N0 [] (fun _ => False) N0 0 0 0 [(0, .ref (RAW + sb))] [] := by
  have hn1 : 1 < (e_c E).maxLocals := by rw [hml]; decide
  refine wb_new ok (ci := 3) (a := 0) (fs := [.null, .null, .null, .int 0, .null, .int 0, .int 0, .null, .null, .null, .int 0, .int 0, .int 0]) rfl (tb_in 32 (by decide +kernel) (by decide +kernel)) (tb_in 33 (by decide +kernel) (by decide +kernel)) (tb_in 1 (by decide +kernel) (by decide +kernel)) big_X3 tyX3 tyX3_ok (fun j hj => by rcases (show j = 0 ∨ j = 1 ∨ j = 2 ∨ j = 3 ∨ j = 4 ∨ j = 5 ∨ j = 6 ∨ j = 7 ∨ j = 8 ∨ j = 9 ∨ j = 10 ∨ j = 11 ∨ j = 12 by omega) with rfl | rfl | rfl | rfl | rfl | rfl | rfl | rfl | rfl | rfl | rfl | rfl | rfl <;> rfl) (h00) (by rw [hR]; exact Nat.le_of_ble_eq_true rfl) (by rw [hR]; exact Nat.le_of_ble_eq_true rfl) dL_drawn_0 ?_
  intro hSl hUl
  refine wb_dup ok dL_drawn_3 rfl ?_
  refine wb_callI ok ao (a := 0) (fs0 := [.null, .null, .null, .int 0, .null, .int 0, .int 0, .null, .null, .null, .int 0, .int 0, .int 0]) (U0 := []) [] li_L_151 (i_X3 ok.fl hG hA hS) rfl (by rw [hR]; exact ⟨by decide, by decide, Nat.le_of_ble_eq_true rfl, Nat.le_of_ble_eq_true rfl⟩) (Nat.le_of_ble_eq_true rfl) (by omega) (List.mem_append_right _ List.mem_cons_self) (fun _ h => absurd h List.not_mem_nil) (fun _ hn => hn.elim) (Or.inr (by omega)) dL_drawn_4 ?_
  refine wb_astore_n ok 1 rfl hn1 dL_drawn_7 ?_
  refine WB.toWA hG hA hS hinj (fun n hn => SX_all hn) (fun x hx => List.mem_append_right _ hx) ?_
  exact WA.wd (Nat.le_of_ble_eq_true rfl) (Nat.le_of_ble_eq_true rfl) (WA.re (by exact ⟨rfl, rfl, trivial⟩) kk)
set_option maxHeartbeats 4000000 in
set_option maxRecDepth 100000 in
theorem c_L_drawn {G : GG} {l : Launch} (hfl : l.stackTraces = false) (hG : MW G) (hA : ADF G) (hS : SBW G) {la lv : Nat → Nat} {sb sl : Nat} {xs : Nat → Int32} (hg : LGW G la lv sb sl xs) {N0 : Nat} (h00 : g_ad G 0 = N0) (hinj : ∀ n, dmM n → g_ad G n ≠ g_ad G 960 ∧ g_ad G n ≠ g_ad G 960 + 1) : CD G l N0 sb (RM 12 700 6000) (fun r' m' Xs' => r' = some (.ref 0) ∧ (∃ g', LWX 40000 m' g' ∧ g'.tn = 0) ∧ Xs' = []) := by
  refine CD.of (z := (g_ad G 960 + 1 : Nat)) hfl ?_
  intro E ok0 ao en hml hEl hN0
  have hR : e_R E = RM 12 700 6000 := en.2.2.2
  have ok : ∀ {Xs : XS}, OK0 (GX G Xs) E RL cL_drawn := fun {_} => ok0.gx
  have hn0 : 0 < (e_c E).maxLocals := by rw [hml]; decide
  have hn1 : 1 < (e_c E).maxLocals := by rw [hml]; decide
  have hn2 : 2 < (e_c E).maxLocals := by rw [hml]; decide
  have hn3 : 3 < (e_c E).maxLocals := by rw [hml]; decide
  have hn4 : 4 < (e_c E).maxLocals := by rw [hml]; decide
  have hn5 : 5 < (e_c E).maxLocals := by rw [hml]; decide
  have hn6 : 6 < (e_c E).maxLocals := by rw [hml]; decide
  have hn7 : 7 < (e_c E).maxLocals := by rw [hml]; decide
  have hn8 : 8 < (e_c E).maxLocals := by rw [hml]; decide
  have hn9 : 9 < (e_c E).maxLocals := by rw [hml]; decide
  refine drawn_start ok0 ao hG hA hS hml hR hN0 h00 hinj (WA.gx0 ?_)
  refine ga_aload_n ok 0 rfl rfl dL_drawn_8 ?_
  refine ga_iconst ok dL_drawn_9 ?_
  refine gl_callL ok0 [.ref (RAW + sb), vI (0)] lk_L_152 (c_L_cell ok0.fl hG hS hg (by omega)) rfl (by rw [hR]; exact ⟨by decide, by decide, by simp only [RM]; omega, by simp only [RM]; omega⟩) (Nat.le_of_ble_eq_true rfl) dL_drawn_10 (fun r9 m9 X9 hq9 => ?_)
  obtain ⟨rfl, hm9, hxs⟩ := hq9
  subst m9
  subst X9
  simp only [Option.toList_some, List.singleton_append]
  refine ga_iconst ok dL_drawn_13 ?_
  refine ga_iushrZ ok dL_drawn_14 ?_
  obtain ⟨c, hc⟩ : ∃ w, w = zShr (cel xs sl 0) 1 := ⟨_, rfl⟩
  have hcr := zShr_rng (x := (cel xs sl 0)) (k := 1) (by omega)
  rw [← hc] at hcr ⊢
  refine ga_istore_n ok 2 rfl hn2 dL_drawn_15 ?_
  refine ga_iload_n ok 2 rfl rfl dL_drawn_16 ?_
  refine ga_iconst ok dL_drawn_17 ?_
  refine ga_irem ok dL_drawn_18 (by omega) (by omega) ?_
  refine ga_istore_n ok 3 rfl hn3 dL_drawn_19 ?_
  refine ga_iconst ok dL_drawn_20 ?_
  refine ga_istore ok hn4 dL_drawn_21 ?_
  have loop1 : ∀ (k : Int) (m1 : Mm) (g1 : Gm), ((0 ≤ k ∧ k ≤ c % 5) ∧ LWX (2000 * k) m1 g1 ∧ g1.r 0 = k ∧ g1.r 1 = 0 ∧ GB 0 g1.r ∧ g1.tn = 0) → WA (GX G []) E (260 + 10 * k.toNat) (2620 + 50 * k.toNat) 23 [(4, vI k), (0, .ref (RAW + sb)), (1, .ref 0), (2, vI c), (3, vI (c % 5))] [] m1 := by
    refine wl3 _ (fun k _ _ => (c % 5 - k).toNat) _ ?_
    intro k m1 g1 hf9 loop1
    obtain ⟨hk, hX1, hk0, hr10, hb1, htn⟩ := hf9
    refine ga_iload ok rfl dL_drawn_23 ?_
    refine ga_iload_n ok 3 rfl rfl dL_drawn_25 ?_
    refine ga_icmp_ge ok 92 (by decide) (by omega) (by omega) dL_drawn_26 (fun c_26 => ?_) (fun c_26 => ?_)
    · clear loop1
      refine ga_iload_n ok 2 rfl rfl dL_drawn_92 ?_
      refine ga_iconst ok dL_drawn_93 ?_
      refine ga_iushrZ ok dL_drawn_94 ?_
      refine ga_bipush ok dL_drawn_95 (by decide) ?_
      refine ga_irem ok dL_drawn_97 (by have := zShr_rng (x := c) (k := 4) (by omega); omega) (by omega) ?_
      obtain ⟨nw, hnw⟩ : ∃ n, n = zShr c 4 % 10 := ⟨_, rfl⟩
      have hc4 := zShr_rng (x := c) (k := 4) (by omega)
      rw [← hnw]
      refine ga_istore ok hn4 dL_drawn_98 ?_
      refine ga_iconst ok dL_drawn_100 ?_
      refine ga_istore ok hn5 dL_drawn_101 ?_
      have loop2 : ∀ (k : Int) (m1 : Mm) (g1 : Gm), ((0 ≤ k ∧ k ≤ nw) ∧ LWX (8000 + 1000 * k) m1 g1 ∧ g1.r 0 = c % 5 ∧ (0 ≤ g1.r 1 ∧ g1.r 1 ≤ k) ∧ GB 0 g1.r ∧ g1.tn = 0) → WA (GX G []) E (300 + 6 * k.toNat) (2900 + 31 * k.toNat) 103 [(5, vI k), (4, vI nw), (0, .ref (RAW + sb)), (1, .ref 0), (2, vI c), (3, vI (c % 5))] [] m1 := by
        refine wl3 _ (fun k _ _ => (nw - k).toNat) _ ?_
        intro k m1 g1 hf9 loop2
        obtain ⟨hk, hX1, hr0, hr1, hb1, htn⟩ := hf9
        refine ga_iload ok rfl dL_drawn_103 ?_
        refine ga_iload ok rfl dL_drawn_105 ?_
        refine ga_icmp_ge ok 192 (by decide) (by omega) (by omega) dL_drawn_107 (fun c_107 => ?_) (fun c_107 => ?_)
        · clear loop2
          refine ga_aload_n ok 1 rfl rfl dL_drawn_192 ?_
          refine ga_iconst ok dL_drawn_193 ?_
          refine gl_callV ok0 hG hS [vI 1] lk_L_168 rfl hX1.h40 (fun G9 hG9 hS9 => (c_X3_account ok0.fl hG9 hX1.I hX1.O (what := 1) (by omega)).nox (fun _ _ h => by have := h.1.2; omega)) rfl (by rw [hR]; exact ⟨by decide, by decide, by simp only [RM]; omega, by simp only [RM]; omega⟩) (Nat.le_of_ble_eq_true rfl) dL_drawn_194 (fun r9 m1 hq9 => ?_)
          obtain ⟨-, rfl, hm9⟩ := hq9
          subst m1
          simp only [Option.toList_some, List.singleton_append]
          rw [if_pos trivial]
          refine ga_istore ok hn5 dL_drawn_197 ?_
          refine ga_iconst ok dL_drawn_199 ?_
          refine ga_istore ok hn6 dL_drawn_200 ?_
          obtain ⟨nv, hnv⟩ : ∃ n, n = g1.r 1 := ⟨_, rfl⟩
          rw [← hnv]
          have loop3 : ∀ (k : Int) (m1 : Mm) (g1 : Gm), ((0 ≤ k ∧ k ≤ 6) ∧ LWX (20000 + 1000 * k) m1 g1 ∧ g1.r 0 = c % 5 ∧ g1.r 1 = nv ∧ GB (3100 * k) g1.r ∧ g1.tn = 0) → WA (GX G []) E (400 + 5 * k.toNat) (3200 + 25 * k.toNat) 202 [(6, vI k), (5, vI nv), (0, .ref (RAW + sb)), (1, .ref 0), (2, vI c), (3, vI (c % 5))] [] m1 := by
            refine wl3 _ (fun k _ _ => (6 - k).toNat) _ ?_
            intro k m1 g1 hf9 loop3
            obtain ⟨hk, hX1, hr0, hr1, hb1, htn⟩ := hf9
            refine ga_iload ok rfl dL_drawn_202 ?_
            refine ga_bipush ok dL_drawn_204 (by decide) ?_
            refine ga_icmp_ge ok 312 (by decide) (by omega) (by omega) dL_drawn_206 (fun c_206 => ?_) (fun c_206 => ?_)
            · refine ga_aload_n ok 1 rfl rfl dL_drawn_312 ?_
              exact gl_areturn ok0 en rfl (Or.inl ⟨_, rfl⟩) (by first | decide | (simp only [RM]; omega)) (by first | decide | (simp only [RM]; omega)) dL_drawn_313 ⟨rfl, ⟨g1, hX1.mono (by omega), htn⟩, rfl⟩
            · refine ga_iload_n ok 3 rfl rfl dL_drawn_209 ?_
              refine ga_if_le ok 312 (by decide) (by omega) dL_drawn_210 (fun c_210 => ?_) (fun c_210 => ?_)
              · refine ga_aload_n ok 1 rfl rfl dL_drawn_312 ?_
                exact gl_areturn ok0 en rfl (Or.inl ⟨_, rfl⟩) (by first | decide | (simp only [RM]; omega)) (by first | decide | (simp only [RM]; omega)) dL_drawn_313 ⟨rfl, ⟨g1, hX1.mono (by omega), htn⟩, rfl⟩
              · refine ga_iload ok rfl dL_drawn_213 ?_
                refine ga_if_le ok 312 (by decide) (by omega) dL_drawn_215 (fun c_215 => ?_) (fun c_215 => ?_)
                · refine ga_aload_n ok 1 rfl rfl dL_drawn_312 ?_
                  exact gl_areturn ok0 en rfl (Or.inl ⟨_, rfl⟩) (by first | decide | (simp only [RM]; omega)) (by first | decide | (simp only [RM]; omega)) dL_drawn_313 ⟨rfl, ⟨g1, hX1.mono (by omega), htn⟩, rfl⟩
                · refine ga_aload_n ok 0 rfl rfl dL_drawn_218 ?_
                  refine ga_bipush ok dL_drawn_219 (by decide) ?_
                  refine ga_iload ok rfl dL_drawn_221 ?_
                  refine ga_iadd ok dL_drawn_223 ?_
                  refine gl_callL ok0 [.ref (RAW + sb), vI (15 + k)] lk_L_152 (c_L_cell ok0.fl hG hS hg (by omega)) rfl (by rw [hR]; exact ⟨by decide, by decide, by simp only [RM]; omega, by simp only [RM]; omega⟩) (Nat.le_of_ble_eq_true rfl) dL_drawn_224 (fun r9 m9 X9 hq9 => ?_)
                  obtain ⟨rfl, hm9, hxs⟩ := hq9
                  subst m9
                  subst X9
                  simp only [Option.toList_some, List.singleton_append]
                  refine ga_iconst ok dL_drawn_227 ?_
                  refine ga_iushrZ ok dL_drawn_228 ?_
                  obtain ⟨d, hd⟩ : ∃ w, w = zShr (cel xs sl (15 + k)) 1 := ⟨_, rfl⟩
                  have hdr := zShr_rng (x := (cel xs sl (15 + k))) (k := 1) (by omega)
                  rw [← hd] at hdr ⊢
                  refine ga_istore ok hn7 dL_drawn_229 ?_
                  refine ga_iload ok rfl dL_drawn_231 ?_
                  refine ga_iconst ok dL_drawn_233 ?_
                  refine ga_iushrZ ok dL_drawn_234 ?_
                  obtain ⟨e, he⟩ : ∃ w, w = zShr d 4 := ⟨_, rfl⟩
                  have her := zShr_rng (x := d) (k := 4) (by omega)
                  rw [← he] at her ⊢
                  have he3 := zShr_rng (x := e) (k := 3) (by omega)
                  have hm1 : 0 ≤ e % (c % 5) ∧ e % (c % 5) < c % 5 := ⟨Int.emod_nonneg _ (by omega), Int.emod_lt_of_pos _ (by omega)⟩
                  have hm2 : 0 ≤ zShr e 3 % nv ∧ zShr e 3 % nv < nv := ⟨Int.emod_nonneg _ (by omega), Int.emod_lt_of_pos _ (by omega)⟩
                  refine ga_istore ok hn8 dL_drawn_235 ?_
                  refine ga_iload ok rfl dL_drawn_237 ?_
                  refine ga_iconst ok dL_drawn_239 ?_
                  refine ga_irem ok dL_drawn_240 (by omega) (by omega) ?_
                  refine ga_if_ne ok 262 (by decide) (by omega) dL_drawn_241 (fun c_241 => ?_) (fun c_241 => ?_)
                  · refine ga_iload ok rfl dL_drawn_262 ?_
                    refine ga_iconst ok dL_drawn_264 ?_
                    refine ga_irem ok dL_drawn_265 (by omega) (by omega) ?_
                    refine ga_iconst ok dL_drawn_266 ?_
                    refine ga_icmp_ne ok 281 (by decide) (by omega) (by omega) dL_drawn_267 (fun c_267 => ?_) (fun c_267 => ?_)
                    · refine ga_aload_n ok 1 rfl rfl dL_drawn_281 ?_
                      refine ga_iload ok rfl dL_drawn_282 ?_
                      refine ga_iload_n ok 3 rfl rfl dL_drawn_284 ?_
                      refine ga_irem ok dL_drawn_285 (by omega) (by omega) ?_
                      refine ga_iconst ok dL_drawn_286 ?_
                      refine ga_iload ok rfl dL_drawn_287 ?_
                      refine ga_iconst ok dL_drawn_289 ?_
                      refine ga_iushrZ ok dL_drawn_290 ?_
                      refine ga_iconst ok dL_drawn_291 ?_
                      refine ga_irem ok dL_drawn_292 (by omega) (by omega) ?_
                      refine ga_iadd ok dL_drawn_293 ?_
                      refine gl_callT ok0 hG hS [.ref 0, vI (e % (c % 5)), vI (1 + zShr e 3 % 4)] lw_L_175 hX1.h40 (fun G9 hG9 hS9 => w_days ok0.fl hG9 hS9 hX1 (by omega) (by omega) (by omega)) rfl (by rw [hR]; exact ⟨by decide, by decide, by simp only [RM]; omega, by simp only [RM]; omega⟩) (Nat.le_of_ble_eq_true rfl) dL_drawn_294 (fun r9 m2 hq9 => ?_)
                      obtain ⟨rfl, hX2⟩ := hq9
                      simp only [Option.toList_some, List.singleton_append]
                      obtain ⟨z, g2, hs, hz, hr0, hr1, hb2, ht2⟩ := dw_days (g := g1) (n := e % (c % 5)) (most := 1 + zShr e 3 % 4) (C := 3100 * k) hX1.O (by omega) (by omega) (by omega) (by omega) (by omega) hb1
                      rw [hs, wr_0]
                      rw [hs] at hX2
                      have hb2 := hb2.mono (show 3100 * k + 3072 ≤ 3100 * (k + 1) by omega)
                      refine ga_istore ok hn9 dL_drawn_297 ?_
                      refine ga_iload ok rfl dL_drawn_299 ?_
                      refine ga_if_ge ok 306 (by decide) (by omega) dL_drawn_301 (fun c_301 => ?_) (fun c_301 => ?_)
                      · refine ga_iinc ok rfl hn6 dL_drawn_306 ?_
                        refine ga_goto ok 202 (by decide) dL_drawn_309 ?_
                        refine WA.wd (k2 := 400 + 5 * (k + 1).toNat) (n2 := 3200 + 25 * (k + 1).toNat) (by first | omega | (simp only [RM]; omega)) (by first | omega | (simp only [RM]; omega)) ?_
                        exact WA.re (by exact ⟨rfl, rfl, rfl, rfl, rfl, rfl, trivial⟩) (loop3 (k + 1) m2 g2 ⟨by omega, hX2.mono (by omega), by omega, by omega, hb2, by omega⟩ (by omega))
                      · exact absurd c_301 (by omega)
                    · refine ga_aload_n ok 1 rfl rfl dL_drawn_270 ?_
                      refine ga_iload ok rfl dL_drawn_271 ?_
                      refine ga_iload_n ok 3 rfl rfl dL_drawn_273 ?_
                      refine ga_irem ok dL_drawn_274 (by omega) (by omega) ?_
                      refine gl_callT ok0 hG hS [.ref 0, vI (e % (c % 5))] lw_L_173 hX1.h40 (fun G9 hG9 hS9 => w_day ok0.fl hG9 hS9 hX1 (by omega) (by omega)) rfl (by rw [hR]; exact ⟨by decide, by decide, by simp only [RM]; omega, by simp only [RM]; omega⟩) (Nat.le_of_ble_eq_true rfl) dL_drawn_275 (fun r9 m2 hq9 => ?_)
                      obtain ⟨rfl, hX2⟩ := hq9
                      simp only [Option.toList_some, List.singleton_append]
                      obtain ⟨z, g2, hs, hz, hr0, hr1, hb2, ht2⟩ := dw_day (g := g1) (n := e % (c % 5)) (C := 3100 * k) hX1.O (by omega) (by omega) (by omega) (by omega) hb1
                      rw [hs, wr_0]
                      rw [hs] at hX2
                      have hb2 := hb2.mono (show 3100 * k + 768 ≤ 3100 * (k + 1) by omega)
                      refine ga_goto ok 297 (by decide) dL_drawn_278 ?_
                      refine ga_istore ok hn9 dL_drawn_297 ?_
                      refine ga_iload ok rfl dL_drawn_299 ?_
                      refine ga_if_ge ok 306 (by decide) (by omega) dL_drawn_301 (fun c_301 => ?_) (fun c_301 => ?_)
                      · refine ga_iinc ok rfl hn6 dL_drawn_306 ?_
                        refine ga_goto ok 202 (by decide) dL_drawn_309 ?_
                        refine WA.wd (k2 := 400 + 5 * (k + 1).toNat) (n2 := 3200 + 25 * (k + 1).toNat) (by first | omega | (simp only [RM]; omega)) (by first | omega | (simp only [RM]; omega)) ?_
                        exact WA.re (by exact ⟨rfl, rfl, rfl, rfl, rfl, rfl, trivial⟩) (loop3 (k + 1) m2 g2 ⟨by omega, hX2.mono (by omega), by omega, by omega, hb2, by omega⟩ (by omega))
                      · exact absurd c_301 (by omega)
                  · refine ga_aload_n ok 1 rfl rfl dL_drawn_244 ?_
                    refine ga_iload ok rfl dL_drawn_245 ?_
                    refine ga_iload_n ok 3 rfl rfl dL_drawn_247 ?_
                    refine ga_irem ok dL_drawn_248 (by omega) (by omega) ?_
                    refine ga_iload ok rfl dL_drawn_249 ?_
                    refine ga_iconst ok dL_drawn_251 ?_
                    refine ga_iushrZ ok dL_drawn_252 ?_
                    refine ga_iload ok rfl dL_drawn_253 ?_
                    refine ga_irem ok dL_drawn_255 (by omega) (by omega) ?_
                    refine gl_callT ok0 hG hS [.ref 0, vI (e % (c % 5)), vI (zShr e 3 % nv)] lw_L_171 hX1.h40 (fun G9 hG9 hS9 => w_teach ok0.fl hG9 hS9 hX1 (by omega) (by omega) (by omega)) rfl (by rw [hR]; exact ⟨by decide, by decide, by simp only [RM]; omega, by simp only [RM]; omega⟩) (Nat.le_of_ble_eq_true rfl) dL_drawn_256 (fun r9 m2 hq9 => ?_)
                    obtain ⟨rfl, hX2⟩ := hq9
                    simp only [Option.toList_some, List.singleton_append]
                    obtain ⟨z, g2, hs, hz, hr0, hr1, hb2, ht2⟩ := dw_teach (g := g1) (n := e % (c % 5)) (v := zShr e 3 % nv) (C := 3100 * k) (by omega) (by omega) (by omega) hb1
                    rw [hs, wr_0]
                    rw [hs] at hX2
                    have hb2 := hb2.mono (show 3100 * k + 64 ≤ 3100 * (k + 1) by omega)
                    refine ga_goto ok 297 (by decide) dL_drawn_259 ?_
                    refine ga_istore ok hn9 dL_drawn_297 ?_
                    refine ga_iload ok rfl dL_drawn_299 ?_
                    refine ga_if_ge ok 306 (by decide) (by omega) dL_drawn_301 (fun c_301 => ?_) (fun c_301 => ?_)
                    · refine ga_iinc ok rfl hn6 dL_drawn_306 ?_
                      refine ga_goto ok 202 (by decide) dL_drawn_309 ?_
                      refine WA.wd (k2 := 400 + 5 * (k + 1).toNat) (n2 := 3200 + 25 * (k + 1).toNat) (by first | omega | (simp only [RM]; omega)) (by first | omega | (simp only [RM]; omega)) ?_
                      exact WA.re (by exact ⟨rfl, rfl, rfl, rfl, rfl, rfl, trivial⟩) (loop3 (k + 1) m2 g2 ⟨by omega, hX2.mono (by omega), by omega, by omega, hb2, by omega⟩ (by omega))
                    · exact absurd c_301 (by omega)
          refine WA.wd (k2 := 400 + 5 * (0 : Int).toNat) (n2 := 3200 + 25 * (0 : Int).toNat) (by first | omega | (simp only [RM]; omega)) (by first | omega | (simp only [RM]; omega)) ?_
          exact WA.re (by exact ⟨rfl, rfl, rfl, rfl, rfl, rfl, trivial⟩) (loop3 0 m1 g1 ⟨by omega, hX1.mono (by omega), hr0, hnv.symm, hb1.mono (by omega), htn⟩)
        · refine ga_aload_n ok 0 rfl rfl dL_drawn_110 ?_
          refine ga_iconst ok dL_drawn_111 ?_
          refine ga_iload ok rfl dL_drawn_112 ?_
          refine ga_iadd ok dL_drawn_114 ?_
          refine gl_callL ok0 [.ref (RAW + sb), vI (5 + k)] lk_L_152 (c_L_cell ok0.fl hG hS hg (by omega)) rfl (by rw [hR]; exact ⟨by decide, by decide, by simp only [RM]; omega, by simp only [RM]; omega⟩) (Nat.le_of_ble_eq_true rfl) dL_drawn_115 (fun r9 m9 X9 hq9 => ?_)
          obtain ⟨rfl, hm9, hxs⟩ := hq9
          subst m9
          subst X9
          simp only [Option.toList_some, List.singleton_append]
          refine ga_iconst ok dL_drawn_118 ?_
          refine ga_iushrZ ok dL_drawn_119 ?_
          obtain ⟨d, hd⟩ : ∃ w, w = zShr (cel xs sl (5 + k)) 1 := ⟨_, rfl⟩
          have hdr := zShr_rng (x := (cel xs sl (5 + k))) (k := 1) (by omega)
          rw [← hd] at hdr ⊢
          have hd12 := zShr_rng (x := d) (k := 12) (by omega)
          refine ga_istore ok hn6 dL_drawn_120 ?_
          refine ga_aload_n ok 1 rfl rfl dL_drawn_122 ?_
          refine ga_iconst ok dL_drawn_123 ?_
          refine ga_iload ok rfl dL_drawn_124 ?_
          refine ga_iload ok rfl dL_drawn_126 ?_
          refine ga_iconst ok dL_drawn_128 ?_
          refine ga_irem ok dL_drawn_129 (by omega) (by omega) ?_
          refine ga_if_ne ok 139 (by decide) (by omega) dL_drawn_130 (fun c_130 => ?_) (fun c_130 => ?_)
          · refine ga_bipush ok dL_drawn_139 (by decide) ?_
            refine ga_irem ok dL_drawn_141 (by omega) (by omega) ?_
            refine ga_iadd ok dL_drawn_142 ?_
            refine ga_iload ok rfl dL_drawn_143 ?_
            refine ga_bipush ok dL_drawn_145 (by decide) ?_
            refine ga_iushrZ ok dL_drawn_147 ?_
            refine ga_iconst ok dL_drawn_148 ?_
            refine ga_irem ok dL_drawn_149 (by omega) (by omega) ?_
            refine ga_if_ne ok 157 (by decide) (by omega) dL_drawn_150 (fun c_150 => ?_) (fun c_150 => ?_)
            · refine ga_iconst ok dL_drawn_157 ?_
              refine gl_callT ok0 hG hS [.ref 0, vI (1 + d % 31), vI 0] lw_L_162 hX1.h40 (fun G9 hG9 hS9 => w_visitor ok0.fl hG9 hS9 hX1 (by omega) (by omega) (by omega)) rfl (by rw [hR]; exact ⟨by decide, by decide, by simp only [RM]; omega, by simp only [RM]; omega⟩) (Nat.le_of_ble_eq_true rfl) dL_drawn_158 (fun r9 m2 hq9 => ?_)
              obtain ⟨rfl, hX2⟩ := hq9
              simp only [Option.toList_some, List.singleton_append]
              obtain ⟨z, g2, hs1, hs2, hz, hr0, hr1, hb2, ht2⟩ := dw_visitor (g := g1) (x := 1 + d % 31) (f := 0) (C := 0) (by omega) (by omega) hb1
              rw [hs1]
              rw [hs2] at hX2
              refine ga_istore ok hn7 dL_drawn_161 ?_
              refine ga_iload ok rfl dL_drawn_163 ?_
              refine ga_if_ge ok 186 (by decide) (by omega) dL_drawn_165 (fun c_165 => ?_) (fun c_165 => ?_)
              · refine ga_iinc ok rfl hn5 dL_drawn_186 ?_
                refine ga_goto ok 103 (by decide) dL_drawn_189 ?_
                refine WA.wd (k2 := 300 + 6 * (k + 1).toNat) (n2 := 2900 + 31 * (k + 1).toNat) (by first | omega | (simp only [RM]; omega)) (by first | omega | (simp only [RM]; omega)) ?_
                exact WA.re (by exact ⟨rfl, rfl, rfl, rfl, rfl, rfl, trivial⟩) (loop2 (k + 1) m2 g2 ⟨by omega, hX2.mono (by omega), by omega, by omega, hb2, by omega⟩ (by omega))
              · have hz2 := hz.resolve_left (by omega)
                have hrs := hz2.2
                refine ga_iload ok rfl dL_drawn_168 ?_
                refine ga_bipush ok dL_drawn_170 (by decide) ?_
                refine ga_icmp_ne ok 184 (by decide) (by omega) (by omega) dL_drawn_172 (fun c_172 => ?_) (fun c_172 => ?_)
                · exact absurd hz2.1 c_172
                · refine ga_aload_n ok 1 rfl rfl dL_drawn_175 ?_
                  refine ga_iconst ok dL_drawn_176 ?_
                  refine gl_callT ok0 hG hS [.ref 0, vI 0] lw_L_165 hX2.h40 (fun G9 hG9 hS9 => w_refusal ok0.fl hG9 hS9 hX2 (by omega) (by omega)) rfl (by rw [hR]; exact ⟨by decide, by decide, by simp only [RM]; omega, by simp only [RM]; omega⟩) (Nat.le_of_ble_eq_true rfl) dL_drawn_177 (fun r9 m3 hq9 => ?_)
                  obtain ⟨rfl, hm9⟩ := hq9
                  subst m3
                  simp only [Option.toList_some, List.singleton_append]
                  rw [show q_refusal g2 0 = 2 from by unfold q_refusal; rw [hrs]; rfl]
                  refine ga_iconst ok dL_drawn_180 ?_
                  refine ga_icmp_eq ok 186 (by decide) (by omega) (by omega) dL_drawn_181 (fun c_181 => ?_) (fun c_181 => ?_)
                  · refine ga_iinc ok rfl hn5 dL_drawn_186 ?_
                    refine ga_goto ok 103 (by decide) dL_drawn_189 ?_
                    refine WA.wd (k2 := 300 + 6 * (k + 1).toNat) (n2 := 2900 + 31 * (k + 1).toNat) (by first | omega | (simp only [RM]; omega)) (by first | omega | (simp only [RM]; omega)) ?_
                    exact WA.re (by exact ⟨rfl, rfl, rfl, rfl, rfl, rfl, trivial⟩) (loop2 (k + 1) m2 g2 ⟨by omega, hX2.mono (by omega), by omega, by omega, hb2, by omega⟩ (by omega))
                  · exact absurd rfl c_181
            · refine ga_iconst ok dL_drawn_153 ?_
              refine ga_goto ok 158 (by decide) dL_drawn_154 ?_
              refine gl_callT ok0 hG hS [.ref 0, vI (1 + d % 31), vI 1] lw_L_162 hX1.h40 (fun G9 hG9 hS9 => w_visitor ok0.fl hG9 hS9 hX1 (by omega) (by omega) (by omega)) rfl (by rw [hR]; exact ⟨by decide, by decide, by simp only [RM]; omega, by simp only [RM]; omega⟩) (Nat.le_of_ble_eq_true rfl) dL_drawn_158 (fun r9 m2 hq9 => ?_)
              obtain ⟨rfl, hX2⟩ := hq9
              simp only [Option.toList_some, List.singleton_append]
              obtain ⟨z, g2, hs1, hs2, hz, hr0, hr1, hb2, ht2⟩ := dw_visitor (g := g1) (x := 1 + d % 31) (f := 1) (C := 0) (by omega) (by omega) hb1
              rw [hs1]
              rw [hs2] at hX2
              refine ga_istore ok hn7 dL_drawn_161 ?_
              refine ga_iload ok rfl dL_drawn_163 ?_
              refine ga_if_ge ok 186 (by decide) (by omega) dL_drawn_165 (fun c_165 => ?_) (fun c_165 => ?_)
              · refine ga_iinc ok rfl hn5 dL_drawn_186 ?_
                refine ga_goto ok 103 (by decide) dL_drawn_189 ?_
                refine WA.wd (k2 := 300 + 6 * (k + 1).toNat) (n2 := 2900 + 31 * (k + 1).toNat) (by first | omega | (simp only [RM]; omega)) (by first | omega | (simp only [RM]; omega)) ?_
                exact WA.re (by exact ⟨rfl, rfl, rfl, rfl, rfl, rfl, trivial⟩) (loop2 (k + 1) m2 g2 ⟨by omega, hX2.mono (by omega), by omega, by omega, hb2, by omega⟩ (by omega))
              · have hz2 := hz.resolve_left (by omega)
                have hrs := hz2.2
                refine ga_iload ok rfl dL_drawn_168 ?_
                refine ga_bipush ok dL_drawn_170 (by decide) ?_
                refine ga_icmp_ne ok 184 (by decide) (by omega) (by omega) dL_drawn_172 (fun c_172 => ?_) (fun c_172 => ?_)
                · exact absurd hz2.1 c_172
                · refine ga_aload_n ok 1 rfl rfl dL_drawn_175 ?_
                  refine ga_iconst ok dL_drawn_176 ?_
                  refine gl_callT ok0 hG hS [.ref 0, vI 0] lw_L_165 hX2.h40 (fun G9 hG9 hS9 => w_refusal ok0.fl hG9 hS9 hX2 (by omega) (by omega)) rfl (by rw [hR]; exact ⟨by decide, by decide, by simp only [RM]; omega, by simp only [RM]; omega⟩) (Nat.le_of_ble_eq_true rfl) dL_drawn_177 (fun r9 m3 hq9 => ?_)
                  obtain ⟨rfl, hm9⟩ := hq9
                  subst m3
                  simp only [Option.toList_some, List.singleton_append]
                  rw [show q_refusal g2 0 = 2 from by unfold q_refusal; rw [hrs]; rfl]
                  refine ga_iconst ok dL_drawn_180 ?_
                  refine ga_icmp_eq ok 186 (by decide) (by omega) (by omega) dL_drawn_181 (fun c_181 => ?_) (fun c_181 => ?_)
                  · refine ga_iinc ok rfl hn5 dL_drawn_186 ?_
                    refine ga_goto ok 103 (by decide) dL_drawn_189 ?_
                    refine WA.wd (k2 := 300 + 6 * (k + 1).toNat) (n2 := 2900 + 31 * (k + 1).toNat) (by first | omega | (simp only [RM]; omega)) (by first | omega | (simp only [RM]; omega)) ?_
                    exact WA.re (by exact ⟨rfl, rfl, rfl, rfl, rfl, rfl, trivial⟩) (loop2 (k + 1) m2 g2 ⟨by omega, hX2.mono (by omega), by omega, by omega, hb2, by omega⟩ (by omega))
                  · exact absurd rfl c_181
          · refine ga_sipush ok dL_drawn_133 (by decide) ?_
            refine ga_goto ok 141 (by decide) dL_drawn_136 ?_
            refine ga_irem ok dL_drawn_141 (by omega) (by omega) ?_
            refine ga_iadd ok dL_drawn_142 ?_
            refine ga_iload ok rfl dL_drawn_143 ?_
            refine ga_bipush ok dL_drawn_145 (by decide) ?_
            refine ga_iushrZ ok dL_drawn_147 ?_
            refine ga_iconst ok dL_drawn_148 ?_
            refine ga_irem ok dL_drawn_149 (by omega) (by omega) ?_
            refine ga_if_ne ok 157 (by decide) (by omega) dL_drawn_150 (fun c_150 => ?_) (fun c_150 => ?_)
            · refine ga_iconst ok dL_drawn_157 ?_
              refine gl_callT ok0 hG hS [.ref 0, vI (1 + d % 1023), vI 0] lw_L_162 hX1.h40 (fun G9 hG9 hS9 => w_visitor ok0.fl hG9 hS9 hX1 (by omega) (by omega) (by omega)) rfl (by rw [hR]; exact ⟨by decide, by decide, by simp only [RM]; omega, by simp only [RM]; omega⟩) (Nat.le_of_ble_eq_true rfl) dL_drawn_158 (fun r9 m2 hq9 => ?_)
              obtain ⟨rfl, hX2⟩ := hq9
              simp only [Option.toList_some, List.singleton_append]
              obtain ⟨z, g2, hs1, hs2, hz, hr0, hr1, hb2, ht2⟩ := dw_visitor (g := g1) (x := 1 + d % 1023) (f := 0) (C := 0) (by omega) (by omega) hb1
              rw [hs1]
              rw [hs2] at hX2
              refine ga_istore ok hn7 dL_drawn_161 ?_
              refine ga_iload ok rfl dL_drawn_163 ?_
              refine ga_if_ge ok 186 (by decide) (by omega) dL_drawn_165 (fun c_165 => ?_) (fun c_165 => ?_)
              · refine ga_iinc ok rfl hn5 dL_drawn_186 ?_
                refine ga_goto ok 103 (by decide) dL_drawn_189 ?_
                refine WA.wd (k2 := 300 + 6 * (k + 1).toNat) (n2 := 2900 + 31 * (k + 1).toNat) (by first | omega | (simp only [RM]; omega)) (by first | omega | (simp only [RM]; omega)) ?_
                exact WA.re (by exact ⟨rfl, rfl, rfl, rfl, rfl, rfl, trivial⟩) (loop2 (k + 1) m2 g2 ⟨by omega, hX2.mono (by omega), by omega, by omega, hb2, by omega⟩ (by omega))
              · have hz2 := hz.resolve_left (by omega)
                have hrs := hz2.2
                refine ga_iload ok rfl dL_drawn_168 ?_
                refine ga_bipush ok dL_drawn_170 (by decide) ?_
                refine ga_icmp_ne ok 184 (by decide) (by omega) (by omega) dL_drawn_172 (fun c_172 => ?_) (fun c_172 => ?_)
                · exact absurd hz2.1 c_172
                · refine ga_aload_n ok 1 rfl rfl dL_drawn_175 ?_
                  refine ga_iconst ok dL_drawn_176 ?_
                  refine gl_callT ok0 hG hS [.ref 0, vI 0] lw_L_165 hX2.h40 (fun G9 hG9 hS9 => w_refusal ok0.fl hG9 hS9 hX2 (by omega) (by omega)) rfl (by rw [hR]; exact ⟨by decide, by decide, by simp only [RM]; omega, by simp only [RM]; omega⟩) (Nat.le_of_ble_eq_true rfl) dL_drawn_177 (fun r9 m3 hq9 => ?_)
                  obtain ⟨rfl, hm9⟩ := hq9
                  subst m3
                  simp only [Option.toList_some, List.singleton_append]
                  rw [show q_refusal g2 0 = 2 from by unfold q_refusal; rw [hrs]; rfl]
                  refine ga_iconst ok dL_drawn_180 ?_
                  refine ga_icmp_eq ok 186 (by decide) (by omega) (by omega) dL_drawn_181 (fun c_181 => ?_) (fun c_181 => ?_)
                  · refine ga_iinc ok rfl hn5 dL_drawn_186 ?_
                    refine ga_goto ok 103 (by decide) dL_drawn_189 ?_
                    refine WA.wd (k2 := 300 + 6 * (k + 1).toNat) (n2 := 2900 + 31 * (k + 1).toNat) (by first | omega | (simp only [RM]; omega)) (by first | omega | (simp only [RM]; omega)) ?_
                    exact WA.re (by exact ⟨rfl, rfl, rfl, rfl, rfl, rfl, trivial⟩) (loop2 (k + 1) m2 g2 ⟨by omega, hX2.mono (by omega), by omega, by omega, hb2, by omega⟩ (by omega))
                  · exact absurd rfl c_181
            · refine ga_iconst ok dL_drawn_153 ?_
              refine ga_goto ok 158 (by decide) dL_drawn_154 ?_
              refine gl_callT ok0 hG hS [.ref 0, vI (1 + d % 1023), vI 1] lw_L_162 hX1.h40 (fun G9 hG9 hS9 => w_visitor ok0.fl hG9 hS9 hX1 (by omega) (by omega) (by omega)) rfl (by rw [hR]; exact ⟨by decide, by decide, by simp only [RM]; omega, by simp only [RM]; omega⟩) (Nat.le_of_ble_eq_true rfl) dL_drawn_158 (fun r9 m2 hq9 => ?_)
              obtain ⟨rfl, hX2⟩ := hq9
              simp only [Option.toList_some, List.singleton_append]
              obtain ⟨z, g2, hs1, hs2, hz, hr0, hr1, hb2, ht2⟩ := dw_visitor (g := g1) (x := 1 + d % 1023) (f := 1) (C := 0) (by omega) (by omega) hb1
              rw [hs1]
              rw [hs2] at hX2
              refine ga_istore ok hn7 dL_drawn_161 ?_
              refine ga_iload ok rfl dL_drawn_163 ?_
              refine ga_if_ge ok 186 (by decide) (by omega) dL_drawn_165 (fun c_165 => ?_) (fun c_165 => ?_)
              · refine ga_iinc ok rfl hn5 dL_drawn_186 ?_
                refine ga_goto ok 103 (by decide) dL_drawn_189 ?_
                refine WA.wd (k2 := 300 + 6 * (k + 1).toNat) (n2 := 2900 + 31 * (k + 1).toNat) (by first | omega | (simp only [RM]; omega)) (by first | omega | (simp only [RM]; omega)) ?_
                exact WA.re (by exact ⟨rfl, rfl, rfl, rfl, rfl, rfl, trivial⟩) (loop2 (k + 1) m2 g2 ⟨by omega, hX2.mono (by omega), by omega, by omega, hb2, by omega⟩ (by omega))
              · have hz2 := hz.resolve_left (by omega)
                have hrs := hz2.2
                refine ga_iload ok rfl dL_drawn_168 ?_
                refine ga_bipush ok dL_drawn_170 (by decide) ?_
                refine ga_icmp_ne ok 184 (by decide) (by omega) (by omega) dL_drawn_172 (fun c_172 => ?_) (fun c_172 => ?_)
                · exact absurd hz2.1 c_172
                · refine ga_aload_n ok 1 rfl rfl dL_drawn_175 ?_
                  refine ga_iconst ok dL_drawn_176 ?_
                  refine gl_callT ok0 hG hS [.ref 0, vI 0] lw_L_165 hX2.h40 (fun G9 hG9 hS9 => w_refusal ok0.fl hG9 hS9 hX2 (by omega) (by omega)) rfl (by rw [hR]; exact ⟨by decide, by decide, by simp only [RM]; omega, by simp only [RM]; omega⟩) (Nat.le_of_ble_eq_true rfl) dL_drawn_177 (fun r9 m3 hq9 => ?_)
                  obtain ⟨rfl, hm9⟩ := hq9
                  subst m3
                  simp only [Option.toList_some, List.singleton_append]
                  rw [show q_refusal g2 0 = 2 from by unfold q_refusal; rw [hrs]; rfl]
                  refine ga_iconst ok dL_drawn_180 ?_
                  refine ga_icmp_eq ok 186 (by decide) (by omega) (by omega) dL_drawn_181 (fun c_181 => ?_) (fun c_181 => ?_)
                  · refine ga_iinc ok rfl hn5 dL_drawn_186 ?_
                    refine ga_goto ok 103 (by decide) dL_drawn_189 ?_
                    refine WA.wd (k2 := 300 + 6 * (k + 1).toNat) (n2 := 2900 + 31 * (k + 1).toNat) (by first | omega | (simp only [RM]; omega)) (by first | omega | (simp only [RM]; omega)) ?_
                    exact WA.re (by exact ⟨rfl, rfl, rfl, rfl, rfl, rfl, trivial⟩) (loop2 (k + 1) m2 g2 ⟨by omega, hX2.mono (by omega), by omega, by omega, hb2, by omega⟩ (by omega))
                  · exact absurd rfl c_181
      refine WA.wd (k2 := 300 + 6 * (0 : Int).toNat) (n2 := 2900 + 31 * (0 : Int).toNat) (by first | omega | (simp only [RM]; omega)) (by first | omega | (simp only [RM]; omega)) ?_
      exact WA.re (by exact ⟨rfl, rfl, rfl, rfl, rfl, rfl, trivial⟩) (loop2 0 m1 g1 ⟨by omega, hX1.mono (by omega), by omega, by omega, hb1, htn⟩)
    · refine ga_aload_n ok 0 rfl rfl dL_drawn_29 ?_
      refine ga_iconst ok dL_drawn_30 ?_
      refine ga_iload ok rfl dL_drawn_31 ?_
      refine ga_iadd ok dL_drawn_33 ?_
      refine gl_callL ok0 [.ref (RAW + sb), vI (1 + k)] lk_L_152 (c_L_cell ok0.fl hG hS hg (by omega)) rfl (by rw [hR]; exact ⟨by decide, by decide, by simp only [RM]; omega, by simp only [RM]; omega⟩) (Nat.le_of_ble_eq_true rfl) dL_drawn_34 (fun r9 m9 X9 hq9 => ?_)
      obtain ⟨rfl, hm9, hxs⟩ := hq9
      subst m9
      subst X9
      simp only [Option.toList_some, List.singleton_append]
      refine ga_iconst ok dL_drawn_37 ?_
      refine ga_iushrZ ok dL_drawn_38 ?_
      obtain ⟨d, hd⟩ : ∃ w, w = zShr (cel xs sl (1 + k)) 1 := ⟨_, rfl⟩
      have hdr := zShr_rng (x := (cel xs sl (1 + k))) (k := 1) (by omega)
      rw [← hd] at hdr ⊢
      have hd6 := zShr_rng (x := d) (k := 6) (by omega)
      refine ga_istore ok hn5 dL_drawn_39 ?_
      refine ga_aload_n ok 1 rfl rfl dL_drawn_41 ?_
      refine ga_iconst ok dL_drawn_42 ?_
      refine ga_iload ok rfl dL_drawn_43 ?_
      refine ga_bipush ok dL_drawn_45 (by decide) ?_
      refine ga_irem ok dL_drawn_47 (by omega) (by omega) ?_
      refine ga_iadd ok dL_drawn_48 ?_
      refine gl_callT ok0 hG hS [.ref 0, vI (1 + d % 64)] lw_L_156 hX1.h40 (fun G9 hG9 hS9 => w_guard ok0.fl hG9 hS9 hX1 (by omega) (by omega)) rfl (by rw [hR]; exact ⟨by decide, by decide, by simp only [RM]; omega, by simp only [RM]; omega⟩) (Nat.le_of_ble_eq_true rfl) dL_drawn_49 (fun r9 m2 hq9 => ?_)
      obtain ⟨rfl, hX2⟩ := hq9
      simp only [Option.toList_some, List.singleton_append]
      obtain ⟨g2, hs, hr0, hr1, hb2, hz2, ht2⟩ := dw_guard (g := g1) (x := 1 + d % 64) (C := 0) (by omega) (by omega) (by omega) hb1
      rw [hs, wr_0]
      rw [hs] at hX2
      have hz3 : rg g2.r k.toNat 1 = 0 := by rw [← hk0]; exact hz2
      refine ga_iload ok rfl dL_drawn_52 ?_
      refine ga_icmp_ne ok 84 (by decide) (by omega) (by omega) dL_drawn_54 (fun c_54 => ?_) (fun c_54 => ?_)
      · exact absurd hk0 c_54
      · refine ga_iload ok rfl dL_drawn_57 ?_
        refine ga_iconst ok dL_drawn_59 ?_
        refine ga_irem ok dL_drawn_60 (by omega) (by omega) ?_
        refine ga_if_ne ok 86 (by decide) (by omega) dL_drawn_61 (fun c_61 => ?_) (fun c_61 => ?_)
        · refine ga_iinc ok rfl hn4 dL_drawn_86 ?_
          refine ga_goto ok 23 (by decide) dL_drawn_89 ?_
          refine WA.wd (k2 := 260 + 10 * (k + 1).toNat) (n2 := 2620 + 50 * (k + 1).toNat) (by first | omega | (simp only [RM]; omega)) (by first | omega | (simp only [RM]; omega)) ?_
          exact WA.re (by exact ⟨rfl, rfl, rfl, rfl, rfl, trivial⟩) (loop1 (k + 1) m2 g2 ⟨by omega, hX2.mono (by omega), by omega, by omega, hb2, by omega⟩ (by omega))
        · refine ga_aload_n ok 1 rfl rfl dL_drawn_64 ?_
          refine ga_iload ok rfl dL_drawn_65 ?_
          refine ga_iconst ok dL_drawn_67 ?_
          refine ga_iload ok rfl dL_drawn_68 ?_
          refine ga_bipush ok dL_drawn_70 (by decide) ?_
          refine ga_iushrZ ok dL_drawn_72 ?_
          refine ga_sipush ok dL_drawn_73 (by decide) ?_
          refine ga_irem ok dL_drawn_76 (by omega) (by omega) ?_
          refine ga_iadd ok dL_drawn_77 ?_
          refine gl_callT ok0 hG hS [.ref 0, vI k, vI (1 + zShr d 6 % 256)] lw_L_159 hX2.h40 (fun G9 hG9 hS9 => w_caution ok0.fl hG9 hS9 hX2 (by omega) (by omega) (by omega)) rfl (by rw [hR]; exact ⟨by decide, by decide, by simp only [RM]; omega, by simp only [RM]; omega⟩) (Nat.le_of_ble_eq_true rfl) dL_drawn_78 (fun r9 m3 hq9 => ?_)
          obtain ⟨rfl, hX3⟩ := hq9
          simp only [Option.toList_some, List.singleton_append]
          obtain ⟨g3, hs3, hr03, hr13, hb3, ht3⟩ := dw_caution (g := g2) (n := k) (y := 1 + zShr d 6 % 256) (C := 0) (by omega) (by omega) hz3 hb2
          rw [hs3, wr_0]
          rw [hs3] at hX3
          refine ga_if_eq ok 86 (by decide) (by omega) dL_drawn_81 (fun c_81 => ?_) (fun c_81 => ?_)
          · refine ga_iinc ok rfl hn4 dL_drawn_86 ?_
            refine ga_goto ok 23 (by decide) dL_drawn_89 ?_
            refine WA.wd (k2 := 260 + 10 * (k + 1).toNat) (n2 := 2620 + 50 * (k + 1).toNat) (by first | omega | (simp only [RM]; omega)) (by first | omega | (simp only [RM]; omega)) ?_
            exact WA.re (by exact ⟨rfl, rfl, rfl, rfl, rfl, trivial⟩) (loop1 (k + 1) m3 g3 ⟨by omega, hX3.mono (by omega), by omega, by omega, hb3, by omega⟩ (by omega))
          · exact absurd rfl c_81
  refine WA.wd (k2 := 260 + 10 * (0 : Int).toNat) (n2 := 2620 + 50 * (0 : Int).toNat) (by first | omega | (simp only [RM]; omega)) (by first | omega | (simp only [RM]; omega)) ?_
  exact WA.re (by exact ⟨rfl, rfl, rfl, rfl, rfl, trivial⟩) (loop1 0 _ g00 ⟨by omega, (LWX_0 (by omega)).mono (by omega), rfl, rfl, fun u hu => by have hu : (u : Int) < 0 := hu; omega, rfl⟩)
