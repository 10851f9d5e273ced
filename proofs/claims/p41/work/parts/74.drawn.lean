/-! DRAWN: guards who are taught visitors -/
def Cb (C : Int) (S : Nat → Int) : Prop := (0 ≤ S 0 ∧ S 0 ≤ 64) ∧ ∀ i, i < 11 → -C ≤ S (6 + i) ∧ S (6 + i) ≤ C
theorem Cb.mono {C C' : Int} {S : Nat → Int} (h : Cb C S) (hC : C ≤ C') : Cb C' S := ⟨h.1, fun i hi => by have := h.2 i hi; omega⟩
theorem Cb.dl {C : Int} {S : Nat → Int} (h : Cb C S) (F : Int) : -64 ≤ dlt S F ∧ dlt S F ≤ 64 := by
  have := h.1
  unfold dlt
  split <;> omega
theorem Cb.tok {C : Int} {S : Nat → Int} (h : Cb C S) (hC : C + 64 ≤ 60000) (x F : Int) : tOK S x F = true := by
  unfold tOK
  rw [Bool.or_eq_true]
  refine Or.inr (rok_t.mpr (fun i hi _ => ?_))
  have h1 : -C ≤ gcn S i ∧ gcn S i ≤ C := h.2 i hi
  have h2 := h.dl F
  omega
theorem Cb.ts {C : Int} {S : Nat → Int} (h : Cb C S) (x F : Int) : Cb (C + 64) (tS S x F) := by
  have h2 := h.dl F
  refine ⟨?_, fun i hi => ?_⟩
  · have e : tS S x F 0 = S 0 := by
      unfold tS
      rw [if_neg (by omega)]
      split
      · rw [if_neg (by omega), if_neg (by omega)]
      · rfl
    rw [e]
    exact h.1
  · have h1 := h.2 i hi
    unfold tS
    rw [if_neg (by omega)]
    split
    · rw [if_neg (by omega)]
      split
      · omega
      · omega
    · omega
theorem Cb.lp {C : Int} {S X F : Nat → Int} (h : Cb C S) : ∀ n : Nat, C + 64 * n ≤ 60000 → lpOK S X F n = true ∧ Cb (C + 64 * n) (lpS S X F n)
  | 0, _ => ⟨rfl, h.mono (by omega)⟩
  | n + 1, hn => by
    obtain ⟨h1, h2⟩ := Cb.lp h n (by omega)
    refine ⟨?_, ?_⟩
    · simp only [lpOK]
      rw [h1, h2.tok (by omega)]
      rfl
    · simp only [lpS]
      exact (h2.ts _ _).mono (by omega)
theorem Cb.es {C p : Int} {S : Nat → Int} (h : Cb C S) : Cb C (eS S p) := by
  refine ⟨?_, fun i hi => ?_⟩
  · have e : eS S p 0 = S 0 := by
      unfold eS
      rw [if_neg (by omega), if_neg (by omega), if_neg (by omega)]
    rw [e]
    exact h.1
  · have e : eS S p (6 + i) = S (6 + i) := by
      unfold eS
      rw [if_neg (by omega), if_neg (by omega), if_neg (by omega)]
    rw [e]
    exact h.2 i hi
theorem Cb.run {X F : Nat → Int} {n : Nat} (hn : n ≤ 12) : ∀ (f : Nat) (S : Nat → Int) (d C : Int), Cb C S → C + 768 * f ≤ 60000 → ∃ d' S', dRun X F n f S d = some (d', S') ∧ Cb (C + 768 * f) S'
  | 0, S, d, C, h, _ => ⟨d, S, rfl, h.mono (by omega)⟩
  | f + 1, S, d, C, h, hC => by
    obtain ⟨h1, h2⟩ := h.lp (X := X) (F := F) n (by omega)
    have h3 : Cb (C + 768) (dS S X F n) := (show Cb (C + 64 * n) (dS S X F n) from h2.es).mono (by omega)
    simp only [dRun]
    rw [if_pos h1]
    by_cases e : lpC S X F n = 0
    · rw [if_pos e]
      exact ⟨_, _, rfl, h3.mono (by omega)⟩
    · rw [if_neg e]
      obtain ⟨d', S', h4, h5⟩ := Cb.run hn f (dS S X F n) (d + 1) (C + 768) h3 (by omega)
      exact ⟨d', S', h4, h5.mono (by omega)⟩
def GB (C : Int) (r : Nat → Int) : Prop := ∀ u : Nat, (u : Int) < r 0 → Cb C (rg r u)
theorem GB.mono {C C' : Int} {r : Nat → Int} (h : GB C r) (hC : C ≤ C') : GB C' r := fun u hu => (h u hu).mono hC
theorem Cb.cg {C : Int} {S S' : Nat → Int} (h : Cb C S) (e : ∀ k, k < 27 → S' k = S k) : Cb C S' := ⟨by rw [e 0 (by omega)]; exact h.1, fun i hi => by rw [e (6 + i) (by omega)]; exact h.2 i hi⟩
theorem GB.st {C : Int} {r S : Nat → Int} {n : Nat} (h : GB C r) (hS : Cb C S) : GB C (stG r n S) := by
  intro u hu
  rw [lo_stG (by omega)] at hu
  by_cases e : u = n
  · exact hS.cg (fun k hk => by rw [rg_stG hk, if_pos e])
  · exact (h u hu).cg (fun k hk => by rw [rg_stG hk, if_neg e])
theorem wr_0 {z : Int} {X : Gm} : wr (0, z, X) = z := if_pos rfl
theorem wr_2 {X : Gm} : wr (2, 0, X) = -2 := if_neg (by show ¬ (2 : Int) = 0; decide)
theorem chG_r {g : Gm} {R : Nat → Int} : (chG g R).r = R := rfl
theorem chG_tn {g : Gm} {R : Nat → Int} : (chG g R).tn = g.tn := kpG_tn
theorem dw_guard {g : Gm} {x C : Int} (h0 : 0 ≤ g.r 0 ∧ g.r 0 < 4) (hx : 1 ≤ x ∧ x ≤ 64) (hC : 0 ≤ C) (hb : GB C g.r) : ∃ g', sp_guard g x = (0, g.r 0, g') ∧ g'.r 0 = g.r 0 + 1 ∧ g'.r 1 = g.r 1 ∧ GB C g'.r ∧ rg g'.r (g.r 0).toNat 1 = 0 ∧ g'.tn = g.tn := by
  refine ⟨chG g (adG g.r x), ?_, rfl, ?_, fun u hu => ?_, ?_, chG_tn⟩
  · unfold sp_guard
    rw [if_neg (fun h => h hx), if_neg (by omega)]
  · show adG g.r x 1 = g.r 1
    unfold adG
    rw [if_neg (by omega), if_neg (by omega)]
  · have hu : (u : Int) < g.r 0 + 1 := hu
    by_cases e : (u : Int) < g.r 0
    · exact (hb u e).cg (fun k hk => rg_adG_old e hk)
    · have e2 : u = (g.r 0).toNat := by omega
      subst e2
      refine Cb.cg (S := nS x) ?_ (fun k hk => rg_adG_new hk)
      refine ⟨?_, fun i hi => ?_⟩
      · show 0 ≤ nS x 0 ∧ nS x 0 ≤ 64
        unfold nS
        simp
        omega
      · have e3 : nS x (6 + i) = 0 := by
          unfold nS
          simp
        rw [e3]
        omega
  · show rg (adG g.r x) (g.r 0).toNat 1 = 0
    rw [rg_adG_new (by omega)]
    unfold nS
    simp
theorem dw_caution {g : Gm} {n y C : Int} (hn : 0 ≤ n ∧ n < g.r 0) (hy : 1 ≤ y ∧ y ≤ 256) (hz : rg g.r n.toNat 1 = 0) (hb : GB C g.r) : ∃ g', sp_caution g n y = (0, 0, g') ∧ g'.r 0 = g.r 0 ∧ g'.r 1 = g.r 1 ∧ GB C g'.r ∧ g'.tn = g.tn := by
  refine ⟨chG g (stG g.r n.toNat (rtS (rg g.r n.toNat) 1 y)), ?_, lo_stG (by omega), lo_stG (by omega), hb.st ?_, chG_tn⟩
  · unfold sp_caution
    rw [if_neg (fun h => h hn), if_neg (fun h => h (by omega)), if_neg (by omega), hz]
  · have h := hb n.toNat (by omega)
    refine ⟨?_, fun i hi => ?_⟩
    · show 0 ≤ rtS (rg g.r n.toNat) 1 y 0 ∧ rtS (rg g.r n.toNat) 1 y 0 ≤ 64
      unfold rtS
      rw [if_neg (by omega)]
      exact h.1
    · unfold rtS
      rw [if_neg (by omega)]
      exact h.2 i hi
theorem dw_visitor {g : Gm} {x f C : Int} (h1 : 0 ≤ g.r 1 ∧ g.r 1 ≤ 10) (hx : 1 ≤ x ∧ x ≤ 1023) (hb : GB C g.r) : ∃ (z : Int) (g' : Gm), wr (sp_visitor g x f) = z ∧ (sp_visitor g x f).2.2 = g' ∧ ((0 ≤ z ∧ z ≤ 12) ∨ (z = -2 ∧ g'.rs = 2)) ∧ g'.r 0 = g.r 0 ∧ (g.r 1 ≤ g'.r 1 ∧ g'.r 1 ≤ g.r 1 + 1) ∧ GB C g'.r ∧ g'.tn = g.tn := by
  refine ⟨_, _, rfl, rfl, ?_⟩
  unfold sp_visitor
  rw [if_neg (fun h => h hx)]
  split
  · exact ⟨Or.inr ⟨wr_2, rfl⟩, rfl, ⟨Int.le_refl _, by show g.r 1 ≤ g.r 1 + 1; omega⟩, hb, rfl⟩
  · rw [if_neg (by omega), wr_0]
    have e0 : adV g.r x f 0 = g.r 0 := by
      unfold adV
      rw [if_neg (by omega), if_neg (by omega), if_neg (by omega)]
    have e1 : adV g.r x f 1 = g.r 1 + 1 := by unfold adV; rw [if_pos rfl]
    refine ⟨Or.inl (by omega), e0, ?_, fun u hu => ?_, chG_tn⟩
    · show g.r 1 ≤ adV g.r x f 1 ∧ adV g.r x f 1 ≤ g.r 1 + 1
      rw [e1]
      omega
    · have hu : (u : Int) < adV g.r x f 0 := hu
      rw [e0] at hu
      exact (hb u hu).cg (fun k hk => rg_adV (by omega))
theorem dw_teach {g : Gm} {n v C : Int} (hn : 0 ≤ n ∧ n < g.r 0) (hv : 0 ≤ v ∧ v < g.r 1) (hC : 0 ≤ C ∧ C + 64 ≤ 60000) (hb : GB C g.r) : ∃ (z : Int) (g' : Gm), sp_teach g n v = (0, z, g') ∧ (0 ≤ z ∧ z ≤ 2147483647) ∧ g'.r 0 = g.r 0 ∧ g'.r 1 = g.r 1 ∧ GB (C + 64) g'.r ∧ g'.tn = g.tn := by
  have h := hb n.toNat (by omega)
  refine ⟨b2i (psS (rg g.r n.toNat) (vX g.r v.toNat) (vF g.r v.toNat)), chG g (stG g.r n.toNat (tS (rg g.r n.toNat) (vX g.r v.toNat) (vF g.r v.toNat))), ?_, ?_, lo_stG (by omega), lo_stG (by omega), (hb.mono (by omega)).st (h.ts _ _), chG_tn⟩
  · unfold sp_teach
    rw [if_neg (fun h9 => h9 ⟨hn, hv⟩), if_pos (h.tok (by omega) _ _)]
  · have := b2i_01 (psS (rg g.r n.toNat) (vX g.r v.toNat) (vF g.r v.toNat))
    omega
theorem dw_rn {g : Gm} {n C T : Int} {f : Nat} (hO : gtOk T g.r) (hn : 0 ≤ n ∧ n < g.r 0) (hC : C + 768 * f ≤ 60000) (hb : GB C g.r) : ∃ d S, dRun (vX g.r) (vF g.r) (g.r 1).toNat f (rg g.r n.toNat) 0 = some (d, S) ∧ Cb (C + 768 * f) S ∧ (0 ≤ d ∧ d ≤ f) ∧ (0 ≤ S 4 ∧ S 4 ≤ T + 13 * f) := by
  have h12 := hO.2.1
  obtain ⟨d, S, h1, h2⟩ := Cb.run (X := vX g.r) (F := vF g.r) (n := (g.r 1).toNat) (by omega) f (rg g.r n.toNat) 0 C (hb n.toNat (by omega)) hC
  obtain ⟨k1, k2, k3⟩ := gOk_dRun (by omega) f _ _ _ (hO.rg hn) d S h1
  exact ⟨d, S, h1, h2, by omega, k1.2.2.1 4 (by omega) (by omega)⟩
theorem dw_day {g : Gm} {n C T : Int} (hO : gtOk T g.r) (hT : T ≤ 100000000) (hn : 0 ≤ n ∧ n < g.r 0) (hv : 0 < g.r 1) (hC : 0 ≤ C ∧ C + 768 ≤ 60000) (hb : GB C g.r) : ∃ (z : Int) (g' : Gm), sp_day g n = (0, z, g') ∧ (0 ≤ z ∧ z ≤ 2147483647) ∧ g'.r 0 = g.r 0 ∧ g'.r 1 = g.r 1 ∧ GB (C + 768) g'.r ∧ g'.tn = g.tn := by
  obtain ⟨d, S, h1, h2, h3, h4⟩ := dw_rn (f := 1) hO hn (by omega) hb
  refine ⟨S 4, chG g (stG g.r n.toNat S), ?_, by omega, lo_stG (by omega), lo_stG (by omega), (hb.mono (by omega)).st (h2.mono (by omega)), chG_tn⟩
  unfold sp_day
  rw [if_neg (fun h => h hn), if_neg (by omega)]
  unfold rnD
  rw [show (1 : Int).toNat = 1 from rfl, h1]
theorem dw_days {g : Gm} {n most C T : Int} (hO : gtOk T g.r) (hT : T ≤ 100000000) (hn : 0 ≤ n ∧ n < g.r 0) (hv : 0 < g.r 1) (hm : 1 ≤ most ∧ most ≤ 4) (hC : 0 ≤ C ∧ C + 3072 ≤ 60000) (hb : GB C g.r) : ∃ (z : Int) (g' : Gm), sp_days g n most = (0, z, g') ∧ (0 ≤ z ∧ z ≤ 2147483647) ∧ g'.r 0 = g.r 0 ∧ g'.r 1 = g.r 1 ∧ GB (C + 3072) g'.r ∧ g'.tn = g.tn := by
  obtain ⟨d, S, h1, h2, h3, h4⟩ := dw_rn (f := most.toNat) hO hn (by omega) hb
  refine ⟨d, chG g (stG g.r n.toNat S), ?_, by omega, lo_stG (by omega), lo_stG (by omega), (hb.mono (by omega)).st (h2.mono (by omega)), chG_tn⟩
  unfold sp_days
  rw [if_neg (fun h => h hn), if_neg (fun h => h (by omega)), if_neg (by omega)]
  unfold rnD
  rw [h1]
/-! THE STATE AT FIRST -/
def g00 : Gm := mkG (fun _ => 0) (fun _ => 0) 0 (fun _ _ => 0) 0 0 0 (-1) (fun _ => 0) 0 (fun _ => 0) 0
theorem LWX_0 {z : Int} (hz : 0 ≤ z) : LWX 0 (m00 z) g00 := by
  have h64 : ∀ n, n ≠ 0 ∧ n ≠ 960 ∧ n ≠ 1024 → ∀ j, (m00 z).1 n j = 0 := fun n h j => m00_0 h j
  have e0 : ∀ j, j ≠ 10 → (m00 z).1 0 j = 0 := fun j h => by simp [m00, h]
  have k0 : (m00 z).1 960 0 = 0 := by simp [m00]
  have r0 : g00.r = fun _ => 0 := rfl
  have hg : gtIs (m00 z) 64 g00.r := ⟨h64 64 (by omega) 1, h64 64 (by omega) 4, fun v hv => by have hv : (v : Int) < 0 := hv; omega, fun j hj => by have hj : (j : Int) < 0 := hj; omega⟩
  have ho : gtOk 0 g00.r := ⟨by rw [r0]; decide, by rw [r0]; decide, fun v hv => by have hv : (v : Int) < 0 := hv; omega, fun j hj => by have hj : (j : Int) < 0 := hj; omega⟩
  refine ⟨⟨⟨hg, ho⟩, ⟨e0 3 (by omega), Or.inl rfl, fun h => absurd (show (0 : Int) = 1 from h) (by decide)⟩, ⟨e0 6 (by omega), by decide, by rw [e0 5 (by omega)]; decide, fun i hi => by have hi : (i : Int) < 0 := hi; omega⟩, ⟨⟨by simp [m00]; rfl, e0 11 (by omega), e0 12 (by omega)⟩, by decide, by decide, by decide⟩, ⟨h64 640 (by omega) 1, by decide, fun i hi => by have hi : (i : Int) < 0 := hi; omega⟩, ⟨k0, by decide, fun i hi => by have hi : (i : Int) < 0 := hi; omega⟩⟩, m00_bls z hz, ⟨by decide, fun i hi => by have hi : (i : Int) < 0 := hi; omega⟩⟩
theorem WA.gx0 {G : GG} {E : EE} {k n pc : Nat} {L : List (Nat × Value)} {st : List Value} {m : Mm} (w : WA (GX G []) E k n pc L st m) : WA G E k n pc L st m := fun H locs ls hW hS hl => w H locs ls (hW.xg XOK.nil) hS hl
/-! THE CONTRACT OF WHAT IS DRAWN -/
def CD (G : GG) (l : Launch) (N0 sb : Nat) (rm : Room) (Qr : Option Value → Mm → XS → Prop) : Prop :=
  Met l yL_drawn (Cond.code yL_drawn cL_drawn 10 (some (.object "GateGuards")) :: BIG) rm (va_Pc ([.ref (RAW + sb)].map (cv (g_ad G))) (fun U => SF G U ∧ AO2 U ∧ U.heap.size = N0)) (qL G Qr) rm.cells rm.slots (g_A G)
theorem blind_CD (G : GG) (N0 sb : Nat) : FrameBlind (va_Pc ([.ref (RAW + sb)].map (cv (g_ad G))) (fun U => SF G U ∧ AO2 U ∧ U.heap.size = N0)) := by
  intro a U g mk h
  obtain ⟨h1, h2, h3, h4⟩ := h
  exact ⟨h1, SF.moved (s := U) (State.WarmedH.refl U) (Nat.le_refl _) (fun q _ _ => rfl) h2, AO2.moved (State.WarmedH.refl U).alike h3, h4⟩
theorem CD.of {G : GG} {l : Launch} {N0 sb : Nat} {rm : Room} {Qr : Option Value → Mm → XS → Prop} {z : Int} (hfl : l.stackTraces = false)
    (body : ∀ E : EE, OK0 G E RL cL_drawn → AO2 (e_s E) → EndL G E rm (some (.object "GateGuards")) Qr → (e_c E).maxLocals = 10 → (e_l E) = l → (e_s E).heap.size = N0 → WB G E z N0 [] (fun _ => False) N0 0 0 0 [(0, .ref (RAW + sb))] []) : CD G l N0 sb rm Qr := by
  refine Met.ofW (cc := cL_drawn) (maxL := 10) (ret := some (.object "GateGuards")) (by decide +kernel) rfl ?_
  intro p e s m0 args below meth c s₁ B hml hP
  obtain ⟨rfl, hSF, hAO, hsz⟩ := hP
  have hts := atoms_spec (ws := Cond.code yL_drawn cL_drawn 10 (some (.object "GateGuards")) :: BIG) B.pre
  have hownc : s.vm.findClass RL = some m0.cls := findClass_of_methodNamed B.named
  have hl0 := lv_entry ([.ref (RAW + sb)].map (cv (g_ad G))) (n := 10) (by rw [sl_len]; exact Nat.le_of_ble_eq_true rfl)
  rw [lg_entry_eq]
  have hl1 : lv_has (lg_sl (List.map (cv (g_ad G)) [.ref (RAW + sb)]) ++ List.replicate (10 - (lg_sl (List.map (cv (g_ad G)) [.ref (RAW + sb)])).length) Slot.unset).toArray 10 (([(0, .ref (RAW + sb))] : List (Nat × Value)).map (cvp G)) := hl0
  obtain ⟨E, hE⟩ : ∃ E : EE, E = (p, l, e, (headSpec (Cond.code yL_drawn cL_drawn 10 (some (.object "GateGuards")) :: BIG) rm).room, s, m0, ([.ref (RAW + sb)].map (cv (g_ad G))).toArray, below, meth, c, MQ below (qL G Qr) ([.ref (RAW + sb)].map (cv (g_ad G))).toArray s rm.cells rm.slots (g_A G)) := ⟨_, rfl⟩
  have k := body E (by subst hE; exact ⟨B.exec, B.bytes, hownc, fun w hw => hts w (List.mem_cons_of_mem _ hw), hSF, hfl⟩) (by subst hE; exact hAO) (by subst hE; exact ⟨rfl, B.notSynchronized, B.returns, rfl⟩) (by subst hE; exact hml) (by subst hE; rfl) (by subst hE; exact hsz)
  have hml' : (e_c E).maxLocals = 10 := by subst hE; exact hml
  have k2 := k s.heap [] _ hsz (fun _ h => absurd h List.not_mem_nil) (fun _ h => h.elim) (fun a _ _ => by subst hE; rfl) (by subst hE; exact va_S.rf) (by rw [hml']; exact hl1)
  subst hE
  exact k2
/-- the law calls it -/
theorem wb_callD {G : GG} {E : EE} {own : String} {b : ByteArray} {k n pc : Nat} {L : List (Nat × Value)} {st : List Value} {z : Int} {N0 sb fq : Nat} {S : Nat → Prop} (ok : OK0 G E own b) (ao : AO2 (e_s E)) {index : Nat} {rm : Room} {Qr : Option Value → Mm → XS → Prop}
    (lk : LinkS own index yL_drawn cL_drawn 10 (some (.object "GateGuards")) 1) (hC : CD G (e_l E) N0 sb rm Qr) (hf : Fits (e_R E) rm 10 k n) (hw : (st.map fun v => v.category).sum ≤ 8)
    (d : decode b pc = .ok (.invokestatic index, 3))
    (kr : ∀ (r : Option Value) (m' : Mm) (Xs' : XS), Qr r m' Xs' → WA (GX G Xs') E (k + rm.cells) (n + rm.slots) (pc + 3) L (r.toList ++ st) m') : WB G E z N0 [] S fq k n pc L (.ref (RAW + sb) :: st) := by
  obtain ⟨f1, f2, f3, f4⟩ := hf
  intro H locs ls hN hU hS9 hF hS hl T hT X
  have hSA : va_S (g_A G) (e_s E).heap H locs := hS
  have hl0 : lv_has ls (e_c E).maxLocals (L.map (cvp G)) := hl
  have cw := cwS (R := e_R E) (s := e_s E) (args := e_a E) (own := own) (index := index) (y := yL_drawn) (bytes := cL_drawn) (maxL := 10) (ret := some (.object "GateGuards")) (Ts := BIG) (ws := Cond.code yL_drawn cL_drawn 10 (some (.object "GateGuards")) :: BIG) (ws' := BIG) (rm := rm) (mc := rm.cells) (ms := rm.slots) 1 ok.w (big_in (fun w hw => by
    rcases List.mem_append.mp hw with h | h
    · exact lk.1 w h
    · rcases List.mem_cons.mp h with h | h
      · rw [h]; exact lk.2.1
      · exact h)) rfl rfl rfl lk.2.2 ⟨f1, f2⟩
  have hr := va_runS (p := e_p E) (l := e_l E) (e := e_e E) (R := e_R E) (s := e_s E) (m := e_m E) (args := e_a E) (below := e_b E) (meth := e_t E) (c := e_c E) (H := H) (locs := locs) (cells := k) (slots := n) (As := [.ref (RAW + sb)].map (cv (g_ad G))) (rest := st.map (cv (g_ad G))) (g := F0 (e_m E) pc ls ((.ref (RAW + sb) :: st).map (cv (g_ad G)))) ⟨ok.x, ok.b, rfl, ok.o, ok.w⟩ hC cw ⟨blind_CD G N0 sb, fun U hU hWm => ⟨rfl, SF.moved hWm (by rw [hU]; exact hSA.1) (fun q h1 h2 => by rw [hU]; exact hSA.2.1 q h1 h2) ok.f, AO2.moved hWm.alike ao, by rw [hU]; exact hN⟩⟩ rfl rfl hl0.1 rfl (by have := sum_cv (g_ad G) st; exact lv_room (by omega)) d ⟨f3, f4⟩
  obtain ⟨v, st₀, t, T', Lc, h0, X', hL, e1, e2, ⟨⟨r, m', Xs', hv, hp, hb⟩, hF9⟩, hst⟩ := hr T hT X
  obtain ⟨k1, k2, k3⟩ := vx_keep h0 e1 hSA (fun q _ h => h) (fun q h => h) hL hF9
  have hv' : v = r.map (cv (g_ad G)) := by injection hv
  subst hv'
  obtain ⟨t2, a1, b1⟩ := kr r m' Xs' hp T'.heap (locs ++ Lc) ls (by rw [e1]; exact hb) k3 hl0 T' rfl X'
  refine ⟨t2, hst t2 ?_, b1⟩
  have e9 : (r.map (cv (g_ad G))).toList ++ st.map (cv (g_ad G)) = (r.toList ++ st).map (cv (g_ad G)) := by cases r <;> rfl
  rw [e9]
  exact a1
