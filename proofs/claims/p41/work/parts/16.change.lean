/-! THE FACE'S STATE -/
def Gm : Type := (Nat → Int) × (Nat → Int) × (Int) × (Nat → Nat → Int) × (Int) × (Int) × (Int) × (Int) × (Nat → Int) × (Int) × (Nat → Int) × (Int)
def Gm.r (g : Gm) : Nat → Int := (show (Nat → Int) × (Nat → Int) × (Int) × (Nat → Nat → Int) × (Int) × (Int) × (Int) × (Int) × (Nat → Int) × (Int) × (Nat → Int) × (Int) from g).1
def Gm.sv (g : Gm) : Nat → Int := (show (Nat → Int) × (Nat → Int) × (Int) × (Nat → Nat → Int) × (Int) × (Int) × (Int) × (Int) × (Nat → Int) × (Int) × (Nat → Int) × (Int) from g).2.1
def Gm.hs (g : Gm) : Int := (show (Nat → Int) × (Nat → Int) × (Int) × (Nat → Nat → Int) × (Int) × (Int) × (Int) × (Int) × (Nat → Int) × (Int) × (Nat → Int) × (Int) from g).2.2.1
def Gm.pa (g : Gm) : Nat → Nat → Int := (show (Nat → Int) × (Nat → Int) × (Int) × (Nat → Nat → Int) × (Int) × (Int) × (Int) × (Int) × (Nat → Int) × (Int) × (Nat → Int) × (Int) from g).2.2.2.1
def Gm.kt (g : Gm) : Int := (show (Nat → Int) × (Nat → Int) × (Int) × (Nat → Nat → Int) × (Int) × (Int) × (Int) × (Int) × (Nat → Int) × (Int) × (Nat → Int) × (Int) from g).2.2.2.2.1
def Gm.rs (g : Gm) : Int := (show (Nat → Int) × (Nat → Int) × (Int) × (Nat → Nat → Int) × (Int) × (Int) × (Int) × (Int) × (Nat → Int) × (Int) × (Nat → Int) × (Int) from g).2.2.2.2.2.1
def Gm.dt (g : Gm) : Int := (show (Nat → Int) × (Nat → Int) × (Int) × (Nat → Nat → Int) × (Int) × (Int) × (Int) × (Int) × (Nat → Int) × (Int) × (Nat → Int) × (Int) from g).2.2.2.2.2.2.1
def Gm.er (g : Gm) : Int := (show (Nat → Int) × (Nat → Int) × (Int) × (Nat → Nat → Int) × (Int) × (Int) × (Int) × (Int) × (Nat → Int) × (Int) × (Nat → Int) × (Int) from g).2.2.2.2.2.2.2.1
def Gm.tx (g : Gm) : Nat → Int := (show (Nat → Int) × (Nat → Int) × (Int) × (Nat → Nat → Int) × (Int) × (Int) × (Int) × (Int) × (Nat → Int) × (Int) × (Nat → Int) × (Int) from g).2.2.2.2.2.2.2.2.1
def Gm.tn (g : Gm) : Int := (show (Nat → Int) × (Nat → Int) × (Int) × (Nat → Nat → Int) × (Int) × (Int) × (Int) × (Int) × (Nat → Int) × (Int) × (Nat → Int) × (Int) from g).2.2.2.2.2.2.2.2.2.1
def Gm.ln (g : Gm) : Nat → Int := (show (Nat → Int) × (Nat → Int) × (Int) × (Nat → Nat → Int) × (Int) × (Int) × (Int) × (Int) × (Nat → Int) × (Int) × (Nat → Int) × (Int) from g).2.2.2.2.2.2.2.2.2.2.1
def Gm.nn (g : Gm) : Int := (show (Nat → Int) × (Nat → Int) × (Int) × (Nat → Nat → Int) × (Int) × (Int) × (Int) × (Int) × (Nat → Int) × (Int) × (Nat → Int) × (Int) from g).2.2.2.2.2.2.2.2.2.2.2
def mkG (r : Nat → Int) (sv : Nat → Int) (hs : Int) (pa : Nat → Nat → Int) (kt : Int) (rs : Int) (dt : Int) (er : Int) (tx : Nat → Int) (tn : Int) (ln : Nat → Int) (nn : Int) : Gm := (r, sv, hs, pa, kt, rs, dt, er, tx, tn, ln, nn)
def XIs (T : Int) (m : Mm) (g : Gm) : Prop :=
  (gtIs m 64 g.r ∧ gtOk T g.r) ∧
  (m.1 0 3 = g.hs ∧ (g.hs = 0 ∨ g.hs = 1) ∧ (g.hs = 1 → gtIs m 66 g.sv ∧ gtOk T g.sv)) ∧
  (m.1 0 6 = g.kt ∧ (0 ≤ g.kt ∧ g.kt ≤ 8) ∧ (0 ≤ m.1 0 5 ∧ m.1 0 5 < 8) ∧ ∀ i : Nat, (i : Int) < g.kt → gtIs m (67 + ((m.1 0 5 + i) % 8).toNat) (g.pa i) ∧ gtOk T (g.pa i)) ∧
  ((m.1 0 10 = g.er ∧ m.1 0 11 = g.rs ∧ m.1 0 12 = g.dt) ∧ (-1 ≤ g.er ∧ g.er ≤ 60) ∧ (0 ≤ g.rs ∧ g.rs ≤ 5) ∧ (0 ≤ g.dt ∧ g.dt ≤ 256)) ∧
  (m.1 640 1 = g.tn ∧ (0 ≤ g.tn ∧ g.tn ≤ 60) ∧ ∀ i : Nat, (i : Int) < g.tn → m.1 704 i = g.tx i ∧ 0 ≤ g.tx i ∧ g.tx i ≤ 65535) ∧
  (m.1 960 0 = g.nn ∧ (0 ≤ g.nn ∧ g.nn ≤ 100) ∧ ∀ i : Nat, (i : Int) < g.nn → m.1 961 i = g.ln i)
/-- what isn't the face's has not changed -/
def XFr (m m' : Mm) : Prop := ∀ n, 960 ≤ n → m'.1 n = m.1 n ∧ m'.2 n = m.2 n
theorem XFr.rf {m : Mm} : XFr m m := fun _ _ => ⟨rfl, rfl⟩
theorem XFr.tr {m m1 m2 : Mm} (h1 : XFr m m1) (h2 : XFr m1 m2) : XFr m m2 := fun n h => ⟨((h2 n h).1).trans (h1 n h).1, ((h2 n h).2).trans (h1 n h).2⟩
theorem XFr.uI {m m' : Mm} {a i : Nat} {v : Int} (h : XFr m m') (ha : a < 960) : XFr m (upI m' a i v) := fun n hn => ⟨by rw [upI_r (by omega)]; exact (h n hn).1, (h n hn).2⟩
theorem gtFr.x {m m' : Mm} {a : Nat} (h : gtFr m m' a) (ha : 64 ≤ a ∧ a < 75) : XFr m m' := fun n hn => h n (by omega) (by omega) (by omega) (by omega) (by omega) (by omega) (by omega)
theorem gFr.x {m m' : Mm} {a : Nat} (h : gFr m m' a) (ha : 320 ≤ a ∧ a < 365) : XFr m m' := fun n hn => h n (by omega) (by omega) (by omega) (by omega)
/-- what only serves for a while: the gate before a run, the guard on trial, what has been read -/
def Sc (n : Nat) : Prop := n = 65 ∨ n = 193 ∨ n = 257 ∨ (324 ≤ n ∧ n < 328) ∨ (388 ≤ n ∧ n < 392) ∨ (452 ≤ n ∧ n < 456) ∨ (516 ≤ n ∧ n < 520) ∨ n = 364 ∨ n = 428 ∨ n = 492 ∨ n = 556 ∨ n = 768 ∨ n = 832 ∨ n = 896
def SFr (m m' : Mm) : Prop := ∀ n, ¬ Sc n → m'.1 n = m.1 n ∧ m'.2 n = m.2 n
theorem SFr.rf {m : Mm} : SFr m m := fun _ _ => ⟨rfl, rfl⟩
theorem SFr.tr {m m1 m2 : Mm} (h1 : SFr m m1) (h2 : SFr m1 m2) : SFr m m2 := fun n h => ⟨((h2 n h).1).trans (h1 n h).1, ((h2 n h).2).trans (h1 n h).2⟩
theorem SFr.x {m m' : Mm} (h : SFr m m') : XFr m m' := fun n hn => h n (by unfold Sc; omega)
theorem gFr.s {m m' : Mm} (h : gFr m m' 364) : SFr m m' := fun n hn => h n (fun e => hn (by unfold Sc; omega)) (fun e => hn (by unfold Sc; omega)) (fun e => hn (by unfold Sc; omega)) (fun e => hn (by unfold Sc; omega))
theorem gtFr.s {m m' : Mm} (h : gtFr m m' 65) : SFr m m' := fun n hn => h n (fun e => hn (by unfold Sc; omega)) (fun e => hn (by unfold Sc; omega)) (fun e => hn (by unfold Sc; omega)) (fun e => hn (by unfold Sc; omega)) (fun e => hn (by unfold Sc; omega)) (fun e => hn (by unfold Sc; omega)) (fun e => hn (by unfold Sc; omega))
theorem gtIs.sfr {m m' : Mm} {b : Nat} {r : Nat → Int} (h : gtIs m b r) (hf : SFr m m') (hb : 64 ≤ b ∧ b < 75) (hne : b ≠ 65) (h0 : r 0 ≤ 4) : gtIs m' b r := by
  obtain ⟨e1, e4, hv, hg⟩ := h
  have k : ∀ n, n = b ∨ n = b + 128 ∨ n = b + 192 → m'.1 n = m.1 n := fun n hn => (hf n (by unfold Sc; omega)).1
  refine ⟨by rw [k b (by omega)]; exact e1, by rw [k b (by omega)]; exact e4, fun v hv9 => by rw [k (b + 128) (by omega), k (b + 192) (by omega)]; exact hv v hv9, fun j hj => ?_⟩
  have q : ∀ n, n = 320 + 4 * (b + 64 - 128) + j ∨ n = 320 + 4 * (b + 64 - 128) + j + 64 ∨ n = 320 + 4 * (b + 64 - 128) + j + 128 ∨ n = 320 + 4 * (b + 64 - 128) + j + 192 → m'.1 n = m.1 n ∧ m'.2 n = m.2 n := fun n hn => hf n (by unfold Sc; omega)
  exact (hg j hj).kept (q _ (by omega)).1 (q _ (by omega)).1 (q _ (by omega)).2 (q _ (by omega)).2
theorem XIs.sfr {T : Int} {m m' : Mm} {g : Gm} (h : XIs T m g) (hf : SFr m m') : XIs T m' g := by
  obtain ⟨⟨a1, a2⟩, ⟨b1, b2, b3⟩, ⟨c1, c2, c3, c4⟩, ⟨d1, d2⟩, ⟨t1, t2, t3⟩, ⟨l1, l2, l3⟩⟩ := h
  have k : ∀ n, n = 0 ∨ n = 640 ∨ n = 704 ∨ n = 960 ∨ n = 961 → m'.1 n = m.1 n := fun n hn => (hf n (by unfold Sc; omega)).1
  rw [← k 0 (by omega)] at b1 c1 c3 d1
  rw [← k 640 (by omega)] at t1
  rw [← k 704 (by omega)] at t3
  rw [← k 960 (by omega)] at l1
  rw [← k 961 (by omega)] at l3
  refine ⟨⟨a1.sfr hf (by omega) (by omega) a2.1.2, a2⟩, ⟨b1, b2, fun h => ⟨(b3 h).1.sfr hf (by omega) (by omega) (b3 h).2.1.2, (b3 h).2⟩⟩, ⟨c1, c2, c3, fun i hi => ?_⟩, ⟨d1, d2⟩, ⟨t1, t2, t3⟩, ⟨l1, l2, l3⟩⟩
  obtain ⟨q1, q2⟩ := c4 i hi
  rw [← k 0 (by omega)] at q1
  exact ⟨q1.sfr hf (by omega) (by omega) q2.1.2, q2⟩
theorem XIs.mono {T T' : Int} {m : Mm} {g : Gm} (h : XIs T m g) (ht : T ≤ T') : XIs T' m g := by
  obtain ⟨⟨a1, a2⟩, ⟨b1, b2, b3⟩, ⟨c1, c2, c3, c4⟩, d, t, l⟩ := h
  exact ⟨⟨a1, a2.mono ht⟩, ⟨b1, b2, fun h => ⟨(b3 h).1, (b3 h).2.mono ht⟩⟩, ⟨c1, c2, c3, fun i hi => ⟨(c4 i hi).1, (c4 i hi).2.mono ht⟩⟩, d, t, l⟩
/-- the gate now has changed -/
def nwG (g : Gm) (r : Nat → Int) : Gm := (mkG (r) g.sv g.hs g.pa g.kt g.rs g.dt g.er g.tx g.tn g.ln g.nn)
theorem XIs.now {T T' : Int} {m m' : Mm} {g : Gm} {r : Nat → Int} (h : XIs T m g) (hf : gtFr m m' 64) (hI : gtIs m' 64 r) (hO : gtOk T' r) (ht : T ≤ T') : XIs T' m' (nwG g r) := by
  obtain ⟨⟨a1, a2⟩, ⟨b1, b2, b3⟩, ⟨c1, c2, c3, c4⟩, ⟨d1, d2⟩, ⟨t1, t2, t3⟩, ⟨l1, l2, l3⟩⟩ := h.mono ht
  have k : ∀ n, n = 0 ∨ n = 640 ∨ n = 704 ∨ n = 960 ∨ n = 961 → m'.1 n = m.1 n := fun n hn => (hf n (by omega) (by omega) (by omega) (by omega) (by omega) (by omega) (by omega)).1
  rw [← k 0 (by omega)] at b1 c1 c3 d1
  rw [← k 640 (by omega)] at t1
  rw [← k 704 (by omega)] at t3
  rw [← k 960 (by omega)] at l1
  rw [← k 961 (by omega)] at l3
  refine ⟨⟨hI, hO⟩, ⟨b1, b2, fun h => ⟨(b3 h).1.fr hf (by omega) (by omega) (by omega) (b3 h).2.1.2, (b3 h).2⟩⟩, ⟨c1, c2, c3, fun i hi => ?_⟩, ⟨d1, d2⟩, ⟨t1, t2, t3⟩, ⟨l1, l2, l3⟩⟩
  obtain ⟨q1, q2⟩ := c4 i hi
  rw [← k 0 (by omega)] at q1
  exact ⟨q1.fr hf (by omega) (by omega) (by omega) q2.1.2, q2⟩
/-- a gate is the same where only words of the face itself have changed -/
theorem gtIs.z {m : Mm} {b i : Nat} {v : Int} {r : Nat → Int} (h : gtIs m b r) (hb : 64 ≤ b ∧ b < 75) (h0 : r 0 ≤ 4) {a : Nat} (ha : a = 0 ∨ a = 640 ∨ a = 704 ∨ a = 960 ∨ a = 961) : gtIs (upI m a i v) b r := by
  obtain ⟨e1, e4, hv, hg⟩ := h
  exact ⟨by rw [upI_r (by omega)]; exact e1, by rw [upI_r (by omega)]; exact e4, fun v hv9 => by rw [upI_r (by omega), upI_r (by omega)]; exact hv v hv9, fun j hj => (hg j hj).kept (upI_r (by omega)) (upI_r (by omega)) rfl rfl⟩
/-- a refusal is noted -/
def rfM (m : Mm) (a b : Int) : Mm := upI (upI m 0 11 a) 0 12 b
def rfG (g : Gm) (a b : Int) : Gm := (mkG g.r g.sv g.hs g.pa g.kt (a) (b) g.er g.tx g.tn g.ln g.nn)
theorem XIs.rf {T : Int} {m : Mm} {g : Gm} (h : XIs T m g) {a b : Int} (ha : 0 ≤ a ∧ a ≤ 5) (hb : 0 ≤ b ∧ b ≤ 256) : XIs T (rfM m a b) (rfG g a b) := by
  obtain ⟨⟨a1, a2⟩, ⟨b1, b2, b3⟩, ⟨c1, c2, c3, c4⟩, ⟨⟨d1, d3, d4⟩, d2, d5⟩, ⟨t1, t2, t3⟩, ⟨l1, l2, l3⟩⟩ := h
  have e : ∀ j, j ≠ 11 → j ≠ 12 → (rfM m a b).1 0 j = m.1 0 j := fun j h1 h2 => by unfold rfM; rw [upI_no (by omega), upI_no (by omega)]
  have k : ∀ n, n ≠ 0 → (rfM m a b).1 n = m.1 n := fun n hn => by unfold rfM; rw [upI_r hn, upI_r hn]
  have z : ∀ (q : Nat) (r : Nat → Int), 64 ≤ q ∧ q < 75 → r 0 ≤ 4 → gtIs m q r → gtIs (rfM m a b) q r := fun q r hq h0 h => (h.z hq h0 (Or.inl rfl)).z hq h0 (Or.inl rfl)
  refine ⟨⟨z 64 _ (by omega) a2.1.2 a1, a2⟩, ⟨by rw [e 3 (by omega) (by omega)]; exact b1, b2, fun h => ⟨z 66 _ (by omega) (b3 h).2.1.2 (b3 h).1, (b3 h).2⟩⟩, ⟨by rw [e 6 (by omega) (by omega)]; exact c1, c2, by rw [e 5 (by omega) (by omega)]; exact c3, fun i hi => ?_⟩, ⟨⟨by rw [e 10 (by omega) (by omega)]; exact d1, by unfold rfM; rw [upI_no (by omega), upI_at]; rfl, by unfold rfM; rw [upI_at]; rfl⟩, d2, ha, hb⟩, ⟨by rw [k 640 (by omega)]; exact t1, t2, by rw [k 704 (by omega)]; exact t3⟩, ⟨by rw [k 960 (by omega)]; exact l1, l2, by rw [k 961 (by omega)]; exact l3⟩⟩
  rw [e 5 (by omega) (by omega)]
  exact ⟨z _ _ (by omega) (c4 i hi).2.1.2 (c4 i hi).1, (c4 i hi).2⟩
theorem rfM.x {m m' : Mm} {a b : Int} (h : XFr m m') : XFr m (rfM m' a b) := (h.uI (by omega)).uI (by omega)
/-- what can be undone -/
def kpG (g : Gm) (R : Nat → Int) : Gm := if g.kt = 8 then (mkG g.r g.sv g.hs (fun i => if i = 7 then R else g.pa (i + 1)) g.kt g.rs g.dt g.er g.tx g.tn g.ln g.nn) else (mkG g.r g.sv g.hs (fun i => if (i : Int) = g.kt then R else g.pa i) (g.kt + 1) g.rs g.dt g.er g.tx g.tn g.ln g.nn)
theorem kpG_r {g : Gm} {R : Nat → Int} : (kpG g R).r = g.r := by unfold kpG; split <;> rfl
def chG (g : Gm) (r : Nat → Int) : Gm := nwG (kpG g g.r) r
def rtS (S : Nat → Int) (j : Nat) (x : Int) : Nat → Int := fun k => if k = j then x else S k
def sp_guard (g : Gm) (x : Int) : Int × Int × Gm := if ¬ (1 ≤ x ∧ x ≤ 64) then (1, 0, g) else if g.r 0 = 4 then (2, 0, rfG g 1 4) else (0, g.r 0, chG g (adG g.r x))
def sp_rate (g : Gm) (n x : Int) : Int × Int × Gm := if ¬ (0 ≤ n ∧ n < g.r 0) then (1, 0, g) else if ¬ (1 ≤ x ∧ x ≤ 64) then (2, 0, g) else if rg g.r n.toNat 0 = x then (3, 0, rfG g 4 x) else (0, rg g.r n.toNat 0, chG g (stG g.r n.toNat (rtS (rg g.r n.toNat) 0 x)))
def sp_caution (g : Gm) (n x : Int) : Int × Int × Gm := if ¬ (0 ≤ n ∧ n < g.r 0) then (1, 0, g) else if ¬ (0 ≤ x ∧ x ≤ 256) then (2, 0, g) else if rg g.r n.toNat 1 = x then (3, 0, rfG g 4 x) else (0, rg g.r n.toNat 1, chG g (stG g.r n.toNat (rtS (rg g.r n.toNat) 1 x)))
def sp_visitor (g : Gm) (x f : Int) : Int × Int × Gm := if ¬ (1 ≤ x ∧ x ≤ 1023) then (1, 0, g) else if 0 ≤ fnd g.r x (g.r 1).toNat then (2, 0, rfG g 2 (fnd g.r x (g.r 1).toNat)) else if g.r 1 = 12 then (2, 0, rfG g 1 12) else (0, g.r 1, chG g (adV g.r x f))
def sp_forget (g : Gm) (v : Int) : Int × Int × Gm := if ¬ (0 ≤ v ∧ v < g.r 1) then (1, 0, g) else (0, g.r 1 - 1, chG g (rmV g.r v.toNat))
def sp_teach (g : Gm) (n v : Int) : Int × Int × Gm := if ¬ ((0 ≤ n ∧ n < g.r 0) ∧ (0 ≤ v ∧ v < g.r 1)) then (1, 0, g) else if tOK (rg g.r n.toNat) (vX g.r v.toNat) (vF g.r v.toNat) = true then (0, b2i (psS (rg g.r n.toNat) (vX g.r v.toNat) (vF g.r v.toNat)), chG g (stG g.r n.toNat (tS (rg g.r n.toNat) (vX g.r v.toNat) (vF g.r v.toNat)))) else (2, 0, rfG g 5 n)
def rnD (r : Nat → Int) (n : Nat) (most : Int) : Option (Int × (Nat → Int)) := dRun (vX r) (vF r) (r 1).toNat most.toNat (rg r n) 0
def sp_day (g : Gm) (n : Int) : Int × Int × Gm := if ¬ (0 ≤ n ∧ n < g.r 0) then (1, 0, g) else if g.r 1 = 0 then (2, 0, rfG g 3 (g.r 0)) else match rnD g.r n.toNat 1 with | some (_, S) => (0, S 4, chG g (stG g.r n.toNat S)) | none => (2, 0, rfG g 5 n)
def sp_days (g : Gm) (n most : Int) : Int × Int × Gm := if ¬ (0 ≤ n ∧ n < g.r 0) then (1, 0, g) else if ¬ (1 ≤ most ∧ most ≤ 30) then (2, 0, g) else if g.r 1 = 0 then (3, 0, rfG g 3 (g.r 0)) else match rnD g.r n.toNat most with | some (d, S) => (0, d, chG g (stG g.r n.toNat S)) | none => (3, 0, rfG g 5 n)
def sp_wouldCalm (g : Gm) (n most : Int) : Int × Int × Gm := if ¬ (0 ≤ n ∧ n < g.r 0) then (1, 0, g) else if ¬ (1 ≤ most ∧ most ≤ 30) then (2, 0, g) else if g.r 1 = 0 then (3, 0, g) else match rnD g.r n.toNat most with | some (d, S) => if S 4 = 0 then (0, d, g) else (3, 0, g) | none => (3, 0, g)
def sp_undo (g : Gm) : Int × Int × Gm := if g.kt = 0 then (1, 0, g) else (0, g.kt - 1, (mkG (g.pa (g.kt - 1).toNat) g.sv g.hs g.pa (g.kt - 1) g.rs g.dt g.er g.tx g.tn g.ln g.nn))
def sp_save (g : Gm) : Int × Int × Gm := (0, g.r 1, (mkG g.r (g.r) (1) g.pa g.kt g.rs g.dt g.er g.tx g.tn g.ln g.nn))
def sp_restore (g : Gm) : Int × Int × Gm := if g.hs = 0 then (1, 0, g) else (0, g.sv 1, (mkG (g.sv) g.sv g.hs g.pa (0) g.rs g.dt g.er g.tx g.tn g.ln g.nn))
def sp_append (g : Gm) (c : Int) : Int × Int × Gm := if g.tn = 60 then (1, 0, g) else (0, g.tn + 1, (mkG g.r g.sv g.hs g.pa g.kt g.rs g.dt g.er (fun i => if (i : Int) = g.tn then c else g.tx i) (g.tn + 1) g.ln g.nn))
theorem XIs.keep {T : Int} {m m1 m2 : Mm} {g : Gm} (h : XIs T m g) {f k : Int} (hf : 0 ≤ f ∧ f < 8) (hk : 0 ≤ k ∧ k ≤ 7) (h5 : m1.1 0 5 = f) (hz : ∀ j, j ≠ 5 → j ≠ 6 → m1.1 0 j = m.1 0 j) (ho : ∀ n, n ≠ 0 → m1.1 n = m.1 n ∧ m1.2 n = m.2 n)
    {R : Nat → Int} (hfr : gtFr m1 m2 (67 + ((f + k) % 8).toNat)) (hR : gtIs m2 (67 + ((f + k) % 8).toNat) R) (hRO : gtOk T R) {P : Nat → Nat → Int} (hP : ∀ i : Nat, (i : Int) < k → gtIs m (67 + ((f + i) % 8).toNat) (P i) ∧ gtOk T (P i)) (hPk : P k.toNat = R) : XIs T (upI m2 0 6 (k + 1)) (mkG g.r g.sv g.hs (P) (k + 1) g.rs g.dt g.er g.tx g.tn g.ln g.nn) := by
  obtain ⟨⟨a1, a2⟩, ⟨b1, b2, b3⟩, ⟨c1, c2, c3, c4⟩, ⟨⟨d1, d3, d4⟩, d2, d5⟩, ⟨t1, t2, t3⟩, ⟨l1, l2, l3⟩⟩ := h
  have hb : 67 ≤ 67 + ((f + k) % 8).toNat ∧ 67 + ((f + k) % 8).toNat < 75 := by omega
  generalize hbe : 67 + ((f + k) % 8).toNat = b at hfr hR hb
  have q0 : m2.1 0 = m1.1 0 := (hfr 0 (by omega) (by omega) (by omega) (by omega) (by omega) (by omega) (by omega)).1
  have e : ∀ j, j ≠ 5 → j ≠ 6 → (upI m2 0 6 (k + 1)).1 0 j = m.1 0 j := fun j h1 h2 => by rw [upI_no (by omega), q0, hz j h1 h2]
  have w : ∀ n, n = 640 ∨ n = 704 ∨ n = 960 ∨ n = 961 → (upI m2 0 6 (k + 1)).1 n = m.1 n := fun n hn => by
    rw [upI_r (by omega), (hfr n (by omega) (by omega) (by omega) (by omega) (by omega) (by omega) (by omega)).1, (ho n (by omega)).1]
  have z : ∀ (q : Nat) (r : Nat → Int), 64 ≤ q ∧ q < 75 → q ≠ b → r 0 ≤ 4 → gtIs m q r → gtIs (upI m2 0 6 (k + 1)) q r := fun q r hq hne h0 h => by
    obtain ⟨x1, x4, xv, xg⟩ := h
    have y : gtIs m1 q r := ⟨by rw [(ho q (by omega)).1]; exact x1, by rw [(ho q (by omega)).1]; exact x4, fun v hv9 => by rw [(ho (q + 128) (by omega)).1, (ho (q + 192) (by omega)).1]; exact xv v hv9, fun j hj => (xg j hj).kept (ho _ (by omega)).1 (ho _ (by omega)).1 (ho _ (by omega)).2 (ho _ (by omega)).2⟩
    exact (y.fr hfr (by omega) hq (fun e9 => hne e9.symm) h0).z hq h0 (Or.inl rfl)
  refine ⟨⟨z 64 _ (by omega) (by omega) a2.1.2 a1, a2⟩, ⟨by rw [e 3 (by omega) (by omega)]; exact b1, b2, fun h => ⟨z 66 _ (by omega) (by omega) (b3 h).2.1.2 (b3 h).1, (b3 h).2⟩⟩, ⟨by rw [upI_at]; rfl, by show 0 ≤ k + 1 ∧ k + 1 ≤ 8; omega, by rw [upI_no (by omega), q0, h5]; exact hf, fun i hi => ?_⟩, ⟨⟨by rw [e 10 (by omega) (by omega)]; exact d1, by rw [e 11 (by omega) (by omega)]; exact d3, by rw [e 12 (by omega) (by omega)]; exact d4⟩, d2, d5⟩, ⟨by rw [w 640 (by omega)]; exact t1, t2, by rw [w 704 (by omega)]; exact t3⟩, ⟨by rw [w 960 (by omega)]; exact l1, l2, by rw [w 961 (by omega)]; exact l3⟩⟩
  have hi : (i : Int) < k + 1 := hi
  rw [upI_no (by omega), q0, h5]
  by_cases e9 : (i : Int) < k
  · obtain ⟨y1, y2⟩ := hP i e9
    exact ⟨z _ _ (by omega) (by omega) y2.1.2 y1, y2⟩
  · have : i = k.toNat := by omega
    subst this
    show gtIs _ (67 + ((f + ((k.toNat : Nat) : Int)) % 8).toNat) (P k.toNat) ∧ gtOk T (P k.toNat)
    rw [show 67 + ((f + ((k.toNat : Nat) : Int)) % 8).toNat = b by omega, hPk]
    exact ⟨hR.z (by omega) hRO.1.2 (Or.inl rfl), hRO⟩
theorem gIs.z {m : Mm} {q i : Nat} {v : Int} {S : Nat → Int} (h : gIs m q S) (hq : 320 ≤ q ∧ q < 365) : gIs (upI m 0 i v) q S := h.kept (upI_r (by omega)) (upI_r (by omega)) rfl rfl
theorem gIs.gt {m m' : Mm} {q a : Nat} {S : Nat → Int} (h : gIs m q S) (hf : gtFr m m' a) (ha : 64 ≤ a ∧ a < 75) (hq : q = 364) : gIs m' q S :=
  h.kept (hf q (by omega) (by omega) (by omega) (by omega) (by omega) (by omega) (by omega)).1 (hf (q + 128) (by omega) (by omega) (by omega) (by omega) (by omega) (by omega) (by omega)).1 (hf (q + 64) (by omega) (by omega) (by omega) (by omega) (by omega) (by omega) (by omega)).2 (hf (q + 192) (by omega) (by omega) (by omega) (by omega) (by omega) (by omega) (by omega)).2
theorem XIs.kt {T : Int} {m : Mm} {g : Gm} (h : XIs T m g) {k : Int} (hk : 0 ≤ k ∧ k ≤ g.kt) : XIs T (upI m 0 6 k) (mkG g.r g.sv g.hs g.pa k g.rs g.dt g.er g.tx g.tn g.ln g.nn) := by
  obtain ⟨⟨a1, a2⟩, ⟨b1, b2, b3⟩, ⟨c1, c2, c3, c4⟩, ⟨⟨d1, d3, d4⟩, d2, d5⟩, ⟨t1, t2, t3⟩, ⟨l1, l2, l3⟩⟩ := h
  refine ⟨⟨a1.z (by omega) a2.1.2 (Or.inl rfl), a2⟩, ⟨by rw [upI_no (by omega)]; exact b1, b2, fun h => ⟨(b3 h).1.z (by omega) (b3 h).2.1.2 (Or.inl rfl), (b3 h).2⟩⟩, ⟨by rw [upI_at]; rfl, ⟨hk.1, Int.le_trans hk.2 c2.2⟩, by rw [upI_no (by omega)]; exact c3, fun i hi => ?_⟩, ⟨⟨by rw [upI_no (by omega)]; exact d1, by rw [upI_no (by omega)]; exact d3, by rw [upI_no (by omega)]; exact d4⟩, d2, d5⟩, ⟨by rw [upI_r (by omega)]; exact t1, t2, by rw [upI_r (by omega)]; exact t3⟩, ⟨by rw [upI_r (by omega)]; exact l1, l2, by rw [upI_r (by omega)]; exact l3⟩⟩
  have hi : (i : Int) < k := hi
  rw [upI_no (by omega)]
  exact ⟨(c4 i (by omega)).1.z (by omega) (c4 i (by omega)).2.1.2 (Or.inl rfl), (c4 i (by omega)).2⟩
theorem XIs.save {T : Int} {m m1 : Mm} {g : Gm} (h : XIs T m g) (hf : gtFr m m1 66) (hI : gtIs m1 66 g.r) : XIs T (upI m1 0 3 1) (mkG g.r g.r 1 g.pa g.kt g.rs g.dt g.er g.tx g.tn g.ln g.nn) := by
  obtain ⟨⟨a1, a2⟩, ⟨b1, b2, b3⟩, ⟨c1, c2, c3, c4⟩, ⟨⟨d1, d3, d4⟩, d2, d5⟩, ⟨t1, t2, t3⟩, ⟨l1, l2, l3⟩⟩ := h
  have k : ∀ n, n = 0 ∨ n = 640 ∨ n = 704 ∨ n = 960 ∨ n = 961 → m1.1 n = m.1 n := fun n hn => (hf n (by omega) (by omega) (by omega) (by omega) (by omega) (by omega) (by omega)).1
  rw [← k 0 (by omega)] at b1 c1 c3 d1 d3 d4
  rw [← k 640 (by omega)] at t1
  rw [← k 704 (by omega)] at t3
  rw [← k 960 (by omega)] at l1
  rw [← k 961 (by omega)] at l3
  refine ⟨⟨(a1.fr hf (by omega) (by omega) (by omega) a2.1.2).z (by omega) a2.1.2 (Or.inl rfl), a2⟩, ⟨by rw [upI_at]; rfl, Or.inr rfl, fun _ => ⟨hI.z (by omega) a2.1.2 (Or.inl rfl), a2⟩⟩, ⟨by rw [upI_no (by omega)]; exact c1, c2, by rw [upI_no (by omega)]; exact c3, fun i hi => ?_⟩, ⟨⟨by rw [upI_no (by omega)]; exact d1, by rw [upI_no (by omega)]; exact d3, by rw [upI_no (by omega)]; exact d4⟩, d2, d5⟩, ⟨by rw [upI_r (by omega)]; exact t1, t2, by rw [upI_r (by omega)]; exact t3⟩, ⟨by rw [upI_r (by omega)]; exact l1, l2, by rw [upI_r (by omega)]; exact l3⟩⟩
  obtain ⟨q1, q2⟩ := c4 i hi
  rw [← k 0 (by omega)] at q1
  rw [upI_no (by omega)]
  exact ⟨(q1.fr hf (by omega) (by omega) (by omega) q2.1.2).z (by omega) q2.1.2 (Or.inl rfl), q2⟩
theorem XIs.append {T : Int} {m : Mm} {g : Gm} (h : XIs T m g) {c : Int} (hc : 0 ≤ c ∧ c ≤ 65535) (hn : g.tn < 60) : XIs T (upI (upI m 704 g.tn.toNat c) 640 1 (g.tn + 1)) (mkG g.r g.sv g.hs g.pa g.kt g.rs g.dt g.er (fun i => if (i : Int) = g.tn then c else g.tx i) (g.tn + 1) g.ln g.nn) := by
  obtain ⟨⟨a1, a2⟩, ⟨b1, b2, b3⟩, ⟨c1, c2, c3, c4⟩, ⟨⟨d1, d3, d4⟩, d2, d5⟩, ⟨t1, t2, t3⟩, ⟨l1, l2, l3⟩⟩ := h
  have z : ∀ (q : Nat) (r : Nat → Int), 64 ≤ q ∧ q < 75 → r 0 ≤ 4 → gtIs m q r → gtIs (upI (upI m 704 g.tn.toNat c) 640 1 (g.tn + 1)) q r := fun q r hq h0 h => (h.z hq h0 (a := 704) (by omega)).z hq h0 (a := 640) (by omega)
  have k0 : (upI (upI m 704 g.tn.toNat c) 640 1 (g.tn + 1)).1 0 = m.1 0 := by rw [upI_r (by omega), upI_r (by omega)]
  refine ⟨⟨z 64 _ (by omega) a2.1.2 a1, a2⟩, ⟨by rw [k0]; exact b1, b2, fun h => ⟨z 66 _ (by omega) (b3 h).2.1.2 (b3 h).1, (b3 h).2⟩⟩, ⟨by rw [k0]; exact c1, c2, by rw [k0]; exact c3, fun i hi => ?_⟩, ⟨⟨by rw [k0]; exact d1, by rw [k0]; exact d3, by rw [k0]; exact d4⟩, d2, d5⟩, ⟨by rw [upI_at]; rfl, by show 0 ≤ g.tn + 1 ∧ g.tn + 1 ≤ 60; omega, fun i hi => ?_⟩, ⟨by rw [upI_r (by omega), upI_r (by omega)]; exact l1, l2, by rw [upI_r (by omega), upI_r (by omega)]; exact l3⟩⟩
  · rw [k0]
    exact ⟨z _ _ (by omega) (c4 i hi).2.1.2 (c4 i hi).1, (c4 i hi).2⟩
  · have hi : (i : Int) < g.tn + 1 := hi
    show (upI (upI m 704 g.tn.toNat c) 640 1 (g.tn + 1)).1 704 i = (if (i : Int) = g.tn then c else g.tx i) ∧ 0 ≤ (if (i : Int) = g.tn then c else g.tx i) ∧ (if (i : Int) = g.tn then c else g.tx i) ≤ 65535
    rw [upI_r (by omega)]
    by_cases e : (i : Int) = g.tn
    · have : i = g.tn.toNat := by omega
      subst this
      rw [upI_at, if_pos (by omega)]
      exact ⟨rfl, hc⟩
    · rw [upI_no (by omega), if_neg e]
      exact t3 i (by omega)
theorem gIs.rt0 {m : Mm} {q : Nat} {x : Int} {S : Nat → Int} (h : gIs m q S) : gIs (upI m q 0 x) q (rtS S 0 x) := by
  obtain ⟨a0, a1, a5, a6, a7, a8, aw, as⟩ := h
  refine ⟨by rw [upI_at]; rfl, by rw [upI_no (by omega)]; exact a1, by rw [upI_no (by omega)]; exact a5, by rw [upI_no (by omega)]; exact a6, by rw [upI_no (by omega)]; exact a7, by rw [upI_no (by omega)]; exact a8, fun i hi => ?_, fun i hi => ?_⟩
  · rw [upI_r (by omega), upI_2]; unfold rtS; rw [if_neg (by omega)]; exact aw i hi
  · rw [upI_2]; unfold rtS; rw [if_neg (by omega)]; exact as i hi
theorem gIs.rt1 {m : Mm} {q : Nat} {x : Int} {S : Nat → Int} (h : gIs m q S) : gIs (upI m q 1 x) q (rtS S 1 x) := by
  obtain ⟨a0, a1, a5, a6, a7, a8, aw, as⟩ := h
  refine ⟨by rw [upI_no (by omega)]; exact a0, by rw [upI_at]; rfl, by rw [upI_no (by omega)]; exact a5, by rw [upI_no (by omega)]; exact a6, by rw [upI_no (by omega)]; exact a7, by rw [upI_no (by omega)]; exact a8, fun i hi => ?_, fun i hi => ?_⟩
  · rw [upI_r (by omega), upI_2]; unfold rtS; rw [if_neg (by omega)]; exact aw i hi
  · rw [upI_2]; unfold rtS; rw [if_neg (by omega)]; exact as i hi
theorem gOk_rt0 {T x : Int} {S : Nat → Int} (h : gOk T S) (hx : 1 ≤ x ∧ x ≤ 64) : gOk T (rtS S 0 x) := by
  obtain ⟨h0, h1, h2, h3, h4⟩ := h
  exact ⟨hx, h1, fun j a b => by unfold rtS; rw [if_neg (by omega)]; exact h2 j a b, fun i hi => by unfold rtS; rw [if_neg (by omega)]; exact h3 i hi, fun i hi => by unfold rtS; rw [if_neg (by omega)]; exact h4 i hi⟩
theorem gOk_rt1 {T x : Int} {S : Nat → Int} (h : gOk T S) (hx : 0 ≤ x ∧ x ≤ 256) : gOk T (rtS S 1 x) := by
  obtain ⟨h0, h1, h2, h3, h4⟩ := h
  exact ⟨h0, hx, fun j a b => by unfold rtS; rw [if_neg (by omega)]; exact h2 j a b, fun i hi => by unfold rtS; rw [if_neg (by omega)]; exact h3 i hi, fun i hi => by unfold rtS; rw [if_neg (by omega)]; exact h4 i hi⟩
theorem narC {x : Int} (h : 0 ≤ x ∧ x ≤ 65535) : narrow .char (.int (Int32.ofInt x)) = .int (Int32.ofInt x) := by
  rw [oi_z h.1]
  exact (pk_charN (by omega)).1
set_option maxHeartbeats 4000000 in
set_option maxRecDepth 100000 in
theorem c_X3_refuse {G : GG} {l : Launch} (hfl : l.stackTraces = false) (hG : MW G) {m : Mm} {a b : Int} : CT G l yX3_refuse cX3_refuse 3 none (RM 0 0 0) [.ref 0, vI a, vI b] m (fun r' m' => r' = none ∧ m' = rfM m a b) (fun _ _ => False) := by
  refine CT.of RX3 [(0, .ref 0), (1, vI a), (2, vI b)] hfl (by decide +kernel) rfl rfl (Nat.le_of_ble_eq_true rfl) ?_
  intro E ok en hml hEl htab
  have hR : e_R E = RM 0 0 0 := en.2.2.2
  have hn0 : 0 < (e_c E).maxLocals := by rw [hml]; decide
  have hn1 : 1 < (e_c E).maxLocals := by rw [hml]; decide
  have hn2 : 2 < (e_c E).maxLocals := by rw [hml]; decide
  refine ga_aload_n ok 0 rfl rfl dX3_refuse_0 ?_
  refine ga_iload_n ok 1 rfl rfl dX3_refuse_1 ?_
  refine gp_X3_61 ok hG rfl dX3_refuse_2 ?_
  refine ga_aload_n ok 0 rfl rfl dX3_refuse_5 ?_
  refine ga_iload_n ok 2 rfl rfl dX3_refuse_6 ?_
  refine gp_X3_64 ok hG rfl dX3_refuse_7 ?_
  exact ga_return ok en rfl (by decide) (by decide) dX3_refuse_10 ⟨rfl, rfl⟩
set_option maxHeartbeats 4000000 in
set_option maxRecDepth 100000 in
theorem c_X3_refusesGuard {G : GG} {l : Launch} (hfl : l.stackTraces = false) (hG : MW G) {m : Mm} {r : Nat → Int} {T : Int} (hI : gtIs m 64 r) (hT : gtOk T r) : CT G l yX3_refusesGuard cX3_refusesGuard 1 (some .boolean) (RM 1 0 0) [.ref 0] m (fun r' m' => (r 0 < 4 ∧ r' = some (vI 0) ∧ m' = m) ∨ (r 0 = 4 ∧ r' = some (vI 1) ∧ m' = rfM m 1 4)) (fun _ _ => False) := by
  refine CT.of RX3 [(0, .ref 0)] hfl (by decide +kernel) rfl rfl (Nat.le_of_ble_eq_true rfl) ?_
  intro E ok en hml hEl htab
  have hR : e_R E = RM 1 0 0 := en.2.2.2
  have hn0 : 0 < (e_c E).maxLocals := by rw [hml]; decide
  obtain ⟨e1, e4, hv, hgs⟩ := id hI
  obtain ⟨b0, b1, hvb, hgb⟩ := id hT
  refine ga_aload_n ok 0 rfl rfl dX3_refusesGuard_0 ?_
  refine gf_X3_12 ok hG rfl dX3_refusesGuard_1 ?_
  refine gf_X3_256 ok hG (by omega) dX3_refusesGuard_4 ?_
  try rw [e1]
  refine ga_iconst ok dX3_refusesGuard_7 ?_
  refine ga_icmp_ge ok 13 (by decide) (by omega) (by omega) dX3_refusesGuard_8 (fun c_8 => ?_) (fun c_8 => ?_)
  · refine ga_aload_n ok 0 rfl rfl dX3_refusesGuard_13 ?_
    refine ga_iconst ok dX3_refusesGuard_14 ?_
    refine ga_iconst ok dX3_refusesGuard_15 ?_
    refine gv_X3_2 ok hG rfl lk_X3_100 rfl (c_X3_refuse ok.fl hG (a := 1) (b := 4)) (by rw [hR]; exact ⟨by decide, by decide, by decide, by decide⟩) (Nat.le_of_ble_eq_true rfl) dX3_refusesGuard_16 ?_
    refine ga_iconst ok dX3_refusesGuard_19 ?_
    exact ga_ireturn ok en rfl (by decide) (by decide) (by decide) dX3_refusesGuard_20 (Or.inr ⟨by omega, rfl, rfl⟩)
  · refine ga_iconst ok dX3_refusesGuard_11 ?_
    exact ga_ireturn ok en rfl (by decide) (by decide) (by decide) dX3_refusesGuard_12 (Or.inl ⟨by omega, rfl, rfl⟩)
theorem fnd_bd {r : Nat → Int} {x : Int} : ∀ n : Nat, -1 ≤ fnd r x n ∧ fnd r x n < n
  | 0 => by simp [fnd]
  | n + 1 => by
    have h := fnd_bd (r := r) (x := x) n
    simp only [fnd]
    split
    · split <;> omega
    · omega
set_option maxHeartbeats 4000000 in
set_option maxRecDepth 100000 in
theorem c_X3_refusesVisitor {G : GG} {l : Launch} (hfl : l.stackTraces = false) (hG : MW G) {m : Mm} {r : Nat → Int} {T : Int} (hI : gtIs m 64 r) (hT : gtOk T r) {x : Int} (hx : 0 ≤ x ∧ x ≤ 1023) : CT G l yX3_refusesVisitor cX3_refusesVisitor 3 (some .boolean) (RM 1 0 0) [.ref 0, vI x] m (fun r' m' => (fnd r x (r 1).toNat < 0 ∧ r 1 < 12 ∧ r' = some (vI 0) ∧ m' = m) ∨ (0 ≤ fnd r x (r 1).toNat ∧ r' = some (vI 1) ∧ m' = rfM m 2 (fnd r x (r 1).toNat)) ∨ (fnd r x (r 1).toNat < 0 ∧ r 1 = 12 ∧ r' = some (vI 1) ∧ m' = rfM m 1 12)) (fun _ _ => False) := by
  refine CT.of RX3 [(0, .ref 0), (1, vI x)] hfl (by decide +kernel) rfl rfl (Nat.le_of_ble_eq_true rfl) ?_
  intro E ok en hml hEl htab
  have hR : e_R E = RM 1 0 0 := en.2.2.2
  have hn0 : 0 < (e_c E).maxLocals := by rw [hml]; decide
  have hn1 : 1 < (e_c E).maxLocals := by rw [hml]; decide
  have hn2 : 2 < (e_c E).maxLocals := by rw [hml]; decide
  obtain ⟨e1, e4, hv, hgs⟩ := id hI
  obtain ⟨b0, b1, hvb, hgb⟩ := id hT
  refine ga_aload_n ok 0 rfl rfl dX3_refusesVisitor_0 ?_
  refine gf_X3_12 ok hG rfl dX3_refusesVisitor_1 ?_
  refine ga_iload_n ok 1 rfl rfl dX3_refusesVisitor_4 ?_
  refine gd_X0_1 ok hG (by omega) lk_X3_374 rfl (c_X0_visitorWith ok.fl hG (by omega) hI hT hx) (by rw [hR]; exact ⟨by decide, by decide, by decide, by decide⟩) (Nat.le_of_ble_eq_true rfl) dX3_refusesVisitor_5 ?_
  refine ga_istore_n ok 2 rfl hn2 dX3_refusesVisitor_8 ?_
  refine ga_iload_n ok 2 rfl rfl dX3_refusesVisitor_9 ?_
  refine ga_if_lt ok 21 (by decide) (by have := fnd_bd (r := r) (x := x) (r 1).toNat; omega) dX3_refusesVisitor_10 (fun c_10 => ?_) (fun c_10 => ?_)
  · refine ga_aload_n ok 0 rfl rfl dX3_refusesVisitor_21 ?_
    refine gf_X3_12 ok hG rfl dX3_refusesVisitor_22 ?_
    refine gf_X3_213 ok hG (by omega) dX3_refusesVisitor_25 ?_
    try rw [e4]
    refine ga_bipush ok dX3_refusesVisitor_28 (by decide) ?_
    refine ga_icmp_ge ok 35 (by decide) (by omega) (by omega) dX3_refusesVisitor_30 (fun c_30 => ?_) (fun c_30 => ?_)
    · refine ga_aload_n ok 0 rfl rfl dX3_refusesVisitor_35 ?_
      refine ga_iconst ok dX3_refusesVisitor_36 ?_
      refine ga_bipush ok dX3_refusesVisitor_37 (by decide) ?_
      refine gv_X3_2 ok hG rfl lk_X3_100 rfl (c_X3_refuse ok.fl hG (a := 1) (b := 12)) (by rw [hR]; exact ⟨by decide, by decide, by decide, by decide⟩) (Nat.le_of_ble_eq_true rfl) dX3_refusesVisitor_39 ?_
      refine ga_iconst ok dX3_refusesVisitor_42 ?_
      exact ga_ireturn ok en rfl (by decide) (by decide) (by decide) dX3_refusesVisitor_43 (Or.inr (Or.inr ⟨by omega, by omega, rfl, rfl⟩))
    · refine ga_iconst ok dX3_refusesVisitor_33 ?_
      exact ga_ireturn ok en rfl (by decide) (by decide) (by decide) dX3_refusesVisitor_34 (Or.inl ⟨by omega, by omega, rfl, rfl⟩)
  · refine ga_aload_n ok 0 rfl rfl dX3_refusesVisitor_13 ?_
    refine ga_iconst ok dX3_refusesVisitor_14 ?_
    refine ga_iload_n ok 2 rfl rfl dX3_refusesVisitor_15 ?_
    refine gv_X3_2 ok hG rfl lk_X3_100 rfl (c_X3_refuse ok.fl hG (a := 2) (b := (fnd r x (r 1).toNat))) (by rw [hR]; exact ⟨by decide, by decide, by decide, by decide⟩) (Nat.le_of_ble_eq_true rfl) dX3_refusesVisitor_16 ?_
    refine ga_iconst ok dX3_refusesVisitor_19 ?_
    exact ga_ireturn ok en rfl (by decide) (by decide) (by decide) dX3_refusesVisitor_20 (Or.inr (Or.inl ⟨by omega, rfl, rfl⟩))
set_option maxHeartbeats 4000000 in
set_option maxRecDepth 100000 in
theorem c_X3_tryLesson {G : GG} {l : Launch} (hfl : l.stackTraces = false) (hG : MW G) {m : Mm} {r : Nat → Int} {T : Int} (hI : gtIs m 64 r) (hT : gtOk T r) {g v : Int} (qg : 0 ≤ g ∧ g < r 0) (qv : 0 ≤ v ∧ v < r 1) : CT G l yX3_tryLesson cX3_tryLesson 4 (some .int) (RM 2 0 0) [.ref 0, vI g, vI v] m (fun r' m' => (tOK (rg r g.toNat) (vX r v.toNat) (vF r v.toNat) = true ∧ r' = some (vI (b2i (psS (rg r g.toNat) (vX r v.toNat) (vF r v.toNat)))) ∧ gFr m m' 364 ∧ gIs m' 364 (tS (rg r g.toNat) (vX r v.toNat) (vF r v.toNat))) ∨ (tOK (rg r g.toNat) (vX r v.toNat) (vF r v.toNat) = false ∧ r' = some (vI (-1)) ∧ ∃ m1, gFr m m1 364 ∧ m' = rfM m1 5 g)) (fun _ _ => False) := by
  refine CT.of RX3 [(0, .ref 0), (1, vI g), (2, vI v)] hfl (by decide +kernel) rfl rfl (Nat.le_of_ble_eq_true rfl) ?_
  intro E ok en hml hEl htab
  have hR : e_R E = RM 2 0 0 := en.2.2.2
  have hn0 : 0 < (e_c E).maxLocals := by rw [hml]; decide
  have hn1 : 1 < (e_c E).maxLocals := by rw [hml]; decide
  have hn2 : 2 < (e_c E).maxLocals := by rw [hml]; decide
  have hn3 : 3 < (e_c E).maxLocals := by rw [hml]; decide
  obtain ⟨e1, e4, hv, hgs⟩ := id hI
  obtain ⟨b0, b1, hvb, hgb⟩ := id hT
  refine ga_aload_n ok 0 rfl rfl dX3_tryLesson_0 ?_
  refine gf_X3_40 ok hG rfl dX3_tryLesson_1 ?_
  refine ga_aload_n ok 0 rfl rfl dX3_tryLesson_4 ?_
  refine gf_X3_12 ok hG rfl dX3_tryLesson_5 ?_
  refine gf_X3_93 ok hG (by omega) dX3_tryLesson_8 ?_
  refine ga_iload_n ok 1 rfl rfl dX3_tryLesson_11 ?_
  refine ga_aaload_qa ok (ar_ga hG (by omega)) (by omega) dX3_tryLesson_12 ?_
  refine gc_X1_1 ok hG (by omega) lk_X3_228 rfl (c_X1_copyFrom ok.fl hG (by omega) (by omega) (by omega) (hgs g.toNat (by omega))) (by rw [hR]; exact ⟨by decide, by decide, by decide, by decide⟩) (Nat.le_of_ble_eq_true rfl) dX3_tryLesson_13 (fun r9 m1 hq => ?_) (fun _ _ h => h.elim)
  obtain ⟨rfl, q1, q2⟩ := hq
  simp only [Option.toList_none, List.nil_append]
  have ka : ∀ n, n = 64 + 128 ∨ n = 64 + 192 → m1.1 n = m.1 n := fun n hn => (q1 n (by omega) (by omega) (by omega) (by omega)).1
  refine ga_aload_n ok 0 rfl rfl dX3_tryLesson_16 ?_
  refine gf_X3_40 ok hG rfl dX3_tryLesson_17 ?_
  refine ga_aload_n ok 0 rfl rfl dX3_tryLesson_20 ?_
  refine gf_X3_12 ok hG rfl dX3_tryLesson_21 ?_
  refine gf_X3_135 ok hG (by omega) dX3_tryLesson_24 ?_
  refine ga_iload_n ok 2 rfl rfl dX3_tryLesson_27 ?_
  refine ga_iaload_ia ok (ar_se hG (by omega)) (by omega) dX3_tryLesson_28 ?_
  refine ga_aload_n ok 0 rfl rfl dX3_tryLesson_29 ?_
  refine gf_X3_12 ok hG rfl dX3_tryLesson_30 ?_
  refine gf_X3_139 ok hG (by omega) dX3_tryLesson_33 ?_
  refine ga_iload_n ok 2 rfl rfl dX3_tryLesson_36 ?_
  refine ga_baload_za ok (ar_fr hG (by omega)) (by omega) dX3_tryLesson_37 ?_
  have hq9 := hvb v.toNat (by omega)
  rw [ka _ (Or.inl rfl), ka _ (Or.inr rfl), (hv v.toNat (by omega)).1, (hv v.toNat (by omega)).2]
  refine gc_X1_2 ok hG (by omega) lk_X3_377 rfl (c_X1_learn ok.fl hG (by omega) (by omega) hq9.2 q2 (hgb g.toNat (by omega))) (by rw [hR]; exact ⟨by decide, by decide, by decide, by decide⟩) (Nat.le_of_ble_eq_true rfl) dX3_tryLesson_38 (fun r9 m2 hq => ?_) (fun _ _ h => h.elim)
  obtain ⟨x9, hx9, hc9⟩ : ∃ x9 : Int, r9 = some (vI x9) ∧ ((x9 = -1 ∧ tOK (rg r g.toNat) (vX r v.toNat) (vF r v.toNat) = false ∧ gFr m m2 364) ∨ (0 ≤ x9 ∧ x9 ≤ 1 ∧ x9 = b2i (psS (rg r g.toNat) (vX r v.toNat) (vF r v.toNat)) ∧ tOK (rg r g.toNat) (vX r v.toNat) (vF r v.toNat) = true ∧ gFr m m2 364 ∧ gIs m2 364 (tS (rg r g.toNat) (vX r v.toNat) (vF r v.toNat)))) := by
    have hb9 := b2i_01 (psS (rg r g.toNat) (vX r v.toNat) (vF r v.toNat))
    rcases hq with ⟨p1, p2, p3, p4⟩ | ⟨p1, p2, p3⟩
    · exact ⟨_, p2, Or.inr ⟨hb9.1, hb9.2, rfl, p1, q1.tr p3, p4⟩⟩
    · subst p3; exact ⟨_, p2, Or.inl ⟨rfl, p1, q1⟩⟩
  subst hx9
  simp only [Option.toList_some, List.singleton_append]
  refine ga_istore_n ok 3 rfl hn3 dX3_tryLesson_41 ?_
  refine ga_iload_n ok 3 rfl rfl dX3_tryLesson_42 ?_
  refine ga_iconst ok dX3_tryLesson_43 ?_
  refine ga_icmp_ne ok 53 (by decide) (by rcases hc9 with h | h <;> omega) (by omega) dX3_tryLesson_44 (fun c_44 => ?_) (fun c_44 => ?_)
  · refine ga_iload_n ok 3 rfl rfl dX3_tryLesson_53 ?_
    exact ga_ireturn ok en rfl rfl (by decide) (by decide) dX3_tryLesson_54 (by first | (rcases hc9 with h | h; exact absurd h.1 (by omega); exact Or.inl ⟨h.2.2.2.1, by rw [h.2.2.1], h.2.2.2.2.1, h.2.2.2.2.2⟩) | (rcases hc9 with h | h; exact Or.inr ⟨h.2.1, by rw [h.1], m2, h.2.2, rfl⟩; exact absurd h.1 (by omega)))
  · refine ga_aload_n ok 0 rfl rfl dX3_tryLesson_47 ?_
    refine ga_iconst ok dX3_tryLesson_48 ?_
    refine ga_iload_n ok 1 rfl rfl dX3_tryLesson_49 ?_
    refine gv_X3_2 ok hG rfl lk_X3_100 rfl (c_X3_refuse ok.fl hG (a := 5) (b := g)) (by rw [hR]; exact ⟨by decide, by decide, by decide, by decide⟩) (Nat.le_of_ble_eq_true rfl) dX3_tryLesson_50 ?_
    refine ga_iload_n ok 3 rfl rfl dX3_tryLesson_53 ?_
    exact ga_ireturn ok en rfl rfl (by decide) (by decide) dX3_tryLesson_54 (by first | (rcases hc9 with h | h; exact absurd h.1 (by omega); exact Or.inl ⟨h.2.2.2.1, by rw [h.2.2.1], h.2.2.2.2.1, h.2.2.2.2.2⟩) | (rcases hc9 with h | h; exact Or.inr ⟨h.2.1, by rw [h.1], m2, h.2.2, rfl⟩; exact absurd h.1 (by omega)))
set_option maxHeartbeats 4000000 in
set_option maxRecDepth 100000 in
theorem c_X3_tryDays {G : GG} {l : Launch} (hfl : l.stackTraces = false) (hG : MW G) {m : Mm} {r : Nat → Int} {T : Int} (hI : gtIs m 64 r) (hT : gtOk T r) {g most : Int} (qg : 0 ≤ g ∧ g < r 0) (hmo : 0 ≤ most ∧ most ≤ 1000000) : CT G l yX3_tryDays cX3_tryDays 4 (some .int) (RM 4 0 0) [.ref 0, vI g, vI most] m (fun r' m' => (r 1 = 0 ∧ r' = some (vI (-1)) ∧ m' = rfM m 3 (r 0)) ∨ (r 1 ≠ 0 ∧ ∃ d S', rnD r g.toNat most = some (d, S') ∧ r' = some (vI d) ∧ gFr m m' 364 ∧ gIs m' 364 S') ∨ (r 1 ≠ 0 ∧ rnD r g.toNat most = none ∧ r' = some (vI (-1)) ∧ ∃ m1, gFr m m1 364 ∧ m' = rfM m1 5 g)) (fun _ _ => False) := by
  refine CT.of RX3 [(0, .ref 0), (1, vI g), (2, vI most)] hfl (by decide +kernel) rfl rfl (Nat.le_of_ble_eq_true rfl) ?_
  intro E ok en hml hEl htab
  have hR : e_R E = RM 4 0 0 := en.2.2.2
  have hn0 : 0 < (e_c E).maxLocals := by rw [hml]; decide
  have hn1 : 1 < (e_c E).maxLocals := by rw [hml]; decide
  have hn2 : 2 < (e_c E).maxLocals := by rw [hml]; decide
  have hn3 : 3 < (e_c E).maxLocals := by rw [hml]; decide
  obtain ⟨e1, e4, hv, hgs⟩ := id hI
  obtain ⟨b0, b1, hvb, hgb⟩ := id hT
  refine ga_aload_n ok 0 rfl rfl dX3_tryDays_0 ?_
  refine gf_X3_12 ok hG rfl dX3_tryDays_1 ?_
  refine gf_X3_213 ok hG (by omega) dX3_tryDays_4 ?_
  try rw [e4]
  refine ga_if_ne ok 24 (by decide) (by omega) dX3_tryDays_7 (fun c_7 => ?_) (fun c_7 => ?_)
  · refine ga_aload_n ok 0 rfl rfl dX3_tryDays_24 ?_
    refine gf_X3_40 ok hG rfl dX3_tryDays_25 ?_
    refine ga_aload_n ok 0 rfl rfl dX3_tryDays_28 ?_
    refine gf_X3_12 ok hG rfl dX3_tryDays_29 ?_
    refine gf_X3_93 ok hG (by omega) dX3_tryDays_32 ?_
    refine ga_iload_n ok 1 rfl rfl dX3_tryDays_35 ?_
    refine ga_aaload_qa ok (ar_ga hG (by omega)) (by omega) dX3_tryDays_36 ?_
    refine gc_X1_1 ok hG (by omega) lk_X3_228 rfl (c_X1_copyFrom ok.fl hG (by omega) (by omega) (by omega) (hgs g.toNat (by omega))) (by rw [hR]; exact ⟨by decide, by decide, by decide, by decide⟩) (Nat.le_of_ble_eq_true rfl) dX3_tryDays_37 (fun r9 m1 hq => ?_) (fun _ _ h => h.elim)
    obtain ⟨rfl, q1, q2⟩ := hq
    simp only [Option.toList_none, List.nil_append]
    have hI1 : gtIs m1 64 r := hI.sfr q1.s (by omega) (by omega) b0.2
    refine ga_aload_n ok 0 rfl rfl dX3_tryDays_40 ?_
    refine gf_X3_12 ok hG rfl dX3_tryDays_41 ?_
    refine ga_aload_n ok 0 rfl rfl dX3_tryDays_44 ?_
    refine gf_X3_40 ok hG rfl dX3_tryDays_45 ?_
    refine ga_iload_n ok 2 rfl rfl dX3_tryDays_48 ?_
    refine gc_X0_2 ok hG (by omega) lk_X3_240 rfl (c_X0_liveDays ok.fl hG (by omega) hI1 hT (by omega) q2 (hgb g.toNat (by omega)) hmo) (by rw [hR]; exact ⟨by decide, by decide, by decide, by decide⟩) (Nat.le_of_ble_eq_true rfl) dX3_tryDays_49 (fun r9 m2 hq => ?_) (fun _ _ h => h.elim)
    obtain ⟨p1, p2⟩ := hq
    obtain ⟨x9, hx9, hc9⟩ : ∃ x9 : Int, r9 = some (vI x9) ∧ -2147483648 ≤ x9 ∧ x9 ≤ 2147483647 ∧ ((x9 = -1 ∧ rnD r g.toNat most = none) ∨ (0 ≤ x9 ∧ ∃ S', rnD r g.toNat most = some (x9, S') ∧ gIs m2 364 S')) := by
      cases hd : rnD r g.toNat most with
      | none => 
        have hd' := hd
        unfold rnD at hd'
        rw [hd'] at p2
        exact ⟨_, p2, by omega, by omega, Or.inl ⟨rfl, rfl⟩⟩
      | some q =>
        obtain ⟨d, S'⟩ := q
        have hd' := hd
        unfold rnD at hd'
        rw [hd'] at p2
        have hb9 := gOk_dRun (by omega) _ _ _ _ (hgb g.toNat (by omega)) _ _ hd'
        exact ⟨_, p2.1, by omega, by omega, Or.inr ⟨by omega, S', rfl, p2.2⟩⟩
    subst hx9
    simp only [Option.toList_some, List.singleton_append]
    refine ga_istore_n ok 3 rfl hn3 dX3_tryDays_52 ?_
    refine ga_iload_n ok 3 rfl rfl dX3_tryDays_53 ?_
    refine ga_iconst ok dX3_tryDays_54 ?_
    refine ga_icmp_ne ok 64 (by decide) (by omega) (by omega) dX3_tryDays_55 (fun c_55 => ?_) (fun c_55 => ?_)
    · refine ga_iload_n ok 3 rfl rfl dX3_tryDays_64 ?_
      exact ga_ireturn ok en rfl rfl (by decide) (by decide) dX3_tryDays_65 (by
  obtain ⟨-, -, hc9⟩ := hc9
  first
    | (rcases hc9 with h | h; exact absurd h.1 (by omega); obtain ⟨-, S', h1, h2⟩ := h; exact Or.inr (Or.inl ⟨by first | exact c_7 | omega, x9, S', h1, rfl, q1.tr p1, h2⟩))
    | (rcases hc9 with h | h; exact Or.inr (Or.inr ⟨by first | exact c_7 | omega, h.2, by rw [h.1], m2, q1.tr p1, rfl⟩); exact absurd h.1 (by omega)))
    · refine ga_aload_n ok 0 rfl rfl dX3_tryDays_58 ?_
      refine ga_iconst ok dX3_tryDays_59 ?_
      refine ga_iload_n ok 1 rfl rfl dX3_tryDays_60 ?_
      refine gv_X3_2 ok hG rfl lk_X3_100 rfl (c_X3_refuse ok.fl hG (a := 5) (b := g)) (by rw [hR]; exact ⟨by decide, by decide, by decide, by decide⟩) (Nat.le_of_ble_eq_true rfl) dX3_tryDays_61 ?_
      refine ga_iload_n ok 3 rfl rfl dX3_tryDays_64 ?_
      exact ga_ireturn ok en rfl rfl (by decide) (by decide) dX3_tryDays_65 (by
  obtain ⟨-, -, hc9⟩ := hc9
  first
    | (rcases hc9 with h | h; exact absurd h.1 (by omega); obtain ⟨-, S', h1, h2⟩ := h; exact Or.inr (Or.inl ⟨by first | exact c_7 | omega, x9, S', h1, rfl, q1.tr p1, h2⟩))
    | (rcases hc9 with h | h; exact Or.inr (Or.inr ⟨by first | exact c_7 | omega, h.2, by rw [h.1], m2, q1.tr p1, rfl⟩); exact absurd h.1 (by omega)))
  · refine ga_aload_n ok 0 rfl rfl dX3_tryDays_10 ?_
    refine ga_iconst ok dX3_tryDays_11 ?_
    refine ga_aload_n ok 0 rfl rfl dX3_tryDays_12 ?_
    refine gf_X3_12 ok hG rfl dX3_tryDays_13 ?_
    refine gf_X3_256 ok hG (by omega) dX3_tryDays_16 ?_
    try rw [e1]
    refine gv_X3_2 ok hG rfl lk_X3_100 rfl (c_X3_refuse ok.fl hG (a := 3) (b := (r 0))) (by rw [hR]; exact ⟨by decide, by decide, by decide, by decide⟩) (Nat.le_of_ble_eq_true rfl) dX3_tryDays_19 ?_
    refine ga_iconst ok dX3_tryDays_22 ?_
    exact ga_ireturn ok en rfl rfl (by decide) (by decide) dX3_tryDays_23 (Or.inl ⟨by first | exact c_7 | omega, rfl, rfl⟩)
set_option maxHeartbeats 4000000 in
set_option maxRecDepth 100000 in
theorem c_X3_keep {G : GG} {l : Launch} (hfl : l.stackTraces = false) (hG : MW G) {m : Mm} {g : Gm} {T : Int} (hX : XIs T m g) {a : Nat} (ha : a = 64 ∨ a = 65) {R : Nat → Int} (hRR : gtIs m a R) (hRO : gtOk T R) : CT G l yX3_keep cX3_keep 2 none (RM 3 0 0) [.ref 0, .ref a] m (fun r' m' => r' = none ∧ XIs T m' (kpG g R) ∧ XFr m m' ∧ (∀ S, gIs m 364 S → gIs m' 364 S) ∧ m'.1 640 = m.1 640) (fun _ _ => False) := by
  refine CT.of RX3 [(0, .ref 0), (1, .ref a)] hfl (by decide +kernel) rfl rfl (Nat.le_of_ble_eq_true rfl) ?_
  intro E ok en hml hEl htab
  have hR : e_R E = RM 3 0 0 := en.2.2.2
  have hn0 : 0 < (e_c E).maxLocals := by rw [hml]; decide
  have hn1 : 1 < (e_c E).maxLocals := by rw [hml]; decide
  obtain ⟨c1, c2, c3, c4⟩ := hX.2.2.1
  have mid : ∀ (M : Mm) (f k : Int) (P : Nat → Nat → Int), (0 ≤ f ∧ f < 8) → (0 ≤ k ∧ k ≤ 7) → M.1 0 5 = f → M.1 0 6 = k → (∀ j, j ≠ 5 → j ≠ 6 → M.1 0 j = m.1 0 j) → (∀ n, n ≠ 0 → M.1 n = m.1 n ∧ M.2 n = m.2 n) → (∀ i : Nat, (i : Int) < k → gtIs m (67 + ((f + i) % 8).toNat) (P i) ∧ gtOk T (P i)) → P k.toNat = R → kpG g R = (mkG g.r g.sv g.hs P (k + 1) g.rs g.dt g.er g.tx g.tn g.ln g.nn) → WA G E 0 0 32 [(0, .ref 0), (1, .ref a)] [] M := by
    intro M f k P hf hk h5 h6 hz ho hP hPk hkp
    have hIM : ∀ r, gtIs m a r → gtIs M a r := fun r h => by
      obtain ⟨x1, x4, xv, xg⟩ := h
      exact ⟨by rw [(ho a (by omega)).1]; exact x1, by rw [(ho a (by omega)).1]; exact x4, fun v hv9 => by rw [(ho (a + 128) (by omega)).1, (ho (a + 192) (by omega)).1]; exact xv v hv9, fun j hj => (xg j hj).kept (ho _ (by omega)).1 (ho _ (by omega)).1 (ho _ (by omega)).2 (ho _ (by omega)).2⟩
    refine ga_aload_n ok 0 rfl rfl dX3_keep_32 ?_
    refine gf_X3_26 ok hG rfl dX3_keep_33 ?_
    refine ga_aload_n ok 0 rfl rfl dX3_keep_36 ?_
    refine gf_X3_30 ok hG rfl dX3_keep_37 ?_
    rw [h5]
    refine ga_aload_n ok 0 rfl rfl dX3_keep_40 ?_
    refine gf_X3_34 ok hG rfl dX3_keep_41 ?_
    try rw [h6]
    refine ga_iadd ok dX3_keep_44 ?_
    refine ga_bipush ok dX3_keep_45 (by decide) ?_
    refine ga_irem ok dX3_keep_47 (by omega) (by omega) ?_
    refine ga_aaload_qa ok (ar_pa hG rfl) (by omega) dX3_keep_48 ?_
    refine ga_aload_n ok 1 rfl rfl dX3_keep_49 ?_
    refine gc_X0_1 ok hG (by omega) lk_X3_304 rfl (c_X0_copyFrom ok.fl hG (by omega) (by omega) (by omega) (hIM R hRR) hRO) (by rw [hR]; exact ⟨by decide, by decide, by decide, by decide⟩) (Nat.le_of_ble_eq_true rfl) dX3_keep_50 (fun r9 m1 hq => ?_) (fun _ _ h => h.elim)
    obtain ⟨rfl, q1, q2⟩ := hq
    simp only [Option.toList_none, List.nil_append]
    have q6 : m1.1 0 6 = k := by rw [(q1 0 (by omega) (by omega) (by omega) (by omega) (by omega) (by omega) (by omega)).1]; exact h6
    refine ga_aload_n ok 0 rfl rfl dX3_keep_53 ?_
    refine ga_dup ok dX3_keep_54 rfl ?_
    refine gf_X3_34 ok hG rfl dX3_keep_55 ?_
    try rw [h6]
    refine ga_iconst ok dX3_keep_58 ?_
    refine ga_iadd ok dX3_keep_59 ?_
    rw [q6]
    refine gp_X3_34 ok hG rfl dX3_keep_60 ?_
    exact ga_return ok en rfl (by decide) (by decide) dX3_keep_63 ⟨rfl, by rw [hkp]; exact hX.keep hf hk h5 hz ho q1 q2 hRO hP hPk, ((XFr.tr (fun n hn => ho n (by omega)) (q1.x (by omega))).uI (by omega)), fun S hS => ((hS.kept (ho _ (by omega)).1 (ho _ (by omega)).1 (ho _ (by omega)).2 (ho _ (by omega)).2 : gIs M 364 S).gt q1 (by omega) rfl).z (by omega), by rw [upI_r (by omega), (q1 640 (by omega) (by omega) (by omega) (by omega) (by omega) (by omega) (by omega)).1]; exact (ho 640 (by omega)).1⟩
  refine ga_aload_n ok 0 rfl rfl dX3_keep_0 ?_
  refine gf_X3_34 ok hG rfl dX3_keep_1 ?_
  try rw [upI_no (by omega)]
  rw [c1]
  refine ga_bipush ok dX3_keep_4 (by decide) ?_
  refine ga_icmp_ne ok 32 (by decide) (by omega) (by omega) dX3_keep_6 (fun c_6 => ?_) (fun c_6 => ?_)
  · exact WA.re (by exact ⟨rfl, rfl, trivial⟩) (mid _ (m.1 0 5) g.kt (fun i => if (i : Int) = g.kt then R else g.pa i) c3 (by omega) rfl c1 (fun _ _ _ => rfl) (fun _ _ => ⟨rfl, rfl⟩) (fun i hi => by rw [if_neg (by omega)]; exact c4 i hi) (if_pos (by omega)) (by unfold kpG; rw [if_neg (by omega)]))
  · refine ga_aload_n ok 0 rfl rfl dX3_keep_9 ?_
    refine ga_aload_n ok 0 rfl rfl dX3_keep_10 ?_
    refine gf_X3_30 ok hG rfl dX3_keep_11 ?_
    refine ga_iconst ok dX3_keep_14 ?_
    refine ga_iadd ok dX3_keep_15 ?_
    refine ga_bipush ok dX3_keep_16 (by decide) ?_
    refine ga_irem ok dX3_keep_18 (by omega) (by omega) ?_
    refine gp_X3_30 ok hG rfl dX3_keep_19 ?_
    refine ga_aload_n ok 0 rfl rfl dX3_keep_22 ?_
    refine ga_dup ok dX3_keep_23 rfl ?_
    refine gf_X3_34 ok hG rfl dX3_keep_24 ?_
    try rw [upI_no (by omega)]
    rw [c1]
    refine ga_iconst ok dX3_keep_27 ?_
    refine ga_isub ok dX3_keep_28 ?_
    refine gp_X3_34 ok hG rfl dX3_keep_29 ?_
    exact WA.re (by exact ⟨rfl, rfl, trivial⟩) (mid _ ((m.1 0 5 + 1) % 8) (g.kt - 1) (fun i => if i = 7 then R else g.pa (i + 1)) (by omega) (by omega) (by rw [upI_no (by omega), upI_at]) (by rw [upI_at]) (fun j h1 h2 => by rw [upI_no (by omega), upI_no (by omega)]) (fun n hn => ⟨by rw [upI_r hn, upI_r hn], rfl⟩) (fun i hi => by rw [if_neg (by omega), show ((m.1 0 5 + 1) % 8 + (i : Int)) % 8 = (m.1 0 5 + ((i + 1 : Nat) : Int)) % 8 by push_cast; omega]; exact c4 (i + 1) (by omega)) (if_pos (by omega)) (by unfold kpG; rw [if_pos (by omega), show g.kt - 1 + 1 = g.kt by omega]))
set_option maxHeartbeats 4000000 in
set_option maxRecDepth 100000 in
theorem c_X3_guard {G : GG} {l : Launch} (hfl : l.stackTraces = false) (hG : MW G) {m : Mm} {g : Gm} {T : Int} (hX : XIs T m g) (hT0 : 0 ≤ T ∧ T ≤ 1000000000) {x : Int} (hxR : -2147483648 ≤ x ∧ x ≤ 2147483647) : CT G l yX3_guard cX3_guard 2 (some .int) (RM 9 4 24) [.ref 0, vI x] m (fun r' m' => (sp_guard g x).1 = 0 ∧ r' = some (vI (sp_guard g x).2.1) ∧ XIs (T + 1000) m' (sp_guard g x).2.2 ∧ XFr m m') (fun X m' => (((sp_guard g x).1 = 1 ∧ X = "java/lang/IllegalArgumentException") ∨ ((sp_guard g x).1 = 2 ∧ X = "java/lang/UnsupportedOperationException")) ∧ XIs (T + 1000) m' (sp_guard g x).2.2 ∧ XFr m m') := by
  refine CT.of RX3 [(0, .ref 0), (1, vI x)] hfl (by decide +kernel) rfl rfl (Nat.le_of_ble_eq_true rfl) ?_
  intro E ok en hml hEl htab
  have hR : e_R E = RM 9 4 24 := en.2.2.2
  have hn0 : 0 < (e_c E).maxLocals := by rw [hml]; decide
  have hn1 : 1 < (e_c E).maxLocals := by rw [hml]; decide
  have hI := hX.1.1
  have hT := hX.1.2
  obtain ⟨e1, e4, hv, hgs⟩ := id hI
  obtain ⟨b0, b1, hvb, hgb⟩ := id hT
  refine ga_iload_n ok 1 rfl rfl dX3_guard_0 ?_
  refine gc_S_1 ok lk_X3_67 (c_X3_requireRate ok.fl hG hxR) (by rw [hR]; exact ⟨by decide, by decide, by decide, by decide⟩) (Nat.le_of_ble_eq_true rfl) dX3_guard_1 (fun r9 m9 hq => ?_) (fun X9 m9 hq => by
    obtain ⟨rfl, qx, hm9⟩ := hq
    subst m9
    refine ga_out en htab (by decide) (by decide) ?_
    have hs : (sp_guard g x) = (1, 0, g) := by unfold sp_guard; rw [if_pos (by omega)]
    rw [hs]
    exact ⟨Or.inl ⟨rfl, rfl⟩, hX.mono (by omega), XFr.rf⟩)
  obtain ⟨rfl, qx, hm9⟩ := hq
  subst m9
  simp only [Option.toList_none, List.nil_append]
  refine ga_aload_n ok 0 rfl rfl dX3_guard_4 ?_
  refine gc_X3_0 ok hG rfl lk_X3_71 rfl (c_X3_refusesGuard ok.fl hG hI hT) (by rw [hR]; exact ⟨by decide, by decide, by decide, by decide⟩) (Nat.le_of_ble_eq_true rfl) dX3_guard_5 (fun r9 m9 hq => ?_) (fun _ _ h => h.elim)
  obtain ⟨y9, hy, hy2⟩ : ∃ y9 : Int, r9 = some (vI y9) ∧ ((y9 = 0 ∧ g.r 0 < 4 ∧ m9 = m) ∨ (y9 = 1 ∧ g.r 0 = 4 ∧ m9 = rfM m 1 4)) := by
    rcases hq with ⟨p1, p2, p3⟩ | ⟨p1, p2, p3⟩
    · exact ⟨0, p2, Or.inl ⟨rfl, p1, p3⟩⟩
    · exact ⟨1, p2, Or.inr ⟨rfl, p1, p3⟩⟩
  subst hy
  simp only [Option.toList_some, List.singleton_append]
  refine ga_if_eq ok 21 (by decide) (by omega) dX3_guard_8 (fun c_8 => ?_) (fun c_8 => ?_)
  · obtain ⟨hlt, hm9⟩ : g.r 0 < 4 ∧ m9 = m := by rcases hy2 with h | h; exact ⟨h.2.1, h.2.2⟩; exact absurd h.1 (by omega)
    subst m9
    have hI0 := hI
    refine ga_aload_n ok 0 rfl rfl dX3_guard_21 ?_
    refine ga_aload_n ok 0 rfl rfl dX3_guard_22 ?_
    refine gf_X3_12 ok hG rfl dX3_guard_23 ?_
    refine gc_X3_1 ok hG rfl lk_X3_82 rfl (c_X3_keep ok.fl hG hX (a := 64) (Or.inl rfl) hI0 hT) (by rw [hR]; exact ⟨by decide, by decide, by decide, by decide⟩) (Nat.le_of_ble_eq_true rfl) dX3_guard_26 (fun r9 m1 hq => ?_) (fun _ _ h => h.elim)
    obtain ⟨rfl, k1, k2, k3, k4⟩ := hq
    simp only [Option.toList_none, List.nil_append]
    have hI1 : gtIs m1 64 g.r := by have := k1.1.1; rw [kpG_r] at this; exact this
    refine ga_aload_n ok 0 rfl rfl dX3_guard_29 ?_
    refine gf_X3_12 ok hG rfl dX3_guard_30 ?_
    refine ga_iload_n ok 1 rfl rfl dX3_guard_33 ?_
    refine gc_X0_1 ok hG (by omega) lk_X3_86 rfl (c_X0_addGuard ok.fl hG (by omega) hI1 hT (x := x) (by omega)) (by rw [hR]; exact ⟨by decide, by decide, by decide, by decide⟩) (Nat.le_of_ble_eq_true rfl) dX3_guard_34 (fun r9 m2 hq => ?_) (fun _ _ h => h.elim)
    obtain ⟨hr9, q1, q2⟩ := hq
    subst hr9
    simp only [Option.toList_some, List.singleton_append]
    exact ga_ireturn ok en rfl rfl (by decide) (by decide) dX3_guard_37 (by
  have hs : (sp_guard g x) = (0, g.r 0, chG g (adG g.r x)) := by unfold sp_guard; rw [if_neg (by omega), if_neg (by omega)]
  rw [hs]
  exact ⟨rfl, rfl, (k1.now q1 q2 ((gtOk_adG hT hT0.1 (by omega) (by omega)).mono (by omega)) (by omega)), k2.tr (q1.x (by omega))⟩)
  · obtain ⟨hlt, hm9⟩ : g.r 0 = 4 ∧ m9 = rfM m 1 4 := by rcases hy2 with h | h; exact absurd h.1 (by omega); exact ⟨h.2.1, h.2.2⟩
    subst m9
    exact ga_throw ok en htab lt_UnsupportedOperationException (text := "there are 4 guards") (by decide +kernel) ⟨by decide, by decide, by decide, by decide⟩ (Nat.le_of_ble_eq_true rfl) dX3_guard_11 dX3_guard_14 dX3_guard_15 dX3_guard_17 dX3_guard_20 (by
  have hs : (sp_guard g x) = (2, 0, rfG g 1 4) := by unfold sp_guard; rw [if_neg (by omega), if_pos (by omega)]
  rw [hs]
  exact ⟨Or.inr ⟨rfl, rfl⟩, (hX.rf (by omega) (by omega)).mono (by omega), rfM.x XFr.rf⟩)
set_option maxHeartbeats 4000000 in
set_option maxRecDepth 100000 in
theorem c_X3_rate {G : GG} {l : Launch} (hfl : l.stackTraces = false) (hG : MW G) {m : Mm} {g : Gm} {T : Int} (hX : XIs T m g) (hT0 : 0 ≤ T ∧ T ≤ 1000000000) {n : Int} (hnR : -2147483648 ≤ n ∧ n ≤ 2147483647) {x : Int} (hxR : -2147483648 ≤ x ∧ x ≤ 2147483647) : CT G l yX3_rate cX3_rate 4 (some .int) (RM 9 4 24) [.ref 0, vI n, vI x] m (fun r' m' => (sp_rate g n x).1 = 0 ∧ r' = some (vI (sp_rate g n x).2.1) ∧ XIs (T + 1000) m' (sp_rate g n x).2.2 ∧ XFr m m') (fun X m' => (((sp_rate g n x).1 = 1 ∧ X = "java/lang/IndexOutOfBoundsException") ∨ ((sp_rate g n x).1 = 2 ∧ X = "java/lang/IllegalArgumentException") ∨ ((sp_rate g n x).1 = 3 ∧ X = "java/lang/UnsupportedOperationException")) ∧ XIs (T + 1000) m' (sp_rate g n x).2.2 ∧ XFr m m') := by
  refine CT.of RX3 [(0, .ref 0), (1, vI n), (2, vI x)] hfl (by decide +kernel) rfl rfl (Nat.le_of_ble_eq_true rfl) ?_
  intro E ok en hml hEl htab
  have hR : e_R E = RM 9 4 24 := en.2.2.2
  have hn0 : 0 < (e_c E).maxLocals := by rw [hml]; decide
  have hn1 : 1 < (e_c E).maxLocals := by rw [hml]; decide
  have hn2 : 2 < (e_c E).maxLocals := by rw [hml]; decide
  have hn3 : 3 < (e_c E).maxLocals := by rw [hml]; decide
  have hI := hX.1.1
  have hT := hX.1.2
  obtain ⟨e1, e4, hv, hgs⟩ := id hI
  obtain ⟨b0, b1, hvb, hgb⟩ := id hT
  refine ga_aload_n ok 0 rfl rfl dX3_rate_0 ?_
  refine ga_iload_n ok 1 rfl rfl dX3_rate_1 ?_
  refine gc_X3_1 ok hG rfl lk_X3_90 rfl (c_X3_requireGuard ok.fl hG hI hT hnR) (by rw [hR]; exact ⟨by decide, by decide, by decide, by decide⟩) (Nat.le_of_ble_eq_true rfl) dX3_rate_2 (fun r9 m9 hq => ?_) (fun X9 m9 hq => by
    obtain ⟨rfl, qg, hm9⟩ := hq
    subst m9
    refine ga_out en htab (by decide) (by decide) ?_
    have hs : (sp_rate g n x) = (1, 0, g) := by unfold sp_rate; rw [if_pos (by omega)]
    rw [hs]
    exact ⟨Or.inl ⟨rfl, rfl⟩, hX.mono (by omega), XFr.rf⟩)
  obtain ⟨rfl, qg, hm9⟩ := hq
  subst m9
  simp only [Option.toList_none, List.nil_append]
  refine ga_iload_n ok 2 rfl rfl dX3_rate_5 ?_
  refine gc_S_1 ok lk_X3_67 (c_X3_requireRate ok.fl hG hxR) (by rw [hR]; exact ⟨by decide, by decide, by decide, by decide⟩) (Nat.le_of_ble_eq_true rfl) dX3_rate_6 (fun r9 m9 hq => ?_) (fun X9 m9 hq => by
    obtain ⟨rfl, qx, hm9⟩ := hq
    subst m9
    refine ga_out en htab (by decide) (by decide) ?_
    have hs : (sp_rate g n x) = (2, 0, g) := by unfold sp_rate; rw [if_neg (by omega), if_pos (by omega)]
    rw [hs]
    exact ⟨Or.inr (Or.inl ⟨rfl, rfl⟩), hX.mono (by omega), XFr.rf⟩)
  obtain ⟨rfl, qx, hm9⟩ := hq
  subst m9
  simp only [Option.toList_none, List.nil_append]
  refine ga_aload_n ok 0 rfl rfl dX3_rate_9 ?_
  refine gf_X3_12 ok hG rfl dX3_rate_10 ?_
  refine gf_X3_93 ok hG (by omega) dX3_rate_13 ?_
  refine ga_iload_n ok 1 rfl rfl dX3_rate_16 ?_
  refine ga_aaload_qa ok (ar_ga hG (by omega)) (by omega) dX3_rate_17 ?_
  refine gf_X3_97 ok hG (by omega) dX3_rate_18 ?_
  rw [(hgs n.toNat (by omega)).1]
  have hI0 := hI
  have ho9 := hgb n.toNat (by omega)
  obtain ⟨o0, o1, -, -, -⟩ := ho9
  refine ga_istore_n ok 3 rfl hn3 dX3_rate_21 ?_
  refine ga_iload_n ok 3 rfl rfl dX3_rate_22 ?_
  refine ga_iload_n ok 2 rfl rfl dX3_rate_23 ?_
  refine ga_icmp_ne ok 43 (by decide) (by omega) (by omega) dX3_rate_24 (fun c_24 => ?_) (fun c_24 => ?_)
  · refine ga_aload_n ok 0 rfl rfl dX3_rate_43 ?_
    refine ga_aload_n ok 0 rfl rfl dX3_rate_44 ?_
    refine gf_X3_12 ok hG rfl dX3_rate_45 ?_
    refine gc_X3_1 ok hG rfl lk_X3_82 rfl (c_X3_keep ok.fl hG hX (a := 64) (Or.inl rfl) hI0 hT) (by rw [hR]; exact ⟨by decide, by decide, by decide, by decide⟩) (Nat.le_of_ble_eq_true rfl) dX3_rate_48 (fun r9 m1 hq => ?_) (fun _ _ h => h.elim)
    obtain ⟨rfl, k1, k2, k3, k4⟩ := hq
    simp only [Option.toList_none, List.nil_append]
    have hI1 : gtIs m1 64 g.r := by have := k1.1.1; rw [kpG_r] at this; exact this
    refine ga_aload_n ok 0 rfl rfl dX3_rate_51 ?_
    refine gf_X3_12 ok hG rfl dX3_rate_52 ?_
    refine gf_X3_93 ok hG (by omega) dX3_rate_55 ?_
    refine ga_iload_n ok 1 rfl rfl dX3_rate_58 ?_
    refine ga_aaload_qa ok (ar_ga hG (by omega)) (by omega) dX3_rate_59 ?_
    refine ga_iload_n ok 2 rfl rfl dX3_rate_60 ?_
    refine gp_X3_97 ok hG (by omega) dX3_rate_61 ?_
    refine ga_iload_n ok 3 rfl rfl dX3_rate_64 ?_
    exact ga_ireturn ok en rfl rfl (by decide) (by decide) dX3_rate_65 (by
  have hs : (sp_rate g n x) = (0, rg g.r n.toNat 0, chG g (stG g.r n.toNat (rtS (rg g.r n.toNat) 0 x))) := by unfold sp_rate; rw [if_neg (by omega), if_neg (by omega), if_neg (by omega)]
  rw [hs]
  exact ⟨rfl, rfl, k1.now (gtFr.of (by omega) (j := n.toNat) (by omega) (gFr.rf.uI (Or.inl rfl))) (gtIs.st hI1 (j := n.toNat) (gFr.rf.uI (Or.inl rfl)) (by omega) b0.2 b1.2 (by omega) ((hI1.2.2.2 n.toNat (by omega)).rt0)) ((gtOk_stG hT (gOk_rt0 (hgb n.toNat (by omega)) (by omega))).mono (by omega)) (by omega), k2.uI (by omega)⟩)
  · refine ga_aload_n ok 0 rfl rfl dX3_rate_27 ?_
    refine ga_iconst ok dX3_rate_28 ?_
    refine ga_iload_n ok 2 rfl rfl dX3_rate_29 ?_
    refine gv_X3_2 ok hG rfl lk_X3_100 rfl (c_X3_refuse ok.fl hG (a := 4) (b := x)) (by rw [hR]; exact ⟨by decide, by decide, by decide, by decide⟩) (Nat.le_of_ble_eq_true rfl) dX3_rate_30 ?_
    exact ga_throw ok en htab lt_UnsupportedOperationException (text := "the rate is so already") (by decide +kernel) ⟨by decide, by decide, by decide, by decide⟩ (Nat.le_of_ble_eq_true rfl) dX3_rate_33 dX3_rate_36 dX3_rate_37 dX3_rate_39 dX3_rate_42 (by
  have hs : (sp_rate g n x) = (3, 0, rfG g 4 x) := by unfold sp_rate; rw [if_neg (by omega), if_neg (by omega), if_pos (by omega)]
  rw [hs]
  exact ⟨Or.inr (Or.inr ⟨rfl, rfl⟩), (hX.rf (by omega) (by omega)).mono (by omega), rfM.x XFr.rf⟩)
set_option maxHeartbeats 4000000 in
set_option maxRecDepth 100000 in
theorem c_X3_caution {G : GG} {l : Launch} (hfl : l.stackTraces = false) (hG : MW G) {m : Mm} {g : Gm} {T : Int} (hX : XIs T m g) (hT0 : 0 ≤ T ∧ T ≤ 1000000000) {n : Int} (hnR : -2147483648 ≤ n ∧ n ≤ 2147483647) {x : Int} (hxR : -2147483648 ≤ x ∧ x ≤ 2147483647) : CT G l yX3_caution cX3_caution 4 (some .int) (RM 9 4 24) [.ref 0, vI n, vI x] m (fun r' m' => (sp_caution g n x).1 = 0 ∧ r' = some (vI (sp_caution g n x).2.1) ∧ XIs (T + 1000) m' (sp_caution g n x).2.2 ∧ XFr m m') (fun X m' => (((sp_caution g n x).1 = 1 ∧ X = "java/lang/IndexOutOfBoundsException") ∨ ((sp_caution g n x).1 = 2 ∧ X = "java/lang/IllegalArgumentException") ∨ ((sp_caution g n x).1 = 3 ∧ X = "java/lang/UnsupportedOperationException")) ∧ XIs (T + 1000) m' (sp_caution g n x).2.2 ∧ XFr m m') := by
  refine CT.of RX3 [(0, .ref 0), (1, vI n), (2, vI x)] hfl (by decide +kernel) rfl rfl (Nat.le_of_ble_eq_true rfl) ?_
  intro E ok en hml hEl htab
  have hR : e_R E = RM 9 4 24 := en.2.2.2
  have hn0 : 0 < (e_c E).maxLocals := by rw [hml]; decide
  have hn1 : 1 < (e_c E).maxLocals := by rw [hml]; decide
  have hn2 : 2 < (e_c E).maxLocals := by rw [hml]; decide
  have hn3 : 3 < (e_c E).maxLocals := by rw [hml]; decide
  have hI := hX.1.1
  have hT := hX.1.2
  obtain ⟨e1, e4, hv, hgs⟩ := id hI
  obtain ⟨b0, b1, hvb, hgb⟩ := id hT
  refine ga_aload_n ok 0 rfl rfl dX3_caution_0 ?_
  refine ga_iload_n ok 1 rfl rfl dX3_caution_1 ?_
  refine gc_X3_1 ok hG rfl lk_X3_90 rfl (c_X3_requireGuard ok.fl hG hI hT hnR) (by rw [hR]; exact ⟨by decide, by decide, by decide, by decide⟩) (Nat.le_of_ble_eq_true rfl) dX3_caution_2 (fun r9 m9 hq => ?_) (fun X9 m9 hq => by
    obtain ⟨rfl, qg, hm9⟩ := hq
    subst m9
    refine ga_out en htab (by decide) (by decide) ?_
    have hs : (sp_caution g n x) = (1, 0, g) := by unfold sp_caution; rw [if_pos (by omega)]
    rw [hs]
    exact ⟨Or.inl ⟨rfl, rfl⟩, hX.mono (by omega), XFr.rf⟩)
  obtain ⟨rfl, qg, hm9⟩ := hq
  subst m9
  simp only [Option.toList_none, List.nil_append]
  refine ga_iload_n ok 2 rfl rfl dX3_caution_5 ?_
  refine ga_if_lt ok 16 (by decide) (by omega) dX3_caution_6 (fun c_6 => ?_) (fun c_6 => ?_)
  · exact ga_throw ok en htab lt_IllegalArgumentException (text := "the caution is out of range") (by decide +kernel) ⟨by decide, by decide, by decide, by decide⟩ (Nat.le_of_ble_eq_true rfl) dX3_caution_16 dX3_caution_19 dX3_caution_20 dX3_caution_22 dX3_caution_25 (by
  have hs : (sp_caution g n x) = (2, 0, g) := by unfold sp_caution; rw [if_neg (by omega), if_pos (by omega)]
  rw [hs]
  exact ⟨Or.inr (Or.inl ⟨rfl, rfl⟩), hX.mono (by omega), XFr.rf⟩)
  · refine ga_iload_n ok 2 rfl rfl dX3_caution_9 ?_
    refine ga_sipush ok dX3_caution_10 (by decide) ?_
    refine ga_icmp_le ok 26 (by decide) (by omega) (by omega) dX3_caution_13 (fun c_13 => ?_) (fun c_13 => ?_)
    · refine ga_aload_n ok 0 rfl rfl dX3_caution_26 ?_
      refine gf_X3_12 ok hG rfl dX3_caution_27 ?_
      refine gf_X3_93 ok hG (by omega) dX3_caution_30 ?_
      refine ga_iload_n ok 1 rfl rfl dX3_caution_33 ?_
      refine ga_aaload_qa ok (ar_ga hG (by omega)) (by omega) dX3_caution_34 ?_
      refine gf_X3_111 ok hG (by omega) dX3_caution_35 ?_
      rw [(hgs n.toNat (by omega)).2.1]
      have hI0 := hI
      have ho9 := hgb n.toNat (by omega)
      obtain ⟨o0, o1, -, -, -⟩ := ho9
      refine ga_istore_n ok 3 rfl hn3 dX3_caution_38 ?_
      refine ga_iload_n ok 3 rfl rfl dX3_caution_39 ?_
      refine ga_iload_n ok 2 rfl rfl dX3_caution_40 ?_
      refine ga_icmp_ne ok 60 (by decide) (by omega) (by omega) dX3_caution_41 (fun c_41 => ?_) (fun c_41 => ?_)
      · refine ga_aload_n ok 0 rfl rfl dX3_caution_60 ?_
        refine ga_aload_n ok 0 rfl rfl dX3_caution_61 ?_
        refine gf_X3_12 ok hG rfl dX3_caution_62 ?_
        refine gc_X3_1 ok hG rfl lk_X3_82 rfl (c_X3_keep ok.fl hG hX (a := 64) (Or.inl rfl) hI0 hT) (by rw [hR]; exact ⟨by decide, by decide, by decide, by decide⟩) (Nat.le_of_ble_eq_true rfl) dX3_caution_65 (fun r9 m1 hq => ?_) (fun _ _ h => h.elim)
        obtain ⟨rfl, k1, k2, k3, k4⟩ := hq
        simp only [Option.toList_none, List.nil_append]
        have hI1 : gtIs m1 64 g.r := by have := k1.1.1; rw [kpG_r] at this; exact this
        refine ga_aload_n ok 0 rfl rfl dX3_caution_68 ?_
        refine gf_X3_12 ok hG rfl dX3_caution_69 ?_
        refine gf_X3_93 ok hG (by omega) dX3_caution_72 ?_
        refine ga_iload_n ok 1 rfl rfl dX3_caution_75 ?_
        refine ga_aaload_qa ok (ar_ga hG (by omega)) (by omega) dX3_caution_76 ?_
        refine ga_iload_n ok 2 rfl rfl dX3_caution_77 ?_
        refine gp_X3_111 ok hG (by omega) dX3_caution_78 ?_
        refine ga_iload_n ok 3 rfl rfl dX3_caution_81 ?_
        exact ga_ireturn ok en rfl rfl (by decide) (by decide) dX3_caution_82 (by
  have hs : (sp_caution g n x) = (0, rg g.r n.toNat 1, chG g (stG g.r n.toNat (rtS (rg g.r n.toNat) 1 x))) := by unfold sp_caution; rw [if_neg (by omega), if_neg (by omega), if_neg (by omega)]
  rw [hs]
  exact ⟨rfl, rfl, k1.now (gtFr.of (by omega) (j := n.toNat) (by omega) (gFr.rf.uI (Or.inl rfl))) (gtIs.st hI1 (j := n.toNat) (gFr.rf.uI (Or.inl rfl)) (by omega) b0.2 b1.2 (by omega) ((hI1.2.2.2 n.toNat (by omega)).rt1)) ((gtOk_stG hT (gOk_rt1 (hgb n.toNat (by omega)) (by omega))).mono (by omega)) (by omega), k2.uI (by omega)⟩)
      · refine ga_aload_n ok 0 rfl rfl dX3_caution_44 ?_
        refine ga_iconst ok dX3_caution_45 ?_
        refine ga_iload_n ok 2 rfl rfl dX3_caution_46 ?_
        refine gv_X3_2 ok hG rfl lk_X3_100 rfl (c_X3_refuse ok.fl hG (a := 4) (b := x)) (by rw [hR]; exact ⟨by decide, by decide, by decide, by decide⟩) (Nat.le_of_ble_eq_true rfl) dX3_caution_47 ?_
        exact ga_throw ok en htab lt_UnsupportedOperationException (text := "the caution is so already") (by decide +kernel) ⟨by decide, by decide, by decide, by decide⟩ (Nat.le_of_ble_eq_true rfl) dX3_caution_50 dX3_caution_53 dX3_caution_54 dX3_caution_56 dX3_caution_59 (by
  have hs : (sp_caution g n x) = (3, 0, rfG g 4 x) := by unfold sp_caution; rw [if_neg (by omega), if_neg (by omega), if_pos (by omega)]
  rw [hs]
  exact ⟨Or.inr (Or.inr ⟨rfl, rfl⟩), (hX.rf (by omega) (by omega)).mono (by omega), rfM.x XFr.rf⟩)
    · exact ga_throw ok en htab lt_IllegalArgumentException (text := "the caution is out of range") (by decide +kernel) ⟨by decide, by decide, by decide, by decide⟩ (Nat.le_of_ble_eq_true rfl) dX3_caution_16 dX3_caution_19 dX3_caution_20 dX3_caution_22 dX3_caution_25 (by
  have hs : (sp_caution g n x) = (2, 0, g) := by unfold sp_caution; rw [if_neg (by omega), if_pos (by omega)]
  rw [hs]
  exact ⟨Or.inr (Or.inl ⟨rfl, rfl⟩), hX.mono (by omega), XFr.rf⟩)
set_option maxHeartbeats 4000000 in
set_option maxRecDepth 100000 in
theorem c_X3_visitor {G : GG} {l : Launch} (hfl : l.stackTraces = false) (hG : MW G) {m : Mm} {g : Gm} {T : Int} (hX : XIs T m g) (hT0 : 0 ≤ T ∧ T ≤ 1000000000) {x : Int} (hxR : -2147483648 ≤ x ∧ x ≤ 2147483647) {f : Int} (hf01 : f = 0 ∨ f = 1) : CT G l yX3_visitor cX3_visitor 3 (some .int) (RM 9 4 24) [.ref 0, vI x, vI f] m (fun r' m' => (sp_visitor g x f).1 = 0 ∧ r' = some (vI (sp_visitor g x f).2.1) ∧ XIs (T + 1000) m' (sp_visitor g x f).2.2 ∧ XFr m m') (fun X m' => (((sp_visitor g x f).1 = 1 ∧ X = "java/lang/IllegalArgumentException") ∨ ((sp_visitor g x f).1 = 2 ∧ X = "java/lang/UnsupportedOperationException")) ∧ XIs (T + 1000) m' (sp_visitor g x f).2.2 ∧ XFr m m') := by
  refine CT.of RX3 [(0, .ref 0), (1, vI x), (2, vI f)] hfl (by decide +kernel) rfl rfl (Nat.le_of_ble_eq_true rfl) ?_
  intro E ok en hml hEl htab
  have hR : e_R E = RM 9 4 24 := en.2.2.2
  have hn0 : 0 < (e_c E).maxLocals := by rw [hml]; decide
  have hn1 : 1 < (e_c E).maxLocals := by rw [hml]; decide
  have hn2 : 2 < (e_c E).maxLocals := by rw [hml]; decide
  have hI := hX.1.1
  have hT := hX.1.2
  obtain ⟨e1, e4, hv, hgs⟩ := id hI
  obtain ⟨b0, b1, hvb, hgb⟩ := id hT
  refine ga_iload_n ok 1 rfl rfl dX3_visitor_0 ?_
  refine gc_S_1 ok lk_X3_116 (c_X3_requireSet ok.fl hG hxR) (by rw [hR]; exact ⟨by decide, by decide, by decide, by decide⟩) (Nat.le_of_ble_eq_true rfl) dX3_visitor_1 (fun r9 m9 hq => ?_) (fun X9 m9 hq => by
    obtain ⟨rfl, qx, hm9⟩ := hq
    subst m9
    refine ga_out en htab (by decide) (by decide) ?_
    have hs : (sp_visitor g x f) = (1, 0, g) := by unfold sp_visitor; rw [if_pos (by omega)]
    rw [hs]
    exact ⟨Or.inl ⟨rfl, rfl⟩, hX.mono (by omega), XFr.rf⟩)
  obtain ⟨rfl, qx, hm9⟩ := hq
  subst m9
  simp only [Option.toList_none, List.nil_append]
  refine ga_aload_n ok 0 rfl rfl dX3_visitor_4 ?_
  refine ga_iload_n ok 1 rfl rfl dX3_visitor_5 ?_
  refine gc_X3_1 ok hG rfl lk_X3_119 rfl (c_X3_refusesVisitor ok.fl hG hI hT (x := x) (by omega)) (by rw [hR]; exact ⟨by decide, by decide, by decide, by decide⟩) (Nat.le_of_ble_eq_true rfl) dX3_visitor_6 (fun r9 m9 hq => ?_) (fun _ _ h => h.elim)
  obtain ⟨y9, hy, hy2⟩ : ∃ y9 : Int, r9 = some (vI y9) ∧ ((y9 = 0 ∧ fnd g.r x (g.r 1).toNat < 0 ∧ g.r 1 < 12 ∧ m9 = m) ∨ (y9 = 1 ∧ ∃ a b : Int, sp_visitor g x f = (2, 0, rfG g a b) ∧ (0 ≤ a ∧ a ≤ 5) ∧ (0 ≤ b ∧ b ≤ 256) ∧ m9 = rfM m a b)) := by
    have hfb := fnd_bd (r := g.r) (x := x) (g.r 1).toNat
    rcases hq with ⟨p1, p2, p3, p4⟩ | ⟨p1, p3, p4⟩ | ⟨p1, p2, p3, p4⟩
    · exact ⟨0, p3, Or.inl ⟨rfl, p1, p2, p4⟩⟩
    · exact ⟨1, p3, Or.inr ⟨rfl, 2, _, by unfold sp_visitor; rw [if_neg (by omega), if_pos (by omega)], by omega, by omega, p4⟩⟩
    · exact ⟨1, p3, Or.inr ⟨rfl, 1, 12, by unfold sp_visitor; rw [if_neg (by omega), if_neg (by omega), if_pos (by omega)], by omega, by omega, p4⟩⟩
  subst hy
  simp only [Option.toList_some, List.singleton_append]
  refine ga_if_eq ok 22 (by decide) (by omega) dX3_visitor_9 (fun c_9 => ?_) (fun c_9 => ?_)
  · obtain ⟨hf9, hlt, hm9⟩ : fnd g.r x (g.r 1).toNat < 0 ∧ g.r 1 < 12 ∧ m9 = m := by rcases hy2 with h | h; exact ⟨h.2.1, h.2.2.1, h.2.2.2⟩; exact absurd h.1 (by omega)
    subst m9
    have hI0 := hI
    refine ga_aload_n ok 0 rfl rfl dX3_visitor_22 ?_
    refine ga_aload_n ok 0 rfl rfl dX3_visitor_23 ?_
    refine gf_X3_12 ok hG rfl dX3_visitor_24 ?_
    refine gc_X3_1 ok hG rfl lk_X3_82 rfl (c_X3_keep ok.fl hG hX (a := 64) (Or.inl rfl) hI0 hT) (by rw [hR]; exact ⟨by decide, by decide, by decide, by decide⟩) (Nat.le_of_ble_eq_true rfl) dX3_visitor_27 (fun r9 m1 hq => ?_) (fun _ _ h => h.elim)
    obtain ⟨rfl, k1, k2, k3, k4⟩ := hq
    simp only [Option.toList_none, List.nil_append]
    have hI1 : gtIs m1 64 g.r := by have := k1.1.1; rw [kpG_r] at this; exact this
    refine ga_aload_n ok 0 rfl rfl dX3_visitor_30 ?_
    refine gf_X3_12 ok hG rfl dX3_visitor_31 ?_
    refine ga_iload_n ok 1 rfl rfl dX3_visitor_34 ?_
    refine ga_iload_n ok 2 rfl rfl dX3_visitor_35 ?_
    refine gc_X0_2 ok hG (by omega) lk_X3_125 rfl (c_X0_addVisitor ok.fl hG (by omega) hI1 hT (x := x) hf01 (by omega)) (by rw [hR]; exact ⟨by decide, by decide, by decide, by decide⟩) (Nat.le_of_ble_eq_true rfl) dX3_visitor_36 (fun r9 m2 hq => ?_) (fun _ _ h => h.elim)
    obtain ⟨hr9, q1, q2⟩ := hq
    subst hr9
    simp only [Option.toList_some, List.singleton_append]
    exact ga_ireturn ok en rfl rfl (by decide) (by decide) dX3_visitor_39 (by
  have hs : (sp_visitor g x f) = (0, g.r 1, chG g (adV g.r x f)) := by unfold sp_visitor; rw [if_neg (by omega), if_neg (by omega), if_neg (by omega)]
  rw [hs]
  exact ⟨rfl, rfl, (k1.now q1 q2 ((gtOk_adV hT (by omega) hf01 (by omega)).mono (by omega)) (by omega)), k2.tr (q1.x (by omega))⟩)
  · obtain ⟨a, b, hsp, ha9, hb9, hm9⟩ : ∃ a b : Int, sp_visitor g x f = (2, 0, rfG g a b) ∧ (0 ≤ a ∧ a ≤ 5) ∧ (0 ≤ b ∧ b ≤ 256) ∧ m9 = rfM m a b := by rcases hy2 with h | h; exact absurd h.1 (by omega); exact h.2
    subst m9
    exact ga_throw ok en htab lt_UnsupportedOperationException (text := "the visitor is known, or there are 12") (by decide +kernel) ⟨by decide, by decide, by decide, by decide⟩ (Nat.le_of_ble_eq_true rfl) dX3_visitor_12 dX3_visitor_15 dX3_visitor_16 dX3_visitor_18 dX3_visitor_21 (by
  rw [hsp]
  exact ⟨Or.inr ⟨rfl, rfl⟩, (hX.rf ha9 hb9).mono (by omega), rfM.x XFr.rf⟩)
set_option maxHeartbeats 4000000 in
set_option maxRecDepth 100000 in
theorem c_X3_forget {G : GG} {l : Launch} (hfl : l.stackTraces = false) (hG : MW G) {m : Mm} {g : Gm} {T : Int} (hX : XIs T m g) (hT0 : 0 ≤ T ∧ T ≤ 1000000000) {v : Int} (hvR : -2147483648 ≤ v ∧ v ≤ 2147483647) : CT G l yX3_forget cX3_forget 2 (some .int) (RM 9 4 24) [.ref 0, vI v] m (fun r' m' => (sp_forget g v).1 = 0 ∧ r' = some (vI (sp_forget g v).2.1) ∧ XIs (T + 1000) m' (sp_forget g v).2.2 ∧ XFr m m') (fun X m' => (((sp_forget g v).1 = 1 ∧ X = "java/lang/IndexOutOfBoundsException")) ∧ XIs (T + 1000) m' (sp_forget g v).2.2 ∧ XFr m m') := by
  refine CT.of RX3 [(0, .ref 0), (1, vI v)] hfl (by decide +kernel) rfl rfl (Nat.le_of_ble_eq_true rfl) ?_
  intro E ok en hml hEl htab
  have hR : e_R E = RM 9 4 24 := en.2.2.2
  have hn0 : 0 < (e_c E).maxLocals := by rw [hml]; decide
  have hn1 : 1 < (e_c E).maxLocals := by rw [hml]; decide
  have hI := hX.1.1
  have hT := hX.1.2
  obtain ⟨e1, e4, hv, hgs⟩ := id hI
  obtain ⟨b0, b1, hvb, hgb⟩ := id hT
  refine ga_aload_n ok 0 rfl rfl dX3_forget_0 ?_
  refine ga_iload_n ok 1 rfl rfl dX3_forget_1 ?_
  refine gc_X3_1 ok hG rfl lk_X3_129 rfl (c_X3_requireVisitor ok.fl hG hI hT hvR) (by rw [hR]; exact ⟨by decide, by decide, by decide, by decide⟩) (Nat.le_of_ble_eq_true rfl) dX3_forget_2 (fun r9 m9 hq => ?_) (fun X9 m9 hq => by
    obtain ⟨rfl, qv, hm9⟩ := hq
    subst m9
    refine ga_out en htab (by decide) (by decide) ?_
    have hs : (sp_forget g v) = (1, 0, g) := by unfold sp_forget; rw [if_pos (by omega)]
    rw [hs]
    exact ⟨⟨rfl, rfl⟩, hX.mono (by omega), XFr.rf⟩)
  obtain ⟨rfl, qv, hm9⟩ := hq
  subst m9
  simp only [Option.toList_none, List.nil_append]
  have hI0 := hI
  refine ga_aload_n ok 0 rfl rfl dX3_forget_5 ?_
  refine ga_aload_n ok 0 rfl rfl dX3_forget_6 ?_
  refine gf_X3_12 ok hG rfl dX3_forget_7 ?_
  refine gc_X3_1 ok hG rfl lk_X3_82 rfl (c_X3_keep ok.fl hG hX (a := 64) (Or.inl rfl) hI0 hT) (by rw [hR]; exact ⟨by decide, by decide, by decide, by decide⟩) (Nat.le_of_ble_eq_true rfl) dX3_forget_10 (fun r9 m1 hq => ?_) (fun _ _ h => h.elim)
  obtain ⟨rfl, k1, k2, k3, k4⟩ := hq
  simp only [Option.toList_none, List.nil_append]
  have hI1 : gtIs m1 64 g.r := by have := k1.1.1; rw [kpG_r] at this; exact this
  refine ga_aload_n ok 0 rfl rfl dX3_forget_13 ?_
  refine gf_X3_12 ok hG rfl dX3_forget_14 ?_
  refine ga_iload_n ok 1 rfl rfl dX3_forget_17 ?_
  refine gc_X0_1 ok hG (by omega) lk_X3_132 rfl (c_X0_removeVisitor ok.fl hG (by omega) hI1 hT (v := v) (by omega)) (by rw [hR]; exact ⟨by decide, by decide, by decide, by decide⟩) (Nat.le_of_ble_eq_true rfl) dX3_forget_18 (fun r9 m2 hq => ?_) (fun _ _ h => h.elim)
  obtain ⟨hr9, q1, q2⟩ := hq
  subst hr9
  simp only [Option.toList_some, List.singleton_append]
  exact ga_ireturn ok en rfl rfl (by decide) (by decide) dX3_forget_21 (by
  have hs : (sp_forget g v) = (0, g.r 1 - 1, chG g (rmV g.r v.toNat)) := by unfold sp_forget; rw [if_neg (by omega)]
  rw [hs]
  exact ⟨rfl, rfl, (k1.now q1 q2 ((gtOk_rmV hT (by omega)).mono (by omega)) (by omega)), k2.tr (q1.x (by omega))⟩)
set_option maxHeartbeats 4000000 in
set_option maxRecDepth 100000 in
theorem c_X3_append {G : GG} {l : Launch} (hfl : l.stackTraces = false) (hG : MW G) {m : Mm} {g : Gm} {T : Int} (hX : XIs T m g) (hT0 : 0 ≤ T ∧ T ≤ 1000000000) {c : Int} (hc9 : 0 ≤ c ∧ c ≤ 65535) : CT G l yX3_append cX3_append 2 (some .int) (RM 9 4 24) [.ref 0, vI c] m (fun r' m' => (sp_append g c).1 = 0 ∧ r' = some (vI (sp_append g c).2.1) ∧ XIs (T + 1000) m' (sp_append g c).2.2 ∧ XFr m m') (fun X m' => (((sp_append g c).1 = 1 ∧ X = "java/lang/IllegalStateException")) ∧ XIs (T + 1000) m' (sp_append g c).2.2 ∧ XFr m m') := by
  refine CT.of RX3 [(0, .ref 0), (1, vI c)] hfl (by decide +kernel) rfl rfl (Nat.le_of_ble_eq_true rfl) ?_
  intro E ok en hml hEl htab
  have hR : e_R E = RM 9 4 24 := en.2.2.2
  have hn0 : 0 < (e_c E).maxLocals := by rw [hml]; decide
  have hn1 : 1 < (e_c E).maxLocals := by rw [hml]; decide
  have hI := hX.1.1
  have hT := hX.1.2
  obtain ⟨e1, e4, hv, hgs⟩ := id hI
  obtain ⟨b0, b1, hvb, hgb⟩ := id hT
  obtain ⟨t1, t2, t3⟩ := hX.2.2.2.2.1
  refine ga_aload_n ok 0 rfl rfl dX3_append_0 ?_
  refine gf_X3_47 ok hG rfl dX3_append_1 ?_
  refine gf_X3_285 ok hG rfl dX3_append_4 ?_
  try rw [upI_r (by omega)]
  try rw [t1]
  refine ga_bipush ok dX3_append_7 (by decide) ?_
  refine ga_icmp_lt ok 23 (by decide) (by omega) (by omega) dX3_append_9 (fun c_9 => ?_) (fun c_9 => ?_)
  · refine ga_aload_n ok 0 rfl rfl dX3_append_23 ?_
    refine gf_X3_47 ok hG rfl dX3_append_24 ?_
    refine gf_X3_292 ok hG rfl dX3_append_27 ?_
    refine ga_aload_n ok 0 rfl rfl dX3_append_30 ?_
    refine gf_X3_47 ok hG rfl dX3_append_31 ?_
    refine gf_X3_285 ok hG rfl dX3_append_34 ?_
    try rw [upI_r (by omega)]
    try rw [t1]
    refine ga_iload_n ok 1 rfl rfl dX3_append_37 ?_
    refine ga_castore_ca ok (ar_sg hG rfl) (by omega) (narC hc9) dX3_append_38 ?_
    refine ga_aload_n ok 0 rfl rfl dX3_append_39 ?_
    refine gf_X3_47 ok hG rfl dX3_append_40 ?_
    refine ga_dup ok dX3_append_43 rfl ?_
    refine gf_X3_285 ok hG rfl dX3_append_44 ?_
    try rw [upI_r (by omega)]
    try rw [t1]
    refine ga_iconst ok dX3_append_47 ?_
    refine ga_iadd ok dX3_append_48 ?_
    refine gp_X3_285 ok hG rfl dX3_append_49 ?_
    refine ga_aload_n ok 0 rfl rfl dX3_append_52 ?_
    refine gf_X3_47 ok hG rfl dX3_append_53 ?_
    refine gf_X3_285 ok hG rfl dX3_append_56 ?_
    try rw [upI_r (by omega)]
    try rw [t1]
    exact ga_ireturn ok en rfl rfl (by decide) (by decide) dX3_append_59 (by
  have hs : (sp_append g c) = (0, g.tn + 1, mkG g.r g.sv g.hs g.pa g.kt g.rs g.dt g.er (fun i => if (i : Int) = g.tn then c else g.tx i) (g.tn + 1) g.ln g.nn) := by unfold sp_append; rw [if_neg (by omega)]
  rw [hs]
  exact ⟨rfl, by rw [upI_at], (hX.append hc9 (by omega)).mono (by omega), (XFr.rf.uI (by omega)).uI (by omega)⟩)
  · exact ga_throwW ok en htab lt_IllegalStateException (text := "the input contains 60 characters") (by decide +kernel) ⟨by decide, by decide, by decide, by decide⟩ (Nat.le_of_ble_eq_true rfl) dX3_append_12 dX3_append_15 dX3_append_16 dX3_append_19 dX3_append_22 (by
  have hs : (sp_append g c) = (1, 0, g) := by unfold sp_append; rw [if_pos (by omega)]
  rw [hs]
  exact ⟨⟨rfl, rfl⟩, hX.mono (by omega), XFr.rf⟩)
set_option maxHeartbeats 4000000 in
set_option maxRecDepth 100000 in
theorem c_X3_undo {G : GG} {l : Launch} (hfl : l.stackTraces = false) (hG : MW G) {m : Mm} {g : Gm} {T : Int} (hX : XIs T m g) (hT0 : 0 ≤ T ∧ T ≤ 1000000000)  : CT G l yX3_undo cX3_undo 1 (some .int) (RM 9 4 24) [.ref 0] m (fun r' m' => (sp_undo g).1 = 0 ∧ r' = some (vI (sp_undo g).2.1) ∧ XIs (T + 1000) m' (sp_undo g).2.2 ∧ XFr m m') (fun X m' => (((sp_undo g).1 = 1 ∧ X = "java/lang/IllegalStateException")) ∧ XIs (T + 1000) m' (sp_undo g).2.2 ∧ XFr m m') := by
  refine CT.of RX3 [(0, .ref 0)] hfl (by decide +kernel) rfl rfl (Nat.le_of_ble_eq_true rfl) ?_
  intro E ok en hml hEl htab
  have hR : e_R E = RM 9 4 24 := en.2.2.2
  have hn0 : 0 < (e_c E).maxLocals := by rw [hml]; decide
  have hI := hX.1.1
  have hT := hX.1.2
  obtain ⟨e1, e4, hv, hgs⟩ := id hI
  obtain ⟨b0, b1, hvb, hgb⟩ := id hT
  obtain ⟨c1, c2, c3, c4⟩ := hX.2.2.1
  refine ga_aload_n ok 0 rfl rfl dX3_undo_0 ?_
  refine gf_X3_34 ok hG rfl dX3_undo_1 ?_
  first | rw [e6] | rw [upI_at] | rw [c1]
  refine ga_if_ne ok 18 (by decide) (by omega) dX3_undo_4 (fun c_4 => ?_) (fun c_4 => ?_)
  · refine ga_aload_n ok 0 rfl rfl dX3_undo_18 ?_
    refine ga_dup ok dX3_undo_19 rfl ?_
    refine gf_X3_34 ok hG rfl dX3_undo_20 ?_
    first | rw [e6] | rw [upI_at] | rw [c1]
    refine ga_iconst ok dX3_undo_23 ?_
    refine ga_isub ok dX3_undo_24 ?_
    refine gp_X3_34 ok hG rfl dX3_undo_25 ?_
    refine ga_aload_n ok 0 rfl rfl dX3_undo_28 ?_
    refine gf_X3_12 ok hG rfl dX3_undo_29 ?_
    refine ga_aload_n ok 0 rfl rfl dX3_undo_32 ?_
    refine gf_X3_26 ok hG rfl dX3_undo_33 ?_
    refine ga_aload_n ok 0 rfl rfl dX3_undo_36 ?_
    refine gf_X3_30 ok hG rfl dX3_undo_37 ?_
    rw [upI_no (by omega)]
    refine ga_aload_n ok 0 rfl rfl dX3_undo_40 ?_
    refine gf_X3_34 ok hG rfl dX3_undo_41 ?_
    first | rw [e6] | rw [upI_at] | rw [c1]
    refine ga_iadd ok dX3_undo_44 ?_
    refine ga_bipush ok dX3_undo_45 (by decide) ?_
    refine ga_irem ok dX3_undo_47 (by omega) (by omega) ?_
    refine ga_aaload_qa ok (ar_pa hG rfl) (by omega) dX3_undo_48 ?_
    have hp : gtIs (upI m 0 6 (g.kt - 1)) (67 + ((m.1 0 5 + (g.kt - 1)) % 8).toNat) (g.pa (g.kt - 1).toNat) ∧ gtOk T (g.pa (g.kt - 1).toNat) := by
      have := c4 (g.kt - 1).toNat (by omega)
      rw [show (((g.kt - 1).toNat : Nat) : Int) = g.kt - 1 by omega] at this
      exact ⟨this.1.z (by omega) this.2.1.2 (Or.inl rfl), this.2⟩
    refine gc_X0_1 ok hG (by omega) lk_X3_304 rfl (c_X0_copyFrom ok.fl hG (by omega) (by omega) (by omega) hp.1 hp.2) (by rw [hR]; exact ⟨by decide, by decide, by decide, by decide⟩) (Nat.le_of_ble_eq_true rfl) dX3_undo_49 (fun r9 m1 hq => ?_) (fun _ _ h => h.elim)
    obtain ⟨rfl, q1, q2⟩ := hq
    simp only [Option.toList_none, List.nil_append]
    have e6 : m1.1 0 6 = g.kt - 1 := by rw [(q1 0 (by omega) (by omega) (by omega) (by omega) (by omega) (by omega) (by omega)).1, upI_at]
    refine ga_aload_n ok 0 rfl rfl dX3_undo_52 ?_
    refine gf_X3_34 ok hG rfl dX3_undo_53 ?_
    first | rw [e6] | rw [upI_at] | rw [c1]
    exact ga_ireturn ok en rfl rfl (by decide) (by decide) dX3_undo_56 (by
  have hs : (sp_undo g) = (0, g.kt - 1, mkG (g.pa (g.kt - 1).toNat) g.sv g.hs g.pa (g.kt - 1) g.rs g.dt g.er g.tx g.tn g.ln g.nn) := by unfold sp_undo; rw [if_neg (by omega)]
  rw [hs]
  exact ⟨rfl, rfl, ((hX.kt (k := g.kt - 1) (by omega)).now q1 q2 hp.2 (by omega)).mono (by omega), (XFr.rf.uI (by omega)).tr (q1.x (by omega))⟩)
  · exact ga_throwW ok en htab lt_IllegalStateException (text := "no change can be undone") (by decide +kernel) ⟨by decide, by decide, by decide, by decide⟩ (Nat.le_of_ble_eq_true rfl) dX3_undo_7 dX3_undo_10 dX3_undo_11 dX3_undo_14 dX3_undo_17 (by
  have hs : (sp_undo g) = (1, 0, g) := by unfold sp_undo; rw [if_pos (by omega)]
  rw [hs]
  exact ⟨⟨rfl, rfl⟩, hX.mono (by omega), XFr.rf⟩)
