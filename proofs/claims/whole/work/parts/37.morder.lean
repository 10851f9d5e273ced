/-! THE MODEL: READING AN ORDER -/
def R2 (m M : Mm) (k : Nat) (c : Int) : Prop := (∀ x, x ≠ 1024 → x ≠ 1536 → M.1 x = m.1 x) ∧ M.2 = m.2 ∧ (∀ j, j ≠ 15 → j ≠ 16 → j ≠ 19 → M.1 1024 j = m.1 1024 j) ∧ (∀ j, j < 3 * k → M.1 1536 j = m.1 1536 j) ∧ M.1 1024 19 = ((k + 1 : Nat) : Int) ∧ M.1 1536 (3 * k) = c
theorem R2.ty {m M : Mm} {k q : Nat} {c v : Int} (h : R2 m M k c) : R2 m (tyM M q v) k c := by
  obtain ⟨h1, h0, h2, h3, h4, h5⟩ := h
  unfold tyM
  exact ⟨fun x a b => by rw [upI_r a, upI_r a]; exact h1 x a b, h0, fun j a b c => by rw [upI_no (by omega), upI_no (by omega)]; exact h2 j a b c, fun j hj => by rw [upI_r (by omega), upI_r (by omega)]; exact h3 j hj, by rw [upI_no (by omega), upI_no (by omega)]; exact h4, by rw [upI_r (by omega), upI_r (by omega)]; exact h5⟩
theorem R2.or {m M : Mm} {k j : Nat} {c z : Int} (h : R2 m M k c) (hj : 3 * k < j) : R2 m (upI M 1536 j z) k c := by
  obtain ⟨h1, h0, h2, h3, h4, h5⟩ := h
  exact ⟨fun x a b => by rw [upI_r b]; exact h1 x a b, h0, fun j a b c => by rw [upI_r (by omega)]; exact h2 j a b c, fun i hi => by rw [upI_no (by omega)]; exact h3 i hi, by rw [upI_r (by omega)]; exact h4, by rw [upI_no (by omega)]; exact h5⟩
theorem TY.or {m : Mm} {t : Nat → Int} {n w z : Int} {p j : Nat} (h : TY m t n p w) : TY (upI m 1536 j z) t n p w := by
  obtain ⟨h1, h2, h3, h4, h5, h6, h7⟩ := h
  exact ⟨by rw [upI_r (by omega)]; exact h1, by rw [upI_r (by omega)]; exact h2, by rw [upI_r (by omega)]; exact h3, h4, h5, h6, fun i hi => by rw [upI_r (by omega)]; exact h7 i hi⟩
theorem TY.n9 {m : Mm} {t : Nat → Int} {n w z : Int} {p : Nat} (h : TY m t n p w) : TY (upI m 1024 19 z) t n p w := by
  obtain ⟨h1, h2, h3, h4, h5, h6, h7⟩ := h
  exact ⟨by rw [upI_no (by omega)]; exact h1, by rw [upI_no (by omega)]; exact h2, by rw [upI_no (by omega)]; exact h3, h4, h5, h6, fun i hi => by rw [upI_r (by omega)]; exact h7 i hi⟩
/-- what is left of an order that has been read -/
def RO (m m' : Mm) (t : Nat → Int) (n : Int) (p k : Nat) : Prop := (∀ x, x ≠ 1024 → x ≠ 1536 → m'.1 x = m.1 x) ∧ m'.2 = m.2 ∧ (∀ j, j ≠ 15 → j ≠ 16 → j ≠ 19 → m'.1 1024 j = m.1 1024 j) ∧ (∀ j, j < 3 * k → m'.1 1536 j = m.1 1536 j) ∧
  (if okO (rOrd t n p) then TY m' t n (rOrd t n p).2.2 0 ∧ m'.1 1024 19 = ((k + 1 : Nat) : Int) ∧ m'.1 1536 (3 * k) = sgn t n p ∧ m'.1 1536 (3 * k + 1) = (rOrd t n p).1 ∧ (sgn t n p = 116 → m'.1 1536 (3 * k + 2) = (rOrd t n p).2.1) else TY m' t n (rOrd t n p).2.2 1)
theorem RO.of {m m' : Mm} {t : Nat → Int} {n : Int} {p k q : Nat} {s1 s2 v : Int} (h : R2 m m' k (sgn t n p)) (hT : TY m' t n q v) (e : rOrd t n p = (s1, s2, q)) (hv : v = if okO (rOrd t n p) then 0 else 1) (h1 : v = 0 → m'.1 1536 (3 * k + 1) = s1) (h2 : v = 0 → sgn t n p = 116 → m'.1 1536 (3 * k + 2) = s2) : RO m m' t n p k := by
  obtain ⟨a1, a0, a2, a3, a4, a5⟩ := h
  refine ⟨a1, a0, a2, a3, ?_⟩
  by_cases ho : okO (rOrd t n p)
  · rw [if_pos ho] at hv ⊢
    subst hv
    rw [e]
    exact ⟨hT, a4, a5, h1 rfl, h2 rfl⟩
  · rw [if_neg ho] at hv ⊢
    subst hv
    rw [e]
    exact hT
theorem rOrd_v {t : Nat → Int} {n : Int} {p : Nat} (h : sgn t n p = 43 ∨ sgn t n p = 45) : rOrd t n p = (badV t n (p + 1), 0, (bad t n (p + 1) 10).2) := by unfold rOrd; exact if_pos h
theorem rOrd_n {t : Nat → Int} {n : Int} {p : Nat} (h : sgn t n p = 120 ∨ sgn t n p = 103) : rOrd t n p = ((rNum t n (p + 1)).1, 0, (rNum t n (p + 1)).2) := by unfold rOrd; rw [if_neg (by omega), if_pos h]
theorem rOrd_d {t : Nat → Int} {n : Int} {p : Nat} (h : sgn t n p = 100) : rOrd t n p = ((rDig t n (p + 1)).1, 0, (rDig t n (p + 1)).2) := by unfold rOrd; rw [if_neg (by omega), if_neg (by omega), if_pos h]
theorem rOrd_t {t : Nat → Int} {n : Int} {p : Nat} (h : sgn t n p = 116) : rOrd t n p = (if (rDig t n (p + 1)).1 = -1 then (-1, -1, (rDig t n (p + 1)).2) else ((rDig t n (p + 1)).1, rTau t n (rDig t n (p + 1)).2)) := by unfold rOrd; rw [if_neg (by omega), if_neg (by omega), if_neg (by omega), if_pos h]
theorem rOrd_o {t : Nat → Int} {n : Int} {p : Nat} (h : ¬ (sgn t n p = 43 ∨ sgn t n p = 45 ∨ sgn t n p = 120 ∨ sgn t n p = 103 ∨ sgn t n p = 116 ∨ sgn t n p = 100)) : rOrd t n p = (-1, 0, p) := by unfold rOrd; rw [if_neg (by omega), if_neg (by omega), if_neg (by omega), if_neg (by omega)]
theorem okO_2 {a : Int} {q : Nat} : okO (a, 0, q) ↔ a ≠ -1 := ⟨fun h => h.1, fun h => ⟨h, by show (0 : Int) ≠ -1; decide⟩⟩
theorem ok_let {t : Nat → Int} {n : Int} {p : Nat} (hp : (p : Int) ≤ n) {m M : Mm} {p0 k : Nat} (hR : R2 m M k (sgn t n p0)) (hX : TY M t n p 0) (hp0 : p = p0 + 1) (hc : sgn t n p0 = 43 ∨ sgn t n p0 = 45) : RO m (upI (tyM M (letV t n p).2.1 (letV t n p).2.2) 1536 (3 * k + 1) (letV t n p).1) t n p0 k := by
  subst hp0
  have e := rOrd_v hc
  have hb := bad_bd (t := t) (n := n) (p := p0 + 1) hp 10
  by_cases h : badV t n (p0 + 1) = -1
  · have h0 : (bad t n (p0 + 1) 10).1 = 0 := by
      unfold badV at h
      by_cases h9 : (bad t n (p0 + 1) 10).1 = 0
      · exact h9
      · rw [if_neg h9] at h; omega
    have h2 := bad_0 hp 10 h0
    rw [letV_no h]
    rw [h2] at e
    exact RO.of (hR.ty.or (by omega)) ((hX.to hp (Or.inr rfl)).or) e (by rw [e, if_neg (fun q => okO_2.mp q h)]) (fun q => absurd q (by decide)) (fun q => absurd q (by decide))
  · have el : letV t n (p0 + 1) = (badV t n (p0 + 1), (bad t n (p0 + 1) 10).2, 0) := if_neg h
    rw [el]
    exact RO.of (hR.ty.or (by omega)) ((hX.to hb.2.2.1 (Or.inl rfl)).or) e (by rw [e, if_pos (okO_2.mpr h)]) (fun _ => upI_at) (fun _ q => by omega)
theorem ok_num {t : Nat → Int} {n : Int} {p : Nat} (hp : (p : Int) ≤ n) {m M : Mm} {p0 k : Nat} (hR : R2 m M k (sgn t n p0)) (hX : TY M t n p 0) (hp0 : p = p0 + 1) (hc : sgn t n p0 = 120 ∨ sgn t n p0 = 103) : RO m (upI (tyM M (numV t n p 0).2.1 (numV t n p 0).2.2) 1536 (3 * k + 1) (numV t n p 0).1) t n p0 k := by
  subst hp0
  have e := rOrd_n hc
  have hb := rNum_pos (t := t) (n := n) (p := p0 + 1) hp
  have el : numV t n (p0 + 1) 0 = (nz (rNum t n (p0 + 1)).1, (rNum t n (p0 + 1)).2, wz (rNum t n (p0 + 1)).1) := if_pos rfl
  rw [el]
  refine RO.of (hR.ty.or (by omega)) ((hX.to hb.2.1 wz_01).or) e ?_ (fun q => ?_) (fun _ q => by omega)
  · show wz (rNum t n (p0 + 1)).1 = _
    unfold wz
    rw [e]
    by_cases h : (rNum t n (p0 + 1)).1 = -1
    · rw [if_pos h, if_neg (fun q => okO_2.mp q h)]
    · rw [if_neg h, if_pos (okO_2.mpr h)]
  · rw [upI_at]
    have q : wz (rNum t n (p0 + 1)).1 = 0 := q
    show nz (rNum t n (p0 + 1)).1 = _
    unfold wz at q
    unfold nz
    by_cases h : (rNum t n (p0 + 1)).1 = -1
    · rw [if_pos h] at q; exact absurd q (by decide)
    · rw [if_neg h]
theorem ok_dig1 {t : Nat → Int} {n : Int} {p : Nat} (hp : (p : Int) < n) {m M : Mm} {p0 k : Nat} (hR : R2 m M k (sgn t n p0)) (hX : TY M t n p 0) (hp0 : p = p0 + 1) (hc : sgn t n p0 = 100) (h : hre t n p 0 48 57 = true) : RO m (upI (tyM M (p + 1) 0) 1536 (3 * k + 1) (sgn t n p - 48)) t n p0 k := by
  subst hp0
  have e := rOrd_d hc
  have hb := hre_iff.mp h
  rw [rDig_y h] at e
  exact RO.of (hR.ty.or (by omega)) ((hX.to (by omega) (Or.inl rfl)).or) e (by rw [e, if_pos (okO_2.mpr (by show sgn t n (p0 + 1) - 48 ≠ -1; omega))]) (fun _ => upI_at) (fun _ q => by omega)
theorem ok_dig0 {t : Nat → Int} {n : Int} {p : Nat} (hp : (p : Int) ≤ n) {m M : Mm} {p0 k : Nat} (hR : R2 m M k (sgn t n p0)) (hX : TY M t n p 0) (hp0 : p = p0 + 1) (hc : sgn t n p0 = 100) (h : hre t n p 0 48 57 = false) : RO m (upI (tyM M p 1) 1536 (3 * k + 1) 0) t n p0 k := by
  subst hp0
  have e := rOrd_d hc
  rw [rDig_n h] at e
  exact RO.of (hR.ty.or (by omega)) ((hX.to hp (Or.inr rfl)).or) e (by rw [e, if_neg (fun q => okO_2.mp q rfl)]) (fun q => absurd q (by decide)) (fun q => absurd q (by decide))
/-- a lesson without a first number -/
theorem ok_t0 {t : Nat → Int} {n : Int} {p : Nat} {m M : Mm} {p0 k : Nat} {z : Int} (hR : R2 m M k (sgn t n p0)) (hX : TY M t n p 1) (hp0 : p = p0 + 1) (hc : sgn t n p0 = 116) (h : hre t n p 0 48 57 = false) : RO m (upI M 1536 (3 * k + 2) z) t n p0 k := by
  subst hp0
  have e := rOrd_t hc
  rw [rDig_n h, if_pos rfl] at e
  exact RO.of (hR.or (by omega)) hX.or e (by rw [e, if_neg (fun q => q.1 rfl)]) (fun q => absurd q (by decide)) (fun q => absurd q (by decide))
/-- a lesson without a colon -/
theorem ok_t1 {t : Nat → Int} {n : Int} {p : Nat} {m M : Mm} {p0 k : Nat} {z : Int} (hR : R2 m M k (sgn t n p0)) (hX : TY M t n (p + 1) 1) (hp0 : p = p0 + 1) (hc : sgn t n p0 = 116) (h : hre t n p 0 48 57 = true) (h2 : hre t n (p + 1) 0 58 58 = false) : RO m (upI M 1536 (3 * k + 2) z) t n p0 k := by
  subst hp0
  have e := rOrd_t hc
  have hb := hre_iff.mp h
  have e2 : rTau t n (p0 + 1 + 1) = (-1, p0 + 1 + 1) := by unfold rTau; exact if_neg (fun q => (hre_no.mp h2) ⟨rfl, by omega, by omega⟩)
  rw [rDig_y h, if_neg (by show ¬ sgn t n (p0 + 1) - 48 = -1; omega)] at e
  rw [show rTau t n ((sgn t n (p0 + 1) - 48, p0 + 1 + 1) : Int × Nat).2 = (-1, p0 + 1 + 1) from e2] at e
  exact RO.of (hR.or (by omega)) hX.or e (by rw [e, if_neg (fun q => q.2 rfl)]) (fun q => absurd q (by decide)) (fun q => absurd q (by decide))
theorem ok_t2 {t : Nat → Int} {n : Int} {p : Nat} {m M : Mm} {p0 k : Nat} (hp : (p : Int) + 1 < n) (hR : R2 m M k (sgn t n p0)) (hX : TY M t n (p + 1 + 1) 0) (hp0 : p = p0 + 1) (hc : sgn t n p0 = 116) (h : hre t n p 0 48 57 = true) (h2 : hre t n (p + 1) 0 58 58 = true) (h1 : M.1 1536 (3 * k + 1) = sgn t n p - 48) : RO m (upI (tyM M (numV t n (p + 1 + 1) 0).2.1 (numV t n (p + 1 + 1) 0).2.2) 1536 (3 * k + 2) (numV t n (p + 1 + 1) 0).1) t n p0 k := by
  subst hp0
  have e := rOrd_t hc
  have hb := hre_iff.mp h
  have hb2 := hre_iff.mp h2
  have e2 : rTau t n (p0 + 1 + 1) = rNum t n (p0 + 1 + 1 + 1) := by unfold rTau; exact if_pos (by omega)
  rw [rDig_y h, if_neg (by show ¬ sgn t n (p0 + 1) - 48 = -1; omega)] at e
  rw [show rTau t n ((sgn t n (p0 + 1) - 48, p0 + 1 + 1) : Int × Nat).2 = rNum t n (p0 + 1 + 1 + 1) from e2] at e
  have e : rOrd t n p0 = (sgn t n (p0 + 1) - 48, (rNum t n (p0 + 1 + 1 + 1)).1, (rNum t n (p0 + 1 + 1 + 1)).2) := e
  have hN := rNum_pos (t := t) (n := n) (p := p0 + 1 + 1 + 1) (by omega)
  have el : numV t n (p0 + 1 + 1 + 1) 0 = (nz (rNum t n (p0 + 1 + 1 + 1)).1, (rNum t n (p0 + 1 + 1 + 1)).2, wz (rNum t n (p0 + 1 + 1 + 1)).1) := if_pos rfl
  rw [el]
  refine RO.of (hR.ty.or (by omega)) ((hX.to hN.2.1 wz_01).or) e ?_ (fun q => ?_) (fun q _ => ?_)
  · show wz (rNum t n (p0 + 1 + 1 + 1)).1 = _
    unfold wz
    rw [e]
    by_cases h9 : (rNum t n (p0 + 1 + 1 + 1)).1 = -1
    · rw [if_pos h9, if_neg (fun q => q.2 h9)]
    · rw [if_neg h9, if_pos ⟨by show sgn t n (p0 + 1) - 48 ≠ -1; omega, h9⟩]
  · unfold tyM
    rw [upI_no (by omega), upI_r (by omega), upI_r (by omega)]
    exact h1
  · rw [upI_at]
    have q : wz (rNum t n (p0 + 1 + 1 + 1)).1 = 0 := q
    show nz (rNum t n (p0 + 1 + 1 + 1)).1 = _
    unfold wz at q
    unfold nz
    by_cases h9 : (rNum t n (p0 + 1 + 1 + 1)).1 = -1
    · rw [if_pos h9] at q; exact absurd q (by decide)
    · rw [if_neg h9]
theorem RO_o {m : Mm} {t : Nat → Int} {n : Int} {p k : Nat} (hX : TY m t n p 0) (h : ¬ (sgn t n p = 43 ∨ sgn t n p = 45 ∨ sgn t n p = 120 ∨ sgn t n p = 103 ∨ sgn t n p = 116 ∨ sgn t n p = 100)) : RO m (upI m 1024 16 1) t n p k := by
  have e := rOrd_o h
  refine ⟨fun x a b => upI_r a, rfl, fun j a b c => upI_no (by omega), fun j hj => by rw [upI_r (by omega)], ?_⟩
  rw [e, if_neg (fun q => q.1 rfl), up16 hX.2.1]
  exact hX.to hX.2.2.2.2.2.1 (Or.inr rfl)
theorem R2T {m : Mm} {t : Nat → Int} {n c : Int} {p k : Nat} (hX : TY m t n p 0) (hp : (p : Int) < n) : R2 m (upI (upI (upI m 1024 15 ((p : Int) + 1)) 1536 (3 * k) c) 1024 19 ((k : Int) + 1)) k c ∧ TY (upI (upI (upI m 1024 15 ((p : Int) + 1)) 1536 (3 * k) c) 1024 19 ((k : Int) + 1)) t n (p + 1) 0 := by
  obtain ⟨h1, h2, h3, h4, h5, h6, h7⟩ := hX
  refine ⟨⟨fun x a b => by rw [upI_r a, upI_r b, upI_r a], rfl, fun j a b c => by rw [upI_no (by omega), upI_r (by omega), upI_no (by omega)], fun j hj => by rw [upI_r (by omega), upI_no (by omega), upI_r (by omega)], by rw [upI_at]; rfl, by rw [upI_r (by omega), upI_at]⟩, ?_⟩
  exact ⟨by rw [upI_no (by omega), upI_r (by omega), upI_no (by omega)]; exact h1, by rw [upI_no (by omega), upI_r (by omega), upI_at]; rfl, by rw [upI_no (by omega), upI_r (by omega), upI_no (by omega)]; exact h3, h4, h5, by show ((p + 1 : Nat) : Int) ≤ n; omega, fun i hi => by rw [upI_r (by omega), upI_r (by omega), upI_r (by omega)]; exact h7 i hi⟩
theorem numV_w {t : Nat → Int} {n : Int} {p : Nat} : numV t n p 1 = (0, p, 1) := if_neg (by decide)
/-! CARRYING OUT AN ORDER -/
def Kx (z : Int) : Int := if z = 0 then 0 else if z = -2 then 1 else 2
theorem exO_v {g : Gm} {c a b : Int} (hc : c = 43 ∨ c = 45) (ha : 1 ≤ a ∧ a ≤ 1023) : Kx (exO g c a b).1 = (d_visitor g a (b2i (decide (c = 43)))).1 ∧ (exO g c a b).2 = (d_visitor g a (b2i (decide (c = 43)))).2.2 := by
  unfold exO d_visitor
  rw [if_neg (by omega), if_neg (by omega), if_neg (by omega), if_neg (by omega), if_neg (show ¬ ¬ (1 ≤ a ∧ a ≤ 1023) from fun h => h ha)]
  by_cases h1 : 0 ≤ fnd g.r a (g.r 1).toNat
  · rw [if_pos h1, if_pos h1]; exact ⟨rfl, rfl⟩
  · rw [if_neg h1, if_neg h1]
    by_cases h2 : g.r 1 = 12
    · rw [if_pos h2, if_pos h2]; exact ⟨rfl, rfl⟩
    · rw [if_neg h2, if_neg h2]; exact ⟨rfl, rfl⟩
theorem exO_g {g : Gm} {a b : Int} : Kx (exO g 103 a b).1 = (d_guard g a).1 ∧ (exO g 103 a b).2 = (d_guard g a).2.2 := by
  unfold exO d_guard
  rw [if_pos rfl]
  by_cases h1 : 1 ≤ a ∧ a ≤ 64
  · have n1 : ¬ ¬ (1 ≤ a ∧ a ≤ 64) := fun h => h h1
    rw [if_neg n1, if_neg n1]
    by_cases h2 : g.r 0 = 4
    · rw [if_pos h2, if_pos h2]; exact ⟨rfl, rfl⟩
    · rw [if_neg h2, if_neg h2]; exact ⟨rfl, rfl⟩
  · rw [if_pos h1, if_pos h1]; exact ⟨rfl, rfl⟩
theorem exO_x {g : Gm} {a b : Int} : Kx (exO g 120 a b).1 = (d_forget g a).1 ∧ (exO g 120 a b).2 = (d_forget g a).2.2 := by
  unfold exO d_forget
  rw [if_neg (by decide), if_pos rfl]
  by_cases h1 : 0 ≤ a ∧ a < g.r 1
  · have n1 : ¬ ¬ (0 ≤ a ∧ a < g.r 1) := fun h => h h1
    rw [if_neg n1, if_neg n1]
    exact ⟨rfl, rfl⟩
  · rw [if_pos h1, if_pos h1]; exact ⟨rfl, rfl⟩
theorem exO_t {g : Gm} {a b : Int} : Kx (exO g 116 a b).1 = (d_teach g a b).1 ∧ (exO g 116 a b).2 = (d_teach g a b).2.2 := by
  unfold exO d_teach
  rw [if_neg (by decide), if_neg (by decide), if_pos rfl]
  by_cases h1 : (0 ≤ a ∧ a < g.r 0) ∧ (0 ≤ b ∧ b < g.r 1)
  · have n1 : ¬ ¬ ((0 ≤ a ∧ a < g.r 0) ∧ (0 ≤ b ∧ b < g.r 1)) := fun h => h h1
    rw [if_neg n1, if_neg n1]
    by_cases h2 : tOK (rg g.r a.toNat) (vX g.r b.toNat) (vF g.r b.toNat) = true
    · rw [if_pos h2, if_pos h2]; exact ⟨rfl, rfl⟩
    · rw [if_neg h2, if_neg h2]; exact ⟨rfl, rfl⟩
  · rw [if_pos h1, if_pos h1]; exact ⟨rfl, rfl⟩
theorem exO_d {g : Gm} {a b : Int} : Kx (exO g 100 a b).1 = (d_day g a).1 ∧ (exO g 100 a b).2 = (d_day g a).2.2 := by
  unfold exO d_day
  rw [if_neg (by decide), if_neg (by decide), if_neg (by decide), if_pos rfl]
  by_cases h1 : 0 ≤ a ∧ a < g.r 0
  · have n1 : ¬ ¬ (0 ≤ a ∧ a < g.r 0) := fun h => h h1
    rw [if_neg n1, if_neg n1]
    by_cases h2 : g.r 1 = 0
    · rw [if_pos h2, if_pos h2]; exact ⟨rfl, rfl⟩
    · rw [if_neg h2, if_neg h2]
      cases rnD g.r a.toNat 1 with
      | none => exact ⟨rfl, rfl⟩
      | some q => exact ⟨rfl, rfl⟩
  · rw [if_pos h1, if_pos h1]; exact ⟨rfl, rfl⟩
set_option maxHeartbeats 4000000 in
set_option maxRecDepth 100000 in
theorem c_X4_readOrder {G : GG} {l : Launch} (hfl : l.stackTraces = false) (hG : MW G) {m : Mm} {t : Nat → Int} {n : Int} {p : Nat} (hX : TY m t n p 0) {k : Nat} (h19 : m.1 1024 19 = (k : Int)) (hk : k < 60)  : CT G l yX4_readOrder cX4_readOrder 4 none (RM 4 0 0) [.ref 1024] m (fun r' m' => r' = none ∧ RO m m' t n p k) (fun _ _ => False) := by
  refine CT.of RX4 [(0, .ref 1024)] hfl (by decide +kernel) rfl rfl (Nat.le_of_ble_eq_true rfl) ?_
  intro E ok en hml hEl htab
  have hR : e_R E = RM 4 0 0 := en.2.2.2
  have hn0 : 0 < (e_c E).maxLocals := by rw [hml]; decide
  have hn1 : 1 < (e_c E).maxLocals := by rw [hml]; decide
  have hn2 : 2 < (e_c E).maxLocals := by rw [hml]; decide
  have hn3 : 3 < (e_c E).maxLocals := by rw [hml]; decide
  obtain ⟨x1, x2, x3, x4, x5, x6, x7⟩ := id hX
  have sr := sgn_rng (fun i hi => (x7 i hi).2) p
  have mid2 : (sgn t n p = 43 ∨ sgn t n p = 45 ∨ sgn t n p = 120 ∨ sgn t n p = 103 ∨ sgn t n p = 116 ∨ sgn t n p = 100) → WA G E 0 0 75 [(1, vI (sgn t n p)), (0, .ref 1024)] [] m := by
    intro hc
    have hpn := sgn_lt (t := t) (n := n) (p := p) (by omega)
    refine ga_aload_n ok 0 rfl rfl dX4_readOrder_75 ?_
    refine ga_dup ok dX4_readOrder_76 rfl ?_
    refine gf_X4_213 ok hG rfl dX4_readOrder_77 ?_
    rw [x2]
    refine ga_iconst ok dX4_readOrder_80 ?_
    refine ga_iadd ok dX4_readOrder_81 ?_
    refine gp_X4_213 ok hG rfl dX4_readOrder_82 ?_
    refine ga_iconst ok dX4_readOrder_85 ?_
    refine ga_aload_n ok 0 rfl rfl dX4_readOrder_86 ?_
    refine gf_X4_223 ok hG rfl dX4_readOrder_87 ?_
    first | rw [upI_no (by omega), h19] | rw [upI_r (by omega), upI_no (by omega), h19]
    refine ga_imul ok dX4_readOrder_90 ?_
    refine ga_istore_n ok 2 rfl hn2 dX4_readOrder_91 ?_
    refine ga_aload_n ok 0 rfl rfl dX4_readOrder_92 ?_
    refine gf_X4_36 ok hG rfl dX4_readOrder_93 ?_
    refine ga_iload_n ok 2 rfl rfl dX4_readOrder_96 ?_
    refine ga_iload_n ok 1 rfl rfl dX4_readOrder_97 ?_
    refine ga_iastore_ia ok (ar_mo hG rfl) (by omega) dX4_readOrder_98 ?_
    refine ga_aload_n ok 0 rfl rfl dX4_readOrder_99 ?_
    refine ga_dup ok dX4_readOrder_100 rfl ?_
    refine gf_X4_223 ok hG rfl dX4_readOrder_101 ?_
    first | rw [upI_no (by omega), h19] | rw [upI_r (by omega), upI_no (by omega), h19]
    refine ga_iconst ok dX4_readOrder_104 ?_
    refine ga_iadd ok dX4_readOrder_105 ?_
    refine gp_X4_223 ok hG rfl dX4_readOrder_106 ?_
    rw [show (3 * (k : Int)).toNat = 3 * k by omega]
    obtain ⟨hQ2, hTT⟩ := R2T (c := sgn t n p) (k := k) hX hpn
    generalize upI (upI (upI m 1024 15 ((p : Int) + 1)) 1536 (3 * k) (sgn t n p)) 1024 19 ((k : Int) + 1) = M at hQ2 hTT ⊢
    refine ga_iload_n ok 1 rfl rfl dX4_readOrder_109 ?_
    refine ga_bipush ok dX4_readOrder_110 (by decide) ?_
    refine ga_icmp_eq ok 121 (by decide) (by omega) (by omega) dX4_readOrder_112 (fun c_112 => ?_) (fun c_112 => ?_)
    · refine ga_aload_n ok 0 rfl rfl dX4_readOrder_121 ?_
      refine gf_X4_36 ok hG rfl dX4_readOrder_122 ?_
      refine ga_iload_n ok 2 rfl rfl dX4_readOrder_125 ?_
      refine ga_iconst ok dX4_readOrder_126 ?_
      refine ga_iadd ok dX4_readOrder_127 ?_
      refine ga_aload_n ok 0 rfl rfl dX4_readOrder_128 ?_
      refine gd_X4_0 ok hG rfl lk_X4_226 rfl (c_X4_letters ok.fl hG hTT) (by rw [hR]; exact ⟨by decide, by decide, by decide, by decide⟩) (Nat.le_of_ble_eq_true rfl) dX4_readOrder_129 ?_
      refine ga_iastore_ia ok (ar_mo hG rfl) (by omega) dX4_readOrder_132 ?_
      refine ga_goto ok 179 (by decide) dX4_readOrder_133 ?_
      rw [show (3 * (k : Int) + 1).toNat = 3 * k + 1 by omega]
      refine ga_iload_n ok 1 rfl rfl dX4_readOrder_179 ?_
      refine ga_bipush ok dX4_readOrder_180 (by decide) ?_
      refine ga_icmp_ne ok 206 (by decide) (by omega) (by omega) dX4_readOrder_182 (fun c_182 => ?_) (fun c_182 => ?_)
      · exact ga_return ok en rfl (by decide) (by decide) dX4_readOrder_206 ⟨rfl, ok_let (by omega) hQ2 hTT rfl (by omega)⟩
      · exfalso; omega
    · refine ga_iload_n ok 1 rfl rfl dX4_readOrder_115 ?_
      refine ga_bipush ok dX4_readOrder_116 (by decide) ?_
      refine ga_icmp_ne ok 136 (by decide) (by omega) (by omega) dX4_readOrder_118 (fun c_118 => ?_) (fun c_118 => ?_)
      · refine ga_iload_n ok 1 rfl rfl dX4_readOrder_136 ?_
        refine ga_bipush ok dX4_readOrder_137 (by decide) ?_
        refine ga_icmp_eq ok 148 (by decide) (by omega) (by omega) dX4_readOrder_139 (fun c_139 => ?_) (fun c_139 => ?_)
        · refine ga_aload_n ok 0 rfl rfl dX4_readOrder_148 ?_
          refine gf_X4_36 ok hG rfl dX4_readOrder_149 ?_
          refine ga_iload_n ok 2 rfl rfl dX4_readOrder_152 ?_
          refine ga_iconst ok dX4_readOrder_153 ?_
          refine ga_iadd ok dX4_readOrder_154 ?_
          refine ga_aload_n ok 0 rfl rfl dX4_readOrder_155 ?_
          refine ga_bipush ok dX4_readOrder_156 (by decide) ?_
          refine ga_bipush ok dX4_readOrder_158 (by decide) ?_
          refine gc_X4_2 ok hG rfl lk_X4_219 rfl (c_X4_sign ok.fl hG hTT (lo := 48) (hi := 57) (by omega) (by omega)) (by rw [hR]; exact ⟨by decide, by decide, by decide, by decide⟩) (Nat.le_of_ble_eq_true rfl) dX4_readOrder_160 (fun r9 m1 hq => ?_) (fun _ _ h => h.elim)
          rcases hq with ⟨h1, rfl, rfl⟩ | ⟨h1, rfl, rfl⟩
          · simp only [Option.toList_some, List.singleton_append]
            have hlt := hre_lt h1 (by omega)
            have hX2 := (hTT.to (q := p + 1 + 1) (v := 0) (by omega) (Or.inl rfl)).or (j := 3 * k + 1) (z := sgn t n (p + 1) - 48)
            refine ga_iastore_ia ok (ar_mo hG rfl) (by omega) dX4_readOrder_163 ?_
            refine ga_goto ok 179 (by decide) dX4_readOrder_164 ?_
            rw [show (3 * (k : Int) + 1).toNat = 3 * k + 1 by omega]
            refine ga_iload_n ok 1 rfl rfl dX4_readOrder_179 ?_
            refine ga_bipush ok dX4_readOrder_180 (by decide) ?_
            refine ga_icmp_ne ok 206 (by decide) (by omega) (by omega) dX4_readOrder_182 (fun c_182 => ?_) (fun c_182 => ?_)
            · exfalso; omega
            · refine ga_aload_n ok 0 rfl rfl dX4_readOrder_185 ?_
              refine ga_bipush ok dX4_readOrder_186 (by decide) ?_
              refine ga_bipush ok dX4_readOrder_188 (by decide) ?_
              refine gc_X4_2 ok hG rfl lk_X4_219 rfl (c_X4_sign ok.fl hG hX2 (lo := 58) (hi := 58) (by omega) (by omega)) (by rw [hR]; exact ⟨by decide, by decide, by decide, by decide⟩) (Nat.le_of_ble_eq_true rfl) dX4_readOrder_190 (fun r9 m1 hq => ?_) (fun _ _ h => h.elim)
              rcases hq with ⟨h2, rfl, rfl⟩ | ⟨h2, rfl, rfl⟩
              · simp only [Option.toList_some, List.singleton_append]
                have hlt2 := hre_lt h2 (by omega)
                have hX3 := hX2.to (q := p + 1 + 1 + 1) (v := 0) (by omega) (Or.inl rfl)
                refine ga_istore_n ok 3 rfl hn3 dX4_readOrder_193 ?_
                refine ga_aload_n ok 0 rfl rfl dX4_readOrder_194 ?_
                refine gf_X4_36 ok hG rfl dX4_readOrder_195 ?_
                refine ga_iload_n ok 2 rfl rfl dX4_readOrder_198 ?_
                refine ga_iconst ok dX4_readOrder_199 ?_
                refine ga_iadd ok dX4_readOrder_200 ?_
                refine ga_aload_n ok 0 rfl rfl dX4_readOrder_201 ?_
                refine gd_X4_0 ok hG rfl lk_X4_230 rfl (c_X4_number ok.fl hG hX3) (by rw [hR]; exact ⟨by decide, by decide, by decide, by decide⟩) (Nat.le_of_ble_eq_true rfl) dX4_readOrder_202 ?_
                refine ga_iastore_ia ok (ar_mo hG rfl) (by omega) dX4_readOrder_205 ?_
                rw [show (3 * (k : Int) + 2).toNat = 3 * k + 2 by omega]
                exact ga_return ok en rfl (by decide) (by decide) dX4_readOrder_206 ⟨rfl, ok_t2 (by omega) ((hQ2.ty.or (by omega)).ty) hX3 rfl (by omega) h1 h2 (by unfold tyM; rw [upI_r (by omega), upI_r (by omega), upI_at])⟩
              · simp only [Option.toList_some, List.singleton_append]
                have hX3 := hX2.to (q := p + 1 + 1) (v := 1) (by omega) (Or.inr rfl)
                refine ga_istore_n ok 3 rfl hn3 dX4_readOrder_193 ?_
                refine ga_aload_n ok 0 rfl rfl dX4_readOrder_194 ?_
                refine gf_X4_36 ok hG rfl dX4_readOrder_195 ?_
                refine ga_iload_n ok 2 rfl rfl dX4_readOrder_198 ?_
                refine ga_iconst ok dX4_readOrder_199 ?_
                refine ga_iadd ok dX4_readOrder_200 ?_
                refine ga_aload_n ok 0 rfl rfl dX4_readOrder_201 ?_
                refine gd_X4_0 ok hG rfl lk_X4_230 rfl (c_X4_number ok.fl hG hX3) (by rw [hR]; exact ⟨by decide, by decide, by decide, by decide⟩) (Nat.le_of_ble_eq_true rfl) dX4_readOrder_202 ?_
                simp only [numV_w]
                refine ga_iastore_ia ok (ar_mo hG rfl) (by omega) dX4_readOrder_205 ?_
                rw [show (3 * (k : Int) + 2).toNat = 3 * k + 2 by omega]
                exact ga_return ok en rfl (by decide) (by decide) dX4_readOrder_206 ⟨rfl, ok_t1 ((hQ2.ty.or (by omega)).ty.ty) (hX3.to (by omega) (Or.inr rfl)) rfl (by omega) h1 h2⟩
          · simp only [Option.toList_some, List.singleton_append]
            have hX2 := (hTT.to (q := p + 1) (v := 1) (by omega) (Or.inr rfl)).or (j := 3 * k + 1) (z := 0)
            refine ga_iastore_ia ok (ar_mo hG rfl) (by omega) dX4_readOrder_163 ?_
            refine ga_goto ok 179 (by decide) dX4_readOrder_164 ?_
            rw [show (3 * (k : Int) + 1).toNat = 3 * k + 1 by omega]
            refine ga_iload_n ok 1 rfl rfl dX4_readOrder_179 ?_
            refine ga_bipush ok dX4_readOrder_180 (by decide) ?_
            refine ga_icmp_ne ok 206 (by decide) (by omega) (by omega) dX4_readOrder_182 (fun c_182 => ?_) (fun c_182 => ?_)
            · exfalso; omega
            · refine ga_aload_n ok 0 rfl rfl dX4_readOrder_185 ?_
              refine ga_bipush ok dX4_readOrder_186 (by decide) ?_
              refine ga_bipush ok dX4_readOrder_188 (by decide) ?_
              refine gc_X4_2 ok hG rfl lk_X4_219 rfl (c_X4_sign ok.fl hG hX2 (lo := 58) (hi := 58) (by omega) (by omega)) (by rw [hR]; exact ⟨by decide, by decide, by decide, by decide⟩) (Nat.le_of_ble_eq_true rfl) dX4_readOrder_190 (fun r9 m1 hq => ?_) (fun _ _ h => h.elim)
              rcases hq with ⟨h2, rfl, rfl⟩ | ⟨h2, rfl, rfl⟩
              · simp only [Option.toList_some, List.singleton_append]
                exact absurd (hre_iff.mp h2).1 (by decide)
              · simp only [Option.toList_some, List.singleton_append]
                have hX3 := hX2.to (q := p + 1) (v := 1) (by omega) (Or.inr rfl)
                refine ga_istore_n ok 3 rfl hn3 dX4_readOrder_193 ?_
                refine ga_aload_n ok 0 rfl rfl dX4_readOrder_194 ?_
                refine gf_X4_36 ok hG rfl dX4_readOrder_195 ?_
                refine ga_iload_n ok 2 rfl rfl dX4_readOrder_198 ?_
                refine ga_iconst ok dX4_readOrder_199 ?_
                refine ga_iadd ok dX4_readOrder_200 ?_
                refine ga_aload_n ok 0 rfl rfl dX4_readOrder_201 ?_
                refine gd_X4_0 ok hG rfl lk_X4_230 rfl (c_X4_number ok.fl hG hX3) (by rw [hR]; exact ⟨by decide, by decide, by decide, by decide⟩) (Nat.le_of_ble_eq_true rfl) dX4_readOrder_202 ?_
                simp only [numV_w]
                refine ga_iastore_ia ok (ar_mo hG rfl) (by omega) dX4_readOrder_205 ?_
                rw [show (3 * (k : Int) + 2).toNat = 3 * k + 2 by omega]
                exact ga_return ok en rfl (by decide) (by decide) dX4_readOrder_206 ⟨rfl, ok_t0 ((hQ2.ty.or (by omega)).ty.ty) (hX3.to (by omega) (Or.inr rfl)) rfl (by omega) h1⟩
        · refine ga_iload_n ok 1 rfl rfl dX4_readOrder_142 ?_
          refine ga_bipush ok dX4_readOrder_143 (by decide) ?_
          refine ga_icmp_ne ok 167 (by decide) (by omega) (by omega) dX4_readOrder_145 (fun c_145 => ?_) (fun c_145 => ?_)
          · refine ga_aload_n ok 0 rfl rfl dX4_readOrder_167 ?_
            refine gf_X4_36 ok hG rfl dX4_readOrder_168 ?_
            refine ga_iload_n ok 2 rfl rfl dX4_readOrder_171 ?_
            refine ga_iconst ok dX4_readOrder_172 ?_
            refine ga_iadd ok dX4_readOrder_173 ?_
            refine ga_aload_n ok 0 rfl rfl dX4_readOrder_174 ?_
            refine gd_X4_0 ok hG rfl lk_X4_230 rfl (c_X4_number ok.fl hG hTT) (by rw [hR]; exact ⟨by decide, by decide, by decide, by decide⟩) (Nat.le_of_ble_eq_true rfl) dX4_readOrder_175 ?_
            refine ga_iastore_ia ok (ar_mo hG rfl) (by omega) dX4_readOrder_178 ?_
            rw [show (3 * (k : Int) + 1).toNat = 3 * k + 1 by omega]
            refine ga_iload_n ok 1 rfl rfl dX4_readOrder_179 ?_
            refine ga_bipush ok dX4_readOrder_180 (by decide) ?_
            refine ga_icmp_ne ok 206 (by decide) (by omega) (by omega) dX4_readOrder_182 (fun c_182 => ?_) (fun c_182 => ?_)
            · exact ga_return ok en rfl (by decide) (by decide) dX4_readOrder_206 ⟨rfl, ok_num (by omega) hQ2 hTT rfl (by omega)⟩
            · exfalso; omega
          · refine ga_aload_n ok 0 rfl rfl dX4_readOrder_148 ?_
            refine gf_X4_36 ok hG rfl dX4_readOrder_149 ?_
            refine ga_iload_n ok 2 rfl rfl dX4_readOrder_152 ?_
            refine ga_iconst ok dX4_readOrder_153 ?_
            refine ga_iadd ok dX4_readOrder_154 ?_
            refine ga_aload_n ok 0 rfl rfl dX4_readOrder_155 ?_
            refine ga_bipush ok dX4_readOrder_156 (by decide) ?_
            refine ga_bipush ok dX4_readOrder_158 (by decide) ?_
            refine gc_X4_2 ok hG rfl lk_X4_219 rfl (c_X4_sign ok.fl hG hTT (lo := 48) (hi := 57) (by omega) (by omega)) (by rw [hR]; exact ⟨by decide, by decide, by decide, by decide⟩) (Nat.le_of_ble_eq_true rfl) dX4_readOrder_160 (fun r9 m1 hq => ?_) (fun _ _ h => h.elim)
            rcases hq with ⟨h1, rfl, rfl⟩ | ⟨h1, rfl, rfl⟩
            · simp only [Option.toList_some, List.singleton_append]
              have hlt := hre_lt h1 (by omega)
              refine ga_iastore_ia ok (ar_mo hG rfl) (by omega) dX4_readOrder_163 ?_
              refine ga_goto ok 179 (by decide) dX4_readOrder_164 ?_
              rw [show (3 * (k : Int) + 1).toNat = 3 * k + 1 by omega]
              refine ga_iload_n ok 1 rfl rfl dX4_readOrder_179 ?_
              refine ga_bipush ok dX4_readOrder_180 (by decide) ?_
              refine ga_icmp_ne ok 206 (by decide) (by omega) (by omega) dX4_readOrder_182 (fun c_182 => ?_) (fun c_182 => ?_)
              · exact ga_return ok en rfl (by decide) (by decide) dX4_readOrder_206 ⟨rfl, ok_dig1 (by omega) hQ2 hTT rfl (by omega) h1⟩
              · exfalso; omega
            · simp only [Option.toList_some, List.singleton_append]
              refine ga_iastore_ia ok (ar_mo hG rfl) (by omega) dX4_readOrder_163 ?_
              refine ga_goto ok 179 (by decide) dX4_readOrder_164 ?_
              rw [show (3 * (k : Int) + 1).toNat = 3 * k + 1 by omega]
              refine ga_iload_n ok 1 rfl rfl dX4_readOrder_179 ?_
              refine ga_bipush ok dX4_readOrder_180 (by decide) ?_
              refine ga_icmp_ne ok 206 (by decide) (by omega) (by omega) dX4_readOrder_182 (fun c_182 => ?_) (fun c_182 => ?_)
              · exact ga_return ok en rfl (by decide) (by decide) dX4_readOrder_206 ⟨rfl, ok_dig0 (by omega) hQ2 hTT rfl (by omega) h1⟩
              · exfalso; omega
      · refine ga_aload_n ok 0 rfl rfl dX4_readOrder_121 ?_
        refine gf_X4_36 ok hG rfl dX4_readOrder_122 ?_
        refine ga_iload_n ok 2 rfl rfl dX4_readOrder_125 ?_
        refine ga_iconst ok dX4_readOrder_126 ?_
        refine ga_iadd ok dX4_readOrder_127 ?_
        refine ga_aload_n ok 0 rfl rfl dX4_readOrder_128 ?_
        refine gd_X4_0 ok hG rfl lk_X4_226 rfl (c_X4_letters ok.fl hG hTT) (by rw [hR]; exact ⟨by decide, by decide, by decide, by decide⟩) (Nat.le_of_ble_eq_true rfl) dX4_readOrder_129 ?_
        refine ga_iastore_ia ok (ar_mo hG rfl) (by omega) dX4_readOrder_132 ?_
        refine ga_goto ok 179 (by decide) dX4_readOrder_133 ?_
        rw [show (3 * (k : Int) + 1).toNat = 3 * k + 1 by omega]
        refine ga_iload_n ok 1 rfl rfl dX4_readOrder_179 ?_
        refine ga_bipush ok dX4_readOrder_180 (by decide) ?_
        refine ga_icmp_ne ok 206 (by decide) (by omega) (by omega) dX4_readOrder_182 (fun c_182 => ?_) (fun c_182 => ?_)
        · exact ga_return ok en rfl (by decide) (by decide) dX4_readOrder_206 ⟨rfl, ok_let (by omega) hQ2 hTT rfl (by omega)⟩
        · exfalso; omega
  have mid : WA G E 0 0 32 [(0, .ref 1024)] [vI (sgn t n p)] m := by
    refine ga_istore_n ok 1 rfl hn1 dX4_readOrder_32 ?_
    refine ga_iload_n ok 1 rfl rfl dX4_readOrder_33 ?_
    refine ga_bipush ok dX4_readOrder_34 (by decide) ?_
    refine ga_icmp_eq ok 75 (by decide) (by omega) (by omega) dX4_readOrder_36 (fun c_36 => ?_) (fun c_36 => ?_)
    · exact WA.re (by exact ⟨rfl, rfl, trivial⟩) (mid2 (by omega))
    · refine ga_iload_n ok 1 rfl rfl dX4_readOrder_39 ?_
      refine ga_bipush ok dX4_readOrder_40 (by decide) ?_
      refine ga_icmp_eq ok 75 (by decide) (by omega) (by omega) dX4_readOrder_42 (fun c_42 => ?_) (fun c_42 => ?_)
      · exact WA.re (by exact ⟨rfl, rfl, trivial⟩) (mid2 (by omega))
      · refine ga_iload_n ok 1 rfl rfl dX4_readOrder_45 ?_
        refine ga_bipush ok dX4_readOrder_46 (by decide) ?_
        refine ga_icmp_eq ok 75 (by decide) (by omega) (by omega) dX4_readOrder_48 (fun c_48 => ?_) (fun c_48 => ?_)
        · exact WA.re (by exact ⟨rfl, rfl, trivial⟩) (mid2 (by omega))
        · refine ga_iload_n ok 1 rfl rfl dX4_readOrder_51 ?_
          refine ga_bipush ok dX4_readOrder_52 (by decide) ?_
          refine ga_icmp_eq ok 75 (by decide) (by omega) (by omega) dX4_readOrder_54 (fun c_54 => ?_) (fun c_54 => ?_)
          · exact WA.re (by exact ⟨rfl, rfl, trivial⟩) (mid2 (by omega))
          · refine ga_iload_n ok 1 rfl rfl dX4_readOrder_57 ?_
            refine ga_bipush ok dX4_readOrder_58 (by decide) ?_
            refine ga_icmp_eq ok 75 (by decide) (by omega) (by omega) dX4_readOrder_60 (fun c_60 => ?_) (fun c_60 => ?_)
            · exact WA.re (by exact ⟨rfl, rfl, trivial⟩) (mid2 (by omega))
            · refine ga_iload_n ok 1 rfl rfl dX4_readOrder_63 ?_
              refine ga_bipush ok dX4_readOrder_64 (by decide) ?_
              refine ga_icmp_eq ok 75 (by decide) (by omega) (by omega) dX4_readOrder_66 (fun c_66 => ?_) (fun c_66 => ?_)
              · exact WA.re (by exact ⟨rfl, rfl, trivial⟩) (mid2 (by omega))
              · refine ga_aload_n ok 0 rfl rfl dX4_readOrder_69 ?_
                refine ga_iconst ok dX4_readOrder_70 ?_
                refine gp_X4_210 ok hG rfl (by omega) dX4_readOrder_71 ?_
                exact ga_return ok en rfl (by decide) (by decide) dX4_readOrder_74 ⟨rfl, RO_o hX (by omega)⟩
  refine ga_aload_n ok 0 rfl rfl dX4_readOrder_0 ?_
  refine gf_X4_210 ok hG rfl dX4_readOrder_1 ?_
  rw [x3]
  refine ga_if_eq ok 8 (by decide) (by omega) dX4_readOrder_4 (fun c_4 => ?_) (fun c_4 => ?_)
  · refine ga_aload_n ok 0 rfl rfl dX4_readOrder_8 ?_
    refine gf_X4_213 ok hG rfl dX4_readOrder_9 ?_
    rw [x2]
    refine ga_aload_n ok 0 rfl rfl dX4_readOrder_12 ?_
    refine gf_X4_207 ok hG rfl dX4_readOrder_13 ?_
    rw [x1]
    refine ga_icmp_ge ok 31 (by decide) (by omega) (by omega) dX4_readOrder_16 (fun c_16 => ?_) (fun c_16 => ?_)
    · refine ga_iconst ok dX4_readOrder_31 ?_
      rw [show sgn t n p = 0 from if_neg (by omega)] at mid
      exact WA.re (by exact ⟨rfl, trivial⟩) mid
    · refine ga_aload_n ok 0 rfl rfl dX4_readOrder_19 ?_
      refine gf_X4_29 ok hG rfl dX4_readOrder_20 ?_
      refine ga_aload_n ok 0 rfl rfl dX4_readOrder_23 ?_
      refine gf_X4_213 ok hG rfl dX4_readOrder_24 ?_
      rw [x2]
      refine ga_caload_ca ok (ar_mt hG rfl) (by omega) dX4_readOrder_27 ?_
      rw [show ((p : Int)).toNat = p from rfl, show m.1 1472 p = sgn t n p from ((x7 p c_16).1).trans (if_pos c_16).symm]
      refine ga_goto ok 32 (by decide) dX4_readOrder_28 ?_
      exact WA.re (by exact ⟨rfl, trivial⟩) mid
  · exact absurd rfl c_4
set_option maxHeartbeats 4000000 in
set_option maxRecDepth 100000 in
theorem c_X4_does {G : GG} {l : Launch} (hfl : l.stackTraces = false) (hG : MW G) {m : Mm} {g : Gm} {T : Int} (hY : YIs m g) (hT : gtOk T g.r) (h6 : m.1 1024 6 = 0) {k : Nat} (hk : k < 60) {a b c : Int} (hc0 : m.1 1536 (3 * k) = c) (hc1 : m.1 1536 (3 * k + 1) = a) (hc2 : c = 116 → m.1 1536 (3 * k + 2) = b) (hcs : c = 43 ∨ c = 45 ∨ c = 120 ∨ c = 103 ∨ c = 116 ∨ c = 100) (ha : 0 ≤ a ∧ a ≤ 1023) (hb : 0 ≤ b ∧ b ≤ 1023) (hv : c = 43 ∨ c = 45 → 1 ≤ a)  : CT G l yX4_does cX4_does 4 none (RM 12 0 0) [.ref 1024, vI (k : Int)] m (fun r' m' => r' = none ∧ DO m m' (Kx (exO g c a b).1) (exO g c a b).2 ∧ RF m m' (Kx (exO g c a b).1)) (fun _ _ => False) := by
  refine CT.of RX4 [(0, .ref 1024), (1, vI (k : Int))] hfl (by decide +kernel) rfl rfl (Nat.le_of_ble_eq_true rfl) ?_
  intro E ok en hml hEl htab
  have hR : e_R E = RM 12 0 0 := en.2.2.2
  have hn0 : 0 < (e_c E).maxLocals := by rw [hml]; decide
  have hn1 : 1 < (e_c E).maxLocals := by rw [hml]; decide
  have hn2 : 2 < (e_c E).maxLocals := by rw [hml]; decide
  have hn3 : 3 < (e_c E).maxLocals := by rw [hml]; decide
  refine ga_aload_n ok 0 rfl rfl dX4_does_0 ?_
  refine gf_X4_36 ok hG rfl dX4_does_1 ?_
  refine ga_iconst ok dX4_does_4 ?_
  refine ga_iload_n ok 1 rfl rfl dX4_does_5 ?_
  refine ga_imul ok dX4_does_6 ?_
  refine ga_iconst ok dX4_does_7 ?_
  refine ga_iadd ok dX4_does_8 ?_
  refine ga_iaload_ia ok (ar_mo hG rfl) (by omega) dX4_does_9 ?_
  rw [show (3 * (k : Int) + 1).toNat = 3 * k + 1 by omega, hc1]
  refine ga_istore_n ok 2 rfl hn2 dX4_does_10 ?_
  refine ga_aload_n ok 0 rfl rfl dX4_does_11 ?_
  refine gf_X4_36 ok hG rfl dX4_does_12 ?_
  refine ga_iconst ok dX4_does_15 ?_
  refine ga_iload_n ok 1 rfl rfl dX4_does_16 ?_
  refine ga_imul ok dX4_does_17 ?_
  refine ga_iaload_ia ok (ar_mo hG rfl) (by omega) dX4_does_18 ?_
  rw [show (3 * (k : Int)).toNat = 3 * k by omega, hc0]
  rcases hcs with rfl | rfl | rfl | rfl | rfl | rfl
  · refine ga_lookup (off := 49) ok 68 (by decide) (by decide) (by decide) (by decide) dX4_does_19 ?_
    refine ga_aload_n ok 0 rfl rfl dX4_does_68 ?_
    refine ga_iload_n ok 2 rfl rfl dX4_does_69 ?_
    refine ga_iconst ok dX4_does_70 ?_
    refine gc_X4_2 ok hG rfl lk_X4_100 rfl (c_X4_doVisitor ok.fl hG hY hT h6 (x := a) (f := 1) (by omega) (Or.inr rfl)) (by rw [hR]; exact ⟨by decide, by decide, by decide, by decide⟩) (Nat.le_of_ble_eq_true rfl) dX4_does_71 (fun r9 m1 hq => ?_) (fun _ _ h => h.elim)
    obtain ⟨v9, hr9, hD, hF, -⟩ := hq
    subst hr9
    simp only [Option.toList_some, List.singleton_append]
    refine ga_istore_n ok 3 rfl hn3 dX4_does_74 ?_
    refine ga_goto ok 131 (by decide) dX4_does_75 ?_
    exact ga_return ok en rfl (by decide) (by decide) dX4_does_131 (by
    have he := exO_v (g := g) (b := b) (Or.inl rfl) ⟨hv (Or.inl rfl), ha.2⟩
    refine ⟨rfl, ?_⟩
    rw [he.1, he.2]
    exact ⟨hD, hF⟩)
  · refine ga_lookup (off := 59) ok 78 (by decide) (by decide) (by decide) (by decide) dX4_does_19 ?_
    refine ga_aload_n ok 0 rfl rfl dX4_does_78 ?_
    refine ga_iload_n ok 2 rfl rfl dX4_does_79 ?_
    refine ga_iconst ok dX4_does_80 ?_
    refine gc_X4_2 ok hG rfl lk_X4_100 rfl (c_X4_doVisitor ok.fl hG hY hT h6 (x := a) (f := 0) (by omega) (Or.inl rfl)) (by rw [hR]; exact ⟨by decide, by decide, by decide, by decide⟩) (Nat.le_of_ble_eq_true rfl) dX4_does_81 (fun r9 m1 hq => ?_) (fun _ _ h => h.elim)
    obtain ⟨v9, hr9, hD, hF, -⟩ := hq
    subst hr9
    simp only [Option.toList_some, List.singleton_append]
    refine ga_istore_n ok 3 rfl hn3 dX4_does_84 ?_
    refine ga_goto ok 131 (by decide) dX4_does_85 ?_
    exact ga_return ok en rfl (by decide) (by decide) dX4_does_131 (by
    have he := exO_v (g := g) (b := b) (Or.inr rfl) ⟨hv (Or.inr rfl), ha.2⟩
    refine ⟨rfl, ?_⟩
    rw [he.1, he.2]
    exact ⟨hD, hF⟩)
  · refine ga_lookup (off := 69) ok 88 (by decide) (by decide) (by decide) (by decide) dX4_does_19 ?_
    refine ga_aload_n ok 0 rfl rfl dX4_does_88 ?_
    refine ga_iload_n ok 2 rfl rfl dX4_does_89 ?_
    refine gc_X4_1 ok hG rfl lk_X4_107 rfl (c_X4_doForget ok.fl hG hY hT h6 (v := a) (by omega)) (by rw [hR]; exact ⟨by decide, by decide, by decide, by decide⟩) (Nat.le_of_ble_eq_true rfl) dX4_does_90 (fun r9 m1 hq => ?_) (fun _ _ h => h.elim)
    obtain ⟨v9, hr9, hD, hF, -⟩ := hq
    subst hr9
    simp only [Option.toList_some, List.singleton_append]
    refine ga_istore_n ok 3 rfl hn3 dX4_does_93 ?_
    refine ga_goto ok 131 (by decide) dX4_does_94 ?_
    exact ga_return ok en rfl (by decide) (by decide) dX4_does_131 (by
    have he := exO_x (g := g) (a := a) (b := b)
    refine ⟨rfl, ?_⟩
    rw [he.1, he.2]
    exact ⟨hD, hF⟩)
  · refine ga_lookup (off := 78) ok 97 (by decide) (by decide) (by decide) (by decide) dX4_does_19 ?_
    refine ga_aload_n ok 0 rfl rfl dX4_does_97 ?_
    refine ga_iload_n ok 2 rfl rfl dX4_does_98 ?_
    refine gc_X4_1 ok hG rfl lk_X4_80 rfl (c_X4_doGuard ok.fl hG hY hT h6 (x := a) (by omega)) (by rw [hR]; exact ⟨by decide, by decide, by decide, by decide⟩) (Nat.le_of_ble_eq_true rfl) dX4_does_99 (fun r9 m1 hq => ?_) (fun _ _ h => h.elim)
    obtain ⟨v9, hr9, hD, hF, -⟩ := hq
    subst hr9
    simp only [Option.toList_some, List.singleton_append]
    refine ga_istore_n ok 3 rfl hn3 dX4_does_102 ?_
    refine ga_goto ok 131 (by decide) dX4_does_103 ?_
    exact ga_return ok en rfl (by decide) (by decide) dX4_does_131 (by
    have he := exO_g (g := g) (a := a) (b := b)
    refine ⟨rfl, ?_⟩
    rw [he.1, he.2]
    exact ⟨hD, hF⟩)
  · refine ga_lookup (off := 87) ok 106 (by decide) (by decide) (by decide) (by decide) dX4_does_19 ?_
    refine ga_aload_n ok 0 rfl rfl dX4_does_106 ?_
    refine ga_iload_n ok 2 rfl rfl dX4_does_107 ?_
    refine ga_aload_n ok 0 rfl rfl dX4_does_108 ?_
    refine gf_X4_36 ok hG rfl dX4_does_109 ?_
    refine ga_iconst ok dX4_does_112 ?_
    refine ga_iload_n ok 1 rfl rfl dX4_does_113 ?_
    refine ga_imul ok dX4_does_114 ?_
    refine ga_iconst ok dX4_does_115 ?_
    refine ga_iadd ok dX4_does_116 ?_
    refine ga_iaload_ia ok (ar_mo hG rfl) (by omega) dX4_does_117 ?_
    rw [show (3 * (k : Int) + 2).toNat = 3 * k + 2 by omega, hc2 rfl]
    refine gc_X4_2 ok hG rfl lk_X4_175 rfl (c_X4_doTeach ok.fl hG hY hT h6 (n := a) (v := b) (by omega) (by omega)) (by rw [hR]; exact ⟨by decide, by decide, by decide, by decide⟩) (Nat.le_of_ble_eq_true rfl) dX4_does_118 (fun r9 m1 hq => ?_) (fun _ _ h => h.elim)
    obtain ⟨v9, hr9, hD, hF, -⟩ := hq
    subst hr9
    simp only [Option.toList_some, List.singleton_append]
    refine ga_istore_n ok 3 rfl hn3 dX4_does_121 ?_
    refine ga_goto ok 131 (by decide) dX4_does_122 ?_
    exact ga_return ok en rfl (by decide) (by decide) dX4_does_131 (by
    have he := exO_t (g := g) (a := a) (b := b)
    refine ⟨rfl, ?_⟩
    rw [he.1, he.2]
    exact ⟨hD, hF⟩)
  · refine ga_lookup (off := 106) ok 125 (by decide) (by decide) (by decide) (by decide) dX4_does_19 ?_
    refine ga_aload_n ok 0 rfl rfl dX4_does_125 ?_
    refine ga_iload_n ok 2 rfl rfl dX4_does_126 ?_
    refine gc_X4_1 ok hG rfl lk_X4_181 rfl (c_X4_doDay ok.fl hG hY hT h6 (n := a) (by omega)) (by rw [hR]; exact ⟨by decide, by decide, by decide, by decide⟩) (Nat.le_of_ble_eq_true rfl) dX4_does_127 (fun r9 m1 hq => ?_) (fun _ _ h => h.elim)
    obtain ⟨v9, hr9, hD, hF, -⟩ := hq
    subst hr9
    simp only [Option.toList_some, List.singleton_append]
    refine ga_istore_n ok 3 rfl hn3 dX4_does_130 ?_
    exact ga_return ok en rfl (by decide) (by decide) dX4_does_131 (by
    have he := exO_d (g := g) (a := a) (b := b)
    refine ⟨rfl, ?_⟩
    rw [he.1, he.2]
    exact ⟨hD, hF⟩)
