/-! PLACES: each is taken once -/
theorem pig : ∀ (n : Nat) (f : Nat → Nat), (∀ i, i < n → f i < n) → (∀ i j, i < n → j < n → f i = f j → i = j) → ∀ p, p < n → ∃ i, i < n ∧ f i = p
  | 0, _, _, _, p, hp => absurd hp (Nat.not_lt_zero _)
  | n + 1, f, hr, hi, p, hp => by
    by_cases hq : f n = n
    · have h1 := pig n f (fun i h => by
        have h2 := hr i (by omega)
        have h3 : f i ≠ n := fun e => absurd (hi i n (by omega) (by omega) (by rw [e, hq])) (by omega)
        omega) (fun i j a b c => hi i j (by omega) (by omega) c)
      by_cases e : p = n
      · exact ⟨n, by omega, by rw [hq, e]⟩
      · obtain ⟨i, a, b⟩ := h1 p (by omega)
        exact ⟨i, by omega, b⟩
    · have hqn : f n < n := by have := hr n (by omega); omega
      have h1 := pig n (fun i => if f i = n then f n else f i) (fun i h => by
        show (if f i = n then f n else f i) < n
        by_cases e : f i = n
        · rw [if_pos e]; exact hqn
        · rw [if_neg e]
          have h2 := hr i (by omega)
          omega) (fun i j a b c => by
        have c : (if f i = n then f n else f i) = (if f j = n then f n else f j) := c
        by_cases e1 : f i = n
        · by_cases e2 : f j = n
          · exact hi i j (by omega) (by omega) (by rw [e1, e2])
          · rw [if_pos e1, if_neg e2] at c
            have := hi n j (by omega) (by omega) c
            omega
        · by_cases e2 : f j = n
          · rw [if_neg e1, if_pos e2] at c
            have := hi i n (by omega) (by omega) c
            omega
          · rw [if_neg e1, if_neg e2] at c
            exact hi i j (by omega) (by omega) c)
      by_cases e : p = f n
      · exact ⟨n, by omega, e.symm⟩
      · by_cases e2 : p = n
        · obtain ⟨i, a, b⟩ := h1 (f n) hqn
          have b : (if f i = n then f n else f i) = f n := b
          by_cases e3 : f i = n
          · exact ⟨i, by omega, by rw [e3, e2]⟩
          · rw [if_neg e3] at b
            have := hi i n (by omega) (by omega) b
            omega
        · obtain ⟨i, a, b⟩ := h1 p (by omega)
          have b : (if f i = n then f n else f i) = p := b
          by_cases e3 : f i = n
          · rw [if_pos e3] at b
            exact absurd b.symm e
          · rw [if_neg e3] at b
            exact ⟨i, by omega, b⟩
/-- how many stand before b -/
def cnt (R : Nat → Nat → Bool) (b n : Nat) : Int := zs (fun k => b2i (R k b)) n
theorem cnt_s (R : Nat → Nat → Bool) (b n : Nat) : cnt R b (n + 1) = cnt R b n + b2i (R n b) := rfl
theorem cnt_mono {R : Nat → Nat → Bool} {i j : Nat} (ht : ∀ k, R k j = true → R k i = true) : ∀ n, cnt R j n ≤ cnt R i n
  | 0 => Int.le_refl 0
  | n + 1 => by
    have h := cnt_mono ht n
    rw [cnt_s, cnt_s]
    cases e : R n j with
    | false => have := b2i_01 (R n i); show cnt R j n + 0 ≤ _; omega
    | true => rw [ht n e]; omega
theorem cnt_lt {R : Nat → Nat → Bool} {i j : Nat} (ht : ∀ k, R k j = true → R k i = true) (hj : R j j = false) (hji : R j i = true) : ∀ n, j < n → cnt R j n + 1 ≤ cnt R i n
  | 0, h => absurd h (Nat.not_lt_zero _)
  | n + 1, h => by
    rw [cnt_s, cnt_s]
    by_cases e : j = n
    · subst e
      rw [hj, hji]
      have := cnt_mono ht j
      show cnt R j j + 0 + 1 ≤ cnt R i j + 1
      omega
    · have h1 := cnt_lt ht hj hji n (by omega)
      cases e : R n j with
      | false => have := b2i_01 (R n i); show cnt R j n + 0 + 1 ≤ _; omega
      | true => rw [ht n e]; omega
theorem cnt_up {R : Nat → Nat → Bool} {b : Nat} (hb : R b b = false) : ∀ n, b < n → cnt R b n + 1 ≤ n
  | 0, h => absurd h (Nat.not_lt_zero _)
  | n + 1, h => by
    rw [cnt_s]
    by_cases e : b = n
    · subst e
      rw [hb]
      have h2 : cnt R b b ≤ b := (zs_bd1 (f := fun k => R k b) b).2
      show cnt R b b + 0 + 1 ≤ ((b + 1 : Nat) : Int)
      push_cast
      omega
    · have h1 := cnt_up hb n (by omega)
      have := b2i_01 (R n b)
      push_cast
      omega
theorem cnt_0 {R : Nat → Nat → Bool} {b n : Nat} : 0 ≤ cnt R b n := (zs_bd1 (f := fun k => R k b) n).1
/-- a strict order on the first N -/
def SOr (R : Nat → Nat → Bool) : Prop := (∀ b, R b b = false) ∧ (∀ k j i, R k j = true → R j i = true → R k i = true) ∧ ∀ i j, i ≠ j → R i j = true ∨ R j i = true
theorem SOr.inj {R : Nat → Nat → Bool} (h : SOr R) {N i j : Nat} (hi : i < N) (hj : j < N) (e : cnt R i N = cnt R j N) : i = j := by
  obtain ⟨h1, h2, h3⟩ := h
  by_cases hne : i = j
  · exact hne
  · rcases h3 i j hne with h | h
    · have := cnt_lt (fun k hk => h2 k i j hk h) (h1 i) h N hi
      omega
    · have := cnt_lt (fun k hk => h2 k j i hk h) (h1 j) h N hj
      omega
theorem SOr.sur {R : Nat → Nat → Bool} (h : SOr R) {N : Nat} {p : Int} (hp : 0 ≤ p ∧ p < N) : ∃ i : Nat, i < N ∧ cnt R i N = p := by
  obtain ⟨i, a, b⟩ := pig N (fun i => (cnt R i N).toNat) (fun i hi => by
    have h1 := cnt_up (h.1 i) N hi
    have h2 := cnt_0 (R := R) (b := i) (n := N)
    show (cnt R i N).toNat < N
    omega) (fun i j hi hj e => by
    have h2 := cnt_0 (R := R) (b := i) (n := N)
    have h3 := cnt_0 (R := R) (b := j) (n := N)
    have e : (cnt R i N).toNat = (cnt R j N).toNat := e
    exact h.inj hi hj (by omega)) p.toNat (by omega)
  have b : (cnt R i N).toNat = p.toNat := b
  have h2 := cnt_0 (R := R) (b := i) (n := N)
  exact ⟨i, a, by omega⟩
theorem lfd_at {f : Nat → Int} {p : Int} {i : Nat} (h1 : f i = p) : ∀ n, i < n → (∀ j, j < n → f j = p → j = i) → lfd f p n = i
  | 0, h, _ => absurd h (Nat.not_lt_zero _)
  | n + 1, h, hu => by
    simp only [lfd]
    by_cases e : f n = p
    · rw [if_pos e, hu n (by omega) e]
    · rw [if_neg e]
      have hne : i ≠ n := fun e2 => e (by rw [← e2]; exact h1)
      exact lfd_at h1 n (by omega) (fun j hj => hu j (by omega))
/-- the place of a strict order: found from either end -/
theorem SOr.find {R : Nat → Nat → Bool} (h : SOr R) {N : Nat} {p : Int} (hp : 0 ≤ p ∧ p < N) : ∃ i : Nat, ffd (fun b => cnt R b N) p N = i ∧ lfd (fun b => cnt R b N) p N = i := by
  obtain ⟨i, a, b⟩ := h.sur hp
  refine ⟨i, ffd_yes (f := fun b => cnt R b N) b (fun u hu e => ?_) N a, lfd_at (f := fun b => cnt R b N) b N a (fun j hj e => ?_)⟩
  · have e : cnt R u N = p := e
    have := h.inj (N := N) (show u < N by omega) a (by rw [e, b])
    omega
  · have e : cnt R j N = p := e
    exact h.inj (N := N) hj a (by rw [e, b])
theorem SOr.none {R : Nat → Nat → Bool} (h : SOr R) {N : Nat} {p : Int} (hp : ¬ (0 ≤ p ∧ p < N)) : ffd (fun b => cnt R b N) p N = -1 := by
  refine ffd_no (fun v hv e => hp ?_)
  have e : cnt R v N = p := e
  have h1 := cnt_up (h.1 v) N hv
  have h2 := cnt_0 (R := R) (b := v) (n := N)
  omega
def Rst (c : Nat → Int) (n b : Nat) : Bool := decide (c (b + 1) < c (n + 1)) || (decide (c (n + 1) = c (b + 1)) && decide (n < b))
theorem ahd_cnt (c : Nat → Int) (b : Nat) : ∀ n, ahd c b n = cnt (Rst c) b n
  | 0 => rfl
  | n + 1 => by rw [ahd_s, cnt_s, ahd_cnt c b n]; rfl
theorem Rst_so (c : Nat → Int) : SOr (Rst c) := by
  have e : ∀ n b, Rst c n b = true ↔ (c (b + 1) < c (n + 1) ∨ (c (n + 1) = c (b + 1) ∧ n < b)) := fun n b => by
    unfold Rst
    simp only [Bool.or_eq_true, Bool.and_eq_true, decide_eq_true_eq]
  refine ⟨fun b => ?_, fun k j i h1 h2 => ?_, fun i j hij => ?_⟩
  · cases h : Rst c b b with
    | false => rfl
    | true => have := (e b b).mp h; omega
  · rw [e] at *; omega
  · rw [e, e]; omega
theorem ahB_so (r : Nat → Int) : SOr (ahB r) := by
  have e : ∀ n b, ahB r n b = true ↔ (ofG r n - ofG r b < 0 ∨ (ofG r n - ofG r b = 0 ∧ (rg r n 3 - rg r b 3 < 0 ∨ (rg r n 3 - rg r b 3 = 0 ∧ n < b)))) := fun n b => by
    unfold ahB
    exact decide_eq_true_iff
  refine ⟨fun b => ?_, fun k j i h1 h2 => ?_, fun i j hij => ?_⟩
  · cases h : ahB r b b with
    | false => rfl
    | true => have := (e b b).mp h; omega
  · rw [e] at *; omega
  · rw [e, e]; omega
theorem strong_f {c : Nat → Int} {p : Int} (hp : 0 ≤ p ∧ p ≤ 9) : ffd (fun b => ahd c b 10) p 10 ≠ -1 ∧ ffd (fun b => ahd c b 10) p 10 = lfd (fun b => ahd c b 10) p 10 := by
  rw [show (fun b => ahd c b 10) = fun b => cnt (Rst c) b 10 from funext fun b => ahd_cnt c b 10]
  obtain ⟨i, h1, h2⟩ := (Rst_so c).find (N := 10) (p := p) (by omega)
  rw [h1, h2]
  exact ⟨by omega, rfl⟩
theorem strong_n {c : Nat → Int} {p : Int} (hp : ¬ (0 ≤ p ∧ p ≤ 9)) : ffd (fun b => ahd c b 10) p 10 = -1 := by
  rw [show (fun b => ahd c b 10) = fun b => cnt (Rst c) b 10 from funext fun b => ahd_cnt c b 10]
  exact (Rst_so c).none (N := 10) (p := p) (by omega)
theorem rank_f {r : Nat → Int} {p : Int} (hp : 0 ≤ p ∧ p < r 0) : ffd (fun g => aheadOf r g) p (r 0).toNat ≠ -1 ∧ ffd (fun g => aheadOf r g) p (r 0).toNat = lfd (fun g => aheadOf r g) p (r 0).toNat := by
  rw [show (fun g => aheadOf r g) = fun b => cnt (ahB r) b (r 0).toNat from rfl]
  obtain ⟨i, h1, h2⟩ := (ahB_so r).find (N := (r 0).toNat) (p := p) (by omega)
  rw [h1, h2]
  exact ⟨by omega, rfl⟩
theorem rank_n {r : Nat → Int} {p : Int} (hp : ¬ (0 ≤ p ∧ p < r 0)) (h0 : 0 ≤ r 0) : ffd (fun g => aheadOf r g) p (r 0).toNat = -1 := by
  rw [show (fun g => aheadOf r g) = fun b => cnt (ahB r) b (r 0).toNat from rfl]
  exact (ahB_so r).none (N := (r 0).toNat) (p := p) (by omega)
