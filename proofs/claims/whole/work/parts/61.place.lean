/-! THE WORLD'S PLACE -/
def gof (k : Nat) : Nat := if k < 3 then 1 + 20 * k else 13 + 20 * k
def jof (j : Nat) : Nat := if j = 44 then 62 else gof (j / 4) + 4 + 4 * (j % 4)
def off (n : Nat) : Nat :=
  if n / 64 = 0 then 0 else if n / 64 = 1 then gof (n - 64) else if n / 64 = 2 then gof (n - 128) + 1 else if n / 64 = 3 then gof (n - 192) + 2 else if n / 64 = 4 then gof (n - 256) + 3
  else if n / 64 = 5 then jof (n - 320) else if n / 64 = 6 then jof (n - 384) + 1 else if n / 64 = 7 then jof (n - 448) + 2 else if n / 64 = 8 then jof (n - 512) + 3
  else if n / 64 = 9 then 61 else if n / 64 < 16 then n / 64 + 56 else n / 64 + 217
def adM (bs n : Nat) : Nat := if RAW ≤ n then n - RAW else bs + off n
def inv (o : Nat) : Nat :=
  if o = 0 then 0 else if o = 61 then 576 else if 62 ≤ o ∧ o < 66 then 364 + 64 * (o - 62) else if 66 ≤ o ∧ o < 72 then 64 * (o - 56) else if 233 ≤ o then 64 * (o - 217)
  else (fun k t => if t < 4 then 64 * (t + 1) + k else 320 + 64 * ((t - 4) % 4) + 4 * k + (t - 4) / 4) ((if o < 61 then (o - 1) / 20 else (o - 13) / 20)) ((if o < 61 then (o - 1) % 20 else (o - 13) % 20))
def dmB (n : Nat) : Bool := n == 0 || (Nat.ble 64 n && Nat.blt n 75) || (Nat.ble 128 n && Nat.blt n 139) || (Nat.ble 192 n && Nat.blt n 203) || (Nat.ble 256 n && Nat.blt n 267) || (Nat.ble 320 n && Nat.blt n 365) || (Nat.ble 384 n && Nat.blt n 429) || (Nat.ble 448 n && Nat.blt n 493) || (Nat.ble 512 n && Nat.blt n 557) || n == 576 || n == 640 || n == 704 || n == 768 || n == 832 || n == 896 || n == 1024 || n == 1088 || n == 1152 || n == 1216 || n == 1280 || n == 1344 || n == 1408 || n == 1472 || n == 1536 || n == 1600 || n == 1664 || n == 960
theorem inv_off : ∀ n, n < 1665 → dmB n = true → inv (off n) = n := by decide +kernel
theorem dmB_of {n : Nat} (h : dmM n ∨ n = 960) : dmB n = true := by
  unfold dmM at h
  simp only [dmB, Bool.or_eq_true, Bool.and_eq_true, beq_iff_eq, Nat.ble_eq, Nat.blt_eq]
  omega
theorem dm_lt {n : Nat} (h : dmM n) : n < 1665 := by unfold dmM at h; omega
theorem adM_lo {bs n : Nat} (h : n < RAW) : adM bs n = bs + off n := if_neg (by omega)
theorem adM_inj {bs n n' : Nat} (h : dmM n ∨ n = 960) (h' : dmM n' ∨ n' = 960) (e : adM bs n = adM bs n') : n = n' := by
  have b : ∀ x, (dmM x ∨ x = 960) → x < 1665 := fun x hx => by
    rcases hx with hx | rfl
    · exact dm_lt hx
    · omega
  have e1 := inv_off n (b n h) (dmB_of h)
  have e2 := inv_off n' (b n' h') (dmB_of h')
  have hR : RAW = 1000000 := rfl
  rw [adM_lo (by have := b n h; omega), adM_lo (by have := b n' h'; omega)] at e
  rw [← e1, ← e2, show off n = off n' by omega]
theorem off_1 : ∀ a, a < 365 → 320 ≤ a → off (a + 64) = off a + 1 ∧ off (a + 128) = off a + 2 ∧ off (a + 192) = off a + 3 := by decide +kernel
theorem off_2 : ∀ a, a < 75 → 64 ≤ a → (off (a + 64) = off a + 1 ∧ off (a + 128) = off a + 2 ∧ off (a + 192) = off a + 3) ∧ ∀ j, j < 4 → off (320 + 4 * (a - 64) + j) = off a + 4 + 4 * j := by decide +kernel
theorem off_3 : ∀ i, i < 8 → off (67 + i) = off 0 + 73 + 20 * i := by decide +kernel
