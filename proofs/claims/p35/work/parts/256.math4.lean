
theorem lab_n {nd ns : Nat} (h9 : nd ≤ 9) (hs : ns = 4 * nd + 5) : (nI ns - 5) / 4 = nI nd := by
  rw [show (5 : Int32) = nI 5 from rfl, pk_sub (by omega), show (4 : Int32) = nI 4 from rfl, pk_div (by omega) (by omega) (by omega), show (ns - 5) / 4 = nd from by omega]
theorem lS_a {g : Nat → Int32} {n i : Nat} (h : nI ((n - i) % 2) = 0) : lS g n i + 3 * g i = lS g n (i + 1) := by
  have h2 : (n - i) % 2 = 0 := nz_0 (by omega) h
  show _ = lS g n i + (if (n - i) % 2 = 0 then 3 * g i else g i)
  rw [if_pos h2]
theorem lS_b {g : Nat → Int32} {n i : Nat} (h : ¬ nI ((n - i) % 2) = 0) : lS g n i + g i = lS g n (i + 1) := by
  have h2 : ¬ (n - i) % 2 = 0 := fun q => h (by rw [q]; rfl)
  show _ = lS g n i + (if (n - i) % 2 = 0 then 3 * g i else g i)
  rw [if_neg h2]
theorem pw10_nI : ∀ n, pw10 n = nI (10 ^ n) := by
  intro n
  induction n with
  | zero => rfl
  | succ n ih =>
    show pw10 n * 10 = _
    rw [ih, show (10 : Int32) = nI 10 from rfl, pk_mul, Nat.pow_succ]
theorem pow_9 {L : Nat} (h : L ≤ 9) : 10 ^ L ≤ 1000000000 := by
  have h2 : 10 ^ L ≤ 10 ^ 9 := Nat.pow_le_pow_right (by decide) h
  exact h2
theorem wd_sum0 {d : Nat} (h : d ≤ 9) : 0 + wdt (4 * d + 0) + wdt (4 * d + 1) + wdt (4 * d + 2) + wdt (4 * d + 3) = 7 := by
  rw [Int32.zero_add]
  exact wd_sum d h

