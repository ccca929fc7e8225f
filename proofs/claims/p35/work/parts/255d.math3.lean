
theorem rs_nI {n : Nat} (hn : n < 2 ^ 31) : ∀ i, rs (nI n) i = nI (n / 10 ^ i) := by
  intro i
  induction i with
  | zero => show nI n = _; rw [Nat.pow_zero, Nat.div_one]
  | succ i ih =>
    have h : n / 10 ^ i < 2 ^ 31 := Nat.lt_of_le_of_lt (Nat.div_le_self _ _) hn
    show rs (nI n) i / 10 = _
    rw [ih, show (10 : Int32) = nI 10 from rfl, pk_div h (by decide) (by decide), Nat.div_div_eq_div_mul]
    rfl
theorem rem10_nI {n : Nat} (hn : n < 2 ^ 31) : rem10 (nI n) = nI (n % 10) := pk_rem (d := 10) hn (by decide) (by decide)
theorem dg_nI {n : Nat} (hn : n < 2 ^ 31) (i : Nat) : rem10 (rs (nI n) i) = nI (n / 10 ^ i % 10) := by
  rw [rs_nI hn, rem10_nI (Nat.lt_of_le_of_lt (Nat.div_le_self _ _) hn)]
/-- the digits of a label that is printed -/
def lbD (n j : Nat) (df : Nat → Int32) : Nat → Int32 := upd (dgs (nI n) 0 j (fun x => if x < j + 1 then 0 else df x) j) j (chkd (csum (dgs (nI n) 0 j (fun x => if x < j + 1 then 0 else df x) j) j j))
theorem lbD_lt {n j m : Nat} {df : Nat → Int32} (hn : n < 2 ^ 31) (h : m < j) : lbD n j df m = nI (n / 10 ^ (j - 1 - m) % 10) := by
  unfold lbD
  rw [pk_un (by omega), show m = 0 + m from (Nat.zero_add m).symm, dgs_at h, dg_nI hn, Nat.zero_add]
theorem lbD_9 {n j m : Nat} {df : Nat → Int32} (hn : n < 2 ^ 31) (h : m < j) : ∃ d, d ≤ 9 ∧ lbD n j df m = nI d := ⟨_, by omega, lbD_lt hn h⟩
theorem lbD_j {n j : Nat} {df : Nat → Int32} : lbD n j df j = chkd (csum (lbD n j df) j j) := by
  have e : csum (lbD n j df) j j = csum (dgs (nI n) 0 j (fun x => if x < j + 1 then 0 else df x) j) j j := csum_congr (fun m hm => pk_un (by omega)) j (Nat.le_refl j)
  rw [e]
  exact pk_us
theorem lbD_all {n j : Nat} {df : Nat → Int32} (hn : n < 2 ^ 31) (hj : j ≤ 8) (m : Nat) (h : m < j + 1) : ∃ d, d ≤ 9 ∧ lbD n j df m = nI d := by
  by_cases e : m = j
  · subst e
    obtain ⟨s, hs, e2⟩ := csum_nI (g := lbD n m df) (fun q hq => lbD_9 hn hq) m (Nat.le_refl _)
    rw [lbD_j, e2]
    have hc := chk_rng s (by omega)
    exact nI_of2 (M := 9) (n := 9) (by decide) hc.1 hc.2
  · exact lbD_9 hn (by omega)
theorem setP_k {n j : Nat} {x : ST} : s_nd (setP (nI n) j x) = j + 1 ∧ s_df (setP (nI n) j x) = lbD n j (s_df x) ∧ s_ns (setP (nI n) j x) = 4 * j + 9 ∧ (∀ m, m < 4 * j + 9 → s_zf (setP (nI n) j x) m = 0) ∧ s_tol (setP (nI n) j x) = s_tol x ∧ s_tn (setP (nI n) j x) = s_tn x ∧ s_tf (setP (nI n) j x) = s_tf x := by
  obtain ⟨nd, df, ns, zf, tn, tf, k, f, g, cn, tol, suc, fai⟩ := x
  exact ⟨rfl, rfl, rfl, fun m hm => if_pos hm, rfl, rfl, rfl⟩
theorem setP_inv {N n j : Nat} {x : ST} (hi : invS N x) (hn : n < 2 ^ 31) (h1 : 1 ≤ j) (h8 : j ≤ 8) : invS N (setP (nI n) j x) := by
  obtain ⟨k1, k2, k3, k4, -⟩ := setP_k (n := n) (j := j) (x := x)
  have hlab : labOk (setP (nI n) j x) := by
    unfold labOk
    rw [k1, k2, k3]
    refine Or.inr ⟨by omega, by omega, by omega, fun m hm => lbD_all hn h8 m hm, fun m hm => ?_, ?_⟩
    · rw [k4 m hm]; decide
    · rw [show j + 1 - 1 = j from rfl]
      exact lbD_j
  obtain ⟨nd, df, ns, zf, tn, tf, k, f, g, cn, tol, suc, fai⟩ := x
  obtain ⟨⟨b1, b2, b3, b4⟩, -, htol, l⟩ := hi
  have htol : ∃ t, 1 ≤ t ∧ t ≤ 8 ∧ tol = nI t := htol
  obtain ⟨l1, l2, C, S, l3, l4, l5, l6, l7⟩ := l
  have l1 : ∀ i, i < k → ∃ L v, 2 ≤ L ∧ L ≤ 9 ∧ v < 10 ^ L ∧ g i = nI L ∧ f i = nI v := l1
  have l2 : ∀ i j, i < j → j < k → ¬ (f i = f j ∧ g i = g j) := l2
  have l3 : ∀ i, i < k → cn i = nI (C i) ∧ 1 ≤ C i := l3
  have l4 : suc = nI S := l4
  have l6 : fb_sm C k ≤ S := l6
  have l7 : k = 10 ∨ fb_sm C k = S := l7
  exact ⟨⟨show j + 1 ≤ 9 by omega, show 4 * j + 9 ≤ 41 by omega, b3, b4⟩, hlab, htol, l1, l2, C, S, l3, l4, l5, l6, l7⟩

