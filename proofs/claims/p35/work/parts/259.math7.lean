
/-! ===== what the checks stand on ===== -/
theorem neg_k {d : Nat} (h : d < 2 ^ 31) : ¬ nI d < (-1000) := by
  rw [fa_lt, nI_toInt h]
  have e : (-1000 : Int32).toInt = -1000 := by decide
  omega
theorem neg_9 {z : Int32} (h : ¬ z < (-9)) : ¬ z < (-1000) := by
  rw [fa_lt] at h ⊢
  have e : (-1000 : Int32).toInt = -1000 := by decide
  have e9 : (-9 : Int32).toInt = -9 := by decide
  omega
theorem low1 (v : Int32) {n : Nat} (h0 : 0 < n) (hn : n ≤ 50) : ¬ 1 + lowF v (nI n) < 1 ∧ ¬ 50 < 1 + lowF v (nI n) ∧ 1 + lowF v (nI n) ≤ 50 := by
  obtain ⟨q, hq, e⟩ := low_nI v h0 (by omega)
  rw [e, show (1 : Int32) + nI q = nI (1 + q) from nI_add 1 q]
  exact ⟨nI_nlt (b := 1) (by omega) (by omega), nI_nlt (a := 50) (by omega) (by decide), nI_le (b := 50) (by omega) (by decide)⟩
theorem per_low (u v : Int32) {n : Nat} (h0 : 0 < n) (hn : n ≤ 50) : k_per (1 + lowF u (nI n)) (1 + lowF v (nI n)) := ⟨(low1 u h0 hn).1, (low1 u h0 hn).2.1, (low1 v h0 hn).1, (low1 v h0 hn).2.2⟩
theorem per_nI {p : Nat} (h1 : 1 ≤ p) (h : p ≤ 50) : k_per (nI p) (nI p) := ⟨nI_nlt (b := 1) h1 (by omega), nI_nlt (a := 50) h (by decide), nI_nlt (b := 1) h1 (by omega), nI_le (b := 50) h (by decide)⟩
theorem pw_lt {n j k : Nat} (hn : n < 10 ^ k) (hk : k ≤ j) (h9 : j ≤ 8) : nI n < pw10 j := by
  have h1 : 10 ^ k ≤ 10 ^ j := Nat.pow_le_pow_right (by decide) hk
  have h2 : 10 ^ j ≤ 1000000000 := pow_9 (by omega)
  rw [pw10_nI]
  exact nI_lt (by omega) (by omega)
theorem lbD_c {n j : Nat} {df : Nat → Int32} : lbD n j df j = chkd (cS (nI n) j) := by
  unfold lbD
  rw [pk_us, chk_cS]
theorem chk_9 {n j : Nat} (hn : n < 2 ^ 31) (hj : j ≤ 8) : ∃ d, d ≤ 9 ∧ chkd (cS (nI n) j) = nI d := by
  obtain ⟨d, hd, e⟩ := lbD_all (df := fun _ => 0) hn hj j (Nat.lt_succ_self j)
  exact ⟨d, hd, lbD_c.symm.trans e⟩
theorem t19 : ∀ t, t < 19 → ¬ nI t - 9 < (-9) ∧ nI t - 9 ≤ 9 := by decide +kernel
theorem suc_3 {r s0 s1 f0 f1 : Int32} (h : ¬ r < -1000 ∧ ((hsF r = 1 ∧ ¬ 0 < r) ∨ (hsF r = 0 ∧ 0 < r))) (d : (hsF r = 1 ∧ s1 = s0 + 1 ∧ f1 = f0) ∨ (hsF r = 0 ∧ s1 = s0 ∧ f1 = f0 + 1)) : (r ≤ 0 → s1 = s0 + 1) ∧ (¬ r ≤ 0 → s1 = s0 + 0) ∧ s1 + f1 = s0 + f0 + 1 := by
  rcases d with ⟨d1, d2, d3⟩ | ⟨d1, d2, d3⟩
  · refine ⟨fun _ => d2, fun q => ?_, ?_⟩
    · rcases h.2 with ⟨_, h2⟩ | ⟨h1, _⟩
      · exact absurd (Int32.not_lt.mp h2) q
      · exact absurd (d1.symm.trans h1) (by decide)
    · rw [d2, d3, Int32.add_assoc, Int32.add_comm 1 f0, Int32.add_assoc]
  · refine ⟨fun q => ?_, fun _ => by rw [d2, Int32.add_zero], ?_⟩
    · rcases h.2 with ⟨h1, _⟩ | ⟨_, h2⟩
      · exact absurd (d1.symm.trans h1) (by decide)
      · exact absurd h2 (Int32.not_lt.mpr q)
    · rw [d2, d3, Int32.add_assoc]
theorem drw_rev {x : ST} {l r : Int32} {j : Nat} (hn : s_ns x ≤ 41) (hj : j < s_ns x) : s_drw x l r 1 j = s_drw x l r 0 (s_ns x - 1 - j) := by
  have e1 : elF (nI (s_ns x)) 1 j = nI (s_ns x - 1 - j) := by
    unfold elF
    rw [if_neg (by decide), show nI (s_ns x) - 1 = nI (s_ns x - 1) from pk_sub (b := 1) (by omega), pk_sub (by omega)]
  have e0 : elF (nI (s_ns x)) 0 (s_ns x - 1 - j) = nI (s_ns x - 1 - j) := if_pos rfl
  unfold s_drw drwF
  rw [e1, e0]
theorem drw_e {x : ST} {l r : Int32} (hn : s_ns x ≤ 41) (h1 : 1 ≤ s_ns x) : s_drw x l r 1 0 = s_drw x l r 0 (s_ns x - 1) ∧ s_drw x l r 0 0 = s_drw x l r 1 (s_ns x - 1) := by
  constructor
  · rw [drw_rev hn (by omega), Nat.sub_zero]
  · rw [drw_rev hn (by omega), Nat.sub_self]
theorem res0_iff {n : Nat} {f : Nat → Int32} {tol : Int32} : resF n f tol = 0 ↔ failF n (lnF n f 0) tol = 0 := by
  constructor
  · intro h
    rcases res_all n f tol with q | q | q | q
    · exact absurd (q.2.2.2.symm.trans h) (by decide)
    · exact q.2.1
    · exact absurd (q.2.2.2.2.symm.trans h) (by decide)
    · have hg := (mx_gt (failF_in n (lnF n f 0) tol) (failF_in n (lnF n f 1) tol) q.2.1).1
      rw [← q.2.2.2.2.2, h] at hg
      exact absurd hg (by decide)
  · intro h
    unfold resF
    rw [if_pos h]
theorem res_rev {n : Nat} {f g : Nat → Int32} {tol : Int32} (hn : n ≤ 41) (h : ∀ j, j < n → g j = f (n - 1 - j)) (hr : resF n f tol = 0) : ¬ 0 < resF n g tol := by
  have h0 := res0_iff.mp hr
  have h1 : failF n (lnF n g 1) tol = 0 := by
    rw [(failF_congr (g := lnF n f 0) (fun j hj => ?_) hn tol).1, h0]
    rw [lnF_1 hj hn, lnF_0 hj hn, h (n - 1 - j) (by omega), show n - 1 - (n - 1 - j) = j from by omega]
  by_cases h2 : failF n (lnF n g 0) tol = 0
  · rw [res0_iff.mpr h2]; decide
  · unfold resF
    rw [if_neg h2, if_pos h1]
    decide
/-- y is x with t tenths at the element en -/
def zat (x : ST) (en : Nat) (t : Int32) (y : ST) : Prop := s_nd y = s_nd x ∧ s_df y = s_df x ∧ s_ns y = s_ns x ∧ s_tol y = s_tol x ∧ s_zf y en = t ∧ ∀ j, j ≠ en → s_zf y j = s_zf x j
theorem zat_1 (x : ST) (en : Nat) (t : Int32) : zat x en t (setZ en t x) := by
  obtain ⟨e1, e2, e3, e4, e5⟩ := setZ_k en t x
  exact ⟨e1, e2, e3, e5, by rw [e4]; exact pk_us, fun j hj => by rw [e4]; exact pk_un hj⟩
theorem zat_s {x y : ST} {en : Nat} {t' : Int32} (h : zat x en t' y) (t : Int32) : zat x en t (setZ en t y) := by
  obtain ⟨e1, e2, e3, e4, e5⟩ := setZ_k en t y
  obtain ⟨a1, a2, a3, a4, a5, a6⟩ := h
  exact ⟨e1.trans a1, e2.trans a2, e3.trans a3, e5.trans a4, by rw [e4]; exact pk_us, fun j hj => by rw [e4]; exact (pk_un hj).trans (a6 j hj)⟩
theorem zat_res {x y : ST} {en : Nat} {t : Int32} (h : zat x en t y) (hb : s_ns x ≤ 41) (hen : en < s_ns x) : resF (s_ns y) (s_drw y 20 20 0) (s_tol y) = 0 ↔ gsR x en t = 0 := by
  obtain ⟨a1, a2, a3, a4, a5, a6⟩ := h
  have hT : ∀ j, j < s_ns x → s_drw y 20 20 0 j = gsT x en t j := fun j hj => by
    have el : elF (nI (s_ns x)) 0 j = nI j := if_pos rfl
    unfold gsT
    by_cases e : j = en
    · subst e
      rw [if_pos rfl]
      unfold s_drw drwF
      rw [a1, a2, a3, el, rowAt_lt hj hb (by decide), a5]
    · rw [if_neg e]
      unfold s_drw drwF
      rw [a1, a2, a3, el, rowAt_lt hj hb (by decide), rowAt_lt hj hb (by decide), a6 j e]
  rw [res0_iff, a3, a4]
  unfold gsR
  rw [lnF_congr hT hb 0]
theorem td_rng : ∀ i, i ≤ 18 → ¬ td i < (-9) ∧ td i ≤ 9 ∧ 100 + td i - 100 = td i ∧ ¬ 100 + td i < 91 := by decide +kernel
theorem td_one : ∀ i, i ≤ 18 → 1 ≤ i → 100 + td i - 99 = td (i - 1) ∧ ¬ 100 + td i = 109 ∧ ¬ 100 + td i = (-1) ∧ ¬ 109 ≤ 100 + td i := by decide +kernel
/-! the clean label -/
theorem cl_D {x : ST} (h : clL x) : ∃ D : Nat → Nat, ∀ j, j < 5 → D j ≤ 9 ∧ s_df x j = nI (D j) := by
  refine ⟨fun j => (s_df x j).toNatClampNeg, fun j hj => ?_⟩
  obtain ⟨d, hd, e⟩ := h.2.2.2.1 j hj
  show (s_df x j).toNatClampNeg ≤ 9 ∧ s_df x j = nI (s_df x j).toNatClampNeg
  rw [e, nI_clamp (by omega)]
  exact ⟨hd, rfl⟩
theorem cl_0 {x : ST} {p t : Nat} (h : clL x) (p1 : 1 ≤ p) (p50 : p ≤ 50) (ht : t ≤ 8) {T : Nat → Int32} (hT : ∀ j, j < 25 → T j = s_drw x (nI p) (nI p) 0 j) : resF 25 T (nI t) = 0 ∧ ∀ k, k < 5 → digR 25 T (nI t) k = s_df x k := by
  obtain ⟨D, hD⟩ := cl_D h
  have hf := cl_fwd h hD p1 p50 ht (lf := lnF 25 T 0) (fun j hj => by rw [lnF_0 hj (by decide), hT j hj]; exact (cl_drw h hD p1 p50 hj).1)
  have hr : resF 25 T (nI t) = 0 := res0_iff.mpr hf.1
  exact ⟨hr, fun k hk => (digR_f hr (show k < dgc 25 from hk)).trans (hf.2 k hk)⟩
theorem lgF_cl : ∀ p, p ≤ 50 → 1 ≤ p → ∀ w, w ≤ 4 → lgF (nI (2 * p)) (nI (1 * p)) (nI (w * p)) = 0 := by decide +kernel
theorem cl_1 {x : ST} {p t : Nat} (h : clL x) (p1 : 1 ≤ p) (p50 : p ≤ 50) (ht : t ≤ 8) {T : Nat → Int32} (hT : ∀ j, j < 25 → T j = s_drw x (nI p) (nI p) 1 j) : resF 25 T (nI t) = (-1) ∧ ∀ k, k < 5 → digR 25 T (nI t) k = s_df x k := by
  obtain ⟨D, hD⟩ := cl_D h
  have hT' : ∀ j, j < 25 → T j = nI (clw D (24 - j) * p) := fun j hj => (hT j hj).trans (cl_drw h hD p1 p50 hj).2
  have hf := cl_fwd h hD p1 p50 ht (lf := lnF 25 T 1) (fun j hj => by rw [lnF_1 hj (by decide), hT' _ (by omega), show 24 - (25 - 1 - j) = j from by omega])
  have hat : ∀ j, j < 25 → rowAt 41 (nI 25) (lnF 25 T 0) (nI j) = nI (clw D (24 - j) * p) := fun j hj => (rowAt_lt hj (by decide) (by decide)).trans ((lnF_0 hj (by decide)).trans (hT' j hj))
  have hlg : lgG 25 (lnF 25 T 0) = 0 := by
    have h0 : rowAt 41 (nI 25) (lnF 25 T 0) 0 = nI (clw D (24 - 0) * p) := hat 0 (by decide)
    have h1 : rowAt 41 (nI 25) (lnF 25 T 0) 1 = nI (clw D (24 - 1) * p) := hat 1 (by decide)
    have h2 : rowAt 41 (nI 25) (lnF 25 T 0) 2 = nI (clw D (24 - 2) * p) := hat 2 (by decide)
    have hw := cl_wid h hD (j := 22) (by decide)
    unfold lgG
    rw [h0, h1, h2]
    exact lgF_cl p p50 p1 _ hw.2.2
  have h2 : failF 25 (lnF 25 T 0) (nI t) = 2 := failF_2 (by decide) hlg
  have hr : resF 25 T (nI t) = (-1) := by
    unfold resF
    rw [if_neg (by rw [h2]; decide), if_pos hf.1]
  exact ⟨hr, fun k hk => (digR_b hr (show k < dgc 25 from hk)).trans (hf.2 k hk)⟩
theorem cl_lea {x : ST} {p : Nat} (h : clL x) (p1 : 1 ≤ p) (p50 : p ≤ 50) {T : Nat → Int32} (hT : ∀ j, j < 25 → T j = s_drw x (nI p) (nI p) 1 j) : leaF 25 T = 1 := by
  have hr := (cl_1 (t := 1) h p1 p50 (by decide) hT).1
  have h9 : ¬ hsF (resF 25 T (nI 1)) = 0 := by rw [hr]; decide
  show ltS 25 T 8 1 = 1
  exact if_neg h9
theorem cl_P {n : Nat} {x : ST} (hn : n < 2 ^ 31) : clL (setP (nI n) 4 x) := by
  obtain ⟨k1, k2, k3, k4, -⟩ := setP_k (n := n) (j := 4) (x := x)
  refine ⟨k1, k3, k4, fun j hj => ?_, ?_⟩
  · rw [k2]
    exact lbD_all hn (by decide) j hj
  · rw [k2]
    exact lbD_j
theorem num_cl {n ck : Nat} {df : Nat → Int32} (hn : n < 10000) (hc : lbD n 4 df 4 = nI ck) : numF (lbD n 4 df) 5 = nI (10 * n + ck) := by
  have h31 : n < 2 ^ 31 := by omega
  have e0 : lbD n 4 df 0 = nI (n / 1000 % 10) := lbD_lt h31 (by decide)
  have e1 : lbD n 4 df 1 = nI (n / 100 % 10) := lbD_lt h31 (by decide)
  have e2 : lbD n 4 df 2 = nI (n / 10 % 10) := lbD_lt h31 (by decide)
  have e3 : lbD n 4 df 3 = nI (n / 1 % 10) := lbD_lt h31 (by decide)
  have n1 : numF (lbD n 4 df) 1 = nI (n / 1000 % 10) := by
    show 10 * 0 + lbD n 4 df 0 = _
    rw [e0, Int32.mul_zero, Int32.zero_add]
  have st : ∀ (f : Nat → Int32) (i a b : Nat), numF f i = nI a → f i = nI b → numF f (i + 1) = nI (10 * a + b) := fun f i a b h1 h2 => by
    show 10 * numF f i + f i = _
    rw [h1, h2, show (10 : Int32) = nI 10 from rfl, pk_mul, nI_add]
  have n4 := st _ 3 _ _ (st _ 2 _ _ (st _ 1 _ _ n1 e1) e2) e3
  rw [show 10 * (10 * (10 * (n / 1000 % 10) + n / 100 % 10) + n / 10 % 10) + n / 1 % 10 = n from by omega] at n4
  exact st _ 4 _ _ n4 hc

