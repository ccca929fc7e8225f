
/-! ===== readings ===== -/
theorem nrF_rng (d : Nat → Int32) (l q : Int32) : ∀ i, ∃ m, m ≤ i ∧ (nrF d l q (i + 1)).1 = nI m := by
  intro i
  induction i with
  | zero => exact ⟨0, Nat.le_refl _, congrArg Prod.fst (nrF_lt (Or.inl rfl))⟩
  | succ i ih =>
    obtain ⟨m, hm, e⟩ := ih
    by_cases h : (nrF d l q (i + 1)).1 = -1 ∨ d (i + 1) < (nrF d l q (i + 1)).2.1
    · exact ⟨i + 1, Nat.le_refl _, congrArg Prod.fst (nrF_lt h)⟩
    · have h1 : ¬ (nrF d l q (i + 1)).1 = -1 := fun h9 => h (Or.inl h9)
      have h2 : ¬ d (i + 1) < (nrF d l q (i + 1)).2.1 := fun h9 => h (Or.inr h9)
      by_cases h3 : d (i + 1) = (nrF d l q (i + 1)).2.1
      · exact ⟨m, by omega, (congrArg Prod.fst (nrF_eq h1 h2 h3)).trans e⟩
      · exact ⟨m, by omega, (congrArg Prod.fst (nrF_ge h1 h2 h3)).trans e⟩
theorem nrD_rng (n : Nat) (lf : Nat → Int32) (k : Nat) : ∃ d, d ≤ 9 ∧ nrD n lf k = nI d := nrF_rng _ 0 0 9
theorem numF_nI {f : Nat → Int32} : ∀ n, (∀ m, m < n → ∃ d, d ≤ 9 ∧ f m = nI d) → ∃ v, v < 10 ^ n ∧ numF f n = nI v := by
  intro n
  induction n with
  | zero => intro _; exact ⟨0, by decide, rfl⟩
  | succ n ih =>
    intro h
    obtain ⟨v, hv, e⟩ := ih (fun m hm => h m (by omega))
    obtain ⟨d, hd, e2⟩ := h n (Nat.lt_succ_self n)
    refine ⟨10 * v + d, ?_, ?_⟩
    · have : 10 ^ (n + 1) = 10 ^ n * 10 := Nat.pow_succ _ _
      omega
    · show 10 * numF f n + f n = _
      rw [e, e2, show (10 : Int32) = nI 10 from rfl, pk_mul, nI_add]
theorem dgc_pos {n : Nat} (h : ¬ dgc n = 0) : 2 ≤ dgc n ∧ dgc n ≤ 9 ∧ n = 4 * dgc n + 5 := by
  unfold dgc at h ⊢
  by_cases h1 : 13 ≤ n ∧ n ≤ 41 ∧ n % 4 = 1
  · rw [if_pos h1]
    omega
  · rw [if_neg h1] at h
    exact absurd rfl h
theorem dgc_in {n : Nat} (h2 : 2 ≤ n) (h9 : n ≤ 9) : dgc (4 * n + 5) = n := by
  unfold dgc
  rw [if_pos (by omega)]
  omega
theorem fail0 {n : Nat} {lf : Nat → Int32} {tol : Int32} (h : failF n lf tol = 0) : ¬ dgc n = 0 ∧ ckD n lf := by
  rcases failF_all n lf tol with q | q | q | q | q | q
  · exact absurd (q.1.symm.trans h) (by decide)
  · exact absurd (q.1.symm.trans h) (by decide)
  · exact absurd (q.1.symm.trans h) (by decide)
  · exact absurd (q.1.symm.trans h) (by decide)
  · exact absurd (q.1.symm.trans h) (by decide)
  · exact ⟨q.2.1, q.2.2.2.2.2⟩
theorem fail1 {n : Nat} {lf : Nat → Int32} {tol : Int32} (h : failF n lf tol = 1) : dgc n = 0 := by
  rcases failF_all n lf tol with q | q | q | q | q | q
  · exact q.2
  · exact absurd (q.1.symm.trans h) (by decide)
  · exact absurd (q.1.symm.trans h) (by decide)
  · exact absurd (q.1.symm.trans h) (by decide)
  · exact absurd (q.1.symm.trans h) (by decide)
  · exact absurd (q.1.symm.trans h) (by decide)
theorem mx_gt {x y : Int32} (hx : x = 0 ∨ x = 1 ∨ x = 2 ∨ x = 3 ∨ x = 4 ∨ x = 5) (hy : y = 0 ∨ y = 1 ∨ y = 2 ∨ y = 3 ∨ y = 4 ∨ y = 5) (h1 : ¬ x = 0) : 0 < mxI x y ∧ ¬ mxI x y < -1000 ∧ hsF (mxI x y) = 0 := by
  rcases hx with rfl | rfl | rfl | rfl | rfl | rfl <;> rcases hy with rfl | rfl | rfl | rfl | rfl | rfl <;> first | exact absurd rfl h1 | decide
/-- what a reading in both directions comes to -/
theorem res_all (n : Nat) (tf : Nat → Int32) (tol : Int32) :
    (dgc n = 0 ∧ failF n (lnF n tf 0) tol = 1 ∧ failF n (lnF n tf 1) tol = 1 ∧ resF n tf tol = 1) ∨
    (¬ dgc n = 0 ∧ failF n (lnF n tf 0) tol = 0 ∧ ¬ failF n (lnF n tf 1) tol = 1 ∧ resF n tf tol = 0) ∨
    (¬ dgc n = 0 ∧ ¬ failF n (lnF n tf 0) tol = 0 ∧ ¬ failF n (lnF n tf 0) tol = 1 ∧ failF n (lnF n tf 1) tol = 0 ∧ resF n tf tol = (-1)) ∨
    (¬ dgc n = 0 ∧ ¬ failF n (lnF n tf 0) tol = 0 ∧ ¬ failF n (lnF n tf 0) tol = 1 ∧ ¬ failF n (lnF n tf 1) tol = 0 ∧ ¬ failF n (lnF n tf 1) tol = 1 ∧ resF n tf tol = mxI (failF n (lnF n tf 0) tol) (failF n (lnF n tf 1) tol)) := by
  by_cases hd : dgc n = 0
  · have e0 := failF_1 (lf := lnF n tf 0) (tol := tol) hd
    have e1 := failF_1 (lf := lnF n tf 1) (tol := tol) hd
    refine Or.inl ⟨hd, e0, e1, ?_⟩
    unfold resF
    rw [e0, e1]
    decide
  · have n0 : ¬ failF n (lnF n tf 0) tol = 1 := fun q => hd (fail1 q)
    have n1 : ¬ failF n (lnF n tf 1) tol = 1 := fun q => hd (fail1 q)
    by_cases h0 : failF n (lnF n tf 0) tol = 0
    · exact Or.inr (Or.inl ⟨hd, h0, n1, by unfold resF; rw [if_pos h0]⟩)
    · by_cases h1 : failF n (lnF n tf 1) tol = 0
      · exact Or.inr (Or.inr (Or.inl ⟨hd, h0, n0, h1, by unfold resF; rw [if_neg h0, if_pos h1]⟩))
      · exact Or.inr (Or.inr (Or.inr ⟨hd, h0, n0, h1, n1, by unfold resF; rw [if_neg h0, if_neg h1]⟩))
theorem res_in (n : Nat) (tf : Nat → Int32) (tol : Int32) : ¬ resF n tf tol < -1000 ∧ ((hsF (resF n tf tol) = 1 ∧ ¬ 0 < resF n tf tol) ∨ (hsF (resF n tf tol) = 0 ∧ 0 < resF n tf tol)) := by
  rcases res_all n tf tol with q | q | q | q
  · rw [q.2.2.2]; decide
  · rw [q.2.2.2]; decide
  · rw [q.2.2.2.2]; decide
  · rw [q.2.2.2.2.2]
    have h := mx_gt (failF_in n (lnF n tf 0) tol) (failF_in n (lnF n tf 1) tol) q.2.1
    exact ⟨h.2.1, Or.inr ⟨h.2.2, h.1⟩⟩
theorem res_hs {n : Nat} {tf : Nat → Int32} {tol : Int32} (h : hsF (resF n tf tol) = 1) : ¬ dgc n = 0 := by
  rcases res_all n tf tol with q | q | q | q
  · rw [q.2.2.2] at h; exact absurd h (by decide)
  · exact q.1
  · exact q.1
  · exact q.1
theorem ltS_rng (tn : Nat) (tf : Nat → Int32) : ∀ q i, ltS tn tf q i = (-1) ∨ ∃ m, i ≤ m ∧ m < i + q ∧ ltS tn tf q i = nI m := by
  intro q
  induction q with
  | zero => intro i; exact Or.inl rfl
  | succ q ih =>
    intro i
    by_cases h : hsF (resF tn tf (nI i)) = 0
    · rw [show ltS tn tf (q + 1) i = ltS tn tf q (i + 1) from if_pos h]
      rcases ih (i + 1) with h9 | ⟨m, h1, h2, h3⟩
      · exact Or.inl h9
      · exact Or.inr ⟨m, by omega, by omega, h3⟩
    · exact Or.inr ⟨i, Nat.le_refl _, by omega, if_neg h⟩
theorem ltS_hit (tn : Nat) (tf : Nat → Int32) : ∀ q i t, i ≤ t → t < i + q → ¬ hsF (resF tn tf (nI t)) = 0 → ∃ m, i ≤ m ∧ m < i + q ∧ ltS tn tf q i = nI m := by
  intro q
  induction q with
  | zero => intro i t h1 h2; omega
  | succ q ih =>
    intro i t h1 h2 h
    by_cases h0 : hsF (resF tn tf (nI i)) = 0
    · rw [show ltS tn tf (q + 1) i = ltS tn tf q (i + 1) from if_pos h0]
      have hne : i ≠ t := fun e => h (e ▸ h0)
      obtain ⟨m, a, b, c⟩ := ih (i + 1) t (by omega) (by omega) h
      exact ⟨m, by omega, by omega, c⟩
    · exact ⟨i, Nat.le_refl _, by omega, if_neg h0⟩
theorem lea_rng (tn : Nat) (tf : Nat → Int32) : ¬ leaF tn tf = 0 ∧ ¬ 9 ≤ leaF tn tf := by
  rcases ltS_rng tn tf 8 1 with h | ⟨m, h1, h2, h3⟩
  · rw [show leaF tn tf = (-1) from h]; decide
  · rw [show leaF tn tf = nI m from h3]
    exact ⟨nI_ne0 (by omega) (by omega), nI_ge (b := 9) (by omega) (by decide)⟩
theorem lea_hit {tn : Nat} {tf : Nat → Int32} {t : Nat} (h1 : 1 ≤ t) (h8 : t ≤ 8) (h : ¬ hsF (resF tn tf (nI t)) = 0) : 0 < leaF tn tf := by
  obtain ⟨m, a, b, c⟩ := ltS_hit tn tf 8 1 t h1 (by omega) h
  rw [show leaF tn tf = nI m from c]
  exact nI_lt (a := 0) (by omega) (by omega)
theorem digR_no {tn : Nat} {tf : Nat → Int32} {tol : Int32} {x : Nat} (h : hsF (resF tn tf tol) = 0) : digR tn tf tol x = (-1) := if_pos h
theorem digR_out {tn : Nat} {tf : Nat → Int32} {tol : Int32} {x : Nat} (h : ¬ hsF (resF tn tf tol) = 0) (hx : dgc tn ≤ x) : digR tn tf tol x = (-1) := by
  unfold digR
  rw [if_neg h, if_neg (by omega)]
theorem digR_in {tn : Nat} {tf : Nat → Int32} {tol : Int32} {x : Nat} (h : ¬ hsF (resF tn tf tol) = 0) (hx : x < dgc tn) : digR tn tf tol x = nrD tn (lnF tn tf (if resF tn tf tol = 0 then 0 else 1)) x := by
  unfold digR
  rw [if_neg h, if_pos hx]
/-! ===== the weighted sum from the left ===== -/
def lS (g : Nat → Int32) (n : Nat) : Nat → Int32
  | 0 => 0
  | i + 1 => lS g n i + (if (n - i) % 2 = 0 then 3 * g i else g i)
theorem lS_csum {g : Nat → Int32} {n : Nat} : ∀ i, i ≤ n - 1 → lS g n (n - 1 - i) + csum g (n - 1) i = lS g n (n - 1) := by
  intro i
  induction i with
  | zero => intro _; exact Int32.add_zero _
  | succ i ih =>
    intro hi
    have h := ih (by omega)
    have e1 : n - 1 - i = (n - 1 - (i + 1)) + 1 := by omega
    have e2 : n - 1 - 1 - i = n - 1 - (i + 1) := by omega
    rw [e1] at h
    rw [← h]
    show lS g n (n - 1 - (i + 1)) + (csum g (n - 1) i + wt i * g (n - 1 - 1 - i)) = lS g n (n - 1 - (i + 1)) + (if (n - (n - 1 - (i + 1))) % 2 = 0 then 3 * g (n - 1 - (i + 1)) else g (n - 1 - (i + 1))) + csum g (n - 1) i
    rw [e2, wt_eq, Int32.add_assoc, Int32.add_comm (csum g (n - 1) i)]
    by_cases h2 : i % 2 = 0
    · rw [if_pos h2, if_pos (by omega)]
    · rw [if_neg h2, if_neg (by omega), Int32.one_mul]
theorem lS_end {g : Nat → Int32} {n : Nat} (hn : 1 ≤ n) : lS g n n = csum g (n - 1) (n - 1) + g (n - 1) := by
  have h := lS_csum (g := g) (n := n) (n - 1) (Nat.le_refl _)
  rw [Nat.sub_self] at h
  have h2 : csum g (n - 1) (n - 1) = lS g n (n - 1) := by rw [← h]; exact (Int32.zero_add _).symm
  rw [h2]
  have e : n = (n - 1) + 1 := by omega
  have h3 : lS g n ((n - 1) + 1) = lS g n (n - 1) + (if (n - (n - 1)) % 2 = 0 then 3 * g (n - 1) else g (n - 1)) := rfl
  rw [← e, if_neg (by omega)] at h3
  exact h3
theorem csum_nI {g : Nat → Int32} {j : Nat} (h : ∀ m, m < j → ∃ d, d ≤ 9 ∧ g m = nI d) : ∀ i, i ≤ j → ∃ s, s ≤ 27 * i ∧ csum g j i = nI s := by
  intro i
  induction i with
  | zero => intro _; exact ⟨0, by omega, rfl⟩
  | succ i ih =>
    intro hi
    obtain ⟨s, hs, e⟩ := ih (by omega)
    obtain ⟨d, hd, e2⟩ := h (j - 1 - i) (by omega)
    by_cases h2 : i % 2 = 0
    · refine ⟨s + 3 * d, by omega, ?_⟩
      show csum g j i + wt i * g (j - 1 - i) = _
      rw [e, e2, wt_eq, if_pos h2, show (3 : Int32) = nI 3 from rfl, pk_mul, nI_add]
    · refine ⟨s + d, by omega, ?_⟩
      show csum g j i + wt i * g (j - 1 - i) = _
      rw [e, e2, wt_eq, if_neg h2, Int32.one_mul, nI_add]
theorem chk_rem : ∀ s, s ≤ 243 → rem10 (nI s + chkd (nI s)) = 0 := by decide +kernel
theorem chk_rng : ∀ s, s ≤ 243 → ¬ chkd (nI s) < 0 ∧ chkd (nI s) ≤ 9 := by decide +kernel
/-- the weighted sum of all digits is a multiple of ten -/
theorem lS_rem {g : Nat → Int32} {n : Nat} (hn : 1 ≤ n) (h9 : n ≤ 9) (h : ∀ m, m < n - 1 → ∃ d, d ≤ 9 ∧ g m = nI d) (hc : g (n - 1) = chkd (csum g (n - 1) (n - 1))) : rem10 (lS g n n) = 0 := by
  obtain ⟨s, hs, e⟩ := csum_nI h (n - 1) (Nat.le_refl _)
  rw [lS_end hn, hc, e]
  exact chk_rem s (by omega)
/-! ===== the width of an element ===== -/
theorem wid_in {nd ns k i d : Nat} {df : Nat → Int32} (hn : nd ≤ 9) (hs : ns = 4 * nd + 5) (hk : k < nd) (hi : i < 4) (hd : d ≤ 9) (h : df k = nI d) : widF nd df (nI ns) (nI (3 + 4 * k + i)) = wdt (4 * d + i) := by
  have e1 : nI (3 + 4 * k + i) - 3 = nI (4 * k + i) := by
    rw [show (3 : Int32) = nI 3 from rfl, pk_sub (by omega), show 3 + 4 * k + i - 3 = 4 * k + i from by omega]
  have e2 : nI (4 * k + i) / 4 = nI k := by
    rw [show (4 : Int32) = nI 4 from rfl, pk_div (by omega) (by omega) (by omega), show (4 * k + i) / 4 = k from by omega]
  have e3 : nI (4 * k + i) - nI k * 4 = nI i := by
    rw [show (4 : Int32) = nI 4 from rfl, pk_mul, pk_sub (by omega), show 4 * k + i - k * 4 = i from by omega]
  have ep : plF nd df (nI (3 + 4 * k + i)) = nI (4 * d + i) := by
    unfold plF
    rw [e1, e2, e3, rowAt_lt hk hn (by decide), h, show (4 : Int32) = nI 4 from rfl, pk_mul, nI_add]
  unfold widF
  rw [ep, if_neg (show ¬ nI (3 + 4 * k + i) < (3 : Int32) from nI_nlt (b := 3) (by omega) (by omega)), if_neg ?_, if_pos ?_, if_neg (nI_pos (by omega)), if_neg (show ¬ (40 : Int32) ≤ nI (4 * d + i) from nI_ge (b := 40) (by omega) (by decide)), nI_clamp (by omega)]
  · rw [show (1 : Int32) = nI 1 from rfl, pk_sub (by omega)]
    exact nI_lt (by omega) (by omega)
  · rw [show (2 : Int32) = nI 2 from rfl, pk_sub (by omega)]
    intro q
    have := (fa_eq _ _).mp q
    rw [nI_toInt (by omega), nI_toInt (by omega)] at this
    omega
theorem wid_g {nd ns : Nat} {df : Nat → Int32} {e : Int32} (h : e < 3) : widF nd df (nI ns) e = 1 := if_pos h
theorem wid_r {nd ns : Nat} {df : Nat → Int32} (h : 13 ≤ ns) (h2 : ns ≤ 41) : widF nd df (nI ns) (nI ns - 2) = 1 ∧ widF nd df (nI ns) (nI ns - 1) = 2 := by
  have e2 : nI ns - 2 = nI (ns - 2) := pk_sub (b := 2) (by omega)
  have e1 : nI ns - 1 = nI (ns - 1) := pk_sub (b := 1) (by omega)
  constructor
  · unfold widF
    rw [if_neg (show ¬ nI ns - 2 < (3 : Int32) by rw [e2]; exact nI_nlt (b := 3) (by omega) (by omega)), if_pos rfl]
  · unfold widF
    rw [if_neg (show ¬ nI ns - 1 < (3 : Int32) by rw [e1]; exact nI_nlt (b := 3) (by omega) (by omega)), if_neg ?_, if_neg ?_]
    · rw [fa_lt]; omega
    · rw [e1, e2]
      intro q
      have := (fa_eq _ _).mp q
      rw [nI_toInt (by omega), nI_toInt (by omega)] at this
      omega
theorem wd_sum : ∀ d, d ≤ 9 → wdt (4 * d + 0) + wdt (4 * d + 1) + wdt (4 * d + 2) + wdt (4 * d + 3) = 7 := by decide +kernel

