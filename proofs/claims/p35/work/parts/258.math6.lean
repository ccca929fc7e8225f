
theorem rd_n {tn : Nat} (h : ¬ dgc tn = 0) : (nI tn - 5) / 4 = nI (dgc tn) := by
  obtain ⟨h2, h9, e⟩ := dgc_pos h
  have e4 : (tn - 5) / 4 = dgc tn := by omega
  rw [show (5 : Int32) = nI 5 from rfl, pk_sub (by omega), show (4 : Int32) = nI 4 from rfl, pk_div (by omega) (by omega) (by omega), e4]
theorem rd_no {tn : Nat} (h : dgc tn = 0) (h41 : tn ≤ 41) (h13 : 13 ≤ tn) : ¬ nI (tn % 4) = 1 := by
  intro q
  have h1 : tn % 4 = 1 := (nI_eq (by omega) (by decide)).mp q
  unfold dgc at h
  rw [if_pos ⟨h13, h41, h1⟩] at h
  omega
theorem rd_yes {tn : Nat} (h : ¬ dgc tn = 0) : 13 ≤ tn ∧ tn % 4 = 1 := by
  obtain ⟨h2, h9, e⟩ := dgc_pos h
  omega
/-- the sum behind i digits: none counts behind the last one -/
def rS (g : Nat → Int32) (n : Nat) (i : Nat) : Int32 := lS g n (min i n)
theorem rS_in {g : Nat → Int32} {n i : Nat} (h : i < n) : rS g n i = lS g n i ∧ rS g n (i + 1) = lS g n (i + 1) := by
  unfold rS
  rw [Nat.min_eq_left (by omega), Nat.min_eq_left (by omega)]
  exact ⟨rfl, rfl⟩
theorem rS_out {g : Nat → Int32} {n i : Nat} (h : n ≤ i) : rS g n i = lS g n n ∧ rS g n (i + 1) = rS g n i := by
  unfold rS
  rw [Nat.min_eq_right h, Nat.min_eq_right (by omega)]
  exact ⟨rfl, rfl⟩
theorem rS_a {g : Nat → Int32} {n i : Nat} (hi : i < n) (h : nI ((n - i) % 2) = 0) : rS g n i + 3 * g i = rS g n (i + 1) := by
  rw [(rS_in hi).1, (rS_in hi).2]
  exact lS_a h
theorem rS_b {g : Nat → Int32} {n i : Nat} (hi : i < n) (h : ¬ nI ((n - i) % 2) = 0) : rS g n i + g i = rS g n (i + 1) := by
  rw [(rS_in hi).1, (rS_in hi).2]
  exact lS_b h
theorem rS_9 {g : Nat → Int32} {n : Nat} (hn : 2 ≤ n) (h9 : n ≤ 9) (h : ∀ m, ∃ d, d ≤ 9 ∧ g m = nI d) (hc : g (n - 1) = chkd (csum g (n - 1) (n - 1))) : rem10 (rS g n 9) = 0 := by
  rw [(rS_out h9).1]
  exact lS_rem (by omega) h9 (fun m _ => h m) hc
theorem nrD_ck {n : Nat} {lf : Nat → Int32} {tol : Int32} (h : failF n lf tol = 0) : nrD n lf (dgc n - 1) = chkd (csum (nrD n lf) (dgc n - 1) (dgc n - 1)) := (fail0 h).2
theorem rS_0 (g : Nat → Int32) (n : Nat) : rS g n 0 = 0 := by
  unfold rS
  rw [Nat.min_eq_left (Nat.zero_le _)]
  rfl
theorem nr_same {tn k : Nat} {tf : Nat → Int32} (hk : 3 + 4 * k + 4 ≤ tn) (h41 : tn ≤ 41) : nrD tn (lnF tn tf 0) k = (nrF (dsF (rowAt 41 (nI tn) tf (nI (3 + 4 * k))) (rowAt 41 (nI tn) tf (nI (3 + 4 * k) + 1)) (rowAt 41 (nI tn) tf (nI (3 + 4 * k) + 2)) (rowAt 41 (nI tn) tf (nI (3 + 4 * k) + 3)) (rowAt 41 (nI tn) tf (nI (3 + 4 * k)) + rowAt 41 (nI tn) tf (nI (3 + 4 * k) + 1) + rowAt 41 (nI tn) tf (nI (3 + 4 * k) + 2) + rowAt 41 (nI tn) tf (nI (3 + 4 * k) + 3))) 0 0 10).1 := by
  have h : ∀ m, m < 4 → tkF tn (lnF tn tf 0) k m = rowAt 41 (nI tn) tf (nI (3 + 4 * k + m)) := fun m hm => by
    have hj : 3 + 4 * k + m < tn := by omega
    unfold tkF
    exact (rowAt_lt hj h41 (by decide)).trans ((lnF_0 hj h41).trans (rowAt_lt hj h41 (by decide)).symm)
  have e1 : nI (3 + 4 * k) + 1 = nI (3 + 4 * k + 1) := nI_add _ 1
  have e2 : nI (3 + 4 * k) + 2 = nI (3 + 4 * k + 2) := nI_add _ 2
  have e3 : nI (3 + 4 * k) + 3 = nI (3 + 4 * k + 3) := nI_add _ 3
  have h0 : tkF tn (lnF tn tf 0) k 0 = rowAt 41 (nI tn) tf (nI (3 + 4 * k)) := h 0 (by decide)
  unfold nrD ddK smK
  rw [h0, h 1 (by decide), h 2 (by decide), h 3 (by decide), e1, e2, e3]
theorem digR_f {tn x : Nat} {tf : Nat → Int32} {tol : Int32} (h : resF tn tf tol = 0) (hx : x < dgc tn) : digR tn tf tol x = nrD tn (lnF tn tf 0) x := by
  rw [digR_in (by rw [h]; decide) hx, h, if_pos rfl]
theorem digR_b {tn x : Nat} {tf : Nat → Int32} {tol : Int32} (h : resF tn tf tol = (-1)) (hx : x < dgc tn) : digR tn tf tol x = nrD tn (lnF tn tf 1) x := by
  rw [digR_in (by rw [h]; decide) hx, h, if_neg (by decide)]
theorem mx_le {x y : Int32} (h : x ≤ y) : mxI x y = y := by
  unfold mxI
  by_cases h2 : x < y
  · rw [if_pos h2]
  · rw [if_neg h2]
    rw [fa_le] at h
    rw [fa_lt] at h2
    exact (fa_eq _ _).mpr (by omega)
theorem mx_nle {x y : Int32} (h : ¬ x ≤ y) : mxI x y = x := by
  unfold mxI
  rw [if_neg (fun q => h (by rw [fa_le]; rw [fa_lt] at q; omega))]
theorem n13 {n : Nat} (h : ¬ nI n < 13) (h41 : n ≤ 41) : 13 ≤ n := by
  rcases Nat.lt_or_ge n 13 with q | q
  · exact absurd (nI_lt (b := 13) q (by decide)) h
  · exact q

