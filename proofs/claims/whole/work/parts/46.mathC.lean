
/-! ===== a reading of the reference ===== -/
theorem dg_z1 {n : Nat} (hn : n ≤ 41) (h : nI n < 13 ∨ 41 < nI n) : dgc n = 0 := by
  refine if_neg (fun q => ?_)
  rcases h with h | h
  · exact absurd h (nI_nlt (b := 13) (by omega) (by omega))
  · exact absurd h (nI_nlt (a := 41) (by omega) (by decide))
theorem dg_z2 {n : Nat} (h : ¬ nI (n % 4) = 1) : dgc n = 0 := if_neg (fun q => h (by rw [q.2.2]; rfl))
theorem dg_y {n : Nat} (hn : n ≤ 41) (h : ¬ nI n < 13) (h4 : nI (n % 4) = 1) : ¬ dgc n = 0 := by
  have h13 : 13 ≤ n := by
    rcases Nat.lt_or_ge n 13 with q | q
    · exact absurd (nI_lt (b := 13) q (by decide)) h
    · exact q
  have h1 : n % 4 = 1 := (nI_eq (a := n % 4) (b := 1) (by omega) (by decide)).mp h4
  unfold dgc
  rw [if_pos ⟨h13, hn, h1⟩]
  omega
theorem dg_n5 {n : Nat} (h : ¬ dgc n = 0) : (nI n - 5) / 4 = nI (dgc n) := by
  obtain ⟨h2, h9, e⟩ := dgc_pos h
  rw [show (5 : Int32) = nI 5 from rfl, pk_sub (by omega), show (4 : Int32) = nI 4 from rfl, pk_div (by omega) (by decide) (by decide), show (n - 5) / 4 = dgc n from by omega]
theorem lg_G {n : Nat} {f : Nat → Int32} (h : 13 ≤ n) (hn : n ≤ 41) : lgF (f 0) (f 1) (f 2) = lgG n f := by
  unfold lgG
  rw [show (0 : Int32) = nI 0 from rfl, show (1 : Int32) = nI 1 from rfl, show (2 : Int32) = nI 2 from rfl, rowAt_lt (by omega) hn (by decide), rowAt_lt (by omega) hn (by decide), rowAt_lt (by omega) hn (by decide)]
theorem rg_G {n : Nat} {f : Nat → Int32} (h : 13 ≤ n) (hn : n ≤ 41) : rgF (f (n - 2)) (f (n - 1)) = rgG n f := by
  unfold rgG
  rw [show nI n - 1 = nI (n - 1) from pk_sub (b := 1) (by omega), show nI n - 2 = nI (n - 2) from pk_sub (b := 2) (by omega), rowAt_lt (by omega) hn (by decide), rowAt_lt (by omega) hn (by decide)]
/-- the k-th digit of a reading, or none -/
def dgK (n : Nat) (lf : Nat → Int32) (to : Int32) (k : Nat) : Int32 := dgA (ddK n lf k) (smK n lf k) to
theorem dk_eq {n k : Nat} {tf : Nat → Int32} {b to : Int32} (hk : 3 + 4 * k + 4 ≤ n) (hn : n ≤ 41) : dgA (dsM n tf b (3 + 4 * k)) (sm4 (lnF n tf b) (3 + 4 * k)) to = dgK n (lnF n tf b) to k := by
  have e : ∀ m, m < 4 → tkF n (lnF n tf b) k m = lnF n tf b (3 + 4 * k + m) := fun m hm => rowAt_lt (by omega) hn (by decide)
  unfold dgK ddK smK dsM sm4
  have e0 : tkF n (lnF n tf b) k 0 = lnF n tf b (3 + 4 * k) := e 0 (by decide)
  rw [e0, e 1 (by decide), e 2 (by decide), e 3 (by decide)]
theorem dgK_ok {n k : Nat} {lf : Nat → Int32} {to : Int32} (h : okD n lf to k) : dgK n lf to k = nrD n lf k := dg_ok h.1 h.2
theorem dgK_y {n k : Nat} {lf : Nat → Int32} {to : Int32} (h : ¬ dgK n lf to k = (-1)) : okD n lf to k ∧ dgK n lf to k = nrD n lf k := by
  by_cases q : okD n lf to k
  · exact ⟨q, dgK_ok q⟩
  · exact absurd (dg_no q) h
theorem dgK_n {n k : Nat} {lf : Nat → Int32} {to : Int32} (h : dgK n lf to k = (-1)) : ¬ okD n lf to k := fun q => nr_ge0 (ddK n lf k) ((dgK_ok q).symm.trans h)
theorem fl_s {n k : Nat} {lf fg : Nat → Int32} {to v : Int32} (h : ∀ m, m < k → okD n lf to m ∧ fg m = nrD n lf m) (h2 : okD n lf to k ∧ v = nrD n lf k) : ∀ m, m < k + 1 → okD n lf to m ∧ upd fg k v m = nrD n lf m := fun m hm => by
  rcases Nat.lt_succ_iff_lt_or_eq.mp hm with q | rfl
  · rw [pk_un (Nat.ne_of_lt q)]
    exact h m q
  · rw [pk_us]
    exact h2
theorem mx_le {x y : Int32} (h : x ≤ y) : mxI x y = y := by
  unfold mxI
  by_cases q : x < y
  · rw [if_pos q]
  · rw [if_neg q]
    rw [fa_le] at h
    rw [fa_lt] at q
    exact (fa_eq _ _).mpr (by omega)
theorem mx_nle {x y : Int32} (h : ¬ x ≤ y) : mxI x y = x := if_neg (fun q => by
  rw [fa_le] at h
  rw [fa_lt] at q
  omega)
theorem res_0 {n : Nat} {f : Nat → Int32} {to : Int32} (h : failF n (lnF n f 0) to = 0) : resF n f to = 0 := if_pos h
theorem res_1 {n : Nat} {f : Nat → Int32} {to : Int32} (h : ¬ failF n (lnF n f 0) to = 0) (h2 : failF n (lnF n f 1) to = 0) : resF n f to = (-1) := by
  unfold resF
  rw [if_neg h, if_pos h2]
theorem res_2 {n : Nat} {f : Nat → Int32} {to : Int32} (h : ¬ failF n (lnF n f 0) to = 0) (h2 : ¬ failF n (lnF n f 1) to = 0) : resF n f to = mxI (failF n (lnF n f 0) to) (failF n (lnF n f 1) to) := by
  unfold resF
  rw [if_neg h, if_neg h2]
/-- what a reading leaves: the digits, where it succeeds -/
def RFD (n : Nat) (f : Nat → Int32) (r mf : Int32) (fd : Nat → Int32) : Prop := (r = 0 ∨ r = (-1)) → mf = nI (dgc n) ∧ ¬ dgc n = 0 ∧ ∀ m, m < dgc n → fd m = nrD n (lnF n f (if r = 0 then 0 else 1)) m
theorem fail_nz {n : Nat} {lf : Nat → Int32} {to : Int32} (h : failF n lf to = 0) : ¬ dgc n = 0 := fun q => by
  rw [failF_1 q] at h
  exact absurd h (by decide)
theorem mx_pos2 {n : Nat} {f : Nat → Int32} {to : Int32} (h : ¬ failF n (lnF n f 0) to = 0) (h2 : ¬ failF n (lnF n f 1) to = 0) : ¬ resF n f to = 0 ∧ ¬ resF n f to = (-1) := by
  rw [res_2 h h2]
  exact mx_pos (failF_in _ _ _) (failF_in _ _ _) h h2
theorem mx_gt0 {x y : Int32} (hx : x = 0 ∨ x = 1 ∨ x = 2 ∨ x = 3 ∨ x = 4 ∨ x = 5) (hy : y = 0 ∨ y = 1 ∨ y = 2 ∨ y = 3 ∨ y = 4 ∨ y = 5) (h1 : ¬ x = 0) : 0 < mxI x y := by
  rcases hx with rfl | rfl | rfl | rfl | rfl | rfl <;> rcases hy with rfl | rfl | rfl | rfl | rfl | rfl <;> first | exact absurd rfl h1 | decide
/-- the sign of a result -/
theorem res_sg (n : Nat) (f : Nat → Int32) (to : Int32) : (resF n f to ≤ 0 ∧ hsF (resF n f to) = 1 ∧ (resF n f to = 0 ∨ resF n f to = (-1))) ∨ (0 < resF n f to ∧ hsF (resF n f to) = 0) := by
  by_cases h : failF n (lnF n f 0) to = 0
  · rw [res_0 h]; exact Or.inl (by decide)
  · by_cases h2 : failF n (lnF n f 1) to = 0
    · rw [res_1 h h2]; exact Or.inl (by decide)
    · rcases hsF_01 (resF n f to) with q | q
      · refine Or.inr ⟨?_, q⟩
        rw [res_2 h h2]
        exact mx_gt0 (failF_in _ _ _) (failF_in _ _ _) h
      · have := mx_pos2 h h2
        rcases hsF_1 (show ¬ hsF (resF n f to) = 0 by rw [q]; decide) with w | w
        · exact absurd w this.1
        · exact absurd w this.2
theorem rfd_0 {n : Nat} {f fd : Nat → Int32} {mf r a : Int32} (hr : r = a) (ha : r = 0) (h : r = 0 → mf = nI (dgc n) ∧ ¬ dgc n = 0 ∧ ∀ m, m < dgc n → fd m = nrD n (lnF n f 0) m) : RFD n f 0 mf fd := fun _ => by
  rw [if_pos rfl]
  exact h ha
theorem rfd_1 {n : Nat} {f fd : Nat → Int32} {mf r : Int32} (ha : r = 0) (h : r = 0 → mf = nI (dgc n) ∧ ¬ dgc n = 0 ∧ ∀ m, m < dgc n → fd m = nrD n (lnF n f 1) m) : RFD n f (-1) mf fd := fun _ => by
  rw [if_neg (by decide)]
  exact h ha
theorem rfd_n {n : Nat} {f fd : Nat → Int32} {mf r : Int32} (h0 : ¬ r = 0) (h1 : ¬ r = (-1)) : RFD n f r mf fd := fun q => q.elim (fun w => absurd w h0) (fun w => absurd w h1)
/-! ===== the state, in the reference's cells ===== -/
def RSL (k : Nat) (f g c sf : Nat → Int32) : Prop := sf 94 = nI k ∧ ∀ j, j < k → sf (95 + j) = f j ∧ sf (105 + j) = g j ∧ sf (115 + j) = c j
def RS (x : ST) (sf : Nat → Int32) : Prop := sf 0 = nI (s_nd x) ∧ (∀ j, j < s_nd x → sf (1 + j) = s_df x j) ∧ (∀ j, j < s_ns x → sf (10 + j) = s_zf x j) ∧ sf 51 = nI (s_tn x) ∧ (∀ j, j < s_tn x → sf (52 + j) = s_tf x j) ∧ sf 93 = s_tol x ∧ RSL (s_k x) (s_f x) (s_g x) (s_c x) sf ∧ sf 125 = s_suc x ∧ sf 126 = s_fai x
def hiEq (f g : Nat → Int32) : Prop := ∀ j, 127 ≤ j → f j = g j
/-- moved up by one: codes, lengths, counts, the first i of each -/
def sh3 (f : Nat → Int32) (i : Nat) : Nat → Int32 := fun j => if (95 ≤ j ∧ j < 95 + i) ∨ (105 ≤ j ∧ j < 105 + i) ∨ (115 ≤ j ∧ j < 115 + i) then f (j + 1) else f j
theorem sh3_0 (f : Nat → Int32) : sh3 f 0 = f := by
  funext j
  unfold sh3
  rw [if_neg (by omega)]
theorem sh3_no {f : Nat → Int32} {i j : Nat} (h : ¬ ((95 ≤ j ∧ j < 95 + i) ∨ (105 ≤ j ∧ j < 105 + i) ∨ (115 ≤ j ∧ j < 115 + i))) : sh3 f i j = f j := if_neg h
theorem sh3_in {f : Nat → Int32} {i j : Nat} (h : (95 ≤ j ∧ j < 95 + i) ∨ (105 ≤ j ∧ j < 105 + i) ∨ (115 ≤ j ∧ j < 115 + i)) : sh3 f i j = f (j + 1) := if_pos h
theorem sh3_s {f : Nat → Int32} {i : Nat} (h : i < 9) : upd (upd (upd (sh3 f i) (95 + i) (f (95 + i + 1))) (105 + i) (f (105 + i + 1))) (115 + i) (f (115 + i + 1)) = sh3 f (i + 1) := by
  funext j
  by_cases h1 : j = 115 + i
  · rw [h1, pk_us, sh3_in (by omega)]
  · rw [pk_un h1]
    by_cases h2 : j = 105 + i
    · rw [h2, pk_us, sh3_in (by omega)]
    · rw [pk_un h2]
      by_cases h3 : j = 95 + i
      · rw [h3, pk_us, sh3_in (by omega)]
      · rw [pk_un h3]
        by_cases h4 : (95 ≤ j ∧ j < 95 + i) ∨ (105 ≤ j ∧ j < 105 + i) ∨ (115 ≤ j ∧ j < 115 + i)
        · rw [sh3_in h4, sh3_in (by omega)]
        · rw [sh3_no h4, sh3_no (by omega)]
/-- a code is noted -/
def NT (sf sg : Nat → Int32) (k : Nat) (v w : Int32) : Prop :=
  (∃ i, i < k ∧ (∀ m, m < i → ¬ (sf (95 + m) = v ∧ sf (105 + m) = w)) ∧ sf (95 + i) = v ∧ sf (105 + i) = w ∧ sg = upd sf (115 + i) (sf (115 + i) + 1)) ∨
  ((∀ m, m < k → ¬ (sf (95 + m) = v ∧ sf (105 + m) = w)) ∧ k < 10 ∧ sg = upd (upd (upd (upd sf (95 + k) v) (105 + k) w) (115 + k) 1) 94 (nI (k + 1))) ∨
  ((∀ m, m < k → ¬ (sf (95 + m) = v ∧ sf (105 + m) = w)) ∧ k = 10 ∧ sg = upd (upd (upd (upd (sh3 (upd sf 94 (nI 9)) 9) (95 + 9) v) (105 + 9) w) (115 + 9) 1) 94 (nI (9 + 1)))
theorem NT_out {sf sg : Nat → Int32} {k : Nat} {v w : Int32} (h : NT sf sg k v w) (hk : k ≤ 10) {j : Nat} (hj : j < 94 ∨ 125 ≤ j) : sg j = sf j := by
  rcases h with ⟨i, hi, -, -, -, rfl⟩ | ⟨-, hlt, rfl⟩ | ⟨-, -, rfl⟩
  · exact pk_un (by omega)
  · rw [pk_un (by omega), pk_un (by omega), pk_un (by omega), pk_un (by omega)]
  · rw [pk_un (by omega), pk_un (by omega), pk_un (by omega), pk_un (by omega), sh3_no (by omega), pk_un (by omega)]
theorem note_l {k k1 : Nat} {f g c sf sg f1 g1 c1 : Nat → Int32} {v w : Int32} (hR : RSL k f g c sf) (hk : k ≤ 10) (hn : NT sf sg k v w) (hc : cntR k f g c v w k1 f1 g1 c1) : RSL k1 f1 g1 c1 sg := by
  obtain ⟨h94, hl⟩ := hR
  rcases hn with ⟨i, hi, hf, hv, hw, rfl⟩ | ⟨hno, hlt, rfl⟩ | ⟨hno, hk10, rfl⟩
  · rcases hc with ⟨i', hi', hf', hv', hw', rfl, rfl, rfl, rfl⟩ | ⟨hno', -⟩ | ⟨hno', -⟩
    · have e : i = i' := by
        rcases Nat.lt_trichotomy i i' with q | q | q
        · exact absurd ⟨(hl i hi).1.symm.trans hv, (hl i hi).2.1.symm.trans hw⟩ (hf' i q)
        · exact q
        · exact absurd ⟨(hl i' hi').1.trans hv', (hl i' hi').2.1.trans hw'⟩ (hf i' q)
      subst e
      refine ⟨(pk_un (by omega)).trans h94, fun j hj => ?_⟩
      obtain ⟨q1, q2, q3⟩ := hl j hj
      refine ⟨(pk_un (by omega)).trans q1, (pk_un (by omega)).trans q2, ?_⟩
      by_cases e : j = i
      · subst e
        rw [pk_us, pk_us, q3]
      · rw [pk_un (by omega), pk_un e]
        exact q3
    · exact absurd ⟨(hl i hi).1.symm.trans hv, (hl i hi).2.1.symm.trans hw⟩ (hno' i hi)
    · exact absurd ⟨(hl i hi).1.symm.trans hv, (hl i hi).2.1.symm.trans hw⟩ (hno' i hi)
  · rcases hc with ⟨i', hi', hf', hv', hw', -⟩ | ⟨-, -, rfl, rfl, rfl, rfl⟩ | ⟨-, e, -⟩
    · exact absurd ⟨(hl i' hi').1.trans hv', (hl i' hi').2.1.trans hw'⟩ (hno i' hi')
    · refine ⟨pk_us, fun j hj => ?_⟩
      rw [pk_un (show 95 + j ≠ 94 by omega), pk_un (show 95 + j ≠ 115 + k by omega), pk_un (show 95 + j ≠ 105 + k by omega), pk_un (show 105 + j ≠ 94 by omega), pk_un (show 105 + j ≠ 115 + k by omega), pk_un (show 115 + j ≠ 94 by omega)]
      by_cases e : j = k
      · subst e
        rw [pk_us, pk_us, pk_us, pk_us, pk_us, pk_us]
        exact ⟨rfl, rfl, rfl⟩
      · obtain ⟨q1, q2, q3⟩ := hl j (by omega)
        rw [pk_un (show 95 + j ≠ 95 + k by omega), pk_un (show 105 + j ≠ 105 + k by omega), pk_un (show 105 + j ≠ 95 + k by omega), pk_un (show 115 + j ≠ 115 + k by omega), pk_un (show 115 + j ≠ 105 + k by omega), pk_un (show 115 + j ≠ 95 + k by omega), pk_un e, pk_un e, pk_un e]
        exact ⟨q1, q2, q3⟩
    · omega
  · rcases hc with ⟨i', hi', hf', hv', hw', -⟩ | ⟨-, hlt, -⟩ | ⟨-, -, rfl, rfl, rfl, rfl⟩
    · exact absurd ⟨(hl i' hi').1.trans hv', (hl i' hi').2.1.trans hw'⟩ (hno i' hi')
    · omega
    · refine ⟨pk_us, fun j hj => ?_⟩
      rw [pk_un (show 95 + j ≠ 94 by omega), pk_un (show 95 + j ≠ 115 + 9 by omega), pk_un (show 95 + j ≠ 105 + 9 by omega), pk_un (show 105 + j ≠ 94 by omega), pk_un (show 105 + j ≠ 115 + 9 by omega), pk_un (show 115 + j ≠ 94 by omega)]
      by_cases e : j = 9
      · subst e
        rw [pk_us, pk_us, pk_us, pk_us, pk_us, pk_us]
        exact ⟨rfl, rfl, rfl⟩
      · obtain ⟨q1, q2, q3⟩ := hl (j + 1) (by omega)
        have es : ∀ h : Nat → Int32, shl h 10 j = h (j + 1) := fun h => if_pos (by omega)
        rw [pk_un (show 95 + j ≠ 95 + 9 by omega), pk_un (show 105 + j ≠ 105 + 9 by omega), pk_un (show 105 + j ≠ 95 + 9 by omega), pk_un (show 115 + j ≠ 115 + 9 by omega), pk_un (show 115 + j ≠ 105 + 9 by omega), pk_un (show 115 + j ≠ 95 + 9 by omega), pk_un e, pk_un e, pk_un e, sh3_in (by omega), sh3_in (by omega), sh3_in (by omega), pk_un (by omega), pk_un (by omega), pk_un (by omega), es, es, es]
        exact ⟨q1, q2, q3⟩
theorem bST_le {x : ST} (h : bST x) : s_nd x ≤ 9 ∧ s_ns x ≤ 41 ∧ s_tn x ≤ 41 ∧ s_k x ≤ 10 := by
  obtain ⟨nd, df, ns, zf, tn, tf, k, f, g, cn, tol, suc, fai⟩ := x
  exact h
theorem bST_of {x : ST} (h1 : s_nd x ≤ 9) (h2 : s_ns x ≤ 41) (h3 : s_tn x ≤ 41) (h4 : s_k x ≤ 10) : bST x := by
  obtain ⟨nd, df, ns, zf, tn, tf, k, f, g, cn, tol, suc, fai⟩ := x
  exact ⟨h1, h2, h3, h4⟩
theorem RC_of {x x1 : ST} {r : Int32} (h : RC x x1 r) : r = resF (s_tn x) (s_tf x) (s_tol x) ∧ s_nd x1 = s_nd x ∧ s_df x1 = s_df x ∧ s_ns x1 = s_ns x ∧ s_zf x1 = s_zf x ∧ s_tn x1 = s_tn x ∧ s_tf x1 = s_tf x ∧ s_tol x1 = s_tol x ∧
    ((hsF r = 1 ∧ s_suc x1 = s_suc x + 1 ∧ s_fai x1 = s_fai x ∧ cntR (s_k x) (s_f x) (s_g x) (s_c x) (numR (s_tn x) (s_tf x) r) (nI (dgc (s_tn x))) (s_k x1) (s_f x1) (s_g x1) (s_c x1)) ∨ (hsF r = 0 ∧ s_suc x1 = s_suc x ∧ s_fai x1 = s_fai x + 1 ∧ s_k x1 = s_k x ∧ s_f x1 = s_f x ∧ s_g x1 = s_g x ∧ s_c x1 = s_c x)) := by
  obtain ⟨nd, df, ns, zf, tn, tf, k, f, g, cn, tol, suc, fai⟩ := x
  obtain ⟨nd1, df1, ns1, zf1, tn1, tf1, k1, f1, g1, cn1, tol1, suc1, fai1⟩ := x1
  exact h
theorem cntR_k {k k1 : Nat} {f g cn f1 g1 cn1 : Nat → Int32} {z w : Int32} (hc : cntR k f g cn z w k1 f1 g1 cn1) (h : k ≤ 10) : k1 ≤ 10 := by
  rcases hc with ⟨i, hi, -, -, -, rfl, -⟩ | ⟨-, hlt, rfl, -⟩ | ⟨-, -, rfl, -⟩ <;> omega
theorem RC_b {x x1 : ST} {r : Int32} (h : RC x x1 r) (hb : bST x) : bST x1 := by
  obtain ⟨b1, b2, b3, b4⟩ := bST_le hb
  obtain ⟨-, e1, -, e3, -, e5, -, -, hc⟩ := RC_of h
  refine bST_of (by rw [e1]; exact b1) (by rw [e3]; exact b2) (by rw [e5]; exact b3) ?_
  rcases hc with ⟨-, -, -, hc⟩ | ⟨-, -, -, e, -⟩
  · exact cntR_k hc b4
  · rw [e]; exact b4
theorem RS_fail {x x1 : ST} {r : Int32} {sf : Nat → Int32} (hR : RS x sf) (hb : bST x) (h : RC x x1 r) (hr : ¬ r ≤ 0) : RS x1 (upd sf 126 (s_fai x + 1)) ∧ hiEq (upd sf 126 (s_fai x + 1)) sf := by
  obtain ⟨b1, b2, b3, b4⟩ := bST_le hb
  obtain ⟨e0, e1, e2, e3, e4, e5, e6, e7, hc⟩ := RC_of h
  obtain ⟨q0, q1, q2, q3, q4, q5, ⟨q6, q7⟩, q8, q9⟩ := hR
  have hs : hsF r = 0 := by
    have := res_sg (s_tn x) (s_tf x) (s_tol x)
    rw [← e0] at this
    rcases this with w | w
    · exact absurd w.1 hr
    · exact w.2
  rcases hc with ⟨w, -⟩ | ⟨-, f1, f2, f3, f4, f5, f6⟩
  · rw [hs] at w
    exact absurd w (by decide)
  · refine ⟨?_, fun j hj => pk_un (by omega)⟩
    unfold RS RSL
    rw [e1, e2, e3, e4, e5, e6, e7, f1, f2, f3, f4, f5, f6, pk_us]
    refine ⟨(pk_un (by omega)).trans q0, fun j hj => (pk_un (by omega)).trans (q1 j hj), fun j hj => (pk_un (by omega)).trans (q2 j hj), (pk_un (by omega)).trans q3, fun j hj => (pk_un (by omega)).trans (q4 j hj), (pk_un (by omega)).trans q5, ⟨(pk_un (by omega)).trans q6, fun j hj => ?_⟩, (pk_un (by omega)).trans q8, rfl⟩
    rw [pk_un (by omega), pk_un (by omega), pk_un (by omega)]
    exact q7 j hj
theorem RS_note {x x1 : ST} {r v w : Int32} {sf sg : Nat → Int32} (hR : RS x sf) (hb : bST x) (h : RC x x1 r) (hr : r ≤ 0) (hv : v = numR (s_tn x) (s_tf x) r) (hw : w = nI (dgc (s_tn x))) (hn : NT (upd sf 125 (s_suc x + 1)) sg (s_k x) v w) : RS x1 sg ∧ hiEq sg sf := by
  obtain ⟨b1, b2, b3, b4⟩ := bST_le hb
  obtain ⟨e0, e1, e2, e3, e4, e5, e6, e7, hc⟩ := RC_of h
  obtain ⟨q0, q1, q2, q3, q4, q5, ⟨q6, q7⟩, q8, q9⟩ := hR
  have ho : ∀ j, j < 94 ∨ 126 ≤ j → sg j = sf j := fun j hj => (NT_out hn b4 (by omega)).trans (pk_un (by omega))
  have hs : hsF r = 1 := by
    have := res_sg (s_tn x) (s_tf x) (s_tol x)
    rw [← e0] at this
    rcases this with w | w
    · exact w.2.1
    · exact absurd w.1 (Int32.not_lt.mpr hr)
  rcases hc with ⟨-, f1, f2, hc⟩ | ⟨w, -⟩
  · rw [← hv, ← hw] at hc
    have hl := note_l (sf := upd sf 125 (s_suc x + 1)) (f := s_f x) (g := s_g x) (c := s_c x) ⟨(pk_un (by omega)).trans q6, fun j hj => by
      rw [pk_un (by omega), pk_un (by omega), pk_un (by omega)]
      exact q7 j hj⟩ b4 hn hc
    refine ⟨?_, fun j hj => ho j (by omega)⟩
    unfold RS
    rw [e1, e2, e3, e4, e5, e6, e7, f1, f2]
    refine ⟨(ho _ (by omega)).trans q0, fun j hj => (ho _ (by omega)).trans (q1 j hj), fun j hj => (ho _ (by omega)).trans (q2 j hj), (ho _ (by omega)).trans q3, fun j hj => (ho _ (by omega)).trans (q4 j hj), (ho _ (by omega)).trans q5, hl, (NT_out hn b4 (by omega)).trans pk_us, (ho _ (by omega)).trans q9⟩
  · rw [hs] at w
    exact absurd w (by decide)
theorem rl_num {n : Nat} {f tf fd : Nat → Int32} {r : Int32} (hf : ∀ j, j < n → f j = tf j) (hn : n ≤ 41) (h : ∀ m, m < dgc n → fd m = nrD n (lnF n f (if r = 0 then 0 else 1)) m) : numF fd (dgc n) = numR n tf r := by
  unfold numR
  rw [← lnF_congr hf hn]
  exact numF_congr h

