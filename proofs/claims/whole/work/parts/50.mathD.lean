
/-! ===== blocks of the reference's cells ===== -/
/-- the first i cells of block a, over block b -/
def cpB (f : Nat → Int32) (a b i : Nat) : Nat → Int32 := fun j => if 127 * b ≤ j ∧ j < 127 * b + i then f (127 * a + (j - 127 * b)) else f j
theorem cpB_0 (f : Nat → Int32) (a b : Nat) : cpB f a b 0 = f := by
  funext j
  unfold cpB
  rw [if_neg (by omega)]
theorem cpB_no {f : Nat → Int32} {a b i j : Nat} (h : ¬ (127 * b ≤ j ∧ j < 127 * b + i)) : cpB f a b i j = f j := if_neg h
theorem cpB_in {f : Nat → Int32} {a b i j : Nat} (h : j < i) : cpB f a b i (127 * b + j) = f (127 * a + j) := by
  unfold cpB
  rw [if_pos (by omega), show 127 * b + j - 127 * b = j from by omega]
theorem cpB_rd {f : Nat → Int32} {a b i : Nat} (h : i < 127) : cpB f a b i (127 * a + i) = f (127 * a + i) := cpB_no (by omega)
theorem cpB_s {f : Nat → Int32} {a b i : Nat} (h : i < 127) : upd (cpB f a b i) (127 * b + i) (f (127 * a + i)) = cpB f a b (i + 1) := by
  funext j
  by_cases hj : j = 127 * b + i
  · rw [hj, pk_us, cpB_in (by omega)]
  · rw [pk_un hj]
    by_cases h2 : 127 * b ≤ j ∧ j < 127 * b + i
    · rw [show j = 127 * b + (j - 127 * b) from by omega, cpB_in (by omega), cpB_in (by omega)]
    · rw [cpB_no h2, cpB_no (by omega)]
/-- the state is saved -/
def svM (kp : Nat) (sf : Nat → Int32) : Nat → Int32 := if kp = 6 then cpB (cpB (cpB (cpB (cpB (cpB sf 2 1 127) 3 2 127) 4 3 127) 5 4 127) 6 5 127) 0 6 127 else cpB sf 0 (kp + 1) 127
theorem svM_lo {kp : Nat} {sf : Nat → Int32} {j : Nat} (hj : j < 127) : svM kp sf j = sf j := by
  unfold svM
  by_cases h : kp = 6
  · rw [if_pos h, cpB_no (by omega), cpB_no (by omega), cpB_no (by omega), cpB_no (by omega), cpB_no (by omega), cpB_no (by omega)]
  · rw [if_neg h, cpB_no (by omega)]
theorem svM_new {kp : Nat} {sf : Nat → Int32} {j : Nat} (hk : kp ≤ 6) (hj : j < 127) : svM kp sf (127 * min (kp + 1) 6 + j) = sf j := by
  unfold svM
  by_cases h : kp = 6
  · rw [if_pos h, show min (kp + 1) 6 = 6 from by omega, cpB_in hj, cpB_no (by omega), cpB_no (by omega), cpB_no (by omega), cpB_no (by omega), cpB_no (by omega)]
    exact congrArg sf (by omega)
  · rw [if_neg h, show min (kp + 1) 6 = kp + 1 from by omega, cpB_in hj]
    exact congrArg sf (by omega)
theorem svM_old {kp t : Nat} {sf : Nat → Int32} {j : Nat} (hk : kp < 6) (ht : t ≤ kp) (hj : j < 127) : svM kp sf (127 * t + j) = sf (127 * t + j) := by
  unfold svM
  rw [if_neg (by omega), cpB_no (by omega)]
theorem svM_old6 {t : Nat} {sf : Nat → Int32} {j : Nat} (h1 : 1 ≤ t) (ht : t ≤ 5) (hj : j < 127) : svM 6 sf (127 * t + j) = sf (127 * (t + 1) + j) := by
  unfold svM
  rw [if_pos rfl, cpB_no (by omega)]
  rcases (show t = 1 ∨ t = 2 ∨ t = 3 ∨ t = 4 ∨ t = 5 by omega) with rfl | rfl | rfl | rfl | rfl
  · rw [cpB_no (by omega), cpB_no (by omega), cpB_no (by omega), cpB_no (by omega), cpB_in hj]
  · rw [cpB_no (by omega), cpB_no (by omega), cpB_no (by omega), cpB_in hj, cpB_no (by omega)]
  · rw [cpB_no (by omega), cpB_no (by omega), cpB_in hj, cpB_no (by omega), cpB_no (by omega)]
  · rw [cpB_no (by omega), cpB_in hj, cpB_no (by omega), cpB_no (by omega), cpB_no (by omega)]
  · rw [cpB_in hj, cpB_no (by omega), cpB_no (by omega), cpB_no (by omega), cpB_no (by omega)]
theorem RS_lo {x : ST} {f g : Nat → Int32} (hb : bST x) (hg : ∀ j, j < 127 → g j = f j) (h : RS x f) : RS x g := by
  obtain ⟨b1, b2, b3, b4⟩ := bST_le hb
  obtain ⟨q0, q1, q2, q3, q4, q5, ⟨q6, q7⟩, q8, q9⟩ := h
  exact ⟨(hg _ (by omega)).trans q0, fun j hj => (hg _ (by omega)).trans (q1 j hj), fun j hj => (hg _ (by omega)).trans (q2 j hj), (hg _ (by omega)).trans q3, fun j hj => (hg _ (by omega)).trans (q4 j hj), (hg _ (by omega)).trans q5, ⟨(hg _ (by omega)).trans q6, fun j hj => ⟨(hg _ (by omega)).trans (q7 j hj).1, (hg _ (by omega)).trans (q7 j hj).2.1, (hg _ (by omega)).trans (q7 j hj).2.2⟩⟩, (hg _ (by omega)).trans q8, (hg _ (by omega)).trans q9⟩
theorem RS_sv {x : ST} {kp : Nat} {f : Nat → Int32} (hb : bST x) (h : RS x f) : RS x (svM kp f) := RS_lo hb (fun _ hj => svM_lo hj) h
/-! ===== labels ===== -/
def labW (x : ST) : Prop := s_ns x = lnN (s_nd x) ∧ ∀ j, j < s_nd x → ∃ d, d ≤ 9 ∧ s_df x j = nI d
theorem csum_nI {g : Nat → Int32} {j : Nat} (h : ∀ m, m < j → ∃ d, d ≤ 9 ∧ g m = nI d) : ∀ i, i ≤ j → ∃ s, s ≤ 27 * i ∧ csum g j i = nI s := by
  intro i
  induction i with
  | zero => intro _; exact ⟨0, by omega, rfl⟩
  | succ i ih =>
    intro hi
    obtain ⟨s, hs, e⟩ := ih (by omega)
    obtain ⟨d, hd, e2⟩ := h (j - 1 - i) (by omega)
    by_cases h2 : i % 2 = 0
    · refine ⟨s + 3 * d, by omega, ?_⟩
      show csum g j i + wt i * g (j - 1 - i) = _
      rw [e, e2, wt_eq, if_pos h2, show (3 : Int32) = nI 3 from rfl, pk_mul, nI_add]
    · refine ⟨s + d, by omega, ?_⟩
      show csum g j i + wt i * g (j - 1 - i) = _
      rw [e, e2, wt_eq, if_neg h2, Int32.one_mul, nI_add]
theorem chk_rem : ∀ s, s ≤ 243 → rem10 (nI s + chkd (nI s)) = 0 := by decide +kernel
theorem chk_rng : ∀ s, s ≤ 243 → ¬ chkd (nI s) < 0 ∧ chkd (nI s) ≤ 9 := by decide +kernel
theorem rs_nI {n : Nat} (hn : n < 2 ^ 31) : ∀ i, rs (nI n) i = nI (n / 10 ^ i) := by
  intro i
  induction i with
  | zero => show nI n = _; rw [Nat.pow_zero, Nat.div_one]
  | succ i ih =>
    have h : n / 10 ^ i < 2 ^ 31 := Nat.lt_of_le_of_lt (Nat.div_le_self _ _) hn
    show rs (nI n) i / 10 = _
    rw [ih, show (10 : Int32) = nI 10 from rfl, pk_div h (by decide) (by decide), Nat.div_div_eq_div_mul]
    rfl
theorem rem10_nI {n : Nat} (hn : n < 2 ^ 31) : rem10 (nI n) = nI (n % 10) := pk_rem (d := 10) hn (by decide) (by decide)
theorem dg_nI {n : Nat} (hn : n < 2 ^ 31) (i : Nat) : rem10 (rs (nI n) i) = nI (n / 10 ^ i % 10) := by
  rw [rs_nI hn, rem10_nI (Nat.lt_of_le_of_lt (Nat.div_le_self _ _) hn)]
/-- the digits of a label that is printed -/
def lbD (n j : Nat) (df : Nat → Int32) : Nat → Int32 := upd (dgs (nI n) 0 j (fun x => if x < j + 1 then 0 else df x) j) j (chkd (csum (dgs (nI n) 0 j (fun x => if x < j + 1 then 0 else df x) j) j j))
theorem lbD_lt {n j m : Nat} {df : Nat → Int32} (hn : n < 2 ^ 31) (h : m < j) : lbD n j df m = nI (n / 10 ^ (j - 1 - m) % 10) := by
  unfold lbD
  rw [pk_un (by omega), show m = 0 + m from (Nat.zero_add m).symm, dgs_at h, dg_nI hn, Nat.zero_add]
theorem lbD_9 {n j m : Nat} {df : Nat → Int32} (hn : n < 2 ^ 31) (h : m < j) : ∃ d, d ≤ 9 ∧ lbD n j df m = nI d := ⟨_, by omega, lbD_lt hn h⟩
theorem lbD_j {n j : Nat} {df : Nat → Int32} : lbD n j df j = chkd (csum (lbD n j df) j j) := by
  have e : csum (lbD n j df) j j = csum (dgs (nI n) 0 j (fun x => if x < j + 1 then 0 else df x) j) j j := csum_congr (fun m hm => pk_un (by omega)) j (Nat.le_refl j)
  rw [e]
  exact pk_us
theorem lbD_all {n j : Nat} {df : Nat → Int32} (hn : n < 2 ^ 31) (hj : j ≤ 8) (m : Nat) (h : m < j + 1) : ∃ d, d ≤ 9 ∧ lbD n j df m = nI d := by
  by_cases e : m = j
  · subst e
    obtain ⟨s, hs, e2⟩ := csum_nI (g := lbD n m df) (fun q hq => lbD_9 hn hq) m (Nat.le_refl _)
    rw [lbD_j, e2]
    have hc := chk_rng s (by omega)
    exact nI_of2 (M := 9) (n := 9) (by decide) hc.1 hc.2
  · exact lbD_9 hn (by omega)
theorem setP_k {n j : Nat} {x : ST} : s_nd (setP (nI n) j x) = j + 1 ∧ s_df (setP (nI n) j x) = lbD n j (s_df x) ∧ s_ns (setP (nI n) j x) = 4 * j + 9 ∧ (∀ m, m < 4 * j + 9 → s_zf (setP (nI n) j x) m = 0) ∧ s_tol (setP (nI n) j x) = s_tol x ∧ s_tn (setP (nI n) j x) = s_tn x ∧ s_tf (setP (nI n) j x) = s_tf x := by
  obtain ⟨nd, df, ns, zf, tn, tf, k, f, g, cn, tol, suc, fai⟩ := x
  exact ⟨rfl, rfl, rfl, fun m hm => if_pos hm, rfl, rfl, rfl⟩
def zrM (f : Nat → Int32) (i : Nat) : Nat → Int32 := fun x => if 10 ≤ x ∧ x < 10 + i then 0 else f x
theorem zr_0 (f : Nat → Int32) : zrM f 0 = f := by
  funext x
  unfold zrM
  rw [if_neg (by omega)]
theorem zr_s (f : Nat → Int32) (i : Nat) : upd (zrM f i) (10 + i) 0 = zrM f (i + 1) := by
  funext x
  unfold upd zrM
  by_cases hx : x = 10 + i
  · rw [if_pos hx, if_pos (by omega)]
  · rw [if_neg hx]
    by_cases h2 : 10 ≤ x ∧ x < 10 + i
    · rw [if_pos h2, if_pos (by omega)]
    · rw [if_neg h2, if_neg (by omega)]
theorem zr_no {f : Nat → Int32} {i x : Nat} (h : ¬ (10 ≤ x ∧ x < 10 + i)) : zrM f i x = f x := if_neg h
theorem setP_of (d : Int32) (j : Nat) (x : ST) : s_nd (setP d j x) = j + 1 ∧ s_ns (setP d j x) = 4 * j + 9 ∧ (∀ m, m < 4 * j + 9 → s_zf (setP d j x) m = 0) ∧ (∀ m, m < j → s_df (setP d j x) m = rem10 (rs d (j - 1 - m))) ∧ s_df (setP d j x) j = chkd (cS d j) ∧ s_tn (setP d j x) = s_tn x ∧ s_tf (setP d j x) = s_tf x ∧ s_tol (setP d j x) = s_tol x ∧ s_k (setP d j x) = s_k x ∧ s_f (setP d j x) = s_f x ∧ s_g (setP d j x) = s_g x ∧ s_c (setP d j x) = s_c x ∧ s_suc (setP d j x) = s_suc x ∧ s_fai (setP d j x) = s_fai x := by
  obtain ⟨nd, df, ns, zf, tn, tf, k, f, g, cn, tol, suc, fai⟩ := x
  refine ⟨rfl, rfl, fun m hm => if_pos hm, fun m hm => ?_, ?_, rfl, rfl, rfl, rfl, rfl, rfl, rfl, rfl, rfl⟩
  · refine (pk_un (Nat.ne_of_lt hm)).trans ?_
    have h := dgs_at (d := d) (o := 0) (j := j) (f := fun x => if x < j + 1 then 0 else df x) hm
    rw [Nat.zero_add] at h
    exact h
  · exact pk_us.trans chk_cS
theorem RS_print {x : ST} {d : Int32} {j : Nat} {sf : Nat → Int32} (hb : bST x) (hR : RS x sf) (h8 : j ≤ 8) : RS (setP d j x) (zrM (upd (upd (dgs d 1 j sf j) (1 + j) (chkd (cS d j))) 0 (nI (j + 1))) 41) ∧ hiEq (zrM (upd (upd (dgs d 1 j sf j) (1 + j) (chkd (cS d j))) 0 (nI (j + 1))) 41) sf := by
  obtain ⟨b1, b2, b3, b4⟩ := bST_le hb
  obtain ⟨q0, q1, q2, q3, q4, q5, ⟨q6, q7⟩, q8, q9⟩ := hR
  obtain ⟨e1, e2, e3, e4, e5, e6, e7, e8, e9, e10, e11, e12, e13, e14⟩ := setP_of d j x
  have ho : ∀ m, 51 ≤ m → zrM (upd (upd (dgs d 1 j sf j) (1 + j) (chkd (cS d j))) 0 (nI (j + 1))) 41 m = sf m := fun m hm => by
    rw [zr_no (by omega), pk_un (by omega), pk_un (by omega)]
    exact if_neg (by omega)
  refine ⟨?_, fun m hm => ho m (by omega)⟩
  unfold RS RSL
  rw [e1, e2, e6, e7, e8, e9, e10, e11, e12, e13, e14]
  refine ⟨?_, fun m hm => ?_, fun m hm => ?_, (ho _ (by omega)).trans q3, fun m hm => (ho _ (by omega)).trans (q4 m hm), (ho _ (by omega)).trans q5, ⟨(ho _ (by omega)).trans q6, fun m hm => ⟨(ho _ (by omega)).trans (q7 m hm).1, (ho _ (by omega)).trans (q7 m hm).2.1, (ho _ (by omega)).trans (q7 m hm).2.2⟩⟩, (ho _ (by omega)).trans q8, (ho _ (by omega)).trans q9⟩
  · rw [zr_no (by omega), pk_us]
  · rw [zr_no (by omega), pk_un (by omega)]
    by_cases e : m = j
    · subst e
      rw [pk_us]
      exact e5.symm
    · rw [pk_un (by omega), dgs_at (by omega)]
      exact (e4 m (by omega)).symm
  · rw [e3 m hm]
    exact if_pos (by omega)
theorem setP_ok {x : ST} {d : Int32} {j : Nat} (hb : bST x) (h0 : ¬ d < 0) (h1 : 1 ≤ j) (h8 : j ≤ 8) : bST (setP d j x) ∧ labW (setP d j x) := by
  obtain ⟨b1, b2, b3, b4⟩ := bST_le hb
  obtain ⟨n, hn, rfl⟩ := nI_of h0
  obtain ⟨e1, e2, e3, e4, e5, e6, e7, e8, e9, e10, e11, e12, e13, e14⟩ := setP_of (nI n) j x
  refine ⟨bST_of (by rw [e1]; omega) (by rw [e2]; omega) (by rw [e6]; exact b3) (by rw [e9]; exact b4), ?_, ?_⟩
  · rw [e1, e2, lnN_1 (by omega)]
    omega
  · intro m hm
    rw [e1] at hm
    have := lbD_all (df := s_df x) hn h8 m hm
    rw [(setP_k (n := n) (j := j) (x := x)).2.1]
    exact this
/-! ===== ranges ===== -/
theorem rg_1 {v lo hi : Int32} (h : ¬ v < lo ∧ v ≤ hi) : ¬ v < lo ∧ ¬ hi < v := ⟨h.1, Int32.not_lt.mpr h.2⟩
theorem rg_0 {v lo hi : Int32} (h : ¬ (¬ v < lo ∧ v ≤ hi)) : v < lo ∨ hi < v := by
  by_cases h0 : v < lo
  · exact Or.inl h0
  · by_cases h1 : hi < v
    · exact Or.inr h1
    · exact absurd ⟨h0, Int32.not_lt.mp h1⟩ h
theorem rg_n {i lo hi : Int32} (h : i < lo ∨ hi < i) : ¬ (¬ i < lo ∧ i ≤ hi) := fun hk => h.elim hk.1 (fun a => by
  have h2 := hk.2
  rw [fa_lt] at a
  rw [fa_le] at h2
  omega)
theorem isp1 {z : Int32} {i : Nat} (hi : i ≤ 8) (hlt : ∀ m, m < i → ¬ z ≤ nI m) (h : z ≤ nI i ∨ (8 : Int32) ≤ nI i) (j : Nat) (hj : j ≤ 8) (hz : z = nI j) : j = i := by
  rcases Nat.lt_trichotomy j i with q | q | q
  · exact absurd (by rw [hz]; exact nI_le (Nat.le_refl j) (by omega)) (hlt j q)
  · exact q
  · rcases h with h | h
    · rw [hz] at h
      exact absurd h (nI_ge q (by omega))
    · exact absurd h (nI_ge (b := 8) (by omega) (by omega))
theorem tS_all {d : Int32} {j : Nat} {g : Nat → Int32} (hg : ∀ x, x < j → g x = rem10 (rs d (j - 1 - x))) : csum g j j = cS d j := csum_dgs (f := g) (fun x hx => by
  rw [dgs_at hx]
  exact hg x hx) j (Nat.le_refl j)

