
/-! ===== what the calls of the reference leave ===== -/
theorem setT_of (n : Nat) (h : Nat → Int32) (x : ST) : s_nd (setT n h x) = s_nd x ∧ s_df (setT n h x) = s_df x ∧ s_ns (setT n h x) = s_ns x ∧ s_zf (setT n h x) = s_zf x ∧ s_tn (setT n h x) = n ∧ s_tf (setT n h x) = h ∧ s_tol (setT n h x) = s_tol x ∧ s_k (setT n h x) = s_k x ∧ s_f (setT n h x) = s_f x ∧ s_g (setT n h x) = s_g x ∧ s_c (setT n h x) = s_c x ∧ s_suc (setT n h x) = s_suc x ∧ s_fai (setT n h x) = s_fai x := by
  obtain ⟨nd, df, ns, zf, tn, tf, k, f, g, cn, tol, suc, fai⟩ := x
  exact ⟨rfl, rfl, rfl, rfl, rfl, rfl, rfl, rfl, rfl, rfl, rfl, rfl, rfl⟩
theorem setZ_of (e : Nat) (t : Int32) (x : ST) : s_nd (setZ e t x) = s_nd x ∧ s_df (setZ e t x) = s_df x ∧ s_ns (setZ e t x) = s_ns x ∧ s_zf (setZ e t x) = upd (s_zf x) e t ∧ s_tn (setZ e t x) = s_tn x ∧ s_tf (setZ e t x) = s_tf x ∧ s_tol (setZ e t x) = s_tol x ∧ s_k (setZ e t x) = s_k x ∧ s_f (setZ e t x) = s_f x ∧ s_g (setZ e t x) = s_g x ∧ s_c (setZ e t x) = s_c x ∧ s_suc (setZ e t x) = s_suc x ∧ s_fai (setZ e t x) = s_fai x := by
  obtain ⟨nd, df, ns, zf, tn, tf, k, f, g, cn, tol, suc, fai⟩ := x
  exact ⟨rfl, rfl, rfl, rfl, rfl, rfl, rfl, rfl, rfl, rfl, rfl, rfl, rfl⟩
theorem setL_of (t : Int32) (x : ST) : s_nd (setL t x) = s_nd x ∧ s_df (setL t x) = s_df x ∧ s_ns (setL t x) = s_ns x ∧ s_zf (setL t x) = s_zf x ∧ s_tn (setL t x) = s_tn x ∧ s_tf (setL t x) = s_tf x ∧ s_tol (setL t x) = t ∧ s_k (setL t x) = s_k x ∧ s_f (setL t x) = s_f x ∧ s_g (setL t x) = s_g x ∧ s_c (setL t x) = s_c x ∧ s_suc (setL t x) = s_suc x ∧ s_fai (setL t x) = s_fai x := by
  obtain ⟨nd, df, ns, zf, tn, tf, k, f, g, cn, tol, suc, fai⟩ := x
  exact ⟨rfl, rfl, rfl, rfl, rfl, rfl, rfl, rfl, rfl, rfl, rfl, rfl, rfl⟩
/-- other times, in the reference's cells -/
theorem RS_times {x : ST} {sf sg h : Nat → Int32} {n : Nat} (hb : bST x) (hR : RS x sf) (hn : n ≤ 41) (ho : ∀ j, j < 51 ∨ 93 ≤ j → sg j = sf j) (h51 : sg 51 = nI n) (ht : ∀ j, j < n → sg (52 + j) = h j) : RS (setT n h x) sg ∧ hiEq sg sf := by
  obtain ⟨b1, b2, b3, b4⟩ := bST_le hb
  obtain ⟨q0, q1, q2, q3, q4, q5, ⟨q6, q7⟩, q8, q9⟩ := hR
  obtain ⟨e1, e2, e3, e4, e5, e6, e7, e8, e9, e10, e11, e12, e13⟩ := setT_of n h x
  refine ⟨?_, fun m hm => ho m (by omega)⟩
  unfold RS RSL
  rw [e1, e2, e3, e4, e5, e6, e7, e8, e9, e10, e11, e12, e13]
  exact ⟨(ho _ (by omega)).trans q0, fun m hm => (ho _ (by omega)).trans (q1 m hm), fun m hm => (ho _ (by omega)).trans (q2 m hm), h51, ht, (ho _ (by omega)).trans q5, ⟨(ho _ (by omega)).trans q6, fun m hm => ⟨(ho _ (by omega)).trans (q7 m hm).1, (ho _ (by omega)).trans (q7 m hm).2.1, (ho _ (by omega)).trans (q7 m hm).2.2⟩⟩, (ho _ (by omega)).trans q8, (ho _ (by omega)).trans q9⟩
theorem setT_b {n : Nat} {h : Nat → Int32} {x : ST} (hb : bST x) (hn : n ≤ 41) : bST (setT n h x) := by
  obtain ⟨b1, b2, b3, b4⟩ := bST_le hb
  obtain ⟨e1, e2, e3, e4, e5, e6, e7, e8, e9, e10, e11, e12, e13⟩ := setT_of n h x
  exact bST_of (by rw [e1]; exact b1) (by rw [e3]; exact b2) (by rw [e5]; exact hn) (by rw [e8]; exact b4)
theorem RS_clear {x : ST} {sf : Nat → Int32} (hb : bST x) (hR : RS x sf) : RS (setT 0 (s_tf x) x) (upd sf 51 0) ∧ hiEq (upd sf 51 0) sf := RS_times hb hR (Nat.zero_le _) (fun j hj => pk_un (by omega)) pk_us (fun j hj => absurd hj (Nat.not_lt_zero j))
theorem RS_measure {x : ST} {sf : Nat → Int32} {t : Int32} (hb : bST x) (hR : RS x sf) (hn : s_tn x < 41) : RS (setT (s_tn x + 1) (upd (s_tf x) (s_tn x) t) x) (upd (upd sf (52 + s_tn x) t) 51 (nI (s_tn x + 1))) ∧ hiEq (upd (upd sf (52 + s_tn x) t) 51 (nI (s_tn x + 1))) sf := by
  refine RS_times hb hR (by omega) (fun j hj => by rw [pk_un (by omega), pk_un (by omega)]) pk_us (fun j hj => ?_)
  rw [pk_un (by omega)]
  by_cases e : j = s_tn x
  · rw [e, pk_us, pk_us]
  · rw [pk_un (by omega), pk_un e]
    exact hR.2.2.2.2.1 j (by omega)
theorem RS_tol {x : ST} {sf : Nat → Int32} {t : Int32} (hb : bST x) (hR : RS x sf) : RS (setL t x) (upd sf 93 t) ∧ hiEq (upd sf 93 t) sf := by
  obtain ⟨b1, b2, b3, b4⟩ := bST_le hb
  obtain ⟨q0, q1, q2, q3, q4, q5, ⟨q6, q7⟩, q8, q9⟩ := hR
  obtain ⟨e1, e2, e3, e4, e5, e6, e7, e8, e9, e10, e11, e12, e13⟩ := setL_of t x
  have ho : ∀ j, j ≠ 93 → upd sf 93 t j = sf j := fun j hj => pk_un hj
  refine ⟨?_, fun m hm => ho m (by omega)⟩
  unfold RS RSL
  rw [e1, e2, e3, e4, e5, e6, e7, e8, e9, e10, e11, e12, e13]
  exact ⟨(ho _ (by omega)).trans q0, fun m hm => (ho _ (by omega)).trans (q1 m hm), fun m hm => (ho _ (by omega)).trans (q2 m hm), (ho _ (by omega)).trans q3, fun m hm => (ho _ (by omega)).trans (q4 m hm), pk_us, ⟨(ho _ (by omega)).trans q6, fun m hm => ⟨(ho _ (by omega)).trans (q7 m hm).1, (ho _ (by omega)).trans (q7 m hm).2.1, (ho _ (by omega)).trans (q7 m hm).2.2⟩⟩, (ho _ (by omega)).trans q8, (ho _ (by omega)).trans q9⟩
theorem RS_smudge {x : ST} {sf : Nat → Int32} {e : Nat} {t : Int32} (hb : bST x) (hR : RS x sf) (he : e < s_ns x) : RS (setZ e t x) (upd sf (10 + e) t) ∧ hiEq (upd sf (10 + e) t) sf := by
  obtain ⟨b1, b2, b3, b4⟩ := bST_le hb
  obtain ⟨q0, q1, q2, q3, q4, q5, ⟨q6, q7⟩, q8, q9⟩ := hR
  obtain ⟨e1, e2, e3, e4, e5, e6, e7, e8, e9, e10, e11, e12, e13⟩ := setZ_of e t x
  have ho : ∀ j, j < 10 ∨ 51 ≤ j → upd sf (10 + e) t j = sf j := fun j hj => pk_un (by omega)
  refine ⟨?_, fun m hm => ho m (by omega)⟩
  unfold RS RSL
  rw [e1, e2, e3, e4, e5, e6, e7, e8, e9, e10, e11, e12, e13]
  refine ⟨(ho _ (by omega)).trans q0, fun m hm => (ho _ (by omega)).trans (q1 m hm), fun m hm => ?_, (ho _ (by omega)).trans q3, fun m hm => (ho _ (by omega)).trans (q4 m hm), (ho _ (by omega)).trans q5, ⟨(ho _ (by omega)).trans q6, fun m hm => ⟨(ho _ (by omega)).trans (q7 m hm).1, (ho _ (by omega)).trans (q7 m hm).2.1, (ho _ (by omega)).trans (q7 m hm).2.2⟩⟩, (ho _ (by omega)).trans q8, (ho _ (by omega)).trans q9⟩
  by_cases h : m = e
  · rw [h, pk_us, pk_us]
  · rw [pk_un (by omega), pk_un h]
    exact q2 m hm
/-- the first i times are written -/
def drM (f lg : Nat → Int32) (i : Nat) : Nat → Int32 := fun j => if 52 ≤ j ∧ j < 52 + i then lg (j - 52) else f j
theorem drM_0 (f lg : Nat → Int32) : drM f lg 0 = f := by
  funext j
  unfold drM
  rw [if_neg (by omega)]
theorem drM_s (f lg : Nat → Int32) (i : Nat) : upd (drM f lg i) (52 + i) (lg i) = drM f lg (i + 1) := by
  funext j
  unfold upd drM
  by_cases hx : j = 52 + i
  · rw [if_pos hx, if_pos (by omega), show j - 52 = i from by omega]
  · rw [if_neg hx]
    by_cases h2 : 52 ≤ j ∧ j < 52 + i
    · rw [if_pos h2, if_pos (by omega)]
    · rw [if_neg h2, if_neg (by omega)]
theorem RS_drw {x : ST} {sf lg : Nat → Int32} {l r b : Int32} (hb : bST x) (hR : RS x sf) (hl : ∀ j, j < s_ns x → lg j = drwF (s_nd x) (s_df x) (s_ns x) (s_zf x) l r b j) : RS (setT (s_ns x) (cpy (s_drw x l r b) (s_tf x) (s_ns x)) x) (drM (upd sf 51 (nI (s_ns x))) lg (s_ns x)) ∧ hiEq (drM (upd sf 51 (nI (s_ns x))) lg (s_ns x)) sf := by
  obtain ⟨b1, b2, b3, b4⟩ := bST_le hb
  refine RS_times hb hR b2 (fun j hj => ?_) ?_ (fun j hj => ?_)
  · unfold drM
    rw [if_neg (by omega), pk_un (by omega)]
  · unfold drM
    rw [if_neg (by omega), pk_us]
  · unfold drM
    rw [if_pos (by omega), show 52 + j - 52 = j from by omega, cpy_lt hj]
    exact hl j hj
theorem hi_tr {f g h : Nat → Int32} (h1 : hiEq f g) (h2 : hiEq g h) : hiEq f h := fun j hj => (h1 j hj).trans (h2 j hj)
theorem nd_ns {x : ST} (hl : s_ns x = lnN (s_nd x)) (h : ¬ s_ns x = 0) : ¬ s_nd x = 0 := fun q => h (hl.trans (lnN_0 q))
theorem nd_ns0 {x : ST} (hl : s_ns x = lnN (s_nd x)) (h : s_ns x = 0) : s_nd x = 0 := by
  have := lnN_or (s_nd x)
  omega
theorem nI_gt0 {n : Nat} (h : ¬ n = 0) (hn : n ≤ 41) : ¬ nI n ≤ 0 := nI_nle (by omega) (by omega)
theorem per_1 {l r : Int32} (h : k_per l r) : (¬ l < 1 ∧ ¬ 50 < l) ∧ (¬ r < 1 ∧ ¬ 50 < r) := ⟨⟨h.1, h.2.1⟩, ⟨h.2.2.1, Int32.not_lt.mpr h.2.2.2⟩⟩
theorem dr_b {x x1 : ST} {l r b r0 : Int32} (hb : bST x) (h : RC (setT (s_ns x) (cpy (s_drw x l r b) (s_tf x) (s_ns x)) x) x1 r0) : bST x1 := RC_b h (setT_b hb (bST_le hb).2.1)
theorem RS_pos {x : ST} {sf : Nat → Int32} (h : RS x sf) (hx : ¬ s_nd x = 0) (hb : bST x) : ¬ sf 0 ≤ 0 := by
  rw [h.1]
  exact nI_gt0 hx (by have := (bST_le hb).1; omega)
/-- the digit that the reference finds, and the class's -/
theorem dig_y {n x : Nat} {tf lk fd : Nat → Int32} {to r r0 mf : Int32} (hf : ∀ j, j < n → lk j = tf j) (hn : n ≤ 41) (hr : r = resF n lk to) (hd : RFD n lk r mf fd) (h0 : r ≤ 0) (hx : x < dgc n) : fd x = digR n tf to x := by
  have e : resF n lk to = resF n tf to := resF_congr hf hn _
  have hq := res_sg n lk to
  rw [← hr] at hq
  rcases hq with ⟨-, h1, h2⟩ | ⟨h1, -⟩
  · obtain ⟨-, -, hh⟩ := hd h2
    have hs : ¬ hsF (resF n tf to) = 0 := by rw [← e, ← hr, h1]; decide
    rw [hh x hx]
    unfold digR
    rw [if_neg hs, if_pos hx, ← e, ← hr, ← lnF_congr hf hn]
  · exact absurd h1 (Int32.not_lt.mpr h0)
theorem dig_mf {n : Nat} {lk fd : Nat → Int32} {to r mf : Int32} (hr : r = resF n lk to) (hd : RFD n lk r mf fd) (h0 : r ≤ 0) : mf = nI (dgc n) := (hd (res_le hr h0)).1
theorem dig_n1 {n x : Nat} {tf lk : Nat → Int32} {to r : Int32} (hf : ∀ j, j < n → lk j = tf j) (hn : n ≤ 41) (hr : r = resF n lk to) (h0 : ¬ r ≤ 0) : (-1) = digR n tf to x := by
  have e : resF n lk to = resF n tf to := resF_congr hf hn _
  have hq := res_sg n lk to
  rw [← hr] at hq
  rcases hq with ⟨h1, -⟩ | ⟨-, h1⟩
  · exact absurd h1 h0
  · unfold digR
    rw [if_pos (by rw [← e, ← hr]; exact h1)]
theorem dig_n2 {n x : Nat} {tf lk : Nat → Int32} {to r : Int32} (hf : ∀ j, j < n → lk j = tf j) (hn : n ≤ 41) (hr : r = resF n lk to) (h0 : r ≤ 0) (hx : dgc n ≤ x) : (-1) = digR n tf to x := by
  have e : resF n lk to = resF n tf to := resF_congr hf hn _
  have hq := res_sg n lk to
  rw [← hr] at hq
  rcases hq with ⟨-, h1, -⟩ | ⟨h1, -⟩
  · unfold digR
    rw [if_neg (by rw [← e, ← hr, h1]; decide), if_neg (by omega)]
  · exact absurd h1 (Int32.not_lt.mpr h0)
/-- the nearest digit, of the class and of the reference -/
theorem near_eq {n x : Nat} {tf lk : Nat → Int32} (hf : ∀ j, j < n → lk j = tf j) (hn : n ≤ 41) (hx : x + 4 ≤ n) : nI (nbN (dsM n lk 0 x) 9) = (nrF (dsF (rowAt 41 (nI n) tf (nI x)) (rowAt 41 (nI n) tf (nI x + 1)) (rowAt 41 (nI n) tf (nI x + 2)) (rowAt 41 (nI n) tf (nI x + 3)) (rowAt 41 (nI n) tf (nI x) + rowAt 41 (nI n) tf (nI x + 1) + rowAt 41 (nI n) tf (nI x + 2) + rowAt 41 (nI n) tf (nI x + 3))) 0 0 10).1 := by
  have e : ∀ m, m < 4 → rowAt 41 (nI n) tf (nI (x + m)) = lnF n lk 0 (x + m) := fun m hm => by
    rw [rowAt_lt (by omega) hn (by decide), lnF_0 (by omega) hn, hf _ (by omega)]
  have e0 : rowAt 41 (nI n) tf (nI x) = lnF n lk 0 x := e 0 (by decide)
  rw [show nI x + 1 = nI (x + 1) from nI_1 x, show nI x + 2 = nI (x + 2) from nI_add x 2, show nI x + 3 = nI (x + 3) from nI_add x 3, e0, e 1 (by decide), e 2 (by decide), e 3 (by decide)]
  exact (nb_10 _).1.symm
/-- the least tolerance, step by step -/
theorem lea_s {n i : Nat} {tf lk : Nat → Int32} {r : Int32} (hf : ∀ j, j < n → lk j = tf j) (hn : n ≤ 41) (hr : r = resF n lk (nI i)) : (r ≤ 0 → ¬ hsF (resF n tf (nI i)) = 0) ∧ (¬ r ≤ 0 → hsF (resF n tf (nI i)) = 0) := by
  have e : resF n lk (nI i) = resF n tf (nI i) := resF_congr hf hn _
  have hq := res_sg n lk (nI i)
  rw [← hr] at hq
  rw [← e, ← hr]
  rcases hq with ⟨h1, h2, -⟩ | ⟨h1, h2⟩
  · exact ⟨fun _ => by rw [h2]; decide, fun q => absurd h1 q⟩
  · exact ⟨fun q => absurd h1 (Int32.not_lt.mpr q), fun _ => h2⟩
/-! ===== the greatest smudge ===== -/
/-- of the first i tenths from -9 on, the last one with which the label can be read; none: -1 -/
noncomputable def gsB (x : ST) (en : Nat) : Nat → Int32
  | 0 => (-1)
  | i + 1 => if gsR x en (nI i - 9) = 0 then nI i - 9 + 100 else gsB x en i
theorem gsB_y {x : ST} {en i : Nat} (h : gsR x en (nI i - 9) = 0) : gsB x en (i + 1) = nI i - 9 + 100 := if_pos h
theorem gsB_n {x : ST} {en i : Nat} (h : ¬ gsR x en (nI i - 9) = 0) : gsB x en (i + 1) = gsB x en i := if_neg h
theorem td_up : ∀ i, i ≤ 18 → td i = nI (18 - i) - 9 := by decide +kernel
theorem gs_no {x : ST} {en : Nat} : ∀ k, k ≤ 19 → (∀ i, i < k → ¬ gsR x en (nI i - 9) = 0) → gsB x en k = (-1) := by
  intro k
  induction k with
  | zero => intro _ _; rfl
  | succ k ih =>
    intro hk h
    rw [gsB_n (h k (Nat.lt_succ_self k))]
    exact ih (by omega) (fun i hi => h i (by omega))
theorem gs_hi {x : ST} {en j : Nat} : ∀ d, j + d ≤ 19 → (∀ i, j ≤ i → i < j + d → ¬ gsR x en (nI i - 9) = 0) → gsB x en (j + d) = gsB x en j := by
  intro d
  induction d with
  | zero => intro _ _; rfl
  | succ d ih =>
    intro hk h
    rw [show j + (d + 1) = (j + d) + 1 from rfl, gsB_n (h (j + d) (by omega) (by omega))]
    exact ih (by omega) (fun i h1 h2 => h i h1 (by omega))
theorem GS_eq {x : ST} {en : Nat} {r : Int32} (h : GS x en r) : r = gsB x en 19 := by
  rcases h with ⟨rfl, h⟩ | ⟨i, hi, rfl, h0, hm⟩
  · refine (gs_no 19 (Nat.le_refl _) (fun j hj => ?_)).symm
    have := h (18 - j) (by omega)
    rw [td_up _ (by omega), show 18 - (18 - j) = j from by omega] at this
    exact this
  · have e := gs_hi (x := x) (en := en) (j := 19 - i) i (by omega) (fun j h1 h2 => by
      have := hm (18 - j) (by omega)
      rw [td_up _ (by omega), show 18 - (18 - j) = j from by omega] at this
      exact this)
    rw [show 19 - i + i = 19 from by omega] at e
    rw [e, show 19 - i = (18 - i) + 1 from by omega, gsB_y (by rw [← td_up i hi]; exact h0), td_up i hi, Int32.add_comm]
theorem res_z {n : Nat} {f : Nat → Int32} {to : Int32} : resF n f to = 0 ↔ failF n (lnF n f 0) to = 0 := by
  constructor
  · intro h
    by_cases h0 : failF n (lnF n f 0) to = 0
    · exact h0
    · by_cases h1 : failF n (lnF n f 1) to = 0
      · rw [res_1 h0 h1] at h
        exact absurd h (by decide)
      · exact absurd h (mx_pos2 h0 h1).1
  · exact res_0
/-- the reference's try of a smudge, and the class's -/
theorem gs_try {x : ST} {en : Nat} {t r : Int32} {lg : Nat → Int32} (hn : s_ns x ≤ 41) (hen : en < s_ns x) (hl : ∀ j, j < s_ns x → lg j = drwF (s_nd x) (s_df x) (s_ns x) (upd (s_zf x) en t) 20 20 0 j) (hr : r = resF (s_ns x) lg (s_tol x)) : r = 0 ↔ gsR x en t = 0 := by
  have e : ∀ j, j < s_ns x → lg j = gsT x en t j := fun j hj => by
    rw [hl j hj]
    unfold drwF gsT
    rw [elF_llP hj, show llP (s_ns x) 0 j = j from if_pos rfl, rowAt_lt hj hn (by decide)]
    by_cases h : j = en
    · rw [if_pos h, h, pk_us]
    · rw [if_neg h, pk_un h]
      show _ = drwF _ _ _ _ _ _ _ _
      unfold drwF
      rw [elF_llP hj, show llP (s_ns x) 0 j = j from if_pos rfl, rowAt_lt hj hn (by decide)]
  rw [hr, resF_congr e hn, res_z]
  exact Iff.rfl
theorem t19m : ∀ i, i ≤ 19 → (9 < nI i - 9 ↔ 19 ≤ i) ∧ nI i - 9 + 1 = nI (i + 1) - 9 := by decide +kernel
theorem upd_back {f : Nat → Int32} {i : Nat} {v : Int32} : upd (upd f i v) i (f i) = f := by
  funext j
  by_cases h : j = i
  · rw [h, pk_us]
  · rw [pk_un h, pk_un h]
theorem upd_2 {f : Nat → Int32} {i : Nat} {v w : Int32} : upd (upd f i v) i w = upd f i w := by
  funext j
  by_cases h : j = i
  · rw [h, pk_us, pk_us]
  · rw [pk_un h, pk_un h, pk_un h]
theorem in_08 {v : Int32} (h : inR v (nI 9) = 0) : v < 0 ∨ 8 < v := by
  have h9 := in_0 (by decide) h
  have e : nI 9 - 1 = (8 : Int32) := by decide
  rw [e] at h9
  exact h9
theorem upd_z {x : ST} {sf : Nat → Int32} {en : Nat} {t : Int32} (h : ∀ j, j < s_ns x → sf (10 + j) = s_zf x j) : ∀ j, j < s_ns x → upd sf (10 + en) t (10 + j) = upd (s_zf x) en t j := fun j hj => by
  by_cases e : j = en
  · rw [e, pk_us, pk_us]
  · rw [pk_un (by omega), pk_un e]
    exact h j hj
/-! ===== the digest ===== -/
noncomputable def dgH (x : ST) : Int64 := 31 * (31 * (31 * (31 * (31 * (31 * (31 * (31 * (124775 + (nI (s_ns x)).toInt64) + (nI (s_tn x)).toInt64) + (resF (s_tn x) (s_tf x) (s_tol x)).toInt64) + (failF (s_tn x) (lnF (s_tn x) (s_tf x) 0) (s_tol x)).toInt64) + (failF (s_tn x) (lnF (s_tn x) (s_tf x) 1) (s_tol x)).toInt64) + (leaF (s_tn x) (s_tf x)).toInt64) + (nI (s_k x)).toInt64) + (s_suc x).toInt64) + (s_fai x).toInt64
noncomputable def dgL (x : ST) : Nat → Int64
  | 0 => dgH x
  | i + 1 => 31 * (31 * (31 * dgL x i + (widF (s_nd x) (s_df x) (nI (s_ns x)) (nI i)).toInt64) + (s_zf x i).toInt64) + (gsB x i 19).toInt64
noncomputable def dgT (x : ST) : Nat → Int64
  | 0 => dgL x (s_ns x)
  | i + 1 => 31 * dgT x i + (s_tf x i).toInt64
noncomputable def dgC (x : ST) : Nat → Int64
  | 0 => dgT x (s_tn x)
  | i + 1 => 31 * (31 * (31 * dgC x i + (s_f x i).toInt64) + (s_g x i).toInt64) + (s_c x i).toInt64

