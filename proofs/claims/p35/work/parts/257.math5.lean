
/-! ===== a clean label of five digits, drawn with one period ===== -/
def wdN (j : Nat) : Nat := [3, 2, 1, 1, 2, 2, 2, 1, 2, 1, 2, 2, 1, 4, 1, 1, 1, 1, 3, 2, 1, 2, 3, 1, 1, 1, 1, 4, 1, 3, 1, 2, 1, 2, 1, 3, 3, 1, 1, 2].getD j 0
theorem wdt_N : ∀ j, j < 40 → wdt j = nI (wdN j) ∧ 1 ≤ wdN j ∧ wdN j ≤ 4 := by decide +kernel
theorem wdN_sum : ∀ d, d ≤ 9 → wdN (4 * d) + wdN (4 * d + 1) + wdN (4 * d + 2) + wdN (4 * d + 3) = 7 := by decide +kernel
/-- the amount between two widths -/
def adN (u w : Nat) : Nat := (u - w) + (w - u)
def dlN (d i : Nat) : Nat := adN (wdN (4 * d)) (wdN (4 * i)) + adN (wdN (4 * d + 1)) (wdN (4 * i + 1)) + adN (wdN (4 * d + 2)) (wdN (4 * i + 2)) + adN (wdN (4 * d + 3)) (wdN (4 * i + 3))
theorem dlN_0 : ∀ d, d ≤ 9 → dlN d d = 0 := by decide +kernel
theorem dlN_1 : ∀ d, d ≤ 9 → ∀ i, i ≤ 9 → i ≠ d → 1 ≤ dlN d i ∧ dlN d i ≤ 12 := by decide +kernel
theorem amF_cl : ∀ p, p ≤ 50 → ∀ u, u ≤ 4 → ∀ w, w ≤ 4 → amF (nI (7 * p)) (nI (u * p)) (nI w) = nI (7 * p * adN u w) := by decide +kernel
theorem dsF_cl {p d i : Nat} (hp : p ≤ 50) (hd : d ≤ 9) (hi : i ≤ 9) : dsF (nI (wdN (4 * d) * p)) (nI (wdN (4 * d + 1) * p)) (nI (wdN (4 * d + 2) * p)) (nI (wdN (4 * d + 3) * p)) (nI (7 * p)) i = nI (7 * p * dlN d i) := by
  unfold dsF
  rw [(wdt_N (4 * i) (by omega)).1, (wdt_N (4 * i + 1) (by omega)).1, (wdt_N (4 * i + 2) (by omega)).1, (wdt_N (4 * i + 3) (by omega)).1,
    amF_cl p hp _ (wdt_N (4 * d) (by omega)).2.2 _ (wdt_N (4 * i) (by omega)).2.2, amF_cl p hp _ (wdt_N (4 * d + 1) (by omega)).2.2 _ (wdt_N (4 * i + 1) (by omega)).2.2,
    amF_cl p hp _ (wdt_N (4 * d + 2) (by omega)).2.2 _ (wdt_N (4 * i + 2) (by omega)).2.2, amF_cl p hp _ (wdt_N (4 * d + 3) (by omega)).2.2 _ (wdt_N (4 * i + 3) (by omega)).2.2, nI_add, nI_add, nI_add]
  unfold dlN
  rw [Nat.mul_add, Nat.mul_add, Nat.mul_add]
/-- one digit alone has no distance -/
theorem nrF_one {dd : Nat → Int32} {l q : Int32} {d : Nat} (h0 : dd d = 0) (hp : ∀ i, i ≤ 9 → i ≠ d → 0 < dd i) (hd : d ≤ 9) : nrF dd l q 10 = (nI d, 0, 0) := by
  have p1 : ∀ i, i < d → 0 < (nrF dd l q (i + 1)).2.1 := by
    intro i
    induction i with
    | zero =>
      intro hi
      rw [nrF_lt (Or.inl rfl)]
      exact hp 0 (by omega) (by omega)
    | succ i ih =>
      intro hi
      by_cases h : (nrF dd l q (i + 1)).1 = -1 ∨ dd (i + 1) < (nrF dd l q (i + 1)).2.1
      · rw [nrF_lt h]
        exact hp (i + 1) (by omega) (by omega)
      · have h1 : ¬ (nrF dd l q (i + 1)).1 = -1 := fun h9 => h (Or.inl h9)
        have h2 : ¬ dd (i + 1) < (nrF dd l q (i + 1)).2.1 := fun h9 => h (Or.inr h9)
        by_cases h3 : dd (i + 1) = (nrF dd l q (i + 1)).2.1
        · rw [nrF_eq h1 h2 h3]
          exact ih (by omega)
        · rw [nrF_ge h1 h2 h3]
          exact ih (by omega)
  have p2 : nrF dd l q (d + 1) = (nI d, 0, 0) := by
    rw [nrF_lt (i := d) ?_, h0]
    rcases Nat.lt_or_ge 0 d with h | h
    · right
      rw [h0]
      have h9 := p1 (d - 1) (by omega)
      rw [show d - 1 + 1 = d from by omega] at h9
      exact h9
    · left
      rw [show d = 0 from by omega]
      rfl
  have p3 : ∀ m, d + 1 + m ≤ 10 → nrF dd l q (d + 1 + m) = (nI d, 0, 0) := by
    intro m
    induction m with
    | zero => intro _; exact p2
    | succ m ih =>
      intro hm
      have e := ih (by omega)
      have hpos := hp (d + 1 + m) (by omega) (by omega)
      rw [show d + 1 + (m + 1) = (d + 1 + m) + 1 from rfl, nrF_ge ?_ ?_ ?_]
      · exact e
      · rw [e]
        intro h9
        exact absurd ((fa_eq _ _).mp h9) (by rw [show (nI d, (0 : Int32), (0 : Int32)).1 = nI d from rfl, nI_toInt (by omega), show (-1 : Int32).toInt = -1 from by decide]; omega)
      · rw [e]
        intro h9
        rw [fa_lt] at h9 hpos
        have e0 : (0 : Int32).toInt = 0 := by decide
        rw [show (nI d, (0 : Int32), (0 : Int32)).2.1 = 0 from rfl] at h9
        omega
      · rw [e]
        intro h9
        rw [show (nI d, (0 : Int32), (0 : Int32)).2.1 = 0 from rfl] at h9
        rw [h9] at hpos
        exact absurd hpos (by decide)
  have := p3 (9 - d) (by omega)
  rw [show d + 1 + (9 - d) = 10 from by omega] at this
  exact this
theorem nrF_cl {p d : Nat} (h1 : 1 ≤ p) (hp : p ≤ 50) (hd : d ≤ 9) (l q : Int32) : nrF (dsF (nI (wdN (4 * d) * p)) (nI (wdN (4 * d + 1) * p)) (nI (wdN (4 * d + 2) * p)) (nI (wdN (4 * d + 3) * p)) (nI (7 * p))) l q 10 = (nI d, 0, 0) := by
  refine nrF_one ?_ (fun i hi hne => ?_) hd
  · rw [dsF_cl hp hd hd, dlN_0 d hd]
    rfl
  · rw [dsF_cl hp hd hi]
    have h := dlN_1 d hd i hi hne
    have h2 : 7 * p * dlN d i ≤ 7 * p * 12 := Nat.mul_le_mul_left _ h.2
    have h3 : 7 * p * 1 ≤ 7 * p * dlN d i := Nat.mul_le_mul_left _ h.1
    exact nI_lt (a := 0) (by omega) (by omega)
theorem sum_cl {p d : Nat} (hd : d ≤ 9) : nI (wdN (4 * d) * p) + nI (wdN (4 * d + 1) * p) + nI (wdN (4 * d + 2) * p) + nI (wdN (4 * d + 3) * p) = nI (7 * p) := by
  rw [nI_add, nI_add, nI_add, ← Nat.add_mul, ← Nat.add_mul, ← Nat.add_mul, wdN_sum d hd]
/-- a label of five digits without smudges -/
def clL (x : ST) : Prop := s_nd x = 5 ∧ s_ns x = 25 ∧ (∀ j, j < 25 → s_zf x j = 0) ∧ (∀ j, j < 5 → ∃ d, d ≤ 9 ∧ s_df x j = nI d) ∧ s_df x 4 = chkd (csum (s_df x) 4 4)
theorem tim_cl {nd w p k : Nat} {df : Nat → Int32} {e : Int32} (hw : widF nd df (nI 25) e = nI w) (he : e = nI k) (h1 : 1 ≤ w) (h4 : w ≤ 4) (p1 : 1 ≤ p) (p50 : p ≤ 50) (hk : k ≤ 24) : timF nd df (nI 25) e 0 (nI p) (nI p) = nI (w * p) := by
  have e1 : mx1 (nI 25 - 1) = nI 24 := by decide
  have hwp : 1 * 1 ≤ w * p := Nat.mul_le_mul h1 p1
  have hwp2 : w * p ≤ 4 * 50 := Nat.mul_le_mul h4 p50
  have hpk : p * (24 - k) + p * k = p * 24 := by rw [← Nat.mul_add, Nat.sub_add_cancel hk]
  have hq : 10 * w * (p * 24) = w * p * 240 := by
    rw [show 10 * w * (p * 24) = (w * p) * (10 * 24) from by rw [Nat.mul_comm 10 w, Nat.mul_assoc, Nat.mul_assoc, Nat.mul_left_comm 10 p 24]]
  unfold timF
  rw [hw, he, e1, pk_sub hk, pk_mul, pk_mul, nI_add, hpk, show (10 : Int32) = nI 10 from rfl, pk_mul, Int32.add_zero, pk_mul, hq, show nI 10 * nI 24 = nI 240 from pk_mul 10 24, pk_div (by omega) (by decide) (by decide), Nat.mul_div_cancel _ (by decide)]
  unfold mx1
  rw [if_neg (show ¬ nI (w * p) < (1 : Int32) from nI_nlt (b := 1) (by omega) (by omega))]
/-- the widths of all elements, as numbers -/
def clw (D : Nat → Nat) (j : Nat) : Nat := if j < 3 then 1 else if j < 23 then wdN (4 * D ((j - 3) / 4) + (j - 3) % 4) else if j = 23 then 1 else 2
theorem clw_in (D : Nat → Nat) {k m : Nat} (hk : k < 5) (hm : m < 4) : clw D (3 + 4 * k + m) = wdN (4 * D k + m) := by
  unfold clw
  rw [if_neg (by omega), if_pos (by omega), show (3 + 4 * k + m - 3) / 4 = k from by omega, show (3 + 4 * k + m - 3) % 4 = m from by omega]
theorem cl_wid {x : ST} {D : Nat → Nat} (h : clL x) (hD : ∀ j, j < 5 → D j ≤ 9 ∧ s_df x j = nI (D j)) {j : Nat} (hj : j < 25) : widF (s_nd x) (s_df x) (nI 25) (nI j) = nI (clw D j) ∧ 1 ≤ clw D j ∧ clw D j ≤ 4 := by
  obtain ⟨h1, h2, h3, h4, h5⟩ := h
  rw [h1]
  rcases Nat.lt_or_ge j 3 with q | q
  · rw [wid_g (ns := 25) (show nI j < 3 from nI_lt (b := 3) q (by decide))]
    unfold clw
    rw [if_pos q]
    exact ⟨rfl, by decide, by decide⟩
  · rcases Nat.lt_or_ge j 23 with q2 | q2
    · obtain ⟨k, m, hk, hm, rfl⟩ : ∃ k m, k < 5 ∧ m < 4 ∧ j = 3 + 4 * k + m := ⟨(j - 3) / 4, (j - 3) % 4, by omega, by omega, by omega⟩
      have hd := hD k hk
      rw [wid_in (nd := 5) (ns := 25) (by decide) rfl hk hm hd.1 hd.2, clw_in D hk hm]
      exact wdt_N _ (by omega)
    · have hr := wid_r (nd := 5) (ns := 25) (df := s_df x) (by decide) (by decide)
      rcases (show j = 23 ∨ j = 24 by omega) with rfl | rfl
      · have e : clw D 23 = 1 := rfl
        rw [e]
        exact ⟨hr.1, by decide, by decide⟩
      · have e : clw D 24 = 2 := rfl
        rw [e]
        exact ⟨hr.2, by decide, by decide⟩
theorem cl_drw {x : ST} {D : Nat → Nat} (h : clL x) (hD : ∀ j, j < 5 → D j ≤ 9 ∧ s_df x j = nI (D j)) {p j : Nat} (p1 : 1 ≤ p) (p50 : p ≤ 50) (hj : j < 25) : s_drw x (nI p) (nI p) 0 j = nI (clw D j * p) ∧ s_drw x (nI p) (nI p) 1 j = nI (clw D (24 - j) * p) := by
  have hh := h
  obtain ⟨h1, h2, h3, h4, h5⟩ := hh
  have key : ∀ i, i < 25 → timF (s_nd x) (s_df x) (nI 25) (nI i) (rowAt 41 (nI 25) (s_zf x) (nI i)) (nI p) (nI p) = nI (clw D i * p) := fun i hi => by
    have hw := cl_wid h hD hi
    rw [rowAt_lt hi (by decide) (by decide), h3 i hi]
    exact tim_cl hw.1 rfl hw.2.1 hw.2.2 p1 p50 (by omega)
  unfold s_drw drwF
  rw [h2]
  constructor
  · rw [show elF (nI 25) 0 j = nI j from if_pos rfl]
    exact key j hj
  · have e : elF (nI 25) 1 j = nI (24 - j) := by
      unfold elF
      rw [if_neg (by decide), show nI 25 - 1 = nI 24 from by decide, pk_sub (by omega)]
    rw [e]
    exact key (24 - j) (by omega)
/-- such times read forwards -/
theorem cl_fwd {x : ST} {D : Nat → Nat} (h : clL x) (hD : ∀ j, j < 5 → D j ≤ 9 ∧ s_df x j = nI (D j)) {p t : Nat} (p1 : 1 ≤ p) (p50 : p ≤ 50) (ht : t ≤ 8) {lf : Nat → Int32} (hl : ∀ j, j < 25 → lf j = nI (clw D j * p)) : failF 25 lf (nI t) = 0 ∧ ∀ k, k < 5 → nrD 25 lf k = s_df x k := by
  have hat : ∀ j, j < 25 → rowAt 41 (nI 25) lf (nI j) = nI (clw D j * p) := fun j hj => (rowAt_lt hj (by decide) (by decide)).trans (hl j hj)
  have hk : ∀ k, k < 5 → nrF (ddK 25 lf k) 0 0 10 = (nI (D k), 0, 0) ∧ smK 25 lf k = nI (7 * p) := fun k hk => by
    have hd := (hD k hk).1
    have ht : ∀ m, m < 4 → tkF 25 lf k m = nI (wdN (4 * D k + m) * p) := fun m hm => by
      unfold tkF
      rw [hat _ (by omega), clw_in D hk hm]
    have hs : smK 25 lf k = nI (7 * p) := by
      unfold smK
      rw [ht 0 (by decide), ht 1 (by decide), ht 2 (by decide), ht 3 (by decide)]
      exact sum_cl hd
    refine ⟨?_, hs⟩
    unfold ddK
    rw [hs, ht 0 (by decide), ht 1 (by decide), ht 2 (by decide), ht 3 (by decide)]
    exact nrF_cl p1 p50 hd 0 0
  have hn : ∀ k, k < 5 → nrD 25 lf k = s_df x k := fun k hk9 => (congrArg Prod.fst (hk k hk9).1).trans (hD k hk9).2.symm
  refine ⟨failF_0 (by decide) ?_ (fun k hk9 => ?_) ?_ ?_, hn⟩
  · have e : ∀ p, p ≤ 50 → 1 ≤ p → ¬ lgF (nI (1 * p)) (nI (1 * p)) (nI (1 * p)) = 0 := by decide +kernel
    have h0 := hat 0 (by decide); have h1 := hat 1 (by decide); have h2 := hat 2 (by decide)
    unfold lgG
    rw [show (0 : Int32) = nI 0 from rfl, show (1 : Int32) = nI 1 from rfl, show (2 : Int32) = nI 2 from rfl, h0, h1, h2]
    exact e p p50 p1
  · have hk5 : k < 5 := hk9
    unfold okD
    rw [(hk k hk5).1, (hk k hk5).2]
    refine ⟨rfl, ?_⟩
    have h7 : 7 * p * t ≤ 7 * p * 8 := Nat.mul_le_mul_left _ ht
    show (4 : Int32) * 0 ≤ nI (7 * p) * nI t
    rw [pk_mul]
    exact nI_le (a := 0) (Nat.zero_le _) (by omega)
  · have e : ∀ p, p ≤ 50 → 1 ≤ p → ¬ rgF (nI (1 * p)) (nI (2 * p)) = 0 := by decide +kernel
    have h0 := hat 23 (by decide); have h1 := hat 24 (by decide)
    unfold rgG
    rw [show nI 25 - 2 = nI 23 from by decide, show nI 25 - 1 = nI 24 from by decide, h0, h1]
    exact e p p50 p1
  · show nrD 25 lf 4 = chkd (csum (nrD 25 lf) 4 4)
    rw [hn 4 (by decide), csum_congr (f := nrD 25 lf) (g := s_df x) (fun m hm => hn m (by omega)) 4 (Nat.le_refl 4)]
    exact h.2.2.2.2
/-- a reading looks at the times alone -/
theorem failF_congr {n : Nat} {f g : Nat → Int32} (h : ∀ j, j < n → f j = g j) (hn : n ≤ 41) (tol : Int32) : failF n f tol = failF n g tol ∧ nrD n f = nrD n g := by
  have hr : rowAt 41 (nI n) f = rowAt 41 (nI n) g := funext fun _ => rowAt_can0 h (by omega)
  have ht : tkF n f = tkF n g := by funext k m; unfold tkF; rw [hr]
  have hs : smK n f = smK n g := by funext k; unfold smK; rw [ht]
  have hd : ddK n f = ddK n g := by funext k; unfold ddK; rw [ht, hs]
  have hnr : nrD n f = nrD n g := by funext k; unfold nrD; rw [hd]
  have ho : okD n f tol = okD n g tol := by funext k; unfold okD; rw [hd, hs]
  have hlg : lgG n f = lgG n g := by unfold lgG; rw [hr]
  have hrg : rgG n f = rgG n g := by unfold rgG; rw [hr]
  have hck : ckD n f = ckD n g := by unfold ckD; rw [hnr]
  refine ⟨?_, hnr⟩
  unfold failF
  rw [hlg, hrg, ho, hck]
theorem lnF_0 {n j : Nat} {tf : Nat → Int32} (hj : j < n) (hn : n ≤ 41) : lnF n tf 0 j = tf j := by
  unfold lnF
  rw [show elF (nI n) 0 j = nI j from if_pos rfl, rowAt_lt hj hn (by decide)]
theorem lnF_1 {n j : Nat} {tf : Nat → Int32} (hj : j < n) (hn : n ≤ 41) : lnF n tf 1 j = tf (n - 1 - j) := by
  unfold lnF elF
  rw [if_neg (by decide), show nI n - 1 = nI (n - 1) from pk_sub (b := 1) (by omega), pk_sub (by omega), rowAt_lt (by omega) hn (by decide)]

