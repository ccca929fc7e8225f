
/-! ===== the reference's parser, against the automaton ===== -/
theorem lk_def {x : Int32} (h1 : ¬ x = 98) (h2 : ¬ x = 100) (h3 : ¬ x = 112) (h4 : ¬ x = 115) : Op.lookupswitch.offset (#[(98, 71), (100, 71), (112, 43), (115, 57)] : Array (Int × Int)).toList 85 x.toInt = 85 := by
  have e1 : ¬ (98 : Int) = x.toInt := fun q => h1 ((fa_eq _ _).mpr (by rw [← q]; decide))
  have e2 : ¬ (100 : Int) = x.toInt := fun q => h2 ((fa_eq _ _).mpr (by rw [← q]; decide))
  have e3 : ¬ (112 : Int) = x.toInt := fun q => h3 ((fa_eq _ _).mpr (by rw [← q]; decide))
  have e4 : ¬ (115 : Int) = x.toInt := fun q => h4 ((fa_eq _ _).mpr (by rw [← q]; decide))
  show (if (98 : Int) = x.toInt then (71 : Int) else if 100 = x.toInt then 71 else if 112 = x.toInt then 43 else if 115 = x.toInt then 57 else 85) = 85
  rw [if_neg e1, if_neg e2, if_neg e3, if_neg e4]
theorem i32_eq {a b : Int32} (h : ¬ a < b) (h2 : ¬ b < a) : a = b := by
  rw [fa_lt] at h h2
  exact (fa_eq _ _).mpr (by omega)
theorem i32_ne {a b : Int32} (h : a < b ∨ b < a) : ¬ a = b := fun e => by
  rw [e, fa_lt] at h
  omega
def itF (tx : Nat → Int32) : Nat → Nat → PS → Option PS
  | 0, _, q => some q
  | k + 1, i, q => (acc q (tx i)).bind (itF tx k (i + 1))
theorem itF_1 {tx : Nat → Int32} {k i : Nat} {q q1 q2 : PS} (h : acc q (tx i) = some q1) (h2 : itF tx k (i + 1) q1 = some q2) : itF tx (k + 1) i q = some q2 := by
  show (acc q (tx i)).bind _ = _
  rw [h]
  exact h2
theorem itF_add {tx : Nat → Int32} {b : Nat} {q1 q2 : PS} : ∀ (a i : Nat) (q : PS), itF tx a i q = some q1 → itF tx b (i + a) q1 = some q2 → itF tx (a + b) i q = some q2 := by
  intro a
  induction a with
  | zero => intro i q h h2; cases h; rw [Nat.zero_add]; exact h2
  | succ a ih =>
    intro i q h h2
    cases e : acc q (tx i) with
    | none =>
      have h9 : (acc q (tx i)).bind (itF tx a (i + 1)) = some q1 := h
      rw [e] at h9
      cases h9
    | some q' =>
      have h9 : (acc q (tx i)).bind (itF tx a (i + 1)) = some q1 := h
      rw [e] at h9
      rw [show a + 1 + b = (a + b) + 1 from by omega]
      exact itF_1 e (ih (i + 1) q' h9 (by rw [show i + 1 + a = i + (a + 1) from by omega]; exact h2))
theorem itF_s {tx : Nat → Int32} {a i : Nat} {q q1 q2 : PS} (h : itF tx a i q = some q1) (h2 : acc q1 (tx (i + a)) = some q2) : itF tx (a + 1) i q = some q2 := itF_add a i q h (itF_1 h2 rfl)
theorem itA_F {tx : Nat → Int32} {g : PS} {q2 : PS} : ∀ (k i : Nat) (q : PS), itA tx g i = some q → itF tx k i q = some q2 → itA tx g (i + k) = some q2 := by
  intro k
  induction k with
  | zero => intro i q h h2; cases h2; exact h
  | succ k ih =>
    intro i q h h2
    cases e : acc q (tx i) with
    | none =>
      have h9 : (acc q (tx i)).bind (itF tx k (i + 1)) = some q2 := h2
      rw [e] at h9
      cases h9
    | some q' =>
      have h9 : (acc q (tx i)).bind (itF tx k (i + 1)) = some q2 := h2
      rw [e] at h9
      rw [show i + (k + 1) = i + 1 + k from by omega]
      exact ih (i + 1) q' (itA_s h e) h9
def wOf (q : PS) : Int32 := if q_k q = 112 then q_n q else sgnP (q_s q) (q_m q)
/-- a command's text behind its letter K, from i on up to j -/
def PSR (tx : Nat → Int32) (ty : Nat) (K : Int32) (i : Nat) (r : Int32) (j : Nat) (o w : Int32) : Prop :=
  ∃ (k : Nat) (q : PS), j = i + k ∧ j ≤ ty ∧ itF tx k i (K, 0, 0, 0, 1, 0) = some q ∧ (∀ m, m < k → ¬ tx (i + m) = 59) ∧
   ((r = 1 ∧ endQ q = 1 ∧ q_k q = K ∧ q_f q = o ∧ w = wOf q ∧ (j < ty → ¬ tx j = 59 → acc q (tx j) = none)) ∨ (r = 0 ∧ endQ q = 0 ∧ (j < ty → acc q (tx j) = none)))
/-- a number that is read: v, up to j -/
def NR (tx : Nat → Int32) (ty : Nat) (lo gr : Int32) (i : Nat) (v : Int32) (j : Nat) : Prop :=
  (v = (-1) ∧ j = i ∧ (ty ≤ i ∨ (tx i < lo ∨ 57 < tx i))) ∨
  (i < ty ∧ ¬ tx i < lo ∧ ¬ 57 < tx i ∧ v = tx i - 48 ∧ j = i + 1 ∧ (v ≤ 0 ∨ (ty ≤ i + 1 ∨ (tx (i + 1) < 48 ∨ 57 < tx (i + 1))) ∨ gr < 10 * v + tx (i + 1) - 48)) ∨
  (i + 1 < ty ∧ ¬ tx i < lo ∧ ¬ 57 < tx i ∧ ¬ tx (i + 1) < 48 ∧ ¬ 57 < tx (i + 1) ∧ ¬ tx i - 48 ≤ 0 ∧ v = 10 * (tx i - 48) + tx (i + 1) - 48 ∧ v ≤ gr ∧ j = i + 2)
theorem c48 {c : Int32} (h : ¬ c < 48) (h2 : ¬ 57 < c) : ∃ d, d ≤ 9 ∧ c = nI (48 + d) ∧ c - 48 = nI d := by
  obtain ⟨d, hd, e⟩ := dg_09 h (Int32.not_lt.mp h2)
  refine ⟨d, hd, ?_, e⟩
  have h3 : c = (c - 48) + 48 := by rw [Int32.sub_add_cancel]
  rw [h3, e, show (48 : Int32) = nI 48 from rfl, nI_add, Nat.add_comm]
theorem lo_48 {c lo : Int32} (hl : lo = 48 ∨ lo = 49) (h : ¬ c < lo) : ¬ c < 48 := by
  rcases hl with rfl | rfl
  · exact h
  · intro q
    refine h ?_
    rw [fa_lt] at q ⊢
    have e8 : (48 : Int32).toInt = 48 := by decide
    have e9 : (49 : Int32).toInt = 49 := by decide
    omega
theorem d_ne1 {d : Nat} (h : d ≤ 9) : ¬ nI d = (-1) := fun q => by
  have := (fa_eq _ _).mp q
  rw [nI_toInt (by omega)] at this
  have h0 : (-1 : Int32).toInt = -1 := by decide
  omega
theorem c_ne1 {c lo : Int32} (hl : lo = 48 ∨ lo = 49) (h : ¬ c < lo) (h2 : ¬ 57 < c) : ¬ c - 48 = (-1) := by
  obtain ⟨d, hd, -, e⟩ := c48 (lo_48 hl h) h2
  rw [e]
  exact d_ne1 hd
theorem two_v {c c2 : Int32} {d d2 : Nat} (e : c - 48 = nI d) (e2 : c2 - 48 = nI d2) : 10 * (c - 48) + c2 - 48 = nI (10 * d + d2) := by
  rw [Int32.sub_eq_add_neg, Int32.add_assoc, ← Int32.sub_eq_add_neg, e, e2, show (10 : Int32) = nI 10 from rfl, pk_mul, nI_add]
theorem v2_pos {c c2 lo : Int32} (hl : lo = 48 ∨ lo = 49) (h : ¬ c < lo) (h2 : ¬ 57 < c) (h3 : ¬ c - 48 ≤ 0) (h4 : ¬ c2 < 48) (h5 : ¬ 57 < c2) : ¬ 10 * (c - 48) + c2 - 48 ≤ 0 ∧ ∀ c3 : Int32, ¬ c3 < 48 → ¬ 57 < c3 → 50 < 10 * (10 * (c - 48) + c2 - 48) + c3 - 48 := by
  obtain ⟨d, hd, -, e⟩ := c48 (lo_48 hl h) h2
  obtain ⟨d2, hd2, -, e2⟩ := c48 h4 h5
  have h1 : 1 ≤ d := by
    rcases Nat.lt_or_ge 0 d with q | q
    · exact q
    · exact absurd (by rw [e, Nat.le_zero.mp q]; decide) h3
  rw [two_v e e2]
  refine ⟨nI_nle (by omega) (by omega), fun c3 h6 h7 => ?_⟩
  obtain ⟨d3, hd3, -, e3⟩ := c48 h6 h7
  rw [Int32.sub_eq_add_neg, Int32.add_assoc, ← Int32.sub_eq_add_neg, e3, show (10 : Int32) = nI 10 from rfl, pk_mul, nI_add]
  exact nI_lt (a := 50) (by omega) (by omega)
theorem gr_50 {gr v : Int32} (h : gr ≤ 50) (h2 : 50 < v) : gr < v := by
  rw [fa_le] at h
  rw [fa_lt] at h2 ⊢
  omega
/-! digits, as numbers -/
def okL (K : Int32) (p m : Int32) (l g : Nat) : Prop := ¬ K = 112 ∧ leastP K m = nI l ∧ grtP K p = nI g ∧ l ≤ 1 ∧ g ≤ 50
theorem alw_y {K n p m : Int32} {l g x y : Nat} (h : okL K p m l g) (hx : x < 2 ^ 31) (h1 : n ≤ 0 ∨ ¬ x = y) (hy : y < 2 ^ 31) (h2 : l ≤ x) (h3 : x ≤ g) : alwF K n p m (nI x) (nI y) = 1 := by
  obtain ⟨hk, e1, e2, e3, e4⟩ := h
  have hb : alwB K p m (nI x) = 1 := by
    unfold alwB
    rw [e1, e2, if_neg (nI_nlt h2 hx), if_neg (nI_nlt h3 (by omega))]
  unfold alwF
  rw [if_neg hk]
  by_cases q : n ≤ 0
  · rw [if_pos q]; exact hb
  · rw [if_neg q, if_neg (fun w => (h1.resolve_left q) ((nI_eq hx hy).mp w))]
    exact hb
theorem alw_z {K n p m : Int32} {l g x y : Nat} (h : okL K p m l g) (hx : x < 2 ^ 31) (h1 : (¬ n ≤ 0 ∧ x = y) ∨ x < l ∨ g < x) : alwF K n p m (nI x) (nI y) = 0 := by
  obtain ⟨hk, e1, e2, e3, e4⟩ := h
  unfold alwF
  rw [if_neg hk]
  by_cases q : n ≤ 0
  · rw [if_pos q]
    unfold alwB
    rcases h1 with w | w | w
    · exact absurd q w.1
    · rw [e1, if_pos (nI_lt w (by omega))]
    · rw [e1, e2]
      by_cases w2 : nI x < nI l
      · rw [if_pos w2]
      · rw [if_neg w2, if_pos (nI_lt w hx)]
  · rw [if_neg q]
    by_cases w3 : nI x = nI y
    · rw [if_pos w3]
    · rw [if_neg w3]
      unfold alwB
      rcases h1 with w | w | w
      · exact absurd (by rw [w.2]) w3
      · rw [e1, if_pos (nI_lt w (by omega))]
      · rw [e1, e2]
        by_cases w2 : nI x < nI l
        · rw [if_pos w2]
        · rw [if_neg w2, if_pos (nI_lt w hx)]
/-- a digit, taken by the automaton -/
theorem acc_dig {k f s n p m c : Int32} {d : Nat} (hp : ¬ p = 0) (h1 : ¬ c < 48) (h2 : ¬ 57 < c) (e : c - 48 = nI d) : acc (k, f, s, n, p, m) c = acDig k f s n p m (nI d) := by
  rw [acc_d hp h1 (Int32.not_lt.mp h2), e]
/-- the state behind a number v of a signs, in the part p -/
def numS (K f p m : Int32) (v a : Nat) : PS := if p = 1 then (K, nI v, 0, nI a, 1, m) else (K, f, nI v, nI a, 2, m)
theorem numS_acc {K f p m c : Int32} {l g v a d : Nat} (h : okL K p m l g) (hp : p = 1 ∨ p = 2) (hv : v ≤ 50) (ha : a ≤ 8) (hd : d ≤ 9) (h1 : ¬ c < 48) (h2 : ¬ 57 < c) (e : c - 48 = nI d) :
    (l ≤ 10 * v + d → 10 * v + d ≤ g → (a = 0 ∨ 1 ≤ v) → acc (numS K f p m v a) c = some (numS K f p m (10 * v + d) (a + 1))) ∧ ((1 ≤ a ∧ v = 0) ∨ 10 * v + d < l ∨ g < 10 * v + d → acc (numS K f p m v a) c = none) := by
  have en : ∀ {n : Nat}, n = 0 → nI n ≤ 0 := fun q => by rw [q]; decide
  have e10 : 10 * nI v + nI d = nI (10 * v + d) := by rw [show (10 : Int32) = nI 10 from rfl, pk_mul, nI_add]
  rcases hp with rfl | rfl
  · rw [show numS K f 1 m v a = (K, nI v, 0, nI a, 1, m) from if_pos rfl, show numS K f 1 m (10 * v + d) (a + 1) = (K, nI (10 * v + d), 0, nI (a + 1), 1, m) from if_pos rfl, acc_dig (by decide) h1 h2 e]
    unfold acDig
    rw [if_pos rfl, e10]
    constructor
    · intro q1 q2 q3
      rw [alw_y h (by omega) (q3.elim (fun w => Or.inl (en w)) (fun w => Or.inr (by omega))) (by omega) q1 q2, if_neg (by decide), nI_1]
    · intro q
      rw [alw_z h (by omega) (q.elim (fun w => Or.inl ⟨nI_nle (by omega) (by omega), by omega⟩) Or.inr), if_pos rfl]
  · rw [show numS K f 2 m v a = (K, f, nI v, nI a, 2, m) from if_neg (by decide), show numS K f 2 m (10 * v + d) (a + 1) = (K, f, nI (10 * v + d), nI (a + 1), 2, m) from if_neg (by decide), acc_dig (by decide) h1 h2 e]
    unfold acDig
    rw [if_neg (by decide), e10]
    constructor
    · intro q1 q2 q3
      rw [alw_y h (by omega) (q3.elim (fun w => Or.inl (en w)) (fun w => Or.inr (by omega))) (by omega) q1 q2, if_neg (by decide), nI_1]
    · intro q
      rw [alw_z h (by omega) (q.elim (fun w => Or.inl ⟨nI_nle (by omega) (by omega), by omega⟩) Or.inr), if_pos rfl]
/-- no digit, ahead of a number: but a minus, at a smudge, nothing is taken -/
theorem acc_no0 {k f s p m c : Int32} (hp : ¬ p = 0) (h : c < 48 ∨ 57 < c) (hm : ¬ c = 45 ∨ ¬ k = 115 ∨ ¬ p = 2 ∨ ¬ m = 0) : acc (k, f, s, 0, p, m) c = none := by
  by_cases h45 : c = 45
  · rw [acc_m hp h h45]
    unfold acMin
    by_cases q1 : k = 115
    · rw [if_pos q1]
      by_cases q2 : p = 2
      · rw [if_pos q2, if_pos rfl]
        have q3 : ¬ m = 0 := by
          rcases hm with w | w | w | w
          · exact absurd h45 w
          · exact absurd q1 w
          · exact absurd q2 w
          · exact w
        rw [if_neg q3]
      · rw [if_neg q2]
    · rw [if_neg q1]
  · rw [acc_s hp h h45]
    exact if_pos rfl
/-- no digit, behind a first number of two -/
theorem acc_1 {k f s n m c : Int32} (hk : ¬ k = 112) (hn : ¬ n = 0) (h : c < 48 ∨ 57 < c) : (c = sepP k → acc (k, f, s, n, 1, m) c = some (k, f, 0, 0, 2, 0)) ∧ (¬ c = sepP k → acc (k, f, s, n, 1, m) c = none) := by
  have he : endF k n 1 = 0 := by
    unfold endF
    rw [if_neg (by decide), if_pos rfl, if_neg hk]
  by_cases h45 : c = 45
  · have hs : ¬ c = sepP k := by
      rw [h45]
      unfold sepP
      split <;> decide
    refine ⟨fun q => absurd q hs, fun _ => ?_⟩
    rw [acc_m (by decide) h h45]
    unfold acMin
    by_cases q1 : k = 115
    · rw [if_pos q1, if_neg (by decide)]
    · rw [if_neg q1]
  · rw [acc_s (by decide) h h45]
    unfold acSep
    rw [if_neg hn, if_pos he]
    exact ⟨fun q => if_pos q, fun q => if_neg q⟩
/-- no digit, behind the last number of a command -/
theorem acc_2 {k f s n p m c : Int32} (hp : ¬ p = 0) (he : endF k n p = 1) (hn : ¬ n = 0) (h : c < 48 ∨ 57 < c) (h59 : ¬ c = 59) : acc (k, f, s, n, p, m) c = none := by
  by_cases h45 : c = 45
  · rw [acc_m hp h h45]
    unfold acMin
    by_cases q1 : k = 115
    · rw [if_pos q1]
      by_cases q2 : p = 2
      · rw [if_pos q2, if_neg hn]
      · rw [if_neg q2]
    · rw [if_neg q1]
  · rw [acc_s hp h h45]
    unfold acSep
    rw [if_neg hn, if_neg (by rw [he]; decide), if_neg h59]
theorem ne59 {c : Int32} (h : ¬ 57 < c) : ¬ c = 59 := fun q => h (by rw [q]; decide)
/-- a number of the reference is one of the automaton's -/
theorem NR_S {tx : Nat → Int32} {ty i j : Nat} {K f p lo gr v : Int32} {l g : Nat} (hL : okL K p 0 l g) (hp : p = 1 ∨ p = 2) (hlo : lo = nI (48 + l)) (hgr : gr = nI g) (hN : NR tx ty lo gr i v j) (hi : i ≤ ty) :
    (v = (-1) ∧ j = i ∧ (i < ty → (¬ (K = 115 ∧ p = 2) ∨ ¬ tx i = 45) → acc (numS K f p 0 0 0) (tx i) = none)) ∨
    (∃ a w, ¬ v = (-1) ∧ v = nI w ∧ w ≤ g ∧ 1 ≤ a ∧ a ≤ 2 ∧ j = i + a ∧ j ≤ ty ∧ itF tx a i (numS K f p 0 0 0) = some (numS K f p 0 w a) ∧ (∀ m, m < a → ¬ tx (i + m) = 59) ∧ (j < ty → ¬ tx j < 48 → ¬ 57 < tx j → acc (numS K f p 0 w a) (tx j) = none)) := by
  obtain ⟨hk, e1, e2, e3, e4⟩ := hL
  have hL' : okL K p 0 l g := ⟨hk, e1, e2, e3, e4⟩
  have hl : lo = 48 ∨ lo = 49 := by
    rcases (show l = 0 ∨ l = 1 by omega) with q | q
    · exact Or.inl (by rw [hlo, q]; rfl)
    · exact Or.inr (by rw [hlo, q]; rfl)
  have g9 : 9 ≤ g := by
    have h9 := grt_or K p
    rw [e2] at h9
    rcases h9 with w | w | w
    · have := (nI_eq (a := g) (b := 40) (by omega) (by decide)).mp w; omega
    · have := (nI_eq (a := g) (b := 9) (by omega) (by decide)).mp w; omega
    · have := (nI_eq (a := g) (b := 50) (by omega) (by decide)).mp w; omega
  have hpz : ¬ p = 0 := by rcases hp with rfl | rfl <;> decide
  rcases hN with ⟨h1, h2, h3⟩ | ⟨h1, h2, h3, h4, h5, h6⟩ | ⟨h1, h2, h3, h4, h5, h6, h7, h8, h9⟩
  · refine Or.inl ⟨h1, h2, fun hi' hm => ?_⟩
    have h3' := h3.resolve_left (by omega)
    by_cases hd : ¬ tx i < 48 ∧ ¬ 57 < tx i
    · obtain ⟨d, hd9, ec, ed⟩ := c48 hd.1 hd.2
      have hdl : d < l := by
        have h31 : tx i < lo := h3'.resolve_right hd.2
        rw [ec, hlo] at h31
        rcases Nat.lt_or_ge d l with q | q
        · exact q
        · exact absurd h31 (nI_nlt (by omega) (by omega))
      exact (numS_acc hL' hp (by omega) (by omega) hd9 hd.1 hd.2 ed).2 (Or.inr (Or.inl (by omega)))
    · have hd' : tx i < 48 ∨ 57 < tx i := by
        by_cases q : tx i < 48
        · exact Or.inl q
        · by_cases q2 : 57 < tx i
          · exact Or.inr q2
          · exact absurd ⟨q, q2⟩ hd
      rcases hp with rfl | rfl
      · exact acc_no0 (by decide) hd' (Or.inr (Or.inr (Or.inl (by decide))))
      · refine acc_no0 (by decide) hd' ?_
        rcases hm with w | w
        · exact Or.inr (Or.inl (fun q => w ⟨q, rfl⟩))
        · exact Or.inl w
  · obtain ⟨d, hd9, ec, ed⟩ := c48 (lo_48 hl h2) h3
    have hdl : l ≤ d := by
      rcases Nat.lt_or_ge d l with q | q
      · exact absurd (by rw [ec, hlo]; exact nI_lt (by omega) (by omega)) h2
      · exact q
    have ha := (numS_acc (f := f) (v := 0) (a := 0) hL' hp (by omega) (by omega) hd9 (lo_48 hl h2) h3 ed).1 (by omega) (by omega) (Or.inl rfl)
    rw [show 10 * 0 + d = d from by omega] at ha
    have hv : v = nI d := h4.trans ed
    refine Or.inr ⟨1, d, by rw [hv]; exact d_ne1 hd9, hv, by omega, Nat.le_refl _, by omega, h5, by omega, itF_1 ha rfl, fun m hm => ?_, fun hj q1 q2 => ?_⟩
    · rw [show i + m = i from by omega]
      exact ne59 h3
    · rw [h5] at q1 q2 ⊢
      obtain ⟨d2, hd2, -, ed2⟩ := c48 q1 q2
      refine (numS_acc hL' hp (by omega) (by omega) hd2 q1 q2 ed2).2 ?_
      rcases h6 with w | w | w
      · refine Or.inl ⟨Nat.le_refl _, ?_⟩
        rcases Nat.lt_or_ge 0 d with q | q
        · rw [hv] at w
          exact absurd w (nI_nle q (by omega))
        · omega
      · rcases w with w | w | w
        · omega
        · exact absurd w q1
        · exact absurd w q2
      · refine Or.inr (Or.inr ?_)
        rw [h4, two_v ed ed2, hgr] at w
        rcases Nat.lt_or_ge g (10 * d + d2) with q | q
        · exact q
        · exact absurd w (nI_nlt q (by omega))
  · obtain ⟨d, hd9, ec, ed⟩ := c48 (lo_48 hl h2) h3
    obtain ⟨d2, hd2, -, ed2⟩ := c48 h4 h5
    have hdl : l ≤ d := by
      rcases Nat.lt_or_ge d l with q | q
      · exact absurd (by rw [ec, hlo]; exact nI_lt (by omega) (by omega)) h2
      · exact q
    have hd1 : 1 ≤ d := by
      rcases Nat.lt_or_ge 0 d with q | q
      · exact q
      · exact absurd (by rw [ed, Nat.le_zero.mp q]; decide) h6
    have hv : v = nI (10 * d + d2) := h7.trans (two_v ed ed2)
    have hg2 : 10 * d + d2 ≤ g := by
      rw [hv, hgr] at h8
      rcases Nat.lt_or_ge g (10 * d + d2) with q | q
      · exact absurd h8 (nI_ge q (by omega))
      · exact q
    have ha := (numS_acc (f := f) (v := 0) (a := 0) hL' hp (by omega) (by omega) hd9 (lo_48 hl h2) h3 ed).1 (by omega) (by omega) (Or.inl rfl)
    rw [show 10 * 0 + d = d from by omega] at ha
    have hb := (numS_acc (f := f) (v := d) (a := 1) hL' hp (by omega) (by omega) hd2 h4 h5 ed2).1 (by omega) hg2 (Or.inr hd1)
    refine Or.inr ⟨2, 10 * d + d2, fun q => ?_, hv, hg2, by omega, by omega, h9, by omega, itF_1 ha (itF_1 hb rfl), fun m hm => ?_, fun hj q1 q2 => ?_⟩
    · rw [hv] at q
      have := (fa_eq _ _).mp q
      rw [nI_toInt (by omega)] at this
      have h0 : (-1 : Int32).toInt = -1 := by decide
      omega
    · rcases (show m = 0 ∨ m = 1 by omega) with rfl | rfl
      · exact ne59 h3
      · exact ne59 h5
    · obtain ⟨d3, hd3, -, ed3⟩ := c48 q1 q2
      exact (numS_acc hL' hp (by omega) (by omega) hd3 q1 q2 ed3).2 (Or.inr (Or.inr (by omega)))
theorem okL_1 {K : Int32} (h : K = 100 ∨ K = 98) (p : Int32) : okL K p 0 1 50 := by
  rcases h with rfl | rfl
  · exact ⟨by decide, rfl, rfl, by omega, by omega⟩
  · exact ⟨by decide, rfl, rfl, by omega, by omega⟩
theorem okL_s1 : okL 115 1 0 0 40 := ⟨by decide, rfl, rfl, by omega, by omega⟩
theorem okL_s2 : okL 115 2 0 0 9 := ⟨by decide, rfl, rfl, by omega, by omega⟩
theorem okL_s3 : okL 115 2 1 1 9 := ⟨by decide, rfl, rfl, by omega, by omega⟩
theorem numS_0 (K : Int32) : numS K 0 1 0 0 0 = (K, 0, 0, 0, 1, 0) := if_pos rfl
theorem numS_1 (K f : Int32) (v a : Nat) : numS K f 1 0 v a = (K, nI v, 0, nI a, 1, 0) := if_pos rfl
theorem numS_2 (K f m : Int32) (v a : Nat) : numS K f 2 m v a = (K, f, nI v, nI a, 2, m) := if_neg (by decide)
theorem no_of {c : Int32} (h : ¬ (¬ c < 48 ∧ ¬ 57 < c)) : c < 48 ∨ 57 < c := by
  by_cases q : c < 48
  · exact Or.inl q
  · by_cases q2 : 57 < c
    · exact Or.inr q2
    · exact absurd ⟨q, q2⟩ h
theorem endF_0 {K : Int32} (hk : ¬ K = 112) (n : Int32) : endF K n 1 = 0 := by
  unfold endF
  rw [if_neg (by decide), if_pos rfl, if_neg hk]
theorem endF_2 {K : Int32} {a : Nat} (h : 1 ≤ a) (h8 : a ≤ 8) : endF K (nI a) 2 = 1 := by
  unfold endF
  rw [if_pos rfl]
  exact endN_p rfl h8 h
theorem endF_20 (K : Int32) : endF K 0 2 = 0 := by
  unfold endF
  rw [if_pos rfl]
  decide
/-- behind a second number: what is no digit is not taken, but the end of a command -/
theorem end_2 {K f m c : Int32} {v a : Nat} (ha : 1 ≤ a) (h8 : a ≤ 8) (hd : ¬ c < 48 → ¬ 57 < c → acc (K, f, nI v, nI a, 2, m) c = none) (h59 : ¬ c = 59) : acc (K, f, nI v, nI a, 2, m) c = none := by
  by_cases q : ¬ c < 48 ∧ ¬ 57 < c
  · exact hd q.1 q.2
  · exact acc_2 (by decide) (endF_2 ha h8) (fun w => nI_ne0 (by omega) (by omega) w) (no_of q) h59
/-- two periods -/
theorem per_f1 {tx : Nat → Int32} {ty i j : Nat} {K v o w : Int32} (hK : K = 100 ∨ K = 98) (hN : NR tx ty 49 50 i v j) (hi : i ≤ ty) (hv : v = (-1)) : PSR tx ty K i 0 j o w := by
  have hk : ¬ K = 112 := by rcases hK with rfl | rfl <;> decide
  rcases NR_S (f := 0) (okL_1 hK 1) (Or.inl rfl) (l := 1) (g := 50) rfl rfl hN hi with ⟨-, h2, h3⟩ | ⟨a, w, h1, -⟩
  · refine ⟨0, (K, 0, 0, 0, 1, 0), h2, by omega, rfl, fun m hm => absurd hm (Nat.not_lt_zero m), Or.inr ⟨rfl, endF_0 hk 0, fun hj => ?_⟩⟩
    have := h3 (by omega) (Or.inl (fun q => absurd q.2 (by decide)))
    rw [numS_0] at this
    rw [h2]
    exact this
  · exact absurd hv h1
theorem per_f2 {tx : Nat → Int32} {ty i j : Nat} {K v o w sp : Int32} {lo gr : Int32} {l g : Nat} (hL : okL K 1 0 l g) (hlo : lo = nI (48 + l)) (hgr : gr = nI g) (hsp : sp = sepP K) (hN : NR tx ty lo gr i v j) (hi : i ≤ ty) (hv : ¬ v = (-1)) (hc : ty ≤ j ∨ ¬ tx j = sp) : PSR tx ty K i 0 j o w := by
  rcases NR_S (f := 0) hL (Or.inl rfl) hlo hgr hN hi with ⟨h1, -⟩ | ⟨a, w, -, h2, h3, h4, h5, h6, h7, h8, h9, h10⟩
  · exact absurd h1 hv
  · rw [numS_0, numS_1] at h8
    rw [numS_1] at h10
    refine ⟨a, _, h6, h7, h8, h9, Or.inr ⟨rfl, endF_0 hL.1 _, fun hj => ?_⟩⟩
    by_cases q : ¬ tx j < 48 ∧ ¬ 57 < tx j
    · exact h10 hj q.1 q.2
    · exact (acc_1 hL.1 (fun w => nI_ne0 (by omega) (by omega) w) (no_of q)).2 (by rw [← hsp]; exact hc.resolve_left (by omega))
/-- the first number, and the sign behind it -/
theorem per_s1 {tx : Nat → Int32} {ty i j : Nat} {K v sp lo gr : Int32} {l g : Nat} (hL : okL K 1 0 l g) (hlo : lo = nI (48 + l)) (hgr : gr = nI g) (hsp : sp = sepP K) (h57 : sp < 48 ∨ 57 < sp) (h59 : ¬ sp = 59) (hN : NR tx ty lo gr i v j) (hi : i ≤ ty) (hv : ¬ v = (-1)) (hj : j < ty) (hc : tx j = sp) : ∃ a, j + 1 = i + (a + 1) ∧ j + 1 ≤ ty ∧ itF tx (a + 1) i (K, 0, 0, 0, 1, 0) = some (K, v, 0, 0, 2, 0) ∧ ∀ m, m < a + 1 → ¬ tx (i + m) = 59 := by
  rcases NR_S (f := 0) hL (Or.inl rfl) hlo hgr hN hi with ⟨h1, -⟩ | ⟨a, w, -, h2, h3, h4, h5, h6, h7, h8, h9, h10⟩
  · exact absurd h1 hv
  · rw [numS_0, numS_1] at h8
    refine ⟨a, by omega, hj, itF_s h8 ?_, fun m hm => ?_⟩
    · rw [← h6, h2]
      exact (acc_1 hL.1 (fun w => nI_ne0 (by omega) (by omega) w) (by rw [hc]; exact h57)).1 (by rw [hc]; exact hsp)
    · rcases Nat.lt_succ_iff_lt_or_eq.mp hm with q | rfl
      · exact h9 m q
      · rw [← h6, hc]
        exact h59
theorem per_f3 {tx : Nat → Int32} {ty i j j2 : Nat} {K v v2 o w : Int32} (hK : K = 100 ∨ K = 98) (hN : NR tx ty 49 50 i v j) (hi : i ≤ ty) (hv : ¬ v = (-1)) (hj : j < ty) (hc : tx j = 44) (hN2 : NR tx ty 49 50 (j + 1) v2 j2) (hv2 : v2 = (-1)) : PSR tx ty K i 0 j2 o w := by
  have hk : ¬ K = 115 := by rcases hK with rfl | rfl <;> decide
  obtain ⟨a, e1, e2, e3, e4⟩ := per_s1 (okL_1 hK 1) (l := 1) (g := 50) rfl rfl (show (44 : Int32) = sepP K from (if_neg hk).symm) (by decide) (by decide) hN hi hv hj hc
  rcases NR_S (K := K) (f := v) (okL_1 hK 2) (Or.inr rfl) (l := 1) (g := 50) rfl rfl hN2 e2 with ⟨-, h2, h3⟩ | ⟨a, w, h1, -⟩
  · refine ⟨a + 1, _, by omega, by omega, e3, e4, Or.inr ⟨rfl, endF_20 K, fun hj2 => ?_⟩⟩
    have := h3 (by omega) (Or.inl (fun q => hk q.1))
    rw [numS_2] at this
    rw [h2]
    exact this
  · exact absurd hv2 h1
theorem per_y {tx : Nat → Int32} {ty i j j2 : Nat} {K v v2 : Int32} (hK : K = 100 ∨ K = 98) (hN : NR tx ty 49 50 i v j) (hi : i ≤ ty) (hv : ¬ v = (-1)) (hj : j < ty) (hc : tx j = 44) (hN2 : NR tx ty 49 50 (j + 1) v2 j2) (hv2 : ¬ v2 = (-1)) : PSR tx ty K i 1 j2 v v2 := by
  have hk : ¬ K = 115 := by rcases hK with rfl | rfl <;> decide
  have hk2 : ¬ K = 112 := by rcases hK with rfl | rfl <;> decide
  obtain ⟨a, e1, e2, e3, e4⟩ := per_s1 (okL_1 hK 1) (l := 1) (g := 50) rfl rfl (show (44 : Int32) = sepP K from (if_neg hk).symm) (by decide) (by decide) hN hi hv hj hc
  rcases NR_S (K := K) (f := v) (okL_1 hK 2) (Or.inr rfl) (l := 1) (g := 50) rfl rfl hN2 e2 with ⟨h1, -⟩ | ⟨b, w, -, h2, h3, h4, h5, h6, h7, h8, h9, h10⟩
  · exact absurd h1 hv2
  · rw [numS_2, numS_2] at h8
    rw [numS_2] at h10
    refine ⟨a + 1 + b, (K, v, nI w, nI b, 2, 0), by omega, h7, itF_add (a + 1) i _ e3 (by rw [← e1]; exact h8), fun m hm => ?_, Or.inl ⟨rfl, endF_2 h4 (by omega), rfl, rfl, ?_, fun hj2 h59 => end_2 h4 (by omega) (h10 hj2) h59⟩⟩
    · rcases Nat.lt_or_ge m (a + 1) with q | q
      · exact e4 m q
      · rw [show i + m = (j + 1) + (m - (a + 1)) from by omega]
        exact h9 _ (by omega)
    · show v2 = wOf _
      unfold wOf
      rw [if_neg (show ¬ q_k (K, v, nI w, nI b, 2, 0) = 112 from hk2)]
      exact h2.trans (if_pos rfl).symm
/-! a smudge -/
theorem smu_f1 {tx : Nat → Int32} {ty i j : Nat} {v o w : Int32} (hN : NR tx ty 48 40 i v j) (hi : i ≤ ty) (hv : v = (-1)) : PSR tx ty 115 i 0 j o w := by
  rcases NR_S (f := 0) okL_s1 (Or.inl rfl) (l := 0) (g := 40) rfl rfl hN hi with ⟨-, h2, h3⟩ | ⟨a, w, h1, -⟩
  · refine ⟨0, (115, 0, 0, 0, 1, 0), h2, by omega, rfl, fun m hm => absurd hm (Nat.not_lt_zero m), Or.inr ⟨rfl, endF_0 (by decide) 0, fun hj => ?_⟩⟩
    have := h3 (by omega) (Or.inl (fun q => absurd q.2 (by decide)))
    rw [numS_0] at this
    rw [h2]
    exact this
  · exact absurd hv h1
/-- behind '=' (and a minus: m): no digit of a smudge -/
theorem smu_no {c m lo : Int32} {v : Int32} {l : Nat} (hL : okL 115 2 m l 9) (hlo : lo = nI (48 + l)) (h : c < lo ∨ 57 < c) (hm : ¬ m = 0 ∨ ¬ c = 45) : acc (115, v, 0, 0, 2, m) c = none := by
  by_cases q : ¬ c < 48 ∧ ¬ 57 < c
  · obtain ⟨d, hd9, ec, ed⟩ := c48 q.1 q.2
    have hdl : d < l := by
      have h31 : c < lo := h.resolve_right q.2
      rw [ec, hlo] at h31
      rcases Nat.lt_or_ge d l with w | w
      · exact w
      · exact absurd h31 (nI_nlt (by omega) (by have := hL.2.2.2.1; omega))
    have := (numS_acc (f := v) (v := 0) (a := 0) hL (Or.inr rfl) (by omega) (by omega) hd9 q.1 q.2 ed).2 (Or.inr (Or.inl (by omega)))
    rw [numS_2] at this
    exact this
  · exact acc_no0 (by decide) (no_of q) (hm.elim (fun w => Or.inr (Or.inr (Or.inr w))) Or.inl)
theorem smu_yes {c m lo : Int32} {v : Int32} {l : Nat} (hL : okL 115 2 m l 9) (hlo : lo = nI (48 + l)) (h : ¬ c < lo) (h2 : ¬ 57 < c) : ∃ d, c - 48 = nI d ∧ acc (115, v, 0, 0, 2, m) c = some (115, v, nI d, nI 1, 2, m) ∧ ∀ c2 : Int32, ¬ c2 = 59 → acc (115, v, nI d, nI 1, 2, m) c2 = none := by
  have hl : lo = 48 ∨ lo = 49 := by
    rcases (show l = 0 ∨ l = 1 by have := hL.2.2.2.1; omega) with q | q
    · exact Or.inl (by rw [hlo, q]; rfl)
    · exact Or.inr (by rw [hlo, q]; rfl)
  obtain ⟨d, hd9, ec, ed⟩ := c48 (lo_48 hl h) h2
  have hl1 := hL.2.2.2.1
  have hdl : l ≤ d := by
    rcases Nat.lt_or_ge d l with q | q
    · exact absurd (by rw [ec, hlo]; exact nI_lt (by omega) (by omega)) h
    · exact q
  have ha := (numS_acc (f := v) (v := 0) (a := 0) hL (Or.inr rfl) (by omega) (by omega) hd9 (lo_48 hl h) h2 ed).1 (by omega) (by omega) (Or.inl rfl)
  rw [show 10 * 0 + d = d from by omega, numS_2, numS_2] at ha
  refine ⟨d, ed, ha, fun c2 h59 => end_2 (Nat.le_refl 1) (by omega) (fun q1 q2 => ?_) h59⟩
  obtain ⟨d2, hd2, -, ed2⟩ := c48 q1 q2
  have := (numS_acc (f := v) (v := d) (a := 1) hL (Or.inr rfl) (by omega) (by omega) hd2 q1 q2 ed2).2 (by
    rcases Nat.lt_or_ge 0 d with w | w
    · exact Or.inr (Or.inr (by omega))
    · exact Or.inl ⟨Nat.le_refl 1, by omega⟩)
  rw [numS_2] at this
  exact this
theorem acc_minus {v : Int32} : acc (115, v, 0, 0, 2, 0) 45 = some (115, v, 0, 0, 2, 1) := rfl
theorem smu_s1 {tx : Nat → Int32} {ty i j : Nat} {v : Int32} (hN : NR tx ty 48 40 i v j) (hi : i ≤ ty) (hv : ¬ v = (-1)) (hj : j < ty) (hc : tx j = 61) : ∃ a, j + 1 = i + (a + 1) ∧ j + 1 ≤ ty ∧ itF tx (a + 1) i (115, 0, 0, 0, 1, 0) = some (115, v, 0, 0, 2, 0) ∧ ∀ m, m < a + 1 → ¬ tx (i + m) = 59 := per_s1 okL_s1 (l := 0) (g := 40) rfl rfl (show (61 : Int32) = sepP 115 from rfl) (by decide) (by decide) hN hi hv hj hc
theorem smu_s2 {tx : Nat → Int32} {ty i j : Nat} {v : Int32} (hN : NR tx ty 48 40 i v j) (hi : i ≤ ty) (hv : ¬ v = (-1)) (hj : j < ty) (hc : tx j = 61) (hj2 : j + 1 < ty) (hm : tx (j + 1) = 45) : ∃ a, j + 2 = i + (a + 1) ∧ j + 2 ≤ ty ∧ itF tx (a + 1) i (115, 0, 0, 0, 1, 0) = some (115, v, 0, 0, 2, 1) ∧ ∀ m, m < a + 1 → ¬ tx (i + m) = 59 := by
  obtain ⟨a, e1, e2, e3, e4⟩ := smu_s1 hN hi hv hj hc
  refine ⟨a + 1, by omega, hj2, itF_s e3 (by rw [← e1, hm]; exact acc_minus), fun m hm2 => ?_⟩
  rcases Nat.lt_succ_iff_lt_or_eq.mp hm2 with q | rfl
  · exact e4 m q
  · rw [← e1, hm]
    decide
theorem smu_no2 {tx : Nat → Int32} {ty i j : Nat} {v m o w lo : Int32} {l : Nat} (hL : okL 115 2 m l 9) (hlo : lo = nI (48 + l)) (h : ∃ a, j = i + (a + 1) ∧ j ≤ ty ∧ itF tx (a + 1) i (115, 0, 0, 0, 1, 0) = some (115, v, 0, 0, 2, m) ∧ ∀ m, m < a + 1 → ¬ tx (i + m) = 59) (hd : ty ≤ j ∨ (tx j < lo ∨ 57 < tx j)) (hm : ¬ m = 0 ∨ (ty ≤ j ∨ ¬ tx j = 45)) : PSR tx ty 115 i 0 j o w := by
  obtain ⟨a, e1, e2, e3, e4⟩ := h
  exact ⟨a + 1, _, e1, e2, e3, e4, Or.inr ⟨rfl, endF_20 115, fun hj => smu_no hL hlo (hd.resolve_left (by omega)) (hm.elim Or.inl (fun w => Or.inr (w.resolve_left (by omega))))⟩⟩
theorem smu_y {tx : Nat → Int32} {ty i j : Nat} {v m w lo : Int32} {l : Nat} (hL : okL 115 2 m l 9) (hlo : lo = nI (48 + l)) (h : ∃ a, j = i + (a + 1) ∧ j ≤ ty ∧ itF tx (a + 1) i (115, 0, 0, 0, 1, 0) = some (115, v, 0, 0, 2, m) ∧ ∀ m, m < a + 1 → ¬ tx (i + m) = 59) (hj : j < ty) (h1 : ¬ tx j < lo) (h2 : ¬ 57 < tx j) (hw : w = sgnP (tx j - 48) m) : PSR tx ty 115 i 1 (j + 1) v w := by
  obtain ⟨a, e1, e2, e3, e4⟩ := h
  obtain ⟨d, ed, ha, hb⟩ := smu_yes (v := v) hL hlo h1 h2
  refine ⟨a + 1 + 1, (115, v, nI d, nI 1, 2, m), by omega, hj, itF_s e3 (by rw [← e1]; exact ha), fun k hk => ?_, Or.inl ⟨rfl, endF_2 (Nat.le_refl 1) (by omega), rfl, rfl, ?_, fun _ h59 => hb _ h59⟩⟩
  · rcases Nat.lt_succ_iff_lt_or_eq.mp hk with q | rfl
    · exact e4 k q
    · rw [← e1]
      exact ne59 h2
  · rw [hw, ed]
    exact (if_neg (show ¬ (115 : Int32) = 112 by decide)).symm
/-! a label's digits -/
def numT (tx : Nat → Int32) (i : Nat) : Nat → Int32
  | 0 => 0
  | a + 1 => 10 * numT tx i a + tx (i + a) - 48
theorem lab_it {tx : Nat → Int32} {i : Nat} : ∀ a, a ≤ 8 → (∀ m, m < a → ¬ tx (i + m) < 48 ∧ ¬ 57 < tx (i + m)) → itF tx a i (112, 0, 0, 0, 1, 0) = some (112, numT tx i a, 0, nI a, 1, 0) := by
  intro a
  induction a with
  | zero => intro _ _; rfl
  | succ a ih =>
    intro ha h
    obtain ⟨h1, h2⟩ := h a (Nat.lt_succ_self a)
    refine itF_s (ih (by omega) (fun m hm => h m (by omega))) ?_
    rw [acc_d (by decide) h1 (Int32.not_lt.mp h2)]
    unfold acDig
    have hal : ¬ alwF 112 (nI a) 1 0 (10 * numT tx i a + (tx (i + a) - 48)) (tx (i + a) - 48) = 0 := by
      unfold alwF
      rw [if_pos rfl, if_neg (show ¬ (8 : Int32) ≤ nI a from nI_ge (b := 8) (by omega) (by decide))]
      decide
    rw [if_pos rfl, if_neg hal, nI_1]
    show some (112, 10 * numT tx i a + (tx (i + a) - 48), 0, nI (a + 1), 1, 0) = some (112, 10 * numT tx i a + tx (i + a) - 48, 0, nI (a + 1), 1, 0)
    rw [Int32.sub_eq_add_neg, Int32.sub_eq_add_neg, Int32.add_assoc]
theorem lab_end {tx : Nat → Int32} {i a : Nat} {v c : Int32} (ha : a ≤ 8) (hs : a = 8 ∨ (c < 48 ∨ 57 < c)) (h59 : 1 ≤ a → ¬ c = 59) : acc (112, v, 0, nI a, 1, 0) c = none := by
  by_cases q : ¬ c < 48 ∧ ¬ 57 < c
  · have h8 : a = 8 := hs.resolve_right (fun w => w.elim q.1 q.2)
    rw [acc_d (by decide) q.1 (Int32.not_lt.mp q.2)]
    unfold acDig
    have hal : alwF 112 (nI a) 1 0 (10 * v + (c - 48)) (c - 48) = 0 := by
      unfold alwF
      rw [if_pos rfl, if_pos (by rw [h8]; decide)]
    rw [if_pos rfl, if_pos hal]
  · rcases Nat.lt_or_ge 0 a with w | w
    · refine acc_2 (by decide) ?_ (fun w9 => nI_ne0 w (by omega) w9) (no_of q) (h59 w)
      rw [endF_112 (Or.inl rfl)]
      exact endN_p rfl ha w
    · rw [Nat.le_zero.mp w]
      exact acc_no0 (by decide) (no_of q) (Or.inr (Or.inl (by decide)))
theorem lab_y {tx : Nat → Int32} {ty i a : Nat} (ha : a ≤ 8) (hj : i + a ≤ ty) (hd : ∀ m, m < a → ¬ tx (i + m) < 48 ∧ ¬ 57 < tx (i + m)) (hs : a = 8 ∨ (ty ≤ i + a ∨ (tx (i + a) < 48 ∨ 57 < tx (i + a)))) (h1 : 1 ≤ a) : PSR tx ty 112 i 1 (i + a) (numT tx i a) (nI a) := by
  refine ⟨a, _, rfl, hj, lab_it a ha hd, fun m hm => ne59 (hd m hm).2, Or.inl ⟨rfl, ?_, rfl, rfl, (if_pos rfl).symm, fun hj2 h59 => lab_end (tx := tx) (i := i) ha (hs.elim Or.inl (fun w => Or.inr (w.resolve_left (by omega)))) (fun _ => h59)⟩⟩
  show endF 112 (nI a) 1 = 1
  rw [endF_112 (Or.inl rfl)]
  exact endN_p rfl ha h1
theorem lab_n {tx : Nat → Int32} {ty i : Nat} {o w : Int32} (hj : i ≤ ty) (hs : ty ≤ i ∨ (tx i < 48 ∨ 57 < tx i)) : PSR tx ty 112 i 0 i o w := ⟨0, _, rfl, hj, rfl, fun m hm => absurd hm (Nat.not_lt_zero m), Or.inr ⟨rfl, by decide, fun hj2 => lab_end (tx := tx) (i := i) (a := 0) (Nat.zero_le _) (Or.inr (hs.resolve_left (by omega))) (fun q => absurd q (by decide))⟩⟩
/-! a command -/
def CMD (tx : Nat → Int32) (ty i : Nat) (L : Int32) (j : Nat) (o w : Int32) : Prop :=
  (L = 32 ∧ ((j = i ∧ (i < ty → ¬ isK (tx i))) ∨ (i < ty ∧ isK (tx i) ∧ PSR tx ty (tx i) (i + 1) 0 j o w))) ∨ (i < ty ∧ L = tx i ∧ isK (tx i) ∧ PSR tx ty (tx i) (i + 1) 1 j o w)

