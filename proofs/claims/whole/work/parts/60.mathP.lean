
/-! ===== the command text: the class's automaton ===== -/
/-- kind, first, second, number's length, part, sign -/
abbrev PS : Type := Int32 × Int32 × Int32 × Int32 × Int32 × Int32
def leastP (k m : Int32) : Int32 := if k = 115 then (if m = 0 then 0 else 1) else 1
def grtP (k p : Int32) : Int32 := if k = 115 then (if p = 1 then 40 else 9) else 50
def alwB (k p m v : Int32) : Int32 := if v < leastP k m then 0 else if grtP k p < v then 0 else 1
def alwF (k n p m v d : Int32) : Int32 := if k = 112 then (if 8 ≤ n then 0 else 1) else if n ≤ 0 then alwB k p m v else if v = d then 0 else alwB k p m v
def endN (n : Int32) : Int32 := if n ≤ 0 then 0 else 1
def endF (k n p : Int32) : Int32 := if p = 2 then endN n else if p = 1 then (if k = 112 then endN n else 0) else 0
abbrev isK (c : Int32) : Prop := c = 112 ∨ c = 115 ∨ c = 100 ∨ c = 98
def acKind (c : Int32) : Option PS := if isK c then some (c, 0, 0, 0, 1, 0) else none
def acDig (k f s n p m d : Int32) : Option PS := if p = 1 then (if alwF k n p m (10 * f + d) d = 0 then none else some (k, 10 * f + d, s, n + 1, p, m)) else (if alwF k n p m (10 * s + d) d = 0 then none else some (k, f, 10 * s + d, n + 1, p, m))
def acMin (k f s n p m : Int32) : Option PS := if k = 115 then (if p = 2 then (if n = 0 then (if m = 0 then some (k, f, s, n, p, 1) else none) else none) else none) else none
def sepP (k : Int32) : Int32 := if k = 115 then 61 else 44
def acSep (k f s n p m c : Int32) : Option PS := if n = 0 then none else if endF k n p = 0 then (if c = sepP k then some (k, f, 0, 0, 2, 0) else none) else (if c = 59 then some (k, f, s, n, 0, m) else none)
def acRest (k f s n p m c : Int32) : Option PS := if c = 45 then acMin k f s n p m else acSep k f s n p m c
def acc : PS → Int32 → Option PS
  | (k, f, s, n, p, m), c => if p = 0 then acKind c else if c < 48 then acRest k f s n p m c else if 57 < c then acRest k f s n p m c else acDig k f s n p m (c - 48)
/-- an answer, and what is left -/
def orR (o : Option PS) (q : PS) (r : Int32) (q1 : PS) : Prop := (r = 1 ∧ o = some q1) ∨ (r = 0 ∧ o = none ∧ q1 = q)
theorem acc_k {k f s n p m c : Int32} (h : p = 0) : acc (k, f, s, n, p, m) c = acKind c := if_pos h
theorem acc_d {k f s n p m c : Int32} (h : ¬ p = 0) (h1 : ¬ c < 48) (h2 : c ≤ 57) : acc (k, f, s, n, p, m) c = acDig k f s n p m (c - 48) := by
  show ite _ _ _ = _
  rw [if_neg h, if_neg h1, if_neg (Int32.not_lt.mpr h2)]
theorem acc_r {k f s n p m c : Int32} (h : ¬ p = 0) (h1 : c < 48 ∨ 57 < c) : acc (k, f, s, n, p, m) c = acRest k f s n p m c := by
  show ite _ _ _ = _
  rw [if_neg h]
  by_cases q : c < 48
  · rw [if_pos q]
  · rw [if_neg q, if_pos (h1.resolve_left q)]
theorem acc_m {k f s n p m c : Int32} (h : ¬ p = 0) (h1 : c < 48 ∨ 57 < c) (h2 : c = 45) : acc (k, f, s, n, p, m) c = acMin k f s n p m := (acc_r h h1).trans (if_pos h2)
theorem acc_s {k f s n p m c : Int32} (h : ¬ p = 0) (h1 : c < 48 ∨ 57 < c) (h2 : ¬ c = 45) : acc (k, f, s, n, p, m) c = acSep k f s n p m c := (acc_r h h1).trans (if_neg h2)
def q_k (q : PS) : Int32 := q.1
def q_f (q : PS) : Int32 := q.2.1
def q_s (q : PS) : Int32 := q.2.2.1
def q_n (q : PS) : Int32 := q.2.2.2.1
def q_p (q : PS) : Int32 := q.2.2.2.2.1
def q_m (q : PS) : Int32 := q.2.2.2.2.2
def endQ (q : PS) : Int32 := endF (q_k q) (q_n q) (q_p q)
def g0 : PS := (0, 0, 0, 0, 0, 0)
/-- the first i signs, taken -/
def itA (f : Nat → Int32) (g : PS) : Nat → Option PS
  | 0 => some g
  | i + 1 => (itA f g i).bind (fun q => acc q (f i))
theorem itA_s {f : Nat → Int32} {g q q1 : PS} {i : Nat} (h : itA f g i = some q) (h1 : acc q (f i) = some q1) : itA f g (i + 1) = some q1 := by
  show (itA f g i).bind _ = _
  rw [h]
  exact h1
theorem itA_pre {f : Nat → Int32} {g q : PS} {n : Nat} (h : itA f g n = some q) : ∀ d, d ≤ n → ∃ q', itA f g (n - d) = some q' := by
  intro d
  induction d with
  | zero => intro _; exact ⟨q, h⟩
  | succ d ih =>
    intro hd
    obtain ⟨q', h'⟩ := ih (by omega)
    rw [show n - d = (n - (d + 1)) + 1 from by omega] at h'
    cases e : itA f g (n - (d + 1)) with
    | none =>
      have h9 : (itA f g (n - (d + 1))).bind (fun q => acc q (f (n - (d + 1)))) = some q' := h'
      rw [e] at h9
      cases h9
    | some q2 => exact ⟨q2, rfl⟩
theorem itA_lt {f : Nat → Int32} {g q q' : PS} {n e : Nat} (h : itA f g n = some q) (he : e < n) (h' : itA f g e = some q') : ∃ q2, acc q' (f e) = some q2 := by
  obtain ⟨q3, h3⟩ := itA_pre h (n - (e + 1)) (by omega)
  rw [show n - (n - (e + 1)) = e + 1 from by omega] at h3
  have h9 : (itA f g e).bind (fun q => acc q (f e)) = some q3 := h3
  rw [h'] at h9
  exact ⟨q3, h9⟩
theorem acc_g {g g' : PS} {c : Int32} (h : q_p g = 0) (h' : q_p g' = 0) : acc g c = acc g' c := by
  obtain ⟨k, f, s, n, p, m⟩ := g
  obtain ⟨k', f', s', n', p', m'⟩ := g'
  exact (acc_k (show p = 0 from h)).trans (acc_k (show p' = 0 from h')).symm
theorem itA_g {f : Nat → Int32} {g g' : PS} (h : q_p g = 0) (h' : q_p g' = 0) : ∀ i, 1 ≤ i → itA f g i = itA f g' i := by
  intro i
  induction i with
  | zero => intro q; omega
  | succ i ih =>
    intro _
    by_cases hi : i = 0
    · subst hi
      exact acc_g h h'
    · show (itA f g i).bind _ = (itA f g' i).bind _
      rw [ih (by omega)]
/-- a complete command text -/
def COM (f : Nat → Int32) (n : Nat) (g : PS) : Prop := ∃ q, itA f g n = some q ∧ endQ q = 1
theorem endQ_p {q : PS} (h : q_p q = 0) : endQ q = 0 := by
  unfold endQ endF
  rw [h, if_neg (by decide), if_neg (by decide)]
theorem COM_1 {f : Nat → Int32} {n : Nat} {g : PS} (hg : q_p g = 0) (h : COM f n g) : 1 ≤ n := by
  rcases Nat.lt_or_ge 0 n with q | q
  · exact q
  · obtain ⟨q', h1, h2⟩ := h
    rw [Nat.le_zero.mp q] at h1
    cases h1
    rw [endQ_p hg] at h2
    exact absurd h2 (by decide)
theorem COM_g {f : Nat → Int32} {n : Nat} {g g' : PS} (hg : q_p g = 0) (hg' : q_p g' = 0) (h : COM f n g) : COM f n g' := by
  have h1 := COM_1 hg h
  obtain ⟨q, h2, h3⟩ := h
  exact ⟨q, (itA_g hg' hg n h1).trans h2, h3⟩
/-- where the first error is -/
def FE (f : Nat → Int32) (n : Nat) (r : Int32) : Prop := ∃ e q, r = nI e ∧ e ≤ n ∧ itA f g0 e = some q ∧ (e < n → acc q (f e) = none)
def PB (f : Nat → Int32) (n : Nat) (g : PS) (r : Int32) (q : PS) : Prop := ∃ e, r = nI e ∧ e ≤ n ∧ itA f g e = some q ∧ (e < n → acc q (f e) = none)
theorem PB_FE {f : Nat → Int32} {n : Nat} {g q : PS} {r : Int32} (hg : q_p g = 0) (h : PB f n g r q) : FE f n r := by
  obtain ⟨e, h1, h2, h3, h4⟩ := h
  by_cases he : e = 0
  · subst he
    cases h3
    exact ⟨0, g0, h1, h2, rfl, fun q => by rw [acc_g (g' := g) rfl hg]; exact h4 q⟩
  · exact ⟨e, q, h1, h2, (itA_g rfl hg e (by omega)).trans h3, h4⟩
theorem FE_one {f : Nat → Int32} {n : Nat} {r r' : Int32} (h : FE f n r) (h' : FE f n r') : r = r' := by
  obtain ⟨e, q, h1, h2, h3, h4⟩ := h
  obtain ⟨e', q', h1', h2', h3', h4'⟩ := h'
  have : e = e' := by
    rcases Nat.lt_trichotomy e e' with w | w | w
    · obtain ⟨q2, h5⟩ := itA_lt h3' w h3
      rw [h4 (by omega)] at h5
      cases h5
    · exact w
    · obtain ⟨q2, h5⟩ := itA_lt h3 w h3'
      rw [h4' (by omega)] at h5
      cases h5
  rw [h1, h1', this]
theorem PB_com {f : Nat → Int32} {n : Nat} {g q : PS} {r : Int32} (hg : q_p g = 0) (h : PB f n g r q) (hc : COM f n g0) : r = nI n ∧ itA f g n = some q ∧ endQ q = 1 := by
  obtain ⟨qe, h1, h2⟩ := COM_g rfl hg hc
  obtain ⟨e, h3, h4, h5, h6⟩ := h
  have he : e = n := by
    rcases Nat.lt_or_ge e n with w | w
    · obtain ⟨q2, h7⟩ := itA_lt h1 w h5
      rw [h6 w] at h7
      cases h7
    · omega
  subst he
  rw [h5] at h1
  cases h1
  exact ⟨h3, h5, h2⟩
theorem PB_no {f : Nat → Int32} {n : Nat} {g q : PS} {r : Int32} (hn : n ≤ 60) (hg : q_p g = 0) (h : PB f n g r q) (hc : ¬ COM f n g0) : ¬ nI n ≤ r ∨ (nI n ≤ r ∧ endQ q = 0) := by
  obtain ⟨e, h3, h4, h5, h6⟩ := h
  by_cases he : e = n
  · subst he
    refine Or.inr ⟨by rw [h3]; exact Int32.le_refl _, ?_⟩
    have h2 : ¬ endQ q = 1 := fun h7 => hc (COM_g hg rfl ⟨q, h5, h7⟩)
    unfold endQ endF endN at h2 ⊢
    split at h2
    · rename_i w
      rw [if_pos w]
      split at h2
      · rename_i w2; rw [if_pos w2]
      · exact absurd rfl h2
    · rename_i w
      rw [if_neg w]
      split at h2
      · rename_i w1
        rw [if_pos w1]
        split at h2
        · rename_i w2
          rw [if_pos w2]
          split at h2
          · rename_i w3; rw [if_pos w3]
          · exact absurd rfl h2
        · rename_i w2; rw [if_neg w2]
      · rename_i w1; rw [if_neg w1]
  · refine Or.inl ?_
    rw [h3]
    exact nI_ge (by omega) (by omega)
/-- the sign stays 0 or 1 -/
def m01 (q : PS) : Prop := q_m q = 0 ∨ q_m q = 1
/-- numbers of a command -/
def okQ (q : PS) : Prop := m01 q ∧ (q_p q = 1 ∨ q_p q = 2) ∧ (q_k q = 112 → ∃ a v, a ≤ 8 ∧ q_n q = nI a ∧ v < 10 ^ a ∧ q_f q = nI v) ∧ (¬ q_k q = 112 → ∃ v, v ≤ 50 ∧ q_f q = nI v) ∧ (¬ q_k q = 115 → q_m q = 0)
def sgnP (s m : Int32) : Int32 := if m = 0 then s else -s
theorem or_nar {o : Option PS} {q q1 : PS} {r : Int32} (h : orR o q r q1) : narrow .boolean (.int r) = .int r := by
  rcases h with ⟨rfl, -⟩ | ⟨rfl, -⟩ <;> rfl

