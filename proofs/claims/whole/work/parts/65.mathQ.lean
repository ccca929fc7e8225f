
/-! ===== a command, done ===== -/
theorem WW_0 (a : Nat → Nat) (K KS : ClassId) (st : ST) (hs : HT) (sc : SCT) : (WW a K KS st hs sc)[0]? = some (a 0, .inr (7, [.ref (a 1), .ref (a 16), .ref (a 18), .ref (a 23), .ref (a 25), .ref (a 27)])) := by
  obtain ⟨nd, df, ns, zf, tn, tf, k, f, g, cn, tol, suc, fai⟩ := st
  obtain ⟨nx, kp, rg⟩ := hs
  obtain ⟨r1, r2, r3, r4, r5, r6, rn, rdf, rln, rlf, fon, fof⟩ := sc
  rfl
def setZR (i v : Int32) : ST → ST
  | (nd, df, ns, zf, tn, tf, k, f, g, cn, tol, suc, fai) => (nd, df, ns, rowPut 41 (nI ns) zf i v, tn, tf, k, f, g, cn, tol, suc, fai)
def EXC (x : ST) (q : PS) (r : Int32) (x2 : ST) : Prop :=
  (q_k q = 112 ∧ r = 1 ∧ ∃ j, 1 ≤ j ∧ j ≤ 8 ∧ q_n q = nI j ∧ x2 = setP (q_f q) j x) ∨
  (¬ q_k q = 112 ∧ q_k q = 115 ∧ r = inR (q_f q) (nI (s_ns x)) ∧ x2 = setZR (q_f q) (sgnP (q_s q) (q_m q)) x) ∨
  (¬ q_k q = 112 ∧ ¬ q_k q = 115 ∧ ((s_ns x = 0 ∧ r = 0 ∧ x2 = x) ∨ (¬ s_ns x = 0 ∧ r = 1 ∧ ∃ rr, RC (setT (s_ns x) (cpy (s_drw x (q_f q) (q_s q) (if q_k q = 98 then 1 else 0)) (s_tf x) (s_ns x)) x) x2 rr)))
theorem has_nar {r i n : Int32} (h : r = (if i < 0 then 0 else if n ≤ i then 0 else 1)) : narrow .boolean (.int r) = .int r := by
  rw [h]
  split
  · rfl
  · split <;> rfl
theorem setZR_0 {i v : Int32} {x : ST} (h : inR i (nI (s_ns x)) = 0) : setZR i v x = x := by
  obtain ⟨nd, df, ns, zf, tn, tf, k, f, g, cn, tol, suc, fai⟩ := x
  have h' : inR i (nI ns) = 0 := h
  show (nd, df, ns, rowPut 41 (nI ns) zf i v, tn, tf, k, f, g, cn, tol, suc, fai) = _
  have e : rowPut 41 (nI ns) zf i v = zf := by
    unfold rowPut
    unfold inR at h'
    by_cases h0 : i < 0
    · rw [if_pos h0]
    · rw [if_neg h0] at h' ⊢
      by_cases h1 : nI ns ≤ i
      · rw [if_pos h1]
      · rw [if_neg h1] at h'
        exact absurd h' (by decide)
  rw [e]
theorem setZR_1 {e : Nat} {v : Int32} {x : ST} (h : e < s_ns x) (hn : s_ns x ≤ 41) : setZR (nI e) v x = setZ e v x := by
  obtain ⟨nd, df, ns, zf, tn, tf, k, f, g, cn, tol, suc, fai⟩ := x
  show (nd, df, ns, rowPut 41 (nI ns) zf (nI e) v, tn, tf, k, f, g, cn, tol, suc, fai) = (nd, df, ns, upd zf e v, tn, tf, k, f, g, cn, tol, suc, fai)
  rw [rowPut_lt (show e < ns from h) (show ns ≤ 41 from hn) (by decide)]
theorem setZR_of (i v : Int32) (x : ST) : s_nd (setZR i v x) = s_nd x ∧ s_df (setZR i v x) = s_df x ∧ s_ns (setZR i v x) = s_ns x ∧ s_tn (setZR i v x) = s_tn x ∧ s_k (setZR i v x) = s_k x := by
  obtain ⟨nd, df, ns, zf, tn, tf, k, f, g, cn, tol, suc, fai⟩ := x
  exact ⟨rfl, rfl, rfl, rfl, rfl⟩
theorem EXC_b {x x2 : ST} {q : PS} {r : Int32} (hb : bST x) (h : EXC x q r x2) : bST x2 := by
  obtain ⟨b1, b2, b3, b4⟩ := bST_le hb
  rcases h with ⟨-, -, j, h1, h8, -, rfl⟩ | ⟨-, -, -, rfl⟩ | ⟨-, -, ⟨-, -, rfl⟩ | ⟨-, -, rr, h⟩⟩
  · obtain ⟨e1, e2, -, -, -, e6, -, -, e9, -⟩ := setP_of (q_f q) j x
    exact bST_of (by rw [e1]; omega) (by rw [e2]; omega) (by rw [e6]; exact b3) (by rw [e9]; exact b4)
  · obtain ⟨e1, -, e3, e4, e5⟩ := setZR_of (q_f q) (sgnP (q_s q) (q_m q)) x
    exact bST_of (by rw [e1]; exact b1) (by rw [e3]; exact b2) (by rw [e4]; exact b3) (by rw [e5]; exact b4)
  · exact hb
  · exact dr_b hb h
theorem EXC_r {x x2 : ST} {q : PS} {r : Int32} (h : EXC x q r x2) : r = 0 ∨ r = 1 := by
  rcases h with ⟨-, h, -⟩ | ⟨-, -, h, -⟩ | ⟨-, -, ⟨-, h, -⟩ | ⟨-, h, -⟩⟩
  · exact Or.inr h
  · rw [h]
    rcases inR_or (q_f q) (nI (s_ns x)) with w | w
    · exact Or.inr w
    · exact Or.inl w
  · exact Or.inl h
  · exact Or.inr h
/-- what is left of a text, taken and done: m signs are left of n -/
def CR (tx : Nat → Int32) (n : Nat) : Nat → PS → ST → ST → Nat → Prop
  | 0, _, x, x1, k => x1 = x ∧ k = 0
  | m + 1, q, x, x1, k => ∃ q', acc q (tx (n - (m + 1))) = some q' ∧ ((¬ (m = 0 ∨ tx (n - (m + 1)) = 59) ∧ CR tx n m q' x x1 k) ∨ ((m = 0 ∨ tx (n - (m + 1)) = 59) ∧ ∃ r x2, EXC x q' r x2 ∧ ((r = 0 ∧ x1 = x2 ∧ k = 0) ∨ (r = 1 ∧ ∃ k', k = k' + 1 ∧ CR tx n m q' x2 x1 k'))))
def RI (tx : Nat → Int32) (n : Nat) (G : PS) (x0 : ST) (i : Nat) (q : PS) (x : ST) (e : Nat) (go : Int32) : Prop := (go = 1 ∧ ∀ x9 k9, CR tx n (n - i) q x x9 k9 → CR tx n n G x0 x9 (e + k9)) ∨ (go = 0 ∧ CR tx n n G x0 x e)
theorem RI_0 (tx : Nat → Int32) (n : Nat) (G : PS) (x0 : ST) : RI tx n G x0 0 G x0 0 1 := Or.inl ⟨rfl, fun x9 k9 h => by rw [Nat.zero_add]; exact h⟩
theorem RI_skip {tx : Nat → Int32} {n : Nat} {G : PS} {x0 : ST} {i : Nat} {q q1 : PS} {x : ST} {e : Nat} {go : Int32} (h : RI tx n G x0 i q x e go) (hg : ¬ go = 0) (hi : i + 1 ≤ n) (ha : acc q (tx i) = some q1) (h1 : ¬ i + 1 = n) (h2 : ¬ tx i = 59) : RI tx n G x0 (i + 1) q1 x e go := by
  rcases h with ⟨rfl, h⟩ | ⟨h, -⟩
  · refine Or.inl ⟨rfl, fun x9 k9 h9 => h x9 k9 ?_⟩
    rw [show n - i = (n - (i + 1)) + 1 from by omega]
    refine ⟨q1, by rw [show n - (n - (i + 1) + 1) = i from by omega]; exact ha, Or.inl ⟨?_, h9⟩⟩
    rw [show n - (n - (i + 1) + 1) = i from by omega]
    intro w
    rcases w with w | w
    · omega
    · exact h2 w
  · exact absurd h hg
theorem RI_1 {tx : Nat → Int32} {n : Nat} {G : PS} {x0 : ST} {i : Nat} {q q1 : PS} {x x2 : ST} {e : Nat} {go r : Int32} (h : RI tx n G x0 i q x e go) (hg : ¬ go = 0) (hi : i + 1 ≤ n) (ha : acc q (tx i) = some q1) (h1 : i + 1 = n ∨ tx i = 59) (hx : EXC x q1 r x2) (hr : ¬ r = 0) : RI tx n G x0 (i + 1) q1 x2 (e + 1) r := by
  have hr1 := (EXC_r hx).resolve_left hr
  rcases h with ⟨rfl, h⟩ | ⟨h, -⟩
  · refine Or.inl ⟨hr1, fun x9 k9 h9 => ?_⟩
    have h8 := h x9 (k9 + 1) (by
      rw [show n - i = (n - (i + 1)) + 1 from by omega]
      refine ⟨q1, by rw [show n - (n - (i + 1) + 1) = i from by omega]; exact ha, Or.inr ⟨?_, r, x2, hx, Or.inr ⟨hr1, k9, rfl, h9⟩⟩⟩
      rw [show n - (n - (i + 1) + 1) = i from by omega]
      rcases h1 with w | w
      · exact Or.inl (by omega)
      · exact Or.inr w)
    rw [show e + 1 + k9 = e + (k9 + 1) from by omega]
    exact h8
  · exact absurd h hg
theorem RI_2 {tx : Nat → Int32} {n : Nat} {G : PS} {x0 : ST} {i : Nat} {q q1 : PS} {x x2 : ST} {e : Nat} {go r : Int32} (h : RI tx n G x0 i q x e go) (hg : ¬ go = 0) (hi : i + 1 ≤ n) (ha : acc q (tx i) = some q1) (h1 : i + 1 = n ∨ tx i = 59) (hx : EXC x q1 r x2) (hr : r = 0) : RI tx n G x0 (i + 1) q1 x2 e r := by
  rcases h with ⟨rfl, h⟩ | ⟨h, -⟩
  · refine Or.inr ⟨hr, ?_⟩
    have h8 := h x2 0 (by
      rw [show n - i = (n - (i + 1)) + 1 from by omega]
      refine ⟨q1, by rw [show n - (n - (i + 1) + 1) = i from by omega]; exact ha, Or.inr ⟨?_, r, x2, hx, Or.inl ⟨hr, rfl, rfl⟩⟩⟩
      rw [show n - (n - (i + 1) + 1) = i from by omega]
      rcases h1 with w | w
      · exact Or.inl (by omega)
      · exact Or.inr w)
    exact h8
  · exact absurd h hg
theorem RI_end {tx : Nat → Int32} {n : Nat} {G : PS} {x0 : ST} {i : Nat} {q : PS} {x : ST} {e : Nat} {go : Int32} (h : RI tx n G x0 i q x e go) (hg : go = 0 ∨ n ≤ i) : CR tx n n G x0 x e := by
  rcases h with ⟨rfl, h⟩ | ⟨-, h⟩
  · rcases hg with w | w
    · exact absurd w (by decide)
    · refine h x 0 ?_
      rw [show n - i = 0 from by omega]
      exact ⟨rfl, rfl⟩
  · exact h
theorem CR_g {tx : Nat → Int32} {n : Nat} {g g' : PS} {x x1 : ST} {k : Nat} (hg : q_p g = 0) (hg' : q_p g' = 0) (hn : 1 ≤ n) (h : CR tx n n g x x1 k) : CR tx n n g' x x1 k := by
  obtain ⟨m, rfl⟩ : ∃ m, n = m + 1 := ⟨n - 1, by omega⟩
  obtain ⟨q', h1, h2⟩ := h
  exact ⟨q', (acc_g hg' hg).trans h1, h2⟩
/-! ===== what the automaton keeps to ===== -/
def okP (q : PS) : Prop := m01 q ∧ (q_p q = 0 ∨ okQ q)
theorem dg_09 {c : Int32} (h1 : ¬ c < 48) (h2 : c ≤ 57) : ∃ d, d ≤ 9 ∧ c - 48 = nI d := by
  have h0 : ¬ c < 0 := fun q => h1 (by
    rw [fa_lt] at q ⊢
    have e0 : (0 : Int32).toInt = 0 := by decide
    have e48 : (48 : Int32).toInt = 48 := by decide
    omega)
  obtain ⟨n, hn, rfl⟩ := nI_of2 (M := 57) (n := 57) (by decide) h0 h2
  have h48 : 48 ≤ n := by
    rcases Nat.lt_or_ge n 48 with q | q
    · exact absurd (nI_lt (b := 48) q (by decide)) h1
    · exact q
  exact ⟨n - 48, by omega, pk_sub (b := 48) h48⟩
theorem alw_p {n p m v d : Int32} {a : Nat} (ha : n = nI a) (h8 : a ≤ 8) (h : ¬ alwF 112 n p m v d = 0) : a ≤ 7 := by
  unfold alwF at h
  rw [if_pos rfl] at h
  by_cases q : (8 : Int32) ≤ n
  · rw [if_pos q] at h
    exact absurd rfl h
  · rcases Nat.lt_or_ge a 8 with w | w
    · omega
    · exact absurd (by rw [ha]; exact nI_le (a := 8) w (by omega)) q
theorem alwB_n {k p m v : Int32} (h : ¬ alwB k p m v = 0) : ¬ v < leastP k m ∧ v ≤ grtP k p := by
  unfold alwB at h
  by_cases q : v < leastP k m
  · rw [if_pos q] at h
    exact absurd rfl h
  · rw [if_neg q] at h
    by_cases w : grtP k p < v
    · rw [if_pos w] at h
      exact absurd rfl h
    · exact ⟨q, Int32.not_lt.mp w⟩
theorem alw_n {k n p m v d : Int32} (hk : ¬ k = 112) (h : ¬ alwF k n p m v d = 0) : ¬ v < leastP k m ∧ v ≤ grtP k p := by
  unfold alwF at h
  rw [if_neg hk] at h
  by_cases q : n ≤ 0
  · rw [if_pos q] at h
    exact alwB_n h
  · rw [if_neg q] at h
    by_cases w : v = d
    · rw [if_pos w] at h
      exact absurd rfl h
    · rw [if_neg w] at h
      exact alwB_n h
theorem least_or (k m : Int32) : leastP k m = 0 ∨ leastP k m = 1 := by
  unfold leastP
  split
  · split
    · exact Or.inl rfl
    · exact Or.inr rfl
  · exact Or.inr rfl
theorem grt_or (k p : Int32) : grtP k p = 40 ∨ grtP k p = 9 ∨ grtP k p = 50 := by
  unfold grtP
  split
  · split
    · exact Or.inl rfl
    · exact Or.inr (Or.inl rfl)
  · exact Or.inr (Or.inr rfl)
theorem num_50 {k p m v : Int32} (h : ¬ v < leastP k m ∧ v ≤ grtP k p) : ∃ w, w ≤ 50 ∧ v = nI w := by
  refine nI_of2 (M := 50) (n := 50) (by decide) (fun q => h.1 ?_) ?_
  · rcases least_or k m with e | e <;> rw [e]
    · exact q
    · rw [fa_lt] at q ⊢
      have e0 : (0 : Int32).toInt = 0 := by decide
      have e1 : (1 : Int32).toInt = 1 := by decide
      omega
  · have h2 := h.2
    have e9 : (9 : Int32).toInt = 9 := by decide
    have e40 : (40 : Int32).toInt = 40 := by decide
    have e50 : (50 : Int32).toInt = 50 := by decide
    rcases grt_or k p with e | e | e <;> rw [e, fa_le] at h2 <;> rw [fa_le] <;> omega
theorem endN_p {n : Int32} {a : Nat} (h : n = nI a) (ha : a ≤ 8) (h0 : 1 ≤ a) : endN n = 1 := by
  rw [h]
  exact if_neg (nI_nle (by omega) (by omega))
theorem endF_112 {n p : Int32} (hp : p = 1 ∨ p = 2) : endF 112 n p = endN n := by
  rcases hp with rfl | rfl
  · unfold endF
    rw [if_neg (by decide), if_pos rfl, if_pos rfl]
  · exact if_pos rfl
theorem n_pos {n : Int32} {a : Nat} (h : n = nI a) (h0 : ¬ n = 0) : 1 ≤ a := by
  rcases Nat.lt_or_ge 0 a with q | q
  · exact q
  · exact absurd (by rw [h, Nat.le_zero.mp q]; rfl) h0
theorem acc_ok {q q1 : PS} {c : Int32} (h : acc q c = some q1) (hq : okP q) : okP q1 := by
  obtain ⟨k, f, s, n, p, m⟩ := q
  obtain ⟨hm, hq⟩ := hq
  rcases acc_or h with ⟨hp, hk, rfl⟩ | ⟨hp, h1, h2, e⟩ | ⟨hp, -, e⟩ | ⟨hp, -, -, e⟩
  · refine ⟨Or.inl rfl, Or.inr ⟨Or.inl rfl, Or.inl rfl, fun _ => ⟨0, 0, by omega, rfl, by decide, rfl⟩, fun _ => ⟨0, by omega, rfl⟩, fun _ => rfl⟩⟩
  · obtain ⟨-, o0, o1, o2, o3⟩ := hq.resolve_left hp
    obtain ⟨d, hd, ed⟩ := dg_09 h1 h2
    rw [ed] at e
    unfold acDig at e
    split at e
    · split at e
      · cases e
      · rename_i hal
        cases e
        refine ⟨hm, Or.inr ⟨hm, o0, fun hk => ?_, fun hk => ?_, o3⟩⟩
        · obtain ⟨a, v, ha, en, hv, ef⟩ := o1 hk
          have hk' : k = 112 := hk
          rw [hk'] at hal
          have h7 := alw_p en ha hal
          refine ⟨a + 1, 10 * v + d, by omega, ?_, by rw [Nat.pow_succ]; omega, ?_⟩
          · show n + 1 = _
            rw [show n = nI a from en, nI_1]
          · show 10 * f + nI d = _
            rw [show f = nI v from ef, show (10 : Int32) = nI 10 from rfl, pk_mul, nI_add]
        · exact num_50 (alw_n hk hal)
    · split at e
      · cases e
      · rename_i hal
        cases e
        refine ⟨hm, Or.inr ⟨hm, o0, fun hk => ?_, fun hk => o2 hk, o3⟩⟩
        obtain ⟨a, v, ha, en, hv, ef⟩ := o1 hk
        have hk' : k = 112 := hk
        rw [hk'] at hal
        have h7 := alw_p en ha hal
        refine ⟨a + 1, v, by omega, ?_, by rw [Nat.pow_succ]; omega, ef⟩
        show n + 1 = _
        rw [show n = nI a from en, nI_1]
  · obtain ⟨rfl, hk, -⟩ := acMin_m e
    obtain ⟨-, o0, o1, o2, o3⟩ := hq.resolve_left hp
    exact ⟨Or.inr rfl, Or.inr ⟨Or.inr rfl, o0, o1, o2, fun w => absurd hk w⟩⟩
  · obtain ⟨-, o0, o1, o2, o3⟩ := hq.resolve_left hp
    obtain ⟨hn, hs⟩ := acSep_m e
    rcases hs with ⟨he, -, rfl⟩ | ⟨-, -, rfl⟩
    · refine ⟨Or.inl rfl, Or.inr ⟨Or.inl rfl, Or.inr rfl, fun hk => ?_, fun hk => o2 hk, fun _ => rfl⟩⟩
      obtain ⟨a, v, ha, en, hv, ef⟩ := o1 hk
      have hk' : k = 112 := hk
      rw [hk', endF_112 (show p = 1 ∨ p = 2 from o0), endN_p (show n = nI a from en) ha (n_pos (show n = nI a from en) hn)] at he
      exact absurd he (by decide)
    · exact ⟨hm, Or.inl rfl⟩
theorem itA_ok {f : Nat → Int32} {g : PS} (hg : okP g) : ∀ (i : Nat) (q : PS), itA f g i = some q → okP q := by
  intro i
  induction i with
  | zero => intro q h; cases h; exact hg
  | succ i ih =>
    intro q h
    cases e : itA f g i with
    | none =>
      have h9 : (itA f g i).bind (fun q => acc q (f i)) = some q := h
      rw [e] at h9
      cases h9
    | some q2 =>
      have h9 : (itA f g i).bind (fun q => acc q (f i)) = some q := h
      rw [e] at h9
      exact acc_ok h9 (ih q2 e)
theorem nI_nn {v a : Nat} (hv : v < 10 ^ a) (ha : a ≤ 8) : ¬ nI v < 0 := nI_pos (by
  have : 10 ^ a ≤ 10 ^ 8 := Nat.pow_le_pow_right (by decide) ha
  have e : (10 : Nat) ^ 8 = 100000000 := by decide
  omega)
/-- a label's digits, where a command ends -/
theorem ex_n {q q1 : PS} {c : Int32} (h : acc q c = some q1) (hq : okP q) (he : c = 59 ∨ endQ q1 = 1) (hk : q_k q1 = 112) : ∃ j, 1 ≤ j ∧ j ≤ 8 ∧ q_n q1 = nI j ∧ ¬ q_f q1 < 0 := by
  by_cases hc : c = 59
  · obtain ⟨k, f, s, n, p, m⟩ := q
    rw [hc] at h
    rcases acc_or h with ⟨hp, hk, rfl⟩ | ⟨hp, h1, h2, e⟩ | ⟨hp, h45, e⟩ | ⟨hp, -, -, e⟩
    · exact absurd hk (by decide)
    · exact absurd h2 (by decide)
    · exact absurd h45 (by decide)
    · obtain ⟨-, o0, o1, o2, o3⟩ := hq.2.resolve_left hp
      obtain ⟨hn, hs⟩ := acSep_m e
      rcases hs with ⟨-, hc2, -⟩ | ⟨-, -, rfl⟩
      · refine absurd hc2 ?_
        unfold sepP
        split <;> decide
      · obtain ⟨a, v, ha, en, hv, ef⟩ := o1 hk
        refine ⟨a, n_pos en hn, ha, en, ?_⟩
        show ¬ f < 0
        rw [show f = nI v from ef]
        exact nI_nn hv ha
  · have he1 := he.resolve_left hc
    rcases (acc_ok h hq).2 with w | ⟨-, o0, o1, -⟩
    · rw [endQ_p w] at he1
      exact absurd he1 (by decide)
    · obtain ⟨a, v, ha, en, hv, ef⟩ := o1 hk
      unfold endQ at he1
      rw [hk, endF_112 o0] at he1
      refine ⟨a, n_pos en (fun q0 => ?_), ha, en, by rw [ef]; exact nI_nn hv ha⟩
      rw [q0] at he1
      exact absurd he1 (by decide)
theorem ex_m {q q1 : PS} {c : Int32} (h : acc q c = some q1) (hq : okP q) (he : c = 59 ∨ endQ q1 = 1) (hk : ¬ q_k q1 = 115) : q_m q1 = 0 := by
  by_cases hc : c = 59
  · obtain ⟨k, f, s, n, p, m⟩ := q
    rw [hc] at h
    rcases acc_or h with ⟨hp, hk9, rfl⟩ | ⟨hp, h1, h2, e⟩ | ⟨hp, h45, e⟩ | ⟨hp, -, -, e⟩
    · exact absurd hk9 (by decide)
    · exact absurd h2 (by decide)
    · exact absurd h45 (by decide)
    · obtain ⟨-, o0, o1, o2, o3⟩ := hq.2.resolve_left hp
      obtain ⟨hn, hs⟩ := acSep_m e
      rcases hs with ⟨-, hc2, -⟩ | ⟨-, -, rfl⟩
      · refine absurd hc2 ?_
        unfold sepP
        split <;> decide
      · exact o3 hk
  · have he1 := he.resolve_left hc
    rcases (acc_ok h hq).2 with w | ⟨-, o0, o1, -, o3⟩
    · rw [endQ_p w] at he1
      exact absurd he1 (by decide)
    · exact o3 hk
/-- in a complete text every sign is taken -/
theorem com_acc {f : Nat → Int32} {g q q1 : PS} {n i : Nat} {r : Int32} (hc : ∃ qe, itA f g n = some qe ∧ endQ qe = 1) (hi : i + 1 ≤ n) (h : itA f g i = some q) (ho : orR (acc q (f i)) q r q1) : acc q (f i) = some q1 ∧ itA f g (i + 1) = some q1 ∧ (i + 1 = n → endQ q1 = 1) := by
  obtain ⟨qe, h1, h2⟩ := hc
  obtain ⟨q2, h3⟩ := itA_lt h1 (by omega) h
  have h4 : acc q (f i) = some q1 := by
    rcases ho with ⟨-, h5⟩ | ⟨-, h5, -⟩
    · exact h5
    · rw [h3] at h5
      cases h5
  have h6 := itA_s h h4
  refine ⟨h4, h6, fun e => ?_⟩
  rw [e, h1] at h6
  cases h6
  exact h2
/-- the class's run: what it comes to -/
def RUN (tx : Nat → Int32) (n : Nat) (x : ST) (r : Int32) (x1 : ST) : Prop := ∃ e, e ≤ n ∧ r = nI e ∧ CR tx n n g0 x x1 e

