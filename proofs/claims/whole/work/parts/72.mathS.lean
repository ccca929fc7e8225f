
/-! ===== the reference's commands ===== -/
theorem NR_le {tx : Nat → Int32} {ty i j : Nat} {lo gr v : Int32} (h : NR tx ty lo gr i v j) (hi : i ≤ ty) : j ≤ ty ∧ i ≤ j := by
  rcases h with ⟨-, h, -⟩ | ⟨h1, -, -, -, h, -⟩ | ⟨h1, -, -, -, -, -, -, -, h⟩ <;> omega
theorem PSR_le {tx : Nat → Int32} {ty i j : Nat} {K r o w : Int32} (h : PSR tx ty K i r j o w) : j ≤ ty ∧ i ≤ j := by
  obtain ⟨k, q, h1, h2, -⟩ := h
  omega
theorem PSR_1 {tx : Nat → Int32} {ty i j : Nat} {K r o w : Int32} (h : PSR tx ty K i r j o w) (hr : ¬ r = 0) : PSR tx ty K i 1 j o w := by
  obtain ⟨k, q, h1, h2, h3, h4, h5⟩ := h
  rcases h5 with ⟨-, h5⟩ | ⟨h5, -⟩
  · exact ⟨k, q, h1, h2, h3, h4, Or.inl ⟨rfl, h5⟩⟩
  · exact absurd h5 hr
theorem CMD_le {tx : Nat → Int32} {ty i j : Nat} {L o w : Int32} (h : CMD tx ty i L j o w) (hi : i ≤ ty) : j ≤ ty ∧ i ≤ j := by
  rcases h with ⟨-, ⟨h, -⟩ | ⟨-, -, h⟩⟩ | ⟨-, -, -, h⟩
  · omega
  · have := PSR_le h; omega
  · have := PSR_le h; omega
theorem acc_start {g : PS} {c : Int32} (hp : q_p g = 0) (hk : isK c) : acc g c = some (c, 0, 0, 0, 1, 0) := by
  obtain ⟨k, f, s, n, p, m⟩ := g
  rw [acc_k (show p = 0 from hp)]
  exact if_pos hk
theorem acc_nostart {g : PS} {c : Int32} (hp : q_p g = 0) (hk : ¬ isK c) : acc g c = none := by
  obtain ⟨k, f, s, n, p, m⟩ := g
  rw [acc_k (show p = 0 from hp)]
  exact if_neg hk
theorem endQ_n {q : PS} (h : endQ q = 1) : ¬ q_p q = 0 ∧ ¬ q_n q = 0 := by
  refine ⟨fun hp => ?_, fun hn => ?_⟩
  · rw [endQ_p hp] at h
    exact absurd h (by decide)
  · unfold endQ endF at h
    rw [hn, show endN 0 = 0 from rfl] at h
    split at h
    · exact absurd h (by decide)
    · split at h
      · split at h <;> exact absurd h (by decide)
      · exact absurd h (by decide)
theorem acc_59 {q : PS} (h : endQ q = 1) : acc q 59 = some (q_k q, q_f q, q_s q, q_n q, 0, q_m q) := by
  obtain ⟨hp, hn⟩ := endQ_n h
  obtain ⟨k, f, s, n, p, m⟩ := q
  rw [acc_s (show ¬ p = 0 from hp) (Or.inr (by decide)) (by decide)]
  unfold acSep
  have he : endF k n p = 1 := h
  rw [if_neg (show ¬ n = 0 from hn), if_neg (by rw [he]; decide), if_pos rfl]
  rfl
def ERR (tx : Nat → Int32) (ty : Nat) (r : Int32) : Prop := (r = (-1) ∧ COM tx ty g0) ∨ (¬ r = (-1) ∧ ¬ COM tx ty g0 ∧ FE tx ty r)
theorem nat_ne1 {n : Nat} (h : n ≤ 60) : ¬ nI n = (-1) := fun q => by
  have := (fa_eq _ _).mp q
  rw [nI_toInt (by omega)] at this
  have h0 : (-1 : Int32).toInt = -1 := by decide
  omega
theorem err_at {tx : Nat → Int32} {ty j : Nat} {q : PS} (ht : ty ≤ 60) (hj : j ≤ ty) (h : itA tx g0 j = some q) (hn : j < ty → acc q (tx j) = none) (he : j = ty → ¬ endQ q = 1) : ERR tx ty (nI j) := by
  refine Or.inr ⟨nat_ne1 (by omega), fun hc => ?_, ⟨j, q, rfl, hj, h, hn⟩⟩
  obtain ⟨qe, h1, h2⟩ := hc
  rcases Nat.lt_or_ge j ty with w | w
  · obtain ⟨q2, h3⟩ := itA_lt h1 w h
    rw [hn w] at h3
    cases h3
  · have e : j = ty := by omega
    subst e
    rw [h] at h1
    cases h1
    exact he rfl h2
theorem psr_it {tx : Nat → Int32} {i k : Nat} {g q : PS} (hg : itA tx g0 i = some g) (hp : q_p g = 0) (hk : isK (tx i)) (h : itF tx k (i + 1) (tx i, 0, 0, 0, 1, 0) = some q) : itA tx g0 (i + 1 + k) = some q := itA_F k (i + 1) _ (itA_s hg (acc_start hp hk)) h
theorem err_32 {tx : Nat → Int32} {ty i j : Nat} {L o w : Int32} (ht : ty ≤ 60) (hi : i ≤ ty) (hg : ∃ g, itA tx g0 i = some g ∧ q_p g = 0) (h : CMD tx ty i L j o w) (hL : L = 32) : ERR tx ty (nI j) := by
  obtain ⟨g, hg, hp⟩ := hg
  rcases h with ⟨-, ⟨h1, h2⟩ | ⟨h1, h2, k, q, h3, h4, h5, h6, h7⟩⟩ | ⟨h1, h2, h3, -⟩
  · rw [h1]
    exact err_at ht hi hg (fun q => acc_nostart hp (h2 q)) (fun _ q => by rw [endQ_p hp] at q; exact absurd q (by decide))
  · rcases h7 with ⟨h7, -⟩ | ⟨-, h8, h9⟩
    · exact absurd h7 (by decide)
    · have := psr_it hg hp h2 h5
      rw [← h3] at this
      exact err_at ht h4 this h9 (fun _ q => by rw [h8] at q; exact absurd q (by decide))
  · rw [hL] at h2
    rw [← h2] at h3
    exact absurd h3 (by decide)
theorem err_n1 {tx : Nat → Int32} {ty i j : Nat} {L o w : Int32} (hg : ∃ g, itA tx g0 i = some g ∧ q_p g = 0) (h : CMD tx ty i L j o w) (hL : ¬ L = 32) (hj : j = ty) : COM tx ty g0 := by
  obtain ⟨g, hg, hp⟩ := hg
  rcases h with ⟨h1, -⟩ | ⟨h1, h2, h3, k, q, h4, h5, h6, h7, h8⟩
  · exact absurd h1 hL
  · rcases h8 with ⟨-, h9, -⟩ | ⟨h9, -⟩
    · have := psr_it hg hp h3 h6
      rw [← h4, hj] at this
      exact ⟨q, this, h9⟩
    · exact absurd h9 (by decide)
theorem err_59 {tx : Nat → Int32} {ty i j : Nat} {L o w : Int32} (ht : ty ≤ 60) (hg : ∃ g, itA tx g0 i = some g ∧ q_p g = 0) (h : CMD tx ty i L j o w) (hL : ¬ L = 32) (hj : ¬ j = ty) (hc : ty ≤ j ∨ ¬ tx j = 59) : ERR tx ty (nI j) := by
  obtain ⟨g, hg, hp⟩ := hg
  rcases h with ⟨h1, -⟩ | ⟨h1, h2, h3, k, q, h4, h5, h6, h7, h8⟩
  · exact absurd h1 hL
  · rcases h8 with ⟨-, h9, -, -, -, h10⟩ | ⟨h9, -⟩
    · have := psr_it hg hp h3 h6
      rw [← h4] at this
      exact err_at ht h5 this (fun q => h10 q (hc.resolve_left (by omega))) (fun q => absurd q hj)
    · exact absurd h9 (by decide)
theorem err_go {tx : Nat → Int32} {ty i j : Nat} {L o w : Int32} (hg : ∃ g, itA tx g0 i = some g ∧ q_p g = 0) (h : CMD tx ty i L j o w) (hL : ¬ L = 32) (hc : tx j = 59) : ∃ g, itA tx g0 (j + 1) = some g ∧ q_p g = 0 := by
  obtain ⟨g, hg, hp⟩ := hg
  rcases h with ⟨h1, -⟩ | ⟨h1, h2, h3, k, q, h4, h5, h6, h7, h8⟩
  · exact absurd h1 hL
  · rcases h8 with ⟨-, h9, -⟩ | ⟨h9, -⟩
    · have := psr_it hg hp h3 h6
      rw [← h4] at this
      exact ⟨_, itA_s this (by rw [hc]; exact acc_59 h9), rfl⟩
    · exact absurd h9 (by decide)
theorem err_com {tx : Nat → Int32} {ty : Nat} {r : Int32} (h : ERR tx ty r) (hc : COM tx ty g0) : r = (-1) := by
  rcases h with ⟨h, -⟩ | ⟨-, h, -⟩
  · exact h
  · exact absurd hc h
theorem err_no {tx : Nat → Int32} {ty : Nat} {r : Int32} (h : ERR tx ty r) (hc : ¬ COM tx ty g0) : ¬ r = (-1) := by
  rcases h with ⟨-, h⟩ | ⟨h, -⟩
  · exact absurd h hc
  · exact h
theorem err_FE {tx : Nat → Int32} {ty : Nat} {r : Int32} (h : ERR tx ty r) : (r = (-1) → FE tx ty (nI ty)) ∧ (¬ r = (-1) → FE tx ty r) := by
  rcases h with ⟨h, h2⟩ | ⟨h, -, h2⟩
  · refine ⟨fun _ => ?_, fun q => absurd h q⟩
    obtain ⟨q, h3, -⟩ := h2
    exact ⟨ty, q, rfl, Nat.le_refl _, h3, fun w => absurd w (Nat.lt_irrefl _)⟩
  · exact ⟨fun q => absurd q h, fun _ => h2⟩
/-! ===== a text that is run ===== -/
theorem itF_last {tx : Nat → Int32} {q2 : PS} : ∀ (a i : Nat) (q : PS), itF tx (a + 1) i q = some q2 → ∃ q1, itF tx a i q = some q1 ∧ acc q1 (tx (i + a)) = some q2 := by
  intro a
  induction a with
  | zero =>
    intro i q h
    refine ⟨q, rfl, ?_⟩
    cases e : acc q (tx i) with
    | none =>
      have h9 : (acc q (tx i)).bind (itF tx 0 (i + 1)) = some q2 := h
      rw [e] at h9
      cases h9
    | some q' =>
      have h9 : (acc q (tx i)).bind (itF tx 0 (i + 1)) = some q2 := h
      rw [e] at h9
      have h8 : some q' = some q2 := h9
      exact h8
  | succ a ih =>
    intro i q h
    cases e : acc q (tx i) with
    | none =>
      have h9 : (acc q (tx i)).bind (itF tx (a + 1) (i + 1)) = some q2 := h
      rw [e] at h9
      cases h9
    | some q' =>
      have h9 : (acc q (tx i)).bind (itF tx (a + 1) (i + 1)) = some q2 := h
      rw [e] at h9
      obtain ⟨q1, h1, h2⟩ := ih (i + 1) q' h9
      exact ⟨q1, itF_1 e h1, by rw [show i + (a + 1) = i + 1 + a from by omega]; exact h2⟩
theorem CR_skip {tx : Nat → Int32} {n : Nat} {x x1 : ST} {k : Nat} {q1 : PS} : ∀ (a i : Nat) (q : PS), itF tx a i q = some q1 → (∀ m, m < a → ¬ tx (i + m) = 59) → i + a < n → CR tx n (n - i) q x x1 k → CR tx n (n - (i + a)) q1 x x1 k := by
  intro a
  induction a with
  | zero => intro i q h _ _ hr; cases h; exact hr
  | succ a ih =>
    intro i q h hno hi hr
    rw [show n - i = (n - (i + 1)) + 1 from by omega] at hr
    obtain ⟨q', h1, h2⟩ := hr
    rw [show n - (n - (i + 1) + 1) = i from by omega] at h1 h2
    have h9 : (acc q (tx i)).bind (itF tx a (i + 1)) = some q1 := h
    rw [h1] at h9
    rcases h2 with ⟨-, h2⟩ | ⟨h2, -⟩
    · have := ih (i + 1) q' h9 (fun m hm => by rw [show i + 1 + m = i + (m + 1) from by omega]; exact hno (m + 1) (by omega)) (by omega) h2
      rw [show i + (a + 1) = i + 1 + a from by omega]
      exact this
    · rcases h2 with w | w
      · omega
      · exact absurd w (hno 0 (by omega))
theorem okP_g0 : okP g0 := ⟨Or.inl rfl, Or.inl rfl⟩
theorem CMD_com {tx : Nat → Int32} {n i j : Nat} {L o w : Int32} {g : PS} (hc : COM tx n g0) (hg : itA tx g0 i = some g) (hp : q_p g = 0) (hi : i < n) (hC : CMD tx n i L j o w) : L = tx i ∧ isK (tx i) ∧ PSR tx n (tx i) (i + 1) 1 j o w := by
  obtain ⟨qe, hc1, hc2⟩ := hc
  rcases hC with ⟨-, ⟨h1, h2⟩ | ⟨h1, h2, k, q, h3, h4, h5, h6, h7⟩⟩ | ⟨h1, h2, h3, h4⟩
  · obtain ⟨q2, h3⟩ := itA_lt hc1 hi hg
    rw [acc_nostart hp (h2 hi)] at h3
    cases h3
  · rcases h7 with ⟨h7, -⟩ | ⟨-, h8, h9⟩
    · exact absurd h7 (by decide)
    · have h10 := psr_it hg hp h2 h5
      rw [← h3] at h10
      rcases Nat.lt_or_ge j n with w | w
      · obtain ⟨q2, h11⟩ := itA_lt hc1 w h10
        rw [h9 w] at h11
        cases h11
      · have e : j = n := by omega
        subst e
        rw [h10] at hc1
        cases hc1
        rw [h8] at hc2
        exact absurd hc2 (by decide)
  · exact ⟨h2, h3, h4⟩
theorem CR_cmd {tx : Nat → Int32} {n i j : Nat} {L o w : Int32} {g : PS} {x x1 : ST} {k : Nat} (hc : COM tx n g0) (hg : itA tx g0 i = some g) (hp : q_p g = 0) (hi : i < n) (hC : CMD tx n i L j o w) (hr : CR tx n (n - i) g x x1 k) :
    isK L ∧ j ≤ n ∧ ∃ (q : PS) (r : Int32) (x2 : ST), q_k q = L ∧ q_f q = o ∧ w = wOf q ∧ (L = 112 → ∃ jj, 1 ≤ jj ∧ jj ≤ 8 ∧ q_n q = nI jj ∧ ¬ q_f q < 0) ∧ (¬ L = 115 → q_m q = 0) ∧ EXC x q r x2 ∧ ((r = 0 ∧ x1 = x2 ∧ k = 0) ∨ (r = 1 ∧ ((j = n ∧ x1 = x2 ∧ k = 1) ∨ (j < n ∧ tx j = 59 ∧ ∃ k', k = k' + 1 ∧ itA tx g0 (j + 1) = some q ∧ q_p q = 0 ∧ j + 1 < n ∧ CR tx n (n - (j + 1)) q x2 x1 k')))) := by
  obtain ⟨rfl, hK, k0, q, h4, h5, h6, h7, h8⟩ := CMD_com hc hg hp hi hC
  obtain ⟨qe, hc1, hc2⟩ := hc
  have h10 := psr_it hg hp hK h6
  rw [← h4] at h10
  have hst := acc_start hp hK
  have hk59 : ¬ tx i = 59 := fun e => by rw [e] at hK; exact absurd hK (by decide)
  rcases h8 with ⟨-, he, eK, eo, ew, h9⟩ | ⟨h8, -⟩
  · refine ⟨hK, h5, ?_⟩
    rcases Nat.lt_or_ge j n with hj | hj
    · -- a sign behind it: ';'
      obtain ⟨q2, h11⟩ := itA_lt hc1 hj h10
      have h59 : tx j = 59 := by
        by_cases e : tx j = 59
        · exact e
        · rw [h9 hj e] at h11
          cases h11
      have ha59 := acc_59 he
      have hsk := CR_skip (k0 + 1) i g (itF_1 hst h6) (fun m hm => by
        rcases (show m = 0 ∨ ∃ m', m = m' + 1 by cases m with | zero => exact Or.inl rfl | succ m' => exact Or.inr ⟨m', rfl⟩) with rfl | ⟨m', rfl⟩
        · exact hk59
        · rw [show i + (m' + 1) = i + 1 + m' from by omega]
          exact h7 m' (by omega)) (by omega) hr
      rw [show i + (k0 + 1) = j from by omega, show n - j = (n - (j + 1)) + 1 from by omega] at hsk
      obtain ⟨q', h12, h13⟩ := hsk
      rw [show n - (n - (j + 1) + 1) = j from by omega, h59] at h12
      rw [show n - (n - (j + 1) + 1) = j from by omega] at h13
      have h12' := h12
      rw [ha59] at h12
      have eq' : (q_k q, q_f q, q_s q, q_n q, 0, q_m q) = q' := Option.some.inj h12
      have hit := itA_s h10 (by rw [h59]; exact h12')
      have hj1 : j + 1 < n := by
        rcases Nat.lt_or_ge (j + 1) n with q9 | q9
        · exact q9
        · have e : j + 1 = n := by omega
          rw [e, hc1] at hit
          have e2 := Option.some.inj hit
          rw [e2, ← eq'] at hc2
          rw [endQ_p rfl] at hc2
          exact absurd hc2 (by decide)
      have hokq := itA_ok okP_g0 _ _ h10
      rcases h13 with ⟨h13, -⟩ | ⟨-, r, x2, hx, h14⟩
      · exact absurd (Or.inr h59) h13
      · refine ⟨q', r, x2, by rw [← eq']; exact eK, by rw [← eq']; exact eo, ?_, ?_, ?_, hx, ?_⟩
        · rw [ew, ← eq']
          rfl
        · intro hL
          exact ex_n h12' hokq (Or.inl rfl) (by rw [← eq']; exact eK.trans hL)
        · intro hL
          exact ex_m h12' hokq (Or.inl rfl) (fun q9 => hL (by rw [← eq'] at q9; exact eK.symm.trans q9))
        · rcases h14 with ⟨h15, h16, h17⟩ | ⟨h15, k', h16, h17⟩
          · exact Or.inl ⟨h15, h16, h17⟩
          · exact Or.inr ⟨h15, Or.inr ⟨hj, h59, k', h16, hit, by rw [← eq']; rfl, hj1, h17⟩⟩
    · -- the text's end
      have e : j = n := by omega
      have hk1 : 1 ≤ k0 := by
        rcases Nat.lt_or_ge 0 k0 with q9 | q9
        · exact q9
        · have e0 : k0 = 0 := by omega
          rw [e0] at h6
          have e2 : (tx i, 0, 0, 0, 1, 0) = q := Option.some.inj h6
          rw [← e2] at he
          refine absurd he ?_
          show ¬ endF (tx i) 0 1 = 1
          unfold endF
          rw [if_neg (by decide), if_pos rfl]
          split <;> decide
      obtain ⟨k1, rfl⟩ : ∃ k1, k0 = k1 + 1 := ⟨k0 - 1, by omega⟩
      obtain ⟨q1, h11, h12⟩ := itF_last k1 (i + 1) _ h6
      have hsk := CR_skip (k1 + 1) i g (itF_1 hst h11) (fun m hm => by
        rcases (show m = 0 ∨ ∃ m', m = m' + 1 by cases m with | zero => exact Or.inl rfl | succ m' => exact Or.inr ⟨m', rfl⟩) with rfl | ⟨m', rfl⟩
        · exact hk59
        · rw [show i + (m' + 1) = i + 1 + m' from by omega]
          exact h7 m' (by omega)) (by omega) hr
      rw [show n - (i + (k1 + 1)) = 0 + 1 from by omega] at hsk
      obtain ⟨q', h13, h14⟩ := hsk
      rw [show n - (0 + 1) = i + 1 + k1 from by omega] at h13
      rw [h12] at h13
      cases h13
      have hit1 := psr_it hg hp hK h11
      have hok1 := itA_ok okP_g0 _ _ hit1
      rcases h14 with ⟨h14, -⟩ | ⟨-, r, x2, hx, h15⟩
      · exact absurd (Or.inl rfl) h14
      · refine ⟨q, r, x2, eK, eo, ew, fun hL => ex_n h12 hok1 (Or.inr he) (eK.trans hL), fun hL => ex_m h12 hok1 (Or.inr he) (fun q9 => hL (eK.symm.trans q9)), hx, ?_⟩
        rcases h15 with ⟨h16, h17, h18⟩ | ⟨h16, k', h17, h18, h19⟩
        · exact Or.inl ⟨h16, h17, h18⟩
        · exact Or.inr ⟨h16, Or.inl ⟨e, h18, by omega⟩⟩
  · exact absurd h8 (by decide)
def canF (L o : Int32) (x : ST) : Int32 := if L = 112 then 1 else if L = 115 then inR o (nI (s_ns x)) else if s_ns x = 0 then 0 else 1
theorem EXC_can {x x2 : ST} {q : PS} {r : Int32} (h : EXC x q r x2) : canF (q_k q) (q_f q) x = r ∧ (r = 0 → x2 = x) := by
  unfold canF
  rcases h with ⟨h1, h2, h3⟩ | ⟨h1, h2, h3, h4⟩ | ⟨h1, h2, ⟨h3, h4, h5⟩ | ⟨h3, h4, -⟩⟩
  · rw [if_pos h1]
    exact ⟨h2.symm, fun q => by rw [h2] at q; exact absurd q (by decide)⟩
  · rw [if_neg h1, if_pos h2]
    exact ⟨h3.symm, fun q => by rw [h4]; exact setZR_0 (h3.symm.trans q)⟩
  · rw [if_neg h1, if_neg h2, if_pos h3]
    exact ⟨h4.symm, fun _ => h5⟩
  · rw [if_neg h1, if_neg h2, if_neg h3]
    exact ⟨h4.symm, fun q => by rw [h4] at q; exact absurd q (by decide)⟩
theorem labW_of {x y : ST} (e1 : s_nd y = s_nd x) (e2 : s_df y = s_df x) (e3 : s_ns y = s_ns x) (h : labW x) : labW y := by
  unfold labW
  rw [e1, e2, e3]
  exact h
theorem RC_lab {x x1 : ST} {r : Int32} (h : RC x x1 r) (hl : labW x) : labW x1 := by
  obtain ⟨-, e1, e2, e3, -⟩ := RC_of h
  exact labW_of e1 e2 e3 hl
theorem setT_lab {n : Nat} {h : Nat → Int32} {x : ST} (hl : labW x) : labW (setT n h x) := by
  obtain ⟨e1, e2, e3, -⟩ := setT_of n h x
  exact labW_of e1 e2 e3 hl
theorem setL_ok {t : Int32} {x : ST} (hb : bST x) (hl : labW x) : bST (setL t x) ∧ labW (setL t x) := by
  obtain ⟨b1, b2, b3, b4⟩ := bST_le hb
  obtain ⟨e1, e2, e3, e4, e5, e6, e7, e8, -⟩ := setL_of t x
  exact ⟨bST_of (by rw [e1]; exact b1) (by rw [e3]; exact b2) (by rw [e5]; exact b3) (by rw [e8]; exact b4), labW_of e1 e2 e3 hl⟩
theorem setZ_ok {e : Nat} {t : Int32} {x : ST} (hb : bST x) (hl : labW x) : bST (setZ e t x) ∧ labW (setZ e t x) := by
  obtain ⟨b1, b2, b3, b4⟩ := bST_le hb
  obtain ⟨e1, e2, e3, e4, e5, e6, e7, e8, -⟩ := setZ_of e t x
  exact ⟨bST_of (by rw [e1]; exact b1) (by rw [e3]; exact b2) (by rw [e5]; exact b3) (by rw [e8]; exact b4), labW_of e1 e2 e3 hl⟩
theorem EXC_lab {x x2 : ST} {q : PS} {r : Int32} (hb : bST x) (hl : labW x) (h : EXC x q r x2) (hn : q_k q = 112 → ¬ q_f q < 0) : labW x2 := by
  rcases h with ⟨h0, -, j, h1, h8, -, rfl⟩ | ⟨-, -, -, rfl⟩ | ⟨-, -, ⟨-, -, rfl⟩ | ⟨-, -, rr, h⟩⟩
  · exact (setP_ok hb (hn h0) h1 h8).2
  · obtain ⟨e1, e2, e3, -⟩ := setZR_of (q_f q) (sgnP (q_s q) (q_m q)) x
    exact labW_of e1 e2 e3 hl
  · exact hl
  · exact RC_lab h (setT_lab hl)
/-- where the reference's run stands -/
def RM (tx : Nat → Int32) (n i : Nat) (x x1 : ST) (dn e : Nat) (mr : Int32) : Prop := (mr = 1 ∧ ∃ k g, itA tx g0 i = some g ∧ q_p g = 0 ∧ i < n ∧ CR tx n (n - i) g x x1 k ∧ dn + k = e) ∨ (mr = 0 ∧ x = x1 ∧ dn = e)
theorem RM_0 {tx : Nat → Int32} {n : Nat} {x x1 : ST} {e : Nat} (hc : COM tx n g0) (h : CR tx n n g0 x x1 e) : RM tx n 0 x x1 0 e 1 := Or.inl ⟨rfl, e, g0, rfl, rfl, COM_1 rfl hc, by rw [Nat.sub_zero]; exact h, Nat.zero_add e⟩
theorem RM_end {tx : Nat → Int32} {n i : Nat} {x x1 : ST} {dn e : Nat} {mr : Int32} (h : RM tx n i x x1 dn e mr) (hm : mr = 0) : x = x1 ∧ dn = e := by
  rcases h with ⟨h, -⟩ | ⟨-, h⟩
  · rw [hm] at h
    exact absurd h (by decide)
  · exact h
/-- what a turn of the reference's run knows -/
theorem RM_turn {tx : Nat → Int32} {n i j : Nat} {L o w : Int32} {x x1 : ST} {dn e : Nat} {mr : Int32} (hc : COM tx n g0) (h : RM tx n i x x1 dn e mr) (hm : ¬ mr = 0) (hC : i < n → CMD tx n i L j o w) :
    isK L ∧ j ≤ n ∧ i < j ∧ ∃ (q : PS) (r : Int32) (x2 : ST), q_k q = L ∧ q_f q = o ∧ w = wOf q ∧ (L = 112 → ∃ jj, 1 ≤ jj ∧ jj ≤ 8 ∧ q_n q = nI jj ∧ ¬ q_f q < 0) ∧ (¬ L = 115 → q_m q = 0) ∧ EXC x q r x2 ∧ (r = 0 → RM tx n j x x1 dn e 0) ∧ (r = 1 → (j < n → tx j = 59 → RM tx n (j + 1) x2 x1 (dn + 1) e 1) ∧ ((n ≤ j ∨ ¬ tx j = 59) → RM tx n j x2 x1 (dn + 1) e 0)) := by
  rcases h with ⟨-, k, g, h1, h2, h3, h4, h5⟩ | ⟨h, -⟩
  · obtain ⟨c1, c2, q, r, x2, c3, c4, c5, c6, c6m, c7, c8⟩ := CR_cmd hc h1 h2 h3 (hC h3) h4
    have hlt := PSR_le (CMD_com hc h1 h2 h3 (hC h3)).2.2
    refine ⟨c1, c2, by omega, q, r, x2, c3, c4, c5, c6, c6m, c7, fun hr => ?_, fun hr => ?_⟩
    · rcases c8 with ⟨-, h6, h7⟩ | ⟨h6, -⟩
      · refine Or.inr ⟨rfl, ?_, by omega⟩
        rw [h6]
        exact ((EXC_can c7).2 hr).symm
      · rw [hr] at h6
        exact absurd h6 (by decide)
    · rcases c8 with ⟨h6, -⟩ | ⟨-, ⟨h6, h7, h8⟩ | ⟨h6, h7, k', h8, h9, h10, h11, h12⟩⟩
      · rw [hr] at h6
        exact absurd h6 (by decide)
      · exact ⟨fun q9 => by omega, fun _ => Or.inr ⟨rfl, h7.symm, by omega⟩⟩
      · exact ⟨fun _ _ => Or.inl ⟨rfl, k', q, h9, h10, h11, h12, by omega⟩, fun q9 => absurd h7 (q9.resolve_left (by omega))⟩
  · exact absurd h hm
theorem RM_i {tx : Nat → Int32} {n i : Nat} {x x1 : ST} {dn e : Nat} {mr : Int32} (h : RM tx n i x x1 dn e mr) (hm : ¬ mr = 0) : i < n := by
  rcases h with ⟨-, k, g, h1, h2, h3, -⟩ | ⟨h, -⟩
  · exact h3
  · exact absurd h hm

