
theorem shl_lt {f : Nat → Int32} {n j : Nat} (h : j + 1 < n) : shl f n j = f (j + 1) := if_pos h
/-- the list, in its own numbers -/
def lisP (N k : Nat) (f g cn : Nat → Int32) (suc : Int32) : Prop :=
  (∀ i, i < k → ∃ L v, 2 ≤ L ∧ L ≤ 9 ∧ v < 10 ^ L ∧ g i = nI L ∧ f i = nI v) ∧
  (∀ i j, i < j → j < k → ¬ (f i = f j ∧ g i = g j)) ∧
  ∃ (C : Nat → Nat) (S : Nat), (∀ i, i < k → cn i = nI (C i) ∧ 1 ≤ C i) ∧ suc = nI S ∧ S ≤ N ∧ fb_sm C k ≤ S ∧ (k = 10 ∨ fb_sm C k = S)
theorem lisP_1 {N k i : Nat} {f g cn : Nat → Int32} {suc : Int32} (h : lisP N k f g cn suc) (hi : i < k) : lisP (N + 1) k f g (upd cn i (cn i + 1)) (suc + 1) := by
  obtain ⟨l1, l2, C, S, l3, l4, l5, l6, l7⟩ := h
  have hsm := fb_sm_upd C (C i + 1) (i := i) (n := k) hi
  refine ⟨l1, l2, (fun j => if j = i then C i + 1 else C j), S + 1, ?_, ?_, by omega, by omega, ?_⟩
  · intro j hj
    by_cases e : j = i
    · subst e
      have h3 := (l3 j hj).1
      constructor
      · rw [pk_us, h3]
        show nI (C j) + 1 = nI (if j = j then C j + 1 else C j)
        rw [if_pos rfl]
        exact nI_1 _
      · show 1 ≤ (if j = j then C j + 1 else C j)
        rw [if_pos rfl]
        omega
    · have h3 := l3 j hj
      constructor
      · rw [pk_un e]
        show cn j = nI (if j = i then C i + 1 else C j)
        rw [if_neg e]
        exact h3.1
      · show 1 ≤ (if j = i then C i + 1 else C j)
        rw [if_neg e]
        exact h3.2
  · rw [l4]; exact nI_1 S
  · rcases l7 with q | q
    · exact Or.inl q
    · exact Or.inr (by omega)
theorem lisP_2 {N k L v : Nat} {f g cn : Nat → Int32} {suc z w : Int32} (h : lisP N k f g cn suc) (h2 : 2 ≤ L) (h9 : L ≤ 9) (hv : v < 10 ^ L) (hz : z = nI v) (hw : w = nI L) (hno : ∀ m, m < k → ¬ (f m = z ∧ g m = w)) (hk : k < 10) : lisP (N + 1) (k + 1) (upd f k z) (upd g k w) (upd cn k 1) (suc + 1) := by
  obtain ⟨l1, l2, C, S, l3, l4, l5, l6, l7⟩ := h
  have hsm : fb_sm (fun j => if j = k then 1 else C j) (k + 1) = fb_sm C k + 1 := by
    rw [fb_sm_succ, fb_sm_out C 1 (Nat.le_refl k), if_pos rfl]
  have h7 : fb_sm C k = S := by
    rcases l7 with q | q
    · omega
    · exact q
  refine ⟨?_, ?_, (fun j => if j = k then 1 else C j), S + 1, ?_, ?_, by omega, by omega, Or.inr (by omega)⟩
  · intro i hi
    by_cases e : i = k
    · subst e
      exact ⟨L, v, h2, h9, hv, pk_us.trans hw, pk_us.trans hz⟩
    · obtain ⟨L', w', c1, c2, c3, c4, c5⟩ := l1 i (by omega)
      exact ⟨L', w', c1, c2, c3, (pk_un e).trans c4, (pk_un e).trans c5⟩
  · intro i j hij hj q
    obtain ⟨q1, q2⟩ := q
    by_cases e : j = k
    · subst e
      have hne : i ≠ j := by omega
      rw [pk_us, pk_un hne] at q1 q2
      exact hno i hij ⟨q1, q2⟩
    · have hne : i ≠ k := by omega
      rw [pk_un hne, pk_un e] at q1 q2
      exact l2 i j hij (by omega) ⟨q1, q2⟩
  · intro j hj
    by_cases e : j = k
    · subst e
      constructor
      · rw [pk_us]
        show (1 : Int32) = nI (if j = j then 1 else C j)
        rw [if_pos rfl]
        rfl
      · show 1 ≤ (if j = j then 1 else C j)
        rw [if_pos rfl]
        exact Nat.le_refl _
    · have h3 := l3 j (by omega)
      constructor
      · rw [pk_un e]
        show cn j = nI (if j = k then 1 else C j)
        rw [if_neg e]
        exact h3.1
      · show 1 ≤ (if j = k then 1 else C j)
        rw [if_neg e]
        exact h3.2
  · rw [l4]; exact nI_1 S
theorem lisP_3 {N n L v : Nat} {f g cn : Nat → Int32} {suc z w : Int32} (h : lisP N (n + 1) f g cn suc) (hn : n + 1 = 10) (h2 : 2 ≤ L) (h9 : L ≤ 9) (hv : v < 10 ^ L) (hz : z = nI v) (hw : w = nI L) (hno : ∀ m, m < n + 1 → ¬ (f m = z ∧ g m = w)) : lisP (N + 1) (n + 1) (upd (shl f (n + 1)) n z) (upd (shl g (n + 1)) n w) (upd (shl cn (n + 1)) n 1) (suc + 1) := by
  obtain ⟨l1, l2, C, S, l3, l4, l5, l6, l7⟩ := h
  have hsm : fb_sm (fun j => if j = n then 1 else C (j + 1)) (n + 1) = fb_sm (fun j => C (1 + j)) n + 1 := by
    rw [fb_sm_succ, fb_sm_out (fun j => C (j + 1)) 1 (Nat.le_refl n), if_pos rfl]
    exact congrArg (· + 1) (fb_sm_cong (fun j _ => by rw [Nat.add_comm]))
  have hsp := fb_sm_split C 1 n
  rw [Nat.add_comm 1 n] at hsp
  refine ⟨?_, ?_, (fun j => if j = n then 1 else C (j + 1)), S + 1, ?_, ?_, by omega, by omega, Or.inl hn⟩
  · intro i hi
    by_cases e : i = n
    · subst e
      exact ⟨L, v, h2, h9, hv, pk_us.trans hw, pk_us.trans hz⟩
    · obtain ⟨L', w', c1, c2, c3, c4, c5⟩ := l1 (i + 1) (by omega)
      exact ⟨L', w', c1, c2, c3, (pk_un e).trans ((shl_lt (by omega)).trans c4), (pk_un e).trans ((shl_lt (by omega)).trans c5)⟩
  · intro i j hij hj q
    obtain ⟨q1, q2⟩ := q
    have hne : i ≠ n := by omega
    have hi1 : i + 1 < n + 1 := by omega
    by_cases e : j = n
    · subst e
      rw [pk_us, pk_un hne, shl_lt hi1] at q1 q2
      exact hno (i + 1) hi1 ⟨q1, q2⟩
    · have hj1 : j + 1 < n + 1 := by omega
      rw [pk_un hne, pk_un e, shl_lt hi1, shl_lt hj1] at q1 q2
      exact l2 (i + 1) (j + 1) (by omega) hj1 ⟨q1, q2⟩
  · intro j hj
    by_cases e : j = n
    · subst e
      constructor
      · rw [pk_us]
        show (1 : Int32) = nI (if j = j then 1 else C (j + 1))
        rw [if_pos rfl]
        rfl
      · show 1 ≤ (if j = j then 1 else C (j + 1))
        rw [if_pos rfl]
        exact Nat.le_refl _
    · have hj1 : j + 1 < n + 1 := by omega
      have h3 := l3 (j + 1) hj1
      constructor
      · rw [pk_un e, shl_lt hj1]
        show cn (j + 1) = nI (if j = n then 1 else C (j + 1))
        rw [if_neg e]
        exact h3.1
      · show 1 ≤ (if j = n then 1 else C (j + 1))
        rw [if_neg e]
        exact h3.2
  · rw [l4]; exact nI_1 S
theorem lisP_c {N k k1 L v : Nat} {f g cn f1 g1 cn1 : Nat → Int32} {suc z w : Int32} (h : lisP N k f g cn suc) (h2 : 2 ≤ L) (h9 : L ≤ 9) (hv : v < 10 ^ L) (hz : z = nI v) (hw : w = nI L) (hc : cntR k f g cn z w k1 f1 g1 cn1) : lisP (N + 1) k1 f1 g1 cn1 (suc + 1) := by
  unfold cntR at hc
  rcases hc with ⟨i, hi, e1, e2, e3, e4, e5, e6⟩ | ⟨hno, hk, e3, e4, e5, e6⟩ | ⟨hno, hk, e3, e4, e5, e6⟩
  · rw [e3, e4, e5, e6]
    exact lisP_1 h hi
  · rw [e3, e4, e5, e6]
    exact lisP_2 h h2 h9 hv hz hw hno hk
  · rw [e3, e4, e5, e6]
    rw [hk] at h hno
    exact lisP_3 (n := 9) h rfl h2 h9 hv hz hw hno
theorem lisP_m {N M k : Nat} {f g cn : Nat → Int32} {suc : Int32} (h : lisP N k f g cn suc) (hm : N ≤ M) : lisP M k f g cn suc := by
  obtain ⟨l1, l2, C, S, l3, l4, l5, l6, l7⟩ := h
  exact ⟨l1, l2, C, S, l3, l4, Nat.le_trans l5 hm, l6, l7⟩
theorem labOk_of {x y : ST} (e1 : s_nd y = s_nd x) (e2 : s_df y = s_df x) (e3 : s_ns y = s_ns x) (e4 : s_zf y = s_zf x) (h : labOk x) : labOk y := by
  unfold labOk at *
  rw [e1, e2, e3, e4]
  exact h
theorem bST_of {x : ST} (h1 : s_nd x ≤ 9) (h2 : s_ns x ≤ 41) (h3 : s_tn x ≤ 41) (h4 : s_k x ≤ 10) : bST x := by
  obtain ⟨nd, df, ns, zf, tn, tf, k, f, g, cn, tol, suc, fai⟩ := x
  exact ⟨h1, h2, h3, h4⟩
theorem bST_le {x : ST} (h : bST x) : s_nd x ≤ 9 ∧ s_ns x ≤ 41 ∧ s_tn x ≤ 41 ∧ s_k x ≤ 10 := by
  obtain ⟨nd, df, ns, zf, tn, tf, k, f, g, cn, tol, suc, fai⟩ := x
  exact h
theorem tolOk_of {x y : ST} (e : s_tol y = s_tol x) (h : tolOk x) : tolOk y := by
  unfold tolOk at *
  rw [e]
  exact h
theorem lisOk_P {N : Nat} {x : ST} : lisOk N x ↔ lisP N (s_k x) (s_f x) (s_g x) (s_c x) (s_suc x) := Iff.rfl
theorem cntR_k {k k1 : Nat} {f g cn f1 g1 cn1 : Nat → Int32} {z w : Int32} (hc : cntR k f g cn z w k1 f1 g1 cn1) (h : k ≤ 10) : k1 ≤ 10 := by
  unfold cntR at hc
  rcases hc with ⟨i, hi, e1, e2, e3, e4, e5, e6⟩ | ⟨hno, hk, e3, e4, e5, e6⟩ | ⟨hno, hk, e3, e4, e5, e6⟩
  · omega
  · omega
  · omega
theorem RC_lis {x x1 : ST} {r : Int32} (h : RC x x1 r) : (hsF r = 1 ∧ s_suc x1 = s_suc x + 1 ∧ cntR (s_k x) (s_f x) (s_g x) (s_c x) (numR (s_tn x) (s_tf x) r) (nI (dgc (s_tn x))) (s_k x1) (s_f x1) (s_g x1) (s_c x1)) ∨ (hsF r = 0 ∧ s_suc x1 = s_suc x ∧ s_k x1 = s_k x ∧ s_f x1 = s_f x ∧ s_g x1 = s_g x ∧ s_c x1 = s_c x) := by
  obtain ⟨nd, df, ns, zf, tn, tf, k, f, g, cn, tol, suc, fai⟩ := x
  obtain ⟨nd1, df1, ns1, zf1, tn1, tf1, k1, f1, g1, cn1, tol1, suc1, fai1⟩ := x1
  obtain ⟨e0, e1, e2, e3, e4, e5, e6, e7, hc⟩ := h
  rcases hc with ⟨a1, a2, a3, a4⟩ | ⟨a1, a2, a3, a4, a5, a6, a7⟩
  · exact Or.inl ⟨a1, a2, a4⟩
  · exact Or.inr ⟨a1, a2, a4, a5, a6, a7⟩
theorem RC_inv {N : Nat} {x x1 : ST} {r : Int32} (h : invS N x) (hr : RC x x1 r) : invS (N + 1) x1 := by
  obtain ⟨a0, a1, a2, a3, a4, a5, a6, a7, -⟩ := RC_out hr
  obtain ⟨b1, b2, b3, b4⟩ := bST_le h.1
  have hl : lisP N (s_k x) (s_f x) (s_g x) (s_c x) (s_suc x) := h.2.2.2
  rcases RC_lis hr with ⟨c1, c2, c3⟩ | ⟨c1, c2, c3, c4, c5, c6⟩
  · rw [a0] at c1
    obtain ⟨d2, d9, dn⟩ := dgc_pos (res_hs c1)
    obtain ⟨v, hv1, hv2⟩ := numF_nI (f := nrD (s_tn x) (lnF (s_tn x) (s_tf x) (if r = 0 then 0 else 1))) (dgc (s_tn x)) (fun m _ => nrD_rng _ _ m)
    have hn := lisP_c hl d2 d9 hv1 hv2 rfl c3
    refine ⟨bST_of (by omega) (by omega) (by omega) (cntR_k c3 b4), labOk_of a1 a2 a3 a4 h.2.1, tolOk_of a7 h.2.2.1, ?_⟩
    rw [lisOk_P, c2]
    exact hn
  · refine ⟨bST_of (by omega) (by omega) (by omega) (by omega), labOk_of a1 a2 a3 a4 h.2.1, tolOk_of a7 h.2.2.1, ?_⟩
    rw [lisOk_P, c2, c3, c4, c5, c6]
    exact lisP_m hl (Nat.le_succ N)

