
theorem setT_inv {N n : Nat} {h : Nat → Int32} {x : ST} (hi : invS N x) (hn : n ≤ 41) : invS N (setT n h x) := by
  obtain ⟨nd, df, ns, zf, tn, tf, k, f, g, cn, tol, suc, fai⟩ := x
  obtain ⟨⟨b1, b2, b3, b4⟩, hlab, htol, l⟩ := hi
  have hlab : (nd = 0 ∧ ns = 0) ∨ (2 ≤ nd ∧ nd ≤ 9 ∧ ns = 4 * nd + 5 ∧ (∀ j, j < nd → ∃ d, d ≤ 9 ∧ df j = nI d) ∧ (∀ j, j < ns → ¬ zf j < (-9) ∧ zf j ≤ 9) ∧ df (nd - 1) = chkd (csum df (nd - 1) (nd - 1))) := hlab
  have htol : ∃ t, 1 ≤ t ∧ t ≤ 8 ∧ tol = nI t := htol
  obtain ⟨l1, l2, C, S, l3, l4, l5, l6, l7⟩ := l
  have l1 : ∀ i, i < k → ∃ L v, 2 ≤ L ∧ L ≤ 9 ∧ v < 10 ^ L ∧ g i = nI L ∧ f i = nI v := l1
  have l2 : ∀ i j, i < j → j < k → ¬ (f i = f j ∧ g i = g j) := l2
  have l3 : ∀ i, i < k → cn i = nI (C i) ∧ 1 ≤ C i := l3
  have l4 : suc = nI S := l4
  have l6 : fb_sm C k ≤ S := l6
  have l7 : k = 10 ∨ fb_sm C k = S := l7
  exact ⟨⟨b1, b2, hn, b4⟩, hlab, htol, l1, l2, C, S, l3, l4, l5, l6, l7⟩
theorem setL_inv {N t : Nat} {x : ST} (hi : invS N x) (h1 : 1 ≤ t) (h8 : t ≤ 8) : invS N (setL (nI t) x) := by
  obtain ⟨nd, df, ns, zf, tn, tf, k, f, g, cn, tol, suc, fai⟩ := x
  obtain ⟨⟨b1, b2, b3, b4⟩, hlab, htol, l⟩ := hi
  have hlab : (nd = 0 ∧ ns = 0) ∨ (2 ≤ nd ∧ nd ≤ 9 ∧ ns = 4 * nd + 5 ∧ (∀ j, j < nd → ∃ d, d ≤ 9 ∧ df j = nI d) ∧ (∀ j, j < ns → ¬ zf j < (-9) ∧ zf j ≤ 9) ∧ df (nd - 1) = chkd (csum df (nd - 1) (nd - 1))) := hlab
  obtain ⟨l1, l2, C, S, l3, l4, l5, l6, l7⟩ := l
  have l1 : ∀ i, i < k → ∃ L v, 2 ≤ L ∧ L ≤ 9 ∧ v < 10 ^ L ∧ g i = nI L ∧ f i = nI v := l1
  have l2 : ∀ i j, i < j → j < k → ¬ (f i = f j ∧ g i = g j) := l2
  have l3 : ∀ i, i < k → cn i = nI (C i) ∧ 1 ≤ C i := l3
  have l4 : suc = nI S := l4
  have l6 : fb_sm C k ≤ S := l6
  have l7 : k = 10 ∨ fb_sm C k = S := l7
  exact ⟨⟨b1, b2, b3, b4⟩, hlab, ⟨t, h1, h8, rfl⟩, l1, l2, C, S, l3, l4, l5, l6, l7⟩
theorem setZ_inv {N e : Nat} {t : Int32} {x : ST} (hi : invS N x) (h1 : ¬ t < (-9)) (h9 : t ≤ 9) : invS N (setZ e t x) := by
  obtain ⟨nd, df, ns, zf, tn, tf, k, f, g, cn, tol, suc, fai⟩ := x
  obtain ⟨⟨b1, b2, b3, b4⟩, hlab, htol, l⟩ := hi
  have hlab : (nd = 0 ∧ ns = 0) ∨ (2 ≤ nd ∧ nd ≤ 9 ∧ ns = 4 * nd + 5 ∧ (∀ j, j < nd → ∃ d, d ≤ 9 ∧ df j = nI d) ∧ (∀ j, j < ns → ¬ zf j < (-9) ∧ zf j ≤ 9) ∧ df (nd - 1) = chkd (csum df (nd - 1) (nd - 1))) := hlab
  have htol : ∃ t, 1 ≤ t ∧ t ≤ 8 ∧ tol = nI t := htol
  obtain ⟨l1, l2, C, S, l3, l4, l5, l6, l7⟩ := l
  have l1 : ∀ i, i < k → ∃ L v, 2 ≤ L ∧ L ≤ 9 ∧ v < 10 ^ L ∧ g i = nI L ∧ f i = nI v := l1
  have l2 : ∀ i j, i < j → j < k → ¬ (f i = f j ∧ g i = g j) := l2
  have l3 : ∀ i, i < k → cn i = nI (C i) ∧ 1 ≤ C i := l3
  have l4 : suc = nI S := l4
  have l6 : fb_sm C k ≤ S := l6
  have l7 : k = 10 ∨ fb_sm C k = S := l7
  refine ⟨⟨b1, b2, b3, b4⟩, ?_, htol, l1, l2, C, S, l3, l4, l5, l6, l7⟩
  rcases hlab with q | ⟨q1, q2, q3, q4, q5, q6⟩
  · exact Or.inl q
  · refine Or.inr ⟨q1, q2, q3, q4, fun j hj => ?_, q6⟩
    show ¬ upd zf e t j < (-9) ∧ upd zf e t j ≤ 9
    by_cases he : j = e
    · subst he
      rw [pk_us]
      exact ⟨h1, h9⟩
    · rw [pk_un he]
      exact q5 j hj

