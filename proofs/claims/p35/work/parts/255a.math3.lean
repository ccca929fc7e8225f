
def shrF (x k : Int32) : Int32 := x >>> (k &&& 31)
/-! ===== what the calls leave ===== -/
theorem setT_k (n : Nat) (h : Nat → Int32) (x : ST) : s_nd (setT n h x) = s_nd x ∧ s_df (setT n h x) = s_df x ∧ s_ns (setT n h x) = s_ns x ∧ s_zf (setT n h x) = s_zf x ∧ s_tn (setT n h x) = n ∧ s_tf (setT n h x) = h ∧ s_k (setT n h x) = s_k x ∧ s_f (setT n h x) = s_f x ∧ s_g (setT n h x) = s_g x ∧ s_c (setT n h x) = s_c x ∧ s_tol (setT n h x) = s_tol x ∧ s_suc (setT n h x) = s_suc x ∧ s_fai (setT n h x) = s_fai x := by
  obtain ⟨nd, df, ns, zf, tn, tf, k, f, g, cn, tol, suc, fai⟩ := x
  exact ⟨rfl, rfl, rfl, rfl, rfl, rfl, rfl, rfl, rfl, rfl, rfl, rfl, rfl⟩
theorem setZ_k (e : Nat) (t : Int32) (x : ST) : s_nd (setZ e t x) = s_nd x ∧ s_df (setZ e t x) = s_df x ∧ s_ns (setZ e t x) = s_ns x ∧ s_zf (setZ e t x) = upd (s_zf x) e t ∧ s_tol (setZ e t x) = s_tol x := by
  obtain ⟨nd, df, ns, zf, tn, tf, k, f, g, cn, tol, suc, fai⟩ := x
  exact ⟨rfl, rfl, rfl, rfl, rfl⟩
theorem RC_out {x x1 : ST} {r : Int32} (h : RC x x1 r) : r = resF (s_tn x) (s_tf x) (s_tol x) ∧ s_nd x1 = s_nd x ∧ s_df x1 = s_df x ∧ s_ns x1 = s_ns x ∧ s_zf x1 = s_zf x ∧ s_tn x1 = s_tn x ∧ s_tf x1 = s_tf x ∧ s_tol x1 = s_tol x ∧ ((hsF r = 1 ∧ s_suc x1 = s_suc x + 1 ∧ s_fai x1 = s_fai x) ∨ (hsF r = 0 ∧ s_suc x1 = s_suc x ∧ s_fai x1 = s_fai x + 1)) := by
  obtain ⟨nd, df, ns, zf, tn, tf, k, f, g, cn, tol, suc, fai⟩ := x
  obtain ⟨nd1, df1, ns1, zf1, tn1, tf1, k1, f1, g1, cn1, tol1, suc1, fai1⟩ := x1
  obtain ⟨e0, e1, e2, e3, e4, e5, e6, e7, hc⟩ := h
  refine ⟨e0, e1, e2, e3, e4, e5, e6, e7, ?_⟩
  rcases hc with ⟨a1, a2, a3, -⟩ | ⟨a1, a2, a3, -⟩
  · exact Or.inl ⟨a1, a2, a3⟩
  · exact Or.inr ⟨a1, a2, a3⟩

