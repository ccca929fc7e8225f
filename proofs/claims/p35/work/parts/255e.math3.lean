
/-- what a drawing leaves -/
theorem drw_out {x x1 : ST} {l rr b r : Int32} (hb : bST x) (h : RC (setT (s_ns x) (cpy (s_drw x l rr b) (s_tf x) (s_ns x)) x) x1 r) : r = resF (s_ns x) (s_drw x l rr b) (s_tol x) ∧ s_nd x1 = s_nd x ∧ s_df x1 = s_df x ∧ s_ns x1 = s_ns x ∧ s_zf x1 = s_zf x ∧ s_tn x1 = s_ns x ∧ (∀ j, j < s_ns x → s_tf x1 j = s_drw x l rr b j) ∧ s_tol x1 = s_tol x ∧ ((hsF r = 1 ∧ s_suc x1 = s_suc x + 1 ∧ s_fai x1 = s_fai x) ∨ (hsF r = 0 ∧ s_suc x1 = s_suc x ∧ s_fai x1 = s_fai x + 1)) := by
  obtain ⟨a1, a2, a3, a4, a5, a6, a7, a8, a9⟩ := RC_out h
  obtain ⟨c1, c2, c3, c4, c5, c6, c7, c8, c9, c10, c11, c12, c13⟩ := setT_k (s_ns x) (cpy (s_drw x l rr b) (s_tf x) (s_ns x)) x
  have h41 : s_ns x ≤ 41 := by
    obtain ⟨nd, df, ns, zf, tn, tf, k, f, g, cn, tol, suc, fai⟩ := x
    exact hb.2.1
  rw [c5, c6, c11] at a1
  rw [c12, c13] at a9
  refine ⟨a1.trans (resF_congr (fun j hj => cpy_lt hj) h41 _), a2.trans c1, a3.trans c2, a4.trans c3, a5.trans c4, a6.trans c5, fun j hj => ?_, a8.trans c11, a9⟩
  rw [a7, c6]
  exact cpy_lt hj
theorem drw_inv {N : Nat} {x x1 : ST} {l rr b r : Int32} (hi : invS N x) (h : RC (setT (s_ns x) (cpy (s_drw x l rr b) (s_tf x) (s_ns x)) x) x1 r) : invS (N + 1) x1 := by
  refine RC_inv (setT_inv hi ?_) h
  obtain ⟨nd, df, ns, zf, tn, tf, k, f, g, cn, tol, suc, fai⟩ := x
  exact hi.1.2.1
/-- what a call by two numbers answers -/
noncomputable def actV (x : ST) (p q : Int32) : Int32 :=
  if lowF p 12 < 2 then chkd (cS (lowF q 100) (lowF (shrF p 4) 3 + 2).toNatClampNeg)
  else if lowF p 12 < 5 then (if nI (s_ns x) ≤ lowF (shrF p 4) 22 then (-1000001) else rowAt 41 (nI (s_ns x)) (s_zf x) (lowF (shrF p 4) 22))
  else if lowF p 12 = 5 then (if s_tn x = 41 then (-1000002) else nI (s_tn x + 1))
  else if lowF p 12 = 6 then (if lowF q 3 = 0 then nI (s_tn x) else resF (s_tn x) (s_tf x) (s_tol x))
  else if lowF p 12 = 7 then s_tol x
  else if s_ns x = 0 then (-1000002) else resF (s_ns x) (s_drw x (1 + lowF q 20) (1 + lowF (if lowF (shrF q 9) 2 = 0 then q else shrF q 4) 20) (if lowF (shrF p 5) 2 = 0 then 1 else 0)) (s_tol x)
theorem actV_nrm (x : ST) (hb : bST x) (p q : Int32) : actV (nrm x) p q = actV x p q := by
  have hd : s_drw (nrm x) = s_drw x := by funext l r b; exact s_drw_nrm x hb l r b
  have h : s_ns (nrm x) = s_ns x ∧ s_tn (nrm x) = s_tn x ∧ s_tol (nrm x) = s_tol x ∧ rowAt 41 (nI (s_ns x)) (s_zf (nrm x)) = rowAt 41 (nI (s_ns x)) (s_zf x) ∧ resF (s_tn x) (s_tf (nrm x)) (s_tol x) = resF (s_tn x) (s_tf x) (s_tol x) := by
    obtain ⟨nd, df, ns, zf, tn, tf, k, f, g, cn, tol, suc, fai⟩ := x
    obtain ⟨h1, h2, h3, h4⟩ := hb
    exact ⟨rfl, rfl, rfl, rowAt_trm (n := ns) (by omega) zf, resF_trm (tn := tn) (by omega) tf tol⟩
  obtain ⟨e1, e2, e3, e4, e5⟩ := h
  unfold actV
  rw [e1, e2, e3, e4, e5, hd]
theorem actV_view {x y : ST} (h : nrm x = nrm y) (hb : bST x) (p q : Int32) : actV x p q = actV y p q := by
  rw [← actV_nrm x hb, h, actV_nrm y (bST_nrm h hb)]

