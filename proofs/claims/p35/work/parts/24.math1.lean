
/-! ===== numbers out of a script ===== -/
def lowF (v n : Int32) : Int32 := (v &&& 2147483647) - (v &&& 2147483647) / n * n
theorem low_nI (v : Int32) {n : Nat} (h0 : 0 < n) (hn : n < 2 ^ 31) : ∃ q, q < n ∧ lowF v (nI n) = nI q := by
  obtain ⟨j, hj, e⟩ := pk_andE v (m := 2147483647) 31 (by decide)
  exact ⟨j % n, Nat.mod_lt _ h0, by unfold lowF; rw [e, pk_rem hj h0 hn]⟩
/-! ===== what can be seen of a state ===== -/
def trm (n : Nat) (f : Nat → Int32) : Nat → Int32 := fun j => if j < n then f j else 0
theorem trm_lt {n j : Nat} {f : Nat → Int32} (h : j < n) : trm n f j = f j := if_pos h
theorem trm_congr {n : Nat} {f g : Nat → Int32} (h : ∀ j, j < n → f j = g j) : trm n f = trm n g := by
  funext j
  unfold trm
  by_cases hj : j < n
  · rw [if_pos hj, if_pos hj, h j hj]
  · rw [if_neg hj, if_neg hj]
theorem trm_cpy (f g : Nat → Int32) (n : Nat) : trm n (cpy f g n) = trm n f := trm_congr (fun _ h => cpy_lt h)
def nrm : ST → ST
  | (nd, df, ns, zf, tn, tf, k, f, g, cn, tol, suc, fai) => (nd, trm nd df, ns, trm ns zf, tn, trm tn tf, k, trm k f, trm k g, trm k cn, tol, suc, fai)
theorem nrm_cpS (x y : ST) : nrm (cpS x y) = nrm x := by
  obtain ⟨nd, df, ns, zf, tn, tf, k, f, g, cn, tol, suc, fai⟩ := x
  obtain ⟨nd1, df1, ns1, zf1, tn1, tf1, k1, f1, g1, cn1, tol1, suc1, fai1⟩ := y
  simp only [nrm, cpS, trm_cpy]
theorem rowAt_trm {cap n : Nat} (hn : n < 2 ^ 31) (f : Nat → Int32) : rowAt cap (nI n) (trm n f) = rowAt cap (nI n) f := funext fun _ => rowAt_can0 (fun _ h => trm_lt h) hn
theorem widF_trm {nd : Nat} (h : nd < 2 ^ 31) (df : Nat → Int32) (n : Int32) : widF nd (trm nd df) n = widF nd df n := by
  funext e
  unfold widF plF
  rw [rowAt_trm h]
theorem timF_trm {nd : Nat} (h : nd < 2 ^ 31) (df : Nat → Int32) (n e z l r : Int32) : timF nd (trm nd df) n e z l r = timF nd df n e z l r := by
  unfold timF
  rw [widF_trm h]
theorem drwF_trm {nd ns : Nat} (h : nd < 2 ^ 31) (h2 : ns < 2 ^ 31) (df zf : Nat → Int32) (l r b : Int32) : drwF nd (trm nd df) ns (trm ns zf) l r b = drwF nd df ns zf l r b := by
  funext j
  unfold drwF
  rw [timF_trm h, rowAt_trm h2]
theorem lnF_trm {tn : Nat} (h : tn < 2 ^ 31) (tf : Nat → Int32) (b : Int32) : lnF tn (trm tn tf) b = lnF tn tf b := by
  funext j
  unfold lnF
  rw [rowAt_trm h]
theorem resF_trm {tn : Nat} (h : tn < 2 ^ 31) (tf : Nat → Int32) (tol : Int32) : resF tn (trm tn tf) tol = resF tn tf tol := by
  unfold resF
  rw [lnF_trm h, lnF_trm h]
theorem leaF_trm {tn : Nat} (h : tn ≤ 41) (tf : Nat → Int32) : leaF tn (trm tn tf) = leaF tn tf := leaF_congr (fun _ hj => trm_lt hj) h
def pE (x : ST) : Nat → Int64
  | 0 => 31 * (s_suc x).toInt64 + (s_fai x).toInt64
  | k + 1 => 31 * pE x k + (widF (s_nd x) (s_df x) (nI (s_ns x)) (nI k)).toInt64
noncomputable def pT (x : ST) : Nat → Int64
  | 0 => 31 * pE x (s_ns x) + (leaF (s_tn x) (s_tf x)).toInt64
  | k + 1 => 31 * pT x k + (rowAt 41 (nI (s_tn x)) (s_tf x) (nI k)).toInt64
noncomputable def pC (x : ST) : Nat → Int64
  | 0 => pT x (s_tn x)
  | k + 1 => 31 * (31 * pC x k + (rowAt 10 (nI (s_k x)) (s_f x) (nI k)).toInt64) + 50 * (rowAt 10 (nI (s_k x)) (s_g x) (nI k)).toInt64 + (rowAt 10 (nI (s_k x)) (s_c x) (nI k)).toInt64
noncomputable def pR (x : ST) : Int64 := 31 * pC x (s_k x) + (resF (s_tn x) (s_tf x) (s_tol x)).toInt64
/-- all that is told, mixed to one number -/
noncomputable def P0 (x : ST) : Int64 := if s_ns x = 0 then pR x else 31 * pR x + (resF (s_ns x) (s_drw x 13 9 0) (s_tol x)).toInt64
theorem P0_0 {x : ST} (h : s_ns x = 0) : P0 x = pR x := if_pos h
theorem P0_1 {x : ST} (h : ¬ s_ns x = 0) : P0 x = 31 * pR x + (resF (s_ns x) (s_drw x 13 9 0) (s_tol x)).toInt64 := if_neg h
theorem pE_nrm (x : ST) (hb : bST x) (i : Nat) : pE (nrm x) i = pE x i := by
  obtain ⟨nd, df, ns, zf, tn, tf, k, f, g, cn, tol, suc, fai⟩ := x
  obtain ⟨h1, h2, h3, h4⟩ := hb
  induction i with
  | zero => rfl
  | succ i ih =>
    show 31 * pE _ i + (widF nd (trm nd df) (nI ns) (nI i)).toInt64 = 31 * pE _ i + (widF nd df (nI ns) (nI i)).toInt64
    rw [ih, widF_trm (by omega)]
theorem pT_nrm (x : ST) (hb : bST x) (i : Nat) : pT (nrm x) i = pT x i := by
  have hE := pE_nrm x hb
  obtain ⟨nd, df, ns, zf, tn, tf, k, f, g, cn, tol, suc, fai⟩ := x
  obtain ⟨h1, h2, h3, h4⟩ := hb
  induction i with
  | zero =>
    show 31 * pE _ ns + (leaF tn (trm tn tf)).toInt64 = 31 * pE _ ns + (leaF tn tf).toInt64
    rw [hE, leaF_trm h3]
  | succ i ih =>
    show 31 * pT _ i + (rowAt 41 (nI tn) (trm tn tf) (nI i)).toInt64 = 31 * pT _ i + (rowAt 41 (nI tn) tf (nI i)).toInt64
    rw [ih, rowAt_trm (by omega)]
theorem pC_nrm (x : ST) (hb : bST x) (i : Nat) : pC (nrm x) i = pC x i := by
  have hT := pT_nrm x hb
  obtain ⟨nd, df, ns, zf, tn, tf, k, f, g, cn, tol, suc, fai⟩ := x
  obtain ⟨h1, h2, h3, h4⟩ := hb
  induction i with
  | zero => exact hT tn
  | succ i ih =>
    show 31 * (31 * pC _ i + (rowAt 10 (nI k) (trm k f) (nI i)).toInt64) + 50 * (rowAt 10 (nI k) (trm k g) (nI i)).toInt64 + (rowAt 10 (nI k) (trm k cn) (nI i)).toInt64 = 31 * (31 * pC _ i + (rowAt 10 (nI k) f (nI i)).toInt64) + 50 * (rowAt 10 (nI k) g (nI i)).toInt64 + (rowAt 10 (nI k) cn (nI i)).toInt64
    rw [ih, rowAt_trm (by omega), rowAt_trm (by omega), rowAt_trm (by omega)]
theorem pR_nrm (x : ST) (hb : bST x) : pR (nrm x) = pR x := by
  have hC := pC_nrm x hb
  obtain ⟨nd, df, ns, zf, tn, tf, k, f, g, cn, tol, suc, fai⟩ := x
  obtain ⟨h1, h2, h3, h4⟩ := hb
  show 31 * pC _ k + (resF tn (trm tn tf) tol).toInt64 = 31 * pC _ k + (resF tn tf tol).toInt64
  rw [hC, resF_trm (by omega)]
theorem s_drw_nrm (x : ST) (hb : bST x) (l r b : Int32) : s_drw (nrm x) l r b = s_drw x l r b := by
  obtain ⟨nd, df, ns, zf, tn, tf, k, f, g, cn, tol, suc, fai⟩ := x
  obtain ⟨h1, h2, h3, h4⟩ := hb
  exact drwF_trm (nd := nd) (ns := ns) (by omega) (by omega) df zf l r b
theorem P0_nrm (x : ST) (hb : bST x) : P0 (nrm x) = P0 x := by
  have hR := pR_nrm x hb
  have hd := s_drw_nrm x hb 13 9 0
  by_cases h : s_ns x = 0
  · rw [P0_0 h, P0_0 (show s_ns (nrm x) = 0 from h), hR]
  · rw [P0_1 h, P0_1 (show ¬ s_ns (nrm x) = 0 from h), hR, hd]
    rfl
theorem bST_nrm {x y : ST} (h : nrm x = nrm y) (hb : bST x) : bST y := by
  obtain ⟨nd, df, ns, zf, tn, tf, k, f, g, cn, tol, suc, fai⟩ := x
  obtain ⟨nd1, df1, ns1, zf1, tn1, tf1, k1, f1, g1, cn1, tol1, suc1, fai1⟩ := y
  simp only [nrm, Prod.mk.injEq] at h
  obtain ⟨e1, -, e3, -, e5, -, e7, -⟩ := h
  obtain ⟨h1, h2, h3, h4⟩ := hb
  exact ⟨e1 ▸ h1, e3 ▸ h2, e5 ▸ h3, e7 ▸ h4⟩
theorem P0_view {x y : ST} (h : nrm x = nrm y) (hb : bST x) : P0 x = P0 y := by
  rw [← P0_nrm x hb, h, P0_nrm y (bST_nrm h hb)]
/-! ===== the ring of saved states as a stack ===== -/
/-- the states that the next undos bring back -/
def stk : HT → List ST → Prop
  | _, [] => True
  | (nx, kp, rg), x :: l => 1 ≤ kp ∧ nrm (rg ((nx + 5) % 6)) = nrm x ∧ stk ((nx + 5) % 6, kp - 1, rg) l
theorem stk_upd (l : List ST) : ∀ (nx kp kp' p d : Nat) (rg : Nat → ST) (x : ST), nx = (p + d) % 6 → l.length < d → d ≤ 6 → p < 6 → l.length ≤ kp' → stk (nx, kp, rg) l → stk (nx, kp', updS rg p x) l := by
  induction l with
  | nil => intro nx kp kp' p d rg x _ _ _ _ _ _; trivial
  | cons y l ih =>
    intro nx kp kp' p d rg x e h1 h2 h3 h4 h
    obtain ⟨q1, q2, q3⟩ := h
    have hl : (y :: l).length = l.length + 1 := rfl
    have e2 : (nx + 5) % 6 = (p + (d - 1)) % 6 := by omega
    refine ⟨by omega, ?_, ih _ (kp - 1) (kp' - 1) p (d - 1) rg x e2 (by omega) (by omega) h3 (by omega) q3⟩
    rw [show updS rg p x ((nx + 5) % 6) = rg ((nx + 5) % 6) from if_neg (by omega)]
    exact q2
theorem stk_len (l : List ST) : ∀ (nx kp : Nat) (rg : Nat → ST), stk (nx, kp, rg) l → l.length ≤ kp := by
  induction l with
  | nil => intro nx kp rg _; exact Nat.zero_le _
  | cons y l ih =>
    intro nx kp rg h
    obtain ⟨q1, q2, q3⟩ := h
    have := ih _ _ _ q3
    show l.length + 1 ≤ kp
    omega
theorem stk_push {hs : HT} {l : List ST} (x : ST) (hk : okH hs) (hl : l.length ≤ 5) (h : stk hs l) : stk (svH hs x) (x :: l) := by
  obtain ⟨nx, kp, rg⟩ := hs
  obtain ⟨h1, h2, h3⟩ := hk
  have e : ((nx + 1) % 6 + 5) % 6 = nx := by omega
  have hlen := stk_len l nx kp rg h
  show 1 ≤ min (kp + 1) 6 ∧ nrm (updS rg nx (cpS x (rg nx)) (((nx + 1) % 6 + 5) % 6)) = nrm x ∧ stk (((nx + 1) % 6 + 5) % 6, min (kp + 1) 6 - 1, updS rg nx (cpS x (rg nx))) l
  rw [e]
  refine ⟨by omega, ?_, stk_upd l nx kp _ nx 6 rg _ (by omega) (by omega) (by omega) h1 (by omega) h⟩
  rw [show updS rg nx (cpS x (rg nx)) nx = cpS x (rg nx) from if_pos rfl]
  exact nrm_cpS _ _
theorem stk_pop {hs : HT} {x : ST} {l : List ST} (h : stk hs (x :: l)) : 1 ≤ h_kp hs ∧ stk (rsH hs) l ∧ ∀ w : ST, nrm (rsS hs w) = nrm x := by
  obtain ⟨nx, kp, rg⟩ := hs
  obtain ⟨q1, q2, q3⟩ := h
  exact ⟨q1, q3, fun w => (nrm_cpS _ _).trans q2⟩
theorem stk_nil (hs : HT) : stk hs [] := by
  obtain ⟨nx, kp, rg⟩ := hs
  trivial
theorem bST_cpS {x y : ST} (h : bST x) : bST (cpS x y) := bST_nrm (nrm_cpS x y).symm h
theorem okH_sv {hs : HT} {x : ST} (h : okH hs) (hb : bST x) : okH (svH hs x) := by
  obtain ⟨nx, kp, rg⟩ := hs
  obtain ⟨h1, h2, h3⟩ := h
  refine ⟨Nat.mod_lt _ (by decide), by omega, fun j hj => ?_⟩
  by_cases e : j = nx
  · rw [show updS rg nx (cpS x (rg nx)) j = cpS x (rg nx) from if_pos e]
    exact bST_cpS hb
  · rw [show updS rg nx (cpS x (rg nx)) j = rg j from if_neg e]
    exact h3 j hj
theorem okH_rs {hs : HT} (h : okH hs) : okH (rsH hs) := by
  obtain ⟨nx, kp, rg⟩ := hs
  obtain ⟨h1, h2, h3⟩ := h
  exact ⟨Nat.mod_lt _ (by decide), by omega, h3⟩
theorem bST_rs {hs : HT} (x : ST) (h : okH hs) : bST (rsS hs x) := by
  obtain ⟨nx, kp, rg⟩ := hs
  obtain ⟨h1, h2, h3⟩ := h
  exact bST_cpS (h3 _ (Nat.mod_lt _ (by decide)))
theorem kp_sv (hs : HT) (x : ST) : h_kp (svH hs x) = min (h_kp hs + 1) 6 := by
  obtain ⟨nx, kp, rg⟩ := hs
  rfl
theorem kp_rs (hs : HT) : h_kp (rsH hs) = h_kp hs - 1 := by
  obtain ⟨nx, kp, rg⟩ := hs
  rfl
theorem kp_6 {hs : HT} (h : okH hs) : h_kp hs ≤ 6 := by
  obtain ⟨nx, kp, rg⟩ := hs
  exact h.2.1
/-! ===== what holds of every state that the law comes to ===== -/
def labOk (x : ST) : Prop := (s_nd x = 0 ∧ s_ns x = 0) ∨ (2 ≤ s_nd x ∧ s_nd x ≤ 9 ∧ s_ns x = 4 * s_nd x + 5 ∧ (∀ j, j < s_nd x → ∃ d, d ≤ 9 ∧ s_df x j = nI d) ∧ (∀ j, j < s_ns x → ¬ s_zf x j < (-9) ∧ s_zf x j ≤ 9) ∧ s_df x (s_nd x - 1) = chkd (csum (s_df x) (s_nd x - 1) (s_nd x - 1)))
def tolOk (x : ST) : Prop := ∃ t, 1 ≤ t ∧ t ≤ 8 ∧ s_tol x = nI t
def lisOk (N : Nat) (x : ST) : Prop :=
  (∀ i, i < s_k x → ∃ L v, 2 ≤ L ∧ L ≤ 9 ∧ v < 10 ^ L ∧ s_g x i = nI L ∧ s_f x i = nI v) ∧
  (∀ i j, i < j → j < s_k x → ¬ (s_f x i = s_f x j ∧ s_g x i = s_g x j)) ∧
  ∃ (C : Nat → Nat) (S : Nat), (∀ i, i < s_k x → s_c x i = nI (C i) ∧ 1 ≤ C i) ∧ s_suc x = nI S ∧ S ≤ N ∧ fb_sm C (s_k x) ≤ S ∧ (s_k x = 10 ∨ fb_sm C (s_k x) = S)
def invS (N : Nat) (x : ST) : Prop := bST x ∧ labOk x ∧ tolOk x ∧ lisOk N x
theorem invS.b {N : Nat} {x : ST} (h : invS N x) : bST x := h.1
theorem lisOk.mono {N M : Nat} {x : ST} (h : lisOk N x) (hm : N ≤ M) : lisOk M x := by
  obtain ⟨h1, h2, C, S, h3, h4, h5, h6, h7⟩ := h
  exact ⟨h1, h2, C, S, h3, h4, by omega, h6, h7⟩
theorem invS.mono {N M : Nat} {x : ST} (h : invS N x) (hm : N ≤ M) : invS M x := ⟨h.1, h.2.1, h.2.2.1, h.2.2.2.mono hm⟩
/-- the invariant is one of what can be seen -/
theorem invS_view {N : Nat} {x y : ST} (e : nrm x = nrm y) (h : invS N x) : invS N y := by
  have hb := bST_nrm e h.1
  obtain ⟨nd, df, ns, zf, tn, tf, k, f, g, cn, tol, suc, fai⟩ := x
  obtain ⟨nd1, df1, ns1, zf1, tn1, tf1, k1, f1, g1, cn1, tol1, suc1, fai1⟩ := y
  simp only [nrm, Prod.mk.injEq] at e
  obtain ⟨rfl, e2, rfl, e4, rfl, e6, rfl, e8, e9, e10, rfl, rfl, rfl⟩ := e
  have at_ : ∀ {n : Nat} {p q : Nat → Int32}, trm n p = trm n q → ∀ j, j < n → p j = q j := fun {n p q} h9 j hj => by
    have := congrFun h9 j
    rw [trm_lt hj, trm_lt hj] at this
    exact this
  obtain ⟨h1, h2, h3, h4, h5, C, S, h6, h7, h8, h9, h10⟩ := h
  refine ⟨hb, ?_, h3, ?_, ?_, C, S, ?_, h7, h8, h9, h10⟩
  · rcases h2 with h2 | ⟨a1, a2, a3, a4, a5, a6⟩
    · exact Or.inl h2
    · refine Or.inr ⟨a1, a2, a3, fun j hj => ?_, fun j hj => ?_, ?_⟩
      · obtain ⟨d, hd, e⟩ := a4 j hj
        exact ⟨d, hd, ((at_ e2 j hj).symm).trans e⟩
      · have := a5 j hj
        rw [show s_zf (nd, df, ns, zf, tn, tf, k, f, g, cn, tol, suc, fai) j = zf1 j from at_ e4 j hj] at this
        exact this
      · have e9' : df1 (nd - 1) = df (nd - 1) := (at_ e2 _ (show nd - 1 < nd from by have : 2 ≤ nd := a1; omega)).symm
        show df1 (nd - 1) = chkd (csum df1 (nd - 1) (nd - 1))
        rw [e9', csum_congr (f := df1) (g := df) (fun m hm => (at_ e2 m (by omega)).symm) _ (Nat.le_refl _)]
        exact a6
  · intro i hi
    obtain ⟨L, v, b1, b2, b3, b4, b5⟩ := h4 i hi
    exact ⟨L, v, b1, b2, b3, ((at_ e9 i hi).symm).trans b4, ((at_ e8 i hi).symm).trans b5⟩
  · intro i j hij hj q
    have hj' : j < k := hj
    refine h5 i j hij hj ⟨?_, ?_⟩
    · exact (at_ e8 i (by omega)).trans (q.1.trans (at_ e8 j hj').symm)
    · exact (at_ e9 i (by omega)).trans (q.2.trans (at_ e9 j hj').symm)
  · intro i hi
    exact ⟨((at_ e10 i hi).symm).trans (h6 i hi).1, (h6 i hi).2⟩

