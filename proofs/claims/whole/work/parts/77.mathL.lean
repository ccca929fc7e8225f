
/-! ===== the wand and the reference, side by side ===== -/
def okLh : HT → Prop
  | (_, _, rg) => ∀ j9, j9 < 6 → labW (rg j9)
/-- the i-th state from the top of what is saved -/
def topS : HT → Nat → ST
  | (nx, _, rg), i => rg ((nx + 11 - i) % 6)
def HRg (hs : HT) (sf : Nat → Int32) : Prop := ∀ i, i < h_kp hs → RS (topS hs i) (fun j => sf (127 * (h_kp hs - i) + j))
def LAW (st : ST) (hs : HT) (sf : Nat → Int32) : Prop := bST st ∧ labW st ∧ okH hs ∧ okLh hs ∧ RS st sf ∧ HRg hs sf
theorem kp_sv (hs : HT) (x : ST) : h_kp (svH hs x) = min (h_kp hs + 1) 6 := by
  obtain ⟨nx, kp, rg⟩ := hs
  rfl
theorem kp_rs (hs : HT) : h_kp (rsH hs) = h_kp hs - 1 := by
  obtain ⟨nx, kp, rg⟩ := hs
  rfl
theorem kp_6 {hs : HT} (h : okH hs) : h_kp hs ≤ 6 := by
  obtain ⟨nx, kp, rg⟩ := hs
  exact h.2.1
theorem cpS_of (x y : ST) : s_nd (cpS x y) = s_nd x ∧ s_ns (cpS x y) = s_ns x ∧ s_tn (cpS x y) = s_tn x ∧ s_k (cpS x y) = s_k x ∧ s_tol (cpS x y) = s_tol x ∧ s_suc (cpS x y) = s_suc x ∧ s_fai (cpS x y) = s_fai x ∧ (∀ j, j < s_nd x → s_df (cpS x y) j = s_df x j) ∧ (∀ j, j < s_ns x → s_zf (cpS x y) j = s_zf x j) ∧ (∀ j, j < s_tn x → s_tf (cpS x y) j = s_tf x j) ∧ (∀ j, j < s_k x → s_f (cpS x y) j = s_f x j ∧ s_g (cpS x y) j = s_g x j ∧ s_c (cpS x y) j = s_c x j) := by
  obtain ⟨nd, df, ns, zf, tn, tf, k, f, g, cn, tol, suc, fai⟩ := x
  obtain ⟨nd1, df1, ns1, zf1, tn1, tf1, k1, f1, g1, cn1, tol1, suc1, fai1⟩ := y
  exact ⟨rfl, rfl, rfl, rfl, rfl, rfl, rfl, fun j hj => cpy_lt hj, fun j hj => cpy_lt hj, fun j hj => cpy_lt hj, fun j hj => ⟨cpy_lt hj, cpy_lt hj, cpy_lt hj⟩⟩
theorem cpS_ok {x y : ST} (hb : bST x) (hl : labW x) : bST (cpS x y) ∧ labW (cpS x y) := by
  obtain ⟨b1, b2, b3, b4⟩ := bST_le hb
  obtain ⟨e1, e2, e3, e4, -, -, -, e8, -⟩ := cpS_of x y
  refine ⟨bST_of (by rw [e1]; exact b1) (by rw [e2]; exact b2) (by rw [e3]; exact b3) (by rw [e4]; exact b4), ?_, fun j hj => ?_⟩
  · rw [e1, e2]
    exact hl.1
  · rw [e1] at hj
    rw [e8 j hj]
    exact hl.2 j hj
theorem RS_cpS {x y : ST} {sf : Nat → Int32} (h : RS x sf) : RS (cpS x y) sf := by
  obtain ⟨e1, e2, e3, e4, e5, e6, e7, e8, e9, e10, e11⟩ := cpS_of x y
  obtain ⟨q0, q1, q2, q3, q4, q5, ⟨q6, q7⟩, q8, q9⟩ := h
  unfold RS RSL
  rw [e1, e2, e3, e4, e5, e6, e7]
  exact ⟨q0, fun j hj => (q1 j hj).trans (e8 j hj).symm, fun j hj => (q2 j hj).trans (e9 j hj).symm, q3, fun j hj => (q4 j hj).trans (e10 j hj).symm, q5, ⟨q6, fun j hj => ⟨(q7 j hj).1.trans (e11 j hj).1.symm, (q7 j hj).2.1.trans (e11 j hj).2.1.symm, (q7 j hj).2.2.trans (e11 j hj).2.2.symm⟩⟩, q8, q9⟩
theorem law_sv {st st1 : ST} {hs : HT} {sf sg : Nat → Int32} (h : LAW st hs sf) (hb : bST st1) (hl : labW st1) (hR : RS st1 sg) (hi : hiEq sg (svM (h_kp hs) sf)) : LAW st1 (svH hs st) sg := by
  obtain ⟨nx, kp, rg⟩ := hs
  obtain ⟨h1, h2, ⟨h3, h4, h5⟩, h6, h7, h8⟩ := h
  have hc := cpS_ok (y := rg nx) h1 h2
  refine ⟨hb, hl, ⟨Nat.mod_lt _ (by decide), by omega, fun j hj => ?_⟩, fun j hj => ?_, hR, fun i hk => ?_⟩
  · show bST (updS rg nx (cpS st (rg nx)) j)
    unfold updS
    by_cases e : j = nx
    · rw [if_pos e]; exact hc.1
    · rw [if_neg e]; exact h5 j hj
  · show labW (updS rg nx (cpS st (rg nx)) j)
    unfold updS
    by_cases e : j = nx
    · rw [if_pos e]; exact hc.2
    · rw [if_neg e]; exact h6 j hj
  · have hk' : i < min (kp + 1) 6 := hk
    show RS (updS rg nx (cpS st (rg nx)) (((nx + 1) % 6 + 11 - i) % 6)) (fun j => sg (127 * (min (kp + 1) 6 - i) + j))
    by_cases hi0 : i = 0
    · subst hi0
      rw [show ((nx + 1) % 6 + 11 - 0) % 6 = nx from by omega, show updS rg nx (cpS st (rg nx)) nx = cpS st (rg nx) from if_pos rfl]
      refine RS_lo hc.1 (fun j hj => ?_) (RS_cpS h7)
      show sg (127 * (min (kp + 1) 6 - 0) + j) = sf j
      rw [hi _ (by omega), Nat.sub_zero]
      exact svM_new h4 hj
    · have hne : ((nx + 1) % 6 + 11 - i) % 6 ≠ nx := by omega
      rw [show updS rg nx (cpS st (rg nx)) (((nx + 1) % 6 + 11 - i) % 6) = rg (((nx + 1) % 6 + 11 - i) % 6) from if_neg hne]
      have h9 := h8 (i - 1) (show i - 1 < kp by omega)
      have h9' : RS (rg ((nx + 11 - (i - 1)) % 6)) (fun j => sf (127 * (kp - (i - 1)) + j)) := h9
      rw [show (nx + 11 - (i - 1)) % 6 = ((nx + 1) % 6 + 11 - i) % 6 from by omega] at h9'
      refine RS_lo (h5 _ (Nat.mod_lt _ (by decide))) (fun j hj => ?_) h9'
      show sg (127 * (min (kp + 1) 6 - i) + j) = sf (127 * (kp - (i - 1)) + j)
      rw [hi _ (by omega)]
      by_cases e6 : kp = 6
      · subst e6
        have h8' := svM_old6 (sf := sf) (t := 6 - i) (j := j) (by omega) (by omega) hj
        show svM 6 sf (127 * (min (6 + 1) 6 - i) + j) = _
        rw [show min (6 + 1) 6 - i = 6 - i from by omega, h8', show 6 - i + 1 = 6 - (i - 1) from by omega]
      · have h8' := svM_old (kp := kp) (sf := sf) (t := kp + 1 - i) (j := j) (by omega) (by omega) hj
        show svM kp sf (127 * (min (kp + 1) 6 - i) + j) = _
        rw [show min (kp + 1) 6 - i = kp + 1 - i from by omega, h8', show kp + 1 - i = kp - (i - 1) from by omega]
theorem top_0 (hs : HT) (st : ST) : rsS hs st = cpS (topS hs 0) st := by
  obtain ⟨nx, kp, rg⟩ := hs
  show cpS (rg ((nx + 5) % 6)) st = cpS (rg ((nx + 11 - 0) % 6)) st
  rw [show (nx + 11 - 0) % 6 = (nx + 5) % 6 from by omega]
theorem topS_ok {hs : HT} (h : okH hs) (h2 : okLh hs) (i : Nat) : bST (topS hs i) ∧ labW (topS hs i) := by
  obtain ⟨nx, kp, rg⟩ := hs
  exact ⟨h.2.2 _ (Nat.mod_lt _ (by decide)), h2 _ (Nat.mod_lt _ (by decide))⟩
theorem law_u0 {st : ST} {hs : HT} {sf : Nat → Int32} (h : LAW st hs sf) (hk : 1 ≤ h_kp hs) : bST (rsS hs st) ∧ RS (rsS hs st) (fun j9 => sf (127 * h_kp hs + j9)) := by
  obtain ⟨h1, h2, h3, h6, h7, h8⟩ := h
  have h0 := topS_ok h3 h6 0
  rw [top_0]
  exact ⟨(cpS_ok h0.1 h0.2).1, RS_cpS (h8 0 hk)⟩
theorem law_un {st : ST} {hs : HT} {sf sg : Nat → Int32} (h : LAW st hs sf) (hR : RS (rsS hs st) sg) (hi : hiEq sg sf) : LAW (rsS hs st) (rsH hs) sg := by
  have h0 := topS_ok h.2.2.1 h.2.2.2.1 0
  have hc := cpS_ok (y := st) h0.1 h0.2
  rw [← top_0] at hc
  obtain ⟨h1, h2, h3, h6, h7, h8⟩ := h
  obtain ⟨nx, kp, rg⟩ := hs
  obtain ⟨h3, h4, h5⟩ := h3
  refine ⟨hc.1, hc.2, ⟨Nat.mod_lt _ (by decide), by omega, h5⟩, h6, hR, fun i hk => ?_⟩
  have hk' : i < kp - 1 := hk
  show RS (rg (((nx + 5) % 6 + 11 - i) % 6)) (fun j => sg (127 * (kp - 1 - i) + j))
  have h9 := h8 (i + 1) (show i + 1 < kp by omega)
  have h9' : RS (rg ((nx + 11 - (i + 1)) % 6)) (fun j => sf (127 * (kp - (i + 1)) + j)) := h9
  rw [show ((nx + 5) % 6 + 11 - i) % 6 = (nx + 11 - (i + 1)) % 6 from by omega]
  refine RS_lo (h5 _ (Nat.mod_lt _ (by decide))) (fun j hj => ?_) h9'
  show sg (127 * (kp - 1 - i) + j) = sf (127 * (kp - (i + 1)) + j)
  rw [hi _ (by omega), show kp - 1 - i = kp - (i + 1) from by omega]
theorem law_0 : LAW st0 hs0 (upd (fun _ => 0) 93 4) := by
  refine ⟨⟨by decide, by decide, by decide, by decide⟩, ⟨rfl, fun j hj => absurd hj (Nat.not_lt_zero j)⟩, ⟨by decide, by decide, fun j _ => ⟨by decide, by decide, by decide, by decide⟩⟩, fun j _ => ⟨rfl, fun j hj => absurd hj (Nat.not_lt_zero j)⟩, ?_, fun i hi => absurd hi (Nat.not_lt_zero i)⟩
  exact ⟨rfl, fun j hj => absurd hj (Nat.not_lt_zero j), fun j hj => absurd hj (Nat.not_lt_zero j), rfl, fun j hj => absurd hj (Nat.not_lt_zero j), rfl, ⟨rfl, fun j hj => absurd hj (Nat.not_lt_zero j)⟩, rfl, rfl⟩
/-- the buffers -/
def BUR (ty : Nat) (bf cf : Nat → Int32) (pm : Int32) : Prop := ty ≤ 60 ∧ (∀ j9, j9 < ty → cf j9 = bf j9) ∧ (pm = 0 ∨ pm = 1)
theorem bur_add {ty : Nat} {bf cf : Nat → Int32} {pm cx : Int32} (h : BUR ty bf cf pm) (h6 : ty < 60) : BUR (ty + 1) (upd bf ty cx) (upd cf ty cx) pm := by
  refine ⟨by omega, fun j hj => ?_, h.2.2⟩
  by_cases e : j = ty
  · rw [e, pk_us, pk_us]
  · rw [pk_un e, pk_un e]
    exact h.2.1 j (by omega)
theorem bur_0 {ty : Nat} {bf cf : Nat → Int32} {pm pm1 : Int32} (h : BUR ty bf cf pm) (hm : pm1 = 0 ∨ pm1 = 1) : BUR 0 bf cf pm1 := ⟨Nat.zero_le _, fun j hj => absurd hj (Nat.not_lt_zero j), hm⟩
theorem near_or (v : Int32) {n : Nat} (hn : n ≤ 41) : (v < 0 ∨ nI n - 4 < v) ∨ ∃ x, x + 4 ≤ n ∧ v = nI x := by
  by_cases h : v < 0 ∨ nI n - 4 < v
  · exact Or.inl h
  · refine Or.inr ?_
    have h0 : ¬ v < 0 := fun q => h (Or.inl q)
    have h1 : ¬ nI n - 4 < v := fun q => h (Or.inr q)
    obtain ⟨x, hx, rfl⟩ := nI_of h0
    refine ⟨x, ?_, rfl⟩
    rw [fa_lt, show (4 : Int32) = nI 4 from rfl, pk_sub_toInt (by omega) (by decide), nI_toInt hx] at h1
    omega
theorem smu_or {x : ST} {v : Int32} (hb : bST x) : inR v (nI (s_ns x)) = 0 ∨ ∃ e, e < s_ns x ∧ v = nI e := by
  rcases inR_or v (nI (s_ns x)) with w | w
  · exact Or.inr (inR_nat (bST_le hb).2.1 w)
  · exact Or.inl w
theorem rng_or {n : Nat} (v : Int32) (hn : n ≤ 41) : inR v (nI n) = 0 ∨ ∃ e, e < n ∧ v = nI e := by
  rcases inR_or v (nI n) with w | w
  · exact Or.inr (inR_nat hn w)
  · exact Or.inl w
theorem run_m {tx : Nat → Int32} {n : Nat} {x x1 : ST} {r : Int32} (h : RUN tx n x r x1) : ∃ e, r = nI e ∧ CR tx n n g0 x x1 e := by
  obtain ⟨e, -, h1, h2⟩ := h
  exact ⟨e, h1, h2⟩
theorem CR_ok {tx : Nat → Int32} {n : Nat} : ∀ (m : Nat) (q : PS) (x x1 : ST) (k : Nat), m ≤ n → okP q → (∃ qe, itF tx m (n - m) q = some qe ∧ endQ qe = 1) → bST x → labW x → CR tx n m q x x1 k → bST x1 ∧ labW x1 := by
  intro m
  induction m with
  | zero => intro q x x1 k _ _ _ hb hl h; rw [h.1]; exact ⟨hb, hl⟩
  | succ m ih =>
    intro q x x1 k hm hq he hb hl h
    obtain ⟨q', h1, h2⟩ := h
    obtain ⟨qe, he1, he2⟩ := he
    have he1' : (acc q (tx (n - (m + 1)))).bind (itF tx m (n - (m + 1) + 1)) = some qe := he1
    rw [h1] at he1'
    have he3 : itF tx m (n - m) q' = some qe := by
      rw [show n - m = n - (m + 1) + 1 from by omega]
      exact he1'
    have hq' := acc_ok h1 hq
    rcases h2 with ⟨-, h2⟩ | ⟨hc, r, x2, hx, h3⟩
    · exact ih q' x x1 k (by omega) hq' ⟨qe, he3, he2⟩ hb hl h2
    · have hend : tx (n - (m + 1)) = 59 ∨ endQ q' = 1 := by
        rcases hc with w | w
        · subst w
          cases he3
          exact Or.inr he2
        · exact Or.inl w
      have hb2 := EXC_b hb hx
      have hl2 := EXC_lab hb hl hx (fun hk => by
        obtain ⟨_, _, _, _, h9⟩ := ex_n h1 hq hend hk
        exact h9)
      rcases h3 with ⟨-, e, -⟩ | ⟨-, k', -, h4⟩
      · rw [e]; exact ⟨hb2, hl2⟩
      · exact ih q' x2 x1 k' (by omega) hq' ⟨qe, he3, he2⟩ hb2 hl2 h4
theorem itA_itF {tx : Nat → Int32} {g q : PS} : ∀ n, itA tx g n = some q → itF tx n 0 g = some q := by
  intro n
  induction n generalizing q with
  | zero => intro h; exact h
  | succ n ih =>
    intro h
    cases e : itA tx g n with
    | none =>
      have h9 : (itA tx g n).bind (fun q => acc q (tx n)) = some q := h
      rw [e] at h9
      cases h9
    | some q2 =>
      have h9 : (itA tx g n).bind (fun q => acc q (tx n)) = some q := h
      rw [e] at h9
      exact itF_s (ih e) (by rw [Nat.zero_add]; exact h9)
theorem run_ok {tx : Nat → Int32} {n : Nat} {x x1 : ST} {e : Nat} (hc : COM tx n g0) (hb : bST x) (hl : labW x) (h : CR tx n n g0 x x1 e) : bST x1 ∧ labW x1 := by
  obtain ⟨qe, h1, h2⟩ := hc
  exact CR_ok n g0 x x1 e (Nat.le_refl _) okP_g0 ⟨qe, by rw [Nat.sub_self]; exact itA_itF n h1, h2⟩ hb hl h

