
/-- the undo ring: the next place, how many are kept, what lies there -/
abbrev HT : Type := Nat × Nat × (Nat → ST)
/-- what the reader and the forecast leave lying -/
abbrev SCT : Type := Int32 × Int32 × Int32 × Int32 × Int32 × Int32 × Nat × (Nat → Int32) × Nat × (Nat → Int32) × Nat × (Nat → Int32)
/-- the whole wand: its addresses, its state, its ring, what lies about -/
def WW (a : Nat → Nat) (K KS : ClassId) : ST → HT → SCT → va_W
  | (nd, df, ns, zf, tn, tf, k, f, g, cn, tol, suc, fai), (nx, kp, rg), (r1, r2, r3, r4, r5, r6, rn, rdf, rln, rlf, fon, fof) => (((a 0), .inr (7, [.ref (a 1), .ref (a 16), .ref (a 18), .ref (a 23), .ref (a 25), .ref (a 27)])) :: ((a 1), .inr (6, [.ref (a 2), .ref (a 7), .ref (a 9), .int tol, .int suc, .int fai])) :: ((a 2), .inr (2, [.ref (a 3), .ref (a 5)])) :: ((a 3), .inr (4, [.ref (a 4), .int (nI nd)])) :: ((a 4), .inl (K, 9, .inl df)) :: ((a 5), .inr (4, [.ref (a 6), .int (nI ns)])) :: ((a 6), .inl (K, 41, .inl zf)) :: ((a 7), .inr (4, [.ref (a 8), .int (nI tn)])) :: ((a 8), .inl (K, 41, .inl tf)) :: ((a 9), .inr (0, [.ref (a 10), .ref (a 12), .ref (a 14)])) :: ((a 10), .inr (4, [.ref (a 11), .int (nI k)])) :: ((a 11), .inl (K, 10, .inl f)) :: ((a 12), .inr (4, [.ref (a 13), .int (nI k)])) :: ((a 13), .inl (K, 10, .inl g)) :: ((a 14), .inr (4, [.ref (a 15), .int (nI k)])) :: ((a 15), .inl (K, 10, .inl cn)) :: ((a 16), .inr (5, [.ref (a 17), .int (nI nx), .int (nI kp)])) :: ((a 17), .inl (KS, 6, .inr (.inr (.inr (.inr (ringF a)))))) :: ((a 18), .inr (3, [.ref (a 19), .int r1, .ref (a 21), .int r2, .int r3, .int r4, .int r5, .int r6])) :: ((a 19), .inr (4, [.ref (a 20), .int (nI rn)])) :: ((a 20), .inl (K, 9, .inl rdf)) :: ((a 21), .inr (4, [.ref (a 22), .int (nI rln)])) :: ((a 22), .inl (K, 41, .inl rlf)) :: ((a 23), .inr (4, [.ref (a 24), .int (nI fon)])) :: ((a 24), .inl (K, 41, .inl fof)) :: (HIST a K rg))
def svH : HT → ST → HT
  | (nx, kp, rg), x => ((nx + 1) % 6, min (kp + 1) 6, updS rg nx (cpS x (rg nx)))
def okH : HT → Prop
  | (nx, kp, rg) => nx < 6 ∧ kp ≤ 6 ∧ ∀ j9, j9 < 6 → bST (rg j9)
def inR (i n : Int32) : Int32 := if i < 0 then 0 else if n ≤ i then 0 else 1
def hsF (n : Int32) : Int32 := if n = 0 then 1 else if n = (-1) then 1 else 0
def s_nd (x : ST) : Nat := x.1
def s_df (x : ST) : Nat → Int32 := x.2.1
def s_ns (x : ST) : Nat := x.2.2.1
def s_zf (x : ST) : Nat → Int32 := x.2.2.2.1
def s_tn (x : ST) : Nat := x.2.2.2.2.1
def s_tf (x : ST) : Nat → Int32 := x.2.2.2.2.2.1
def s_k (x : ST) : Nat := x.2.2.2.2.2.2.1
def s_f (x : ST) : Nat → Int32 := x.2.2.2.2.2.2.2.1
def s_g (x : ST) : Nat → Int32 := x.2.2.2.2.2.2.2.2.1
def s_c (x : ST) : Nat → Int32 := x.2.2.2.2.2.2.2.2.2.1
def s_tol (x : ST) : Int32 := x.2.2.2.2.2.2.2.2.2.2.1
def s_suc (x : ST) : Int32 := x.2.2.2.2.2.2.2.2.2.2.2.1
def s_fai (x : ST) : Int32 := x.2.2.2.2.2.2.2.2.2.2.2.2
def h_kp (h : HT) : Nat := h.2.1
/-- the number that was read -/
def numR (tn : Nat) (tf : Nat → Int32) (r : Int32) : Int32 := numF (nrD tn (lnF tn tf (if r = 0 then 0 else 1))) (dgc tn)
/-- read and counted -/
def RC : ST → ST → Int32 → Prop
  | (nd, df, ns, zf, tn, tf, k, f, g, cn, tol, suc, fai), (nd1, df1, ns1, zf1, tn1, tf1, k1, f1, g1, cn1, tol1, suc1, fai1), r => r = resF tn tf tol ∧ nd1 = nd ∧ df1 = df ∧ ns1 = ns ∧ zf1 = zf ∧ tn1 = tn ∧ tf1 = tf ∧ tol1 = tol ∧
    ((hsF r = 1 ∧ suc1 = suc + 1 ∧ fai1 = fai ∧ cntR k f g cn (numR tn tf r) (nI (dgc tn)) k1 f1 g1 cn1) ∨ (hsF r = 0 ∧ suc1 = suc ∧ fai1 = fai + 1 ∧ k1 = k ∧ f1 = f ∧ g1 = g ∧ cn1 = cn))
/-- other times -/
def setT (n : Nat) (h : Nat → Int32) : ST → ST
  | (nd, df, ns, zf, tn, tf, k, f, g, cn, tol, suc, fai) => (nd, df, ns, zf, n, h, k, f, g, cn, tol, suc, fai)
/-- what is drawn -/
def s_drw (x : ST) (l r b : Int32) : Nat → Int32 := drwF (s_nd x) (s_df x) (s_ns x) (s_zf x) l r b
