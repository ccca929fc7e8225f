/-- the texts of the class, by their entries -/
def k_TX : List (Nat × String) := [(259, "the label has no such element"), (51, "count is not 1 to 8"), (60, "digits is negative or has more than count digits"), (85, "tenths is not -9 to 9"), (106, "the label has no such digit"), (263, "a period is not 1 to 50"), (265, "there is no label"), (122, "time is not 1 to 9999"), (130, "the measurement contains 41 times"), (140, "there is no such time"), (142, "tolerance is not 1 to 8"), (156, "digit is not 0 to 8"), (162, "there are no four times from this index on"), (261, "there is no such code"), (202, "code is not 33 to 126"), (204, "the buffer contains 60 characters"), (212, "the buffer is not a complete command text"), (224, "no state is saved")]
/-! ===== one list of words for every method: what the tables say and keep ===== -/
def wsA : List Cond := lw_tbl.filter goodWord
theorem wsA_good {w : Cond} (h : w ∈ wsA) : goodWord w = true := (List.mem_filter.mp h).2
theorem wsA_tbl {w : Cond} (h : w ∈ wsA) : w ∈ lw_tbl := (List.mem_filter.mp h).1
theorem mA {w : Cond} (i : Nat) (h : tables_1[i]? = some w) (g : goodWord w = true) : w ∈ wsA := List.mem_filter.mpr ⟨List.mem_append_right _ (List.mem_of_getElem? h), g⟩
theorem mS {w : Cond} (i : Nat) (h : (k2_sels lw_privs)[i]? = some w) (g : goodWord w = true) : w ∈ wsA := List.mem_filter.mpr ⟨List.mem_append_left _ (List.mem_of_getElem? h), g⟩
/-! words that hold on and on, but are not of wsA -/
def k_isNX : Cond → Bool
  | .methodLinkNest _ _ _ _ => true
  | .fieldLinkNest _ _ _ _ _ _ => true
  | .castable _ _ => true
  | .declares _ => true
  | _ => false
theorem k_NX_on {w : Cond} (h : k_isNX w = true) : w.onTables = true := by
  cases w <;> first | rfl | (exact absurd h (by simp [k_isNX]))
theorem k_NX_warm {w : Cond} {s U : State} (h : k_isNX w = true) (hW : s.WarmedH U.vm) (hZ : va_Nw w s) : va_Nw w U := by
  cases w <;> first | exact va_Nw.warmM hW hZ | exact va_Nw.warmF hW hZ | exact va_Nw.warmC hW hZ | exact va_Nw.warmD hW hZ | (exact absurd h (by simp [k_isNX]))
theorem k_goodIn {w : Cond} (h : w ∈ wsA) : GoodIn wsA (w :: wsA) := fun v hv => by
  rcases List.mem_cons.mp hv with rfl | hv
  · exact ⟨h, good_of_word (wsA_good h)⟩
  · exact ⟨hv, good_of_word (wsA_good hv)⟩
abbrev k_T : Type := List (ClassId × FieldType)
/-- the widths of the digits, four for each -/
def wdl : List Int32 := [3, 2, 1, 1, 2, 2, 2, 1, 2, 1, 2, 2, 1, 4, 1, 1, 1, 1, 3, 2, 1, 2, 3, 1, 1, 1, 1, 4, 1, 3, 1, 2, 1, 2, 1, 3, 3, 1, 1, 2]
def wdt (j : Nat) : Int32 := wdl.getD j 0
/-- what holds on and on of the start: nest words, the throwables' statics, the texts, what is not castable -/
def k_G (A : Nat → Prop) (U : State) (H : Heap) : Prop :=
  (∀ w ∈ tables_1, k_isNX w = true → va_Nw w U) ∧ vx_Zq Bundle.tN "UNASSIGNED_STACK" Bundle.steD A U H ∧ vx_Zq Bundle.tN "SUPPRESSED_SENTINEL" Bundle.listD A U H ∧ (∀ q ∈ k_TX, ∃ a : Nat, vk_R RX7 q.1 q.2 a U) ∧ (va_Nc "java/lang/IllegalStateException" "java/lang/IllegalArgumentException" U ∧ va_Nc "java/lang/IllegalArgumentException" "java/lang/IndexOutOfBoundsException" U) ∧ va_AO "BarcodeWand$State" U ∧ (∃ t : Nat, va_Z "BarcodeWand" "WIDTHS" "[I" (.ref t) A U H ∧ va_T .int t 40 (fun j => .int (wdt j)) A U H)
theorem k_G.call {A0 A1 : Nat → Prop} {s U : State} {H : Heap} {locs : List Loc} (h : k_G A0 s s.heap) (hS : va_S A0 s.heap H locs) (hF : ∀ q, A1 q → A0 q) (hU : U.heap = H) (hW : s.WarmedH U.vm) : k_G A1 U U.heap := by
  obtain ⟨h1, h2, h3, h4, h5, h6, t9, h7, h8⟩ := h
  rw [hU]
  refine ⟨fun w hw hn => k_NX_warm hn hW (h1 w hw hn), ((h2.moved hW.alike).kept hS.2.1).narrow hF, ((h3.moved hW.alike).kept hS.2.1).narrow hF, fun q hq => ?_, ⟨h5.1.moved hW.alike, h5.2.moved hW.alike⟩, h6.moved hW.alike, t9, ((h7.moved hW.alike).kept hS.2.1).narrow hF, ((h8.moved hW.alike).kept hS.2.1).narrow hF⟩
  obtain ⟨a, ha⟩ := h4 q hq
  exact ⟨a, vk_R.warm hW ha⟩
theorem k_G.blind {A : Nat → Prop} {U : State} {H : Heap} (g : JFrame) (mk : MethodId) (a : Array Value) (h : k_G A U H) : k_G A (U.calling g mk a) H := by
  obtain ⟨h1, h2, h3, h4, h5, h6, t9, h7, h8⟩ := h
  refine ⟨fun w hw hn => va_Nw.same (k_NX_on hn) (u := U) (U := U.calling g mk a) rfl (h1 w hw hn), vx_Zq.moved (u := U) (U := U.calling g mk a) (Vm.Alike.refl U.vm) h2, vx_Zq.moved (u := U) (U := U.calling g mk a) (Vm.Alike.refl U.vm) h3, fun q hq => ?_, ⟨va_Nc.moved (u := U) (U := U.calling g mk a) (Vm.Alike.refl U.vm) h5.1, va_Nc.moved (u := U) (U := U.calling g mk a) (Vm.Alike.refl U.vm) h5.2⟩, va_AO.moved (u := U) (U := U.calling g mk a) (Vm.Alike.refl U.vm) h6, t9, va_Z.moved (u := U) (U := U.calling g mk a) (Vm.Alike.refl U.vm) h7, va_T.moved (u := U) (U := U.calling g mk a) (Vm.Alike.refl U.vm) h8⟩
  obtain ⟨b, hb⟩ := h4 q hq
  exact ⟨b, vk_R.same (u := U) (U := U.calling g mk a) rfl hb⟩
/-- a contract's start -/
def k_P (D : va_G) (av : List Value) (ws : va_W) (tys : k_T) (sz : Nat) : Array Value → State → Prop := va_Pc av (fun U => U.heap.size = sz ∧ va_P D vwCl ws U.heap ∧ va_K D vwCl tys U ∧ va_D (fun _ => True) ws ∧ k_G (va_A ws sz) U U.heap)
/-- its world behind -/
def k_B {S : Type} (D : va_G) (A : Nat → Prop) (w1 : S → va_W) (t1 : S → k_T) (u : S) (t : State) : Prop := va_P D vwCl (w1 u) t.heap ∧ va_K D vwCl (t1 u) t ∧ va_D A (w1 u)
theorem k_P_blind {D : va_G} {av : List Value} {ws : va_W} {tys : k_T} {sz : Nat} : FrameBlind (k_P D av ws tys sz) := fun a U g mk q => by
  obtain ⟨q0, q1, qP, qK, qD, qG⟩ := q
  exact ⟨q0, q1, qP, va_K.moved (u := U) (U := U.calling g mk a) (Vm.Alike.refl U.vm) qK, qD, qG.blind g mk a⟩
theorem k_P_of {D : va_G} {av : List Value} {ws wc : va_W} {tys tc : k_T} {A0 : Nat → Prop} {s : State} {H : Heap} {locs : List Loc} (hG : k_G A0 s s.heap) (hS : va_S A0 s.heap H locs) (hF : ∀ q, va_A wc H.size q → A0 q)
    (hP : va_P D vwCl wc H) (hK : va_K D vwCl tc s) (hD : va_D A0 wc) (U : State) (hU : U.heap = H) (hW : s.WarmedH U.vm) : k_P D av wc tc H.size av.toArray U :=
  ⟨rfl, by rw [hU], by rw [hU]; exact hP, va_K.moved hW.alike hK, hD.weaken (fun _ _ _ _ => trivial), hG.call hS hF hU hW⟩
/-! a link of a method: the caller's class and entry, the callee -/
def k_y (y : MethodName) (n : Nat) : Prop := y.cls ≠ "java/lang/invoke/MethodHandle" ∧ y.cls ≠ "java/lang/invoke/VarHandle" ∧ (parseMethodDescriptor y.desc).map (fun d => d.parameters.length) = some n
def k_LV (own : String) (index : Nat) (y : MethodName) (bytes : ByteArray) (maxL : Nat) (ret : Option FieldType) (n : Nat) : Prop :=
  Cond.methodLink own index y ∈ wsA ∧ Cond.instanceMethod y ∈ wsA ∧ Cond.selects y.cls y y ∈ wsA ∧ Cond.initialized y.cls ∈ wsA ∧ Cond.code y bytes maxL ret ∈ wsA ∧ k_y y n
def k_LI (own : String) (index : Nat) (y : MethodName) (bytes : ByteArray) (maxL : Nat) (n : Nat) : Prop :=
  Cond.methodLink own index y ∈ wsA ∧ Cond.instanceMethod y ∈ wsA ∧ Cond.initialized y.cls ∈ wsA ∧ Cond.code y bytes maxL none ∈ wsA ∧ y.name = "<init>" ∧ k_y y n
def k_LS (own : String) (index : Nat) (y : MethodName) (bytes : ByteArray) (maxL : Nat) (ret : Option FieldType) (n : Nat) : Prop :=
  Cond.methodLink own index y ∈ wsA ∧ Cond.static y ∈ wsA ∧ Cond.initialized y.cls ∈ wsA ∧ Cond.code y bytes maxL ret ∈ wsA ∧ k_y y n
def k_LIN (own : String) (index : Nat) (host : String) (y : MethodName) (bytes : ByteArray) (maxL : Nat) (n : Nat) : Prop :=
  (Cond.methodLinkNest own index y host ∈ tables_1) ∧ Cond.instanceMethod y ∈ wsA ∧ Cond.initialized y.cls ∈ wsA ∧ Cond.code y bytes maxL none ∈ wsA ∧ y.name = "<init>" ∧ k_y y n
def k_LSN (own : String) (index : Nat) (host : String) (y : MethodName) (bytes : ByteArray) (maxL : Nat) (ret : Option FieldType) (n : Nat) : Prop :=
  (Cond.methodLinkNest own index y host ∈ tables_1) ∧ Cond.static y ∈ wsA ∧ Cond.initialized y.cls ∈ wsA ∧ Cond.code y bytes maxL ret ∈ wsA ∧ k_y y n
abbrev k_ws (y : MethodName) (bytes : ByteArray) (maxL : Nat) (ret : Option FieldType) : List Cond := Cond.code y bytes maxL ret :: wsA
abbrev k_rm (fr mc ms lo : Nat) : Room := { frames := fr, cells := mc, slots := ms, locals := lo }
theorem k_one {D : va_G} {cl : List vw_C} {tys : k_T} {s : State} (hK : va_K D cl tys s) {i j : Nat} {a b : ClassId} {ty : FieldType} (hi : tys[i]? = some (a, ty)) (hj : tys[j]? = some (b, ty)) : a = b := by
  have h1 := (hK.2 i _ hi).2
  have h2 := (hK.2 j _ hj).2
  cases ty with
  | object C =>
    obtain ⟨_, _, _, _, _, h3⟩ := h1
    obtain ⟨_, _, _, _, _, h4⟩ := h2
    exact Option.some.inj (h3.symm.trans h4)
  | _ => exact Option.some.inj (Eq.trans (Eq.symm h1) h2)
/-! contracts: int (and boolean), long, void, reference -/
abbrev k_Mi {S : Type} (l : Launch) (D : va_G) (y : MethodName) (bytes : ByteArray) (maxL : Nat) (ret : Option FieldType) (fr mc ms lo : Nat) (av : List Value) (ws : va_W) (tys : k_T) (post : Int32 → S → Prop) (w1 : S → va_W) (t1 : S → k_T) (sz : Nat) : Prop :=
  Met l y (k_ws y bytes maxL ret) (k_rm fr mc ms lo) (k_P D av ws tys sz) (va_Qi post (k_B D (va_A ws sz) w1 t1) (va_A ws sz)) mc ms (va_A ws sz)
abbrev k_Ml {S : Type} (l : Launch) (D : va_G) (y : MethodName) (bytes : ByteArray) (maxL : Nat) (ret : Option FieldType) (fr mc ms lo : Nat) (av : List Value) (ws : va_W) (tys : k_T) (post : Int64 → S → Prop) (w1 : S → va_W) (t1 : S → k_T) (sz : Nat) : Prop :=
  Met l y (k_ws y bytes maxL ret) (k_rm fr mc ms lo) (k_P D av ws tys sz) (va_Ql post (k_B D (va_A ws sz) w1 t1) (va_A ws sz)) mc ms (va_A ws sz)
abbrev k_Mv {S : Type} (l : Launch) (D : va_G) (y : MethodName) (bytes : ByteArray) (maxL : Nat) (ret : Option FieldType) (fr mc ms lo : Nat) (av : List Value) (ws : va_W) (tys : k_T) (post : S → Prop) (w1 : S → va_W) (t1 : S → k_T) (sz : Nat) : Prop :=
  Met l y (k_ws y bytes maxL ret) (k_rm fr mc ms lo) (k_P D av ws tys sz) (va_Qv post (k_B D (va_A ws sz) w1 t1) (va_A ws sz)) mc ms (va_A ws sz)
abbrev k_Mr {S : Type} (l : Launch) (D : va_G) (y : MethodName) (bytes : ByteArray) (maxL : Nat) (ret : Option FieldType) (fr mc ms lo : Nat) (av : List Value) (ws : va_W) (tys : k_T) (post : S → Nat → Prop) (w1 : S → va_W) (t1 : S → k_T) (sz : Nat) : Prop :=
  Met l y (k_ws y bytes maxL ret) (k_rm fr mc ms lo) (k_P D av ws tys sz) (va_Qr (fun _ : S => True) (fun u a t => post u a ∧ k_B D (va_A ws sz) w1 t1 u t) (va_A ws sz)) mc ms (va_A ws sz)
/-- where a method throws: the class by its name, and the world as it was -/
abbrev k_X (D : va_G) (ws : va_W) (tys : k_T) (sz : Nat) (EX : String → Prop) : String → State → State → Prop := vx_X (S := Unit) (fun _ => True) (fun E u t => EX E ∧ k_B D (va_A ws sz) (fun _ : Unit => ws) (fun _ => []) u t) (va_A ws sz)
abbrev k_Xi {S : Type} (l : Launch) (D : va_G) (y : MethodName) (bytes : ByteArray) (maxL : Nat) (ret : Option FieldType) (fr mc ms lo : Nat) (av : List Value) (ws : va_W) (tys : k_T) (post : Int32 → S → Prop) (w1 : S → va_W) (t1 : S → k_T) (EX : String → Prop) (sz : Nat) : Prop :=
  vx_Met l y (k_ws y bytes maxL ret) (k_rm fr mc ms lo) (k_P D av ws tys sz) (va_Qi post (k_B D (va_A ws sz) w1 t1) (va_A ws sz)) (k_X D ws tys sz EX) mc ms (va_A ws sz)
abbrev k_Xv {S : Type} (l : Launch) (D : va_G) (y : MethodName) (bytes : ByteArray) (maxL : Nat) (ret : Option FieldType) (fr mc ms lo : Nat) (av : List Value) (ws : va_W) (tys : k_T) (post : S → Prop) (w1 : S → va_W) (t1 : S → k_T) (EX : String → Prop) (sz : Nat) : Prop :=
  vx_Met l y (k_ws y bytes maxL ret) (k_rm fr mc ms lo) (k_P D av ws tys sz) (va_Qv post (k_B D (va_A ws sz) w1 t1) (va_A ws sz)) (k_X D ws tys sz EX) mc ms (va_A ws sz)
/-- a loop: a picture of its head, a measure that falls -/
theorem k_loop {p : Program} {l : Launch} {e : Env} {R : Room} {s : State} {m : MethodId} {args : Array Value} {below : List Frame} {meth : Method} {c : Code} {cells slots : Nat} {Q : State → Prop} {pc : Nat} {st : List Value} {ι : Type} (F : ι → Heap → List Loc → Array Slot → Prop) (μ : ι → Nat)
    (hs : ∀ (x : ι) (H : Heap) (locs : List Loc) (ls : Array Slot), F x H locs ls → (∀ (y : ι) (H1 : Heap) (locs1 : List Loc) (ls1 : Array Slot), μ y < μ x → F y H1 locs1 ls1 → W p l e R s m args below meth c H1 locs1 cells slots Q (F0 m pc ls1 st)) → W p l e R s m args below meth c H locs cells slots Q (F0 m pc ls st))
    (x : ι) {H : Heap} {locs : List Loc} {ls : Array Slot} (h : F x H locs ls) : W p l e R s m args below meth c H locs cells slots Q (F0 m pc ls st) := by
  have key : ∀ (n : Nat) (x : ι) (H : Heap) (locs : List Loc) (ls : Array Slot), μ x < n → F x H locs ls → W p l e R s m args below meth c H locs cells slots Q (F0 m pc ls st) := by
    intro n
    induction n with
    | zero => intro x H locs ls h; exact absurd h (Nat.not_lt_zero _)
    | succ n ih => intro x H locs ls hn hF; exact hs x H locs ls hF (fun y H1 locs1 ls1 hy hF1 => ih y H1 locs1 ls1 (by omega) hF1)
  exact key (μ x + 1) x H locs ls (Nat.lt_succ_self _) h
/-- a contract of a static method with a table of its own, that always returns -/
abbrev k_Wi {S : Type} (l : Launch) (D : va_G) (y : MethodName) (bytes : ByteArray) (maxL : Nat) (ret : Option FieldType) (hh : List (Nat × Nat × Nat × Nat)) (fr mc ms lo : Nat) (av : List Value) (ws : va_W) (tys : k_T) (post : Int32 → S → Prop) (w1 : S → va_W) (t1 : S → k_T) (sz : Nat) : Prop :=
  Met l y (Cond.codeWith y bytes maxL ret hh :: wsA) (k_rm fr mc ms lo) (k_P D av ws tys sz) (va_Qi post (k_B D (va_A ws sz) w1 t1) (va_A ws sz)) mc ms (va_A ws sz)
def k_LW (own : String) (index : Nat) (y : MethodName) (bytes : ByteArray) (maxL : Nat) (ret : Option FieldType) (hh : List (Nat × Nat × Nat × Nat)) (n : Nat) : Prop :=
  Cond.methodLink own index y ∈ wsA ∧ Cond.static y ∈ wsA ∧ Cond.initialized y.cls ∈ wsA ∧ Cond.codeWith y bytes maxL ret hh ∈ wsA ∧ k_y y n
theorem k_goodS {own : String} {index : Nat} {y : MethodName} {w : Cond} (h1 : Cond.methodLink own index y ∈ wsA) (h2 : Cond.static y ∈ wsA) (h3 : Cond.initialized y.cls ∈ wsA) (h : w ∈ wsA) : GoodIn wsA (va_wsS own index y (w :: wsA)) := fun v hv => by
  unfold va_wsS at hv
  rcases List.mem_append.mp hv with hv | hv
  · rcases List.mem_cons.mp hv with rfl | hv
    · exact ⟨h1, good_of_word (wsA_good h1)⟩
    · rcases List.mem_cons.mp hv with rfl | hv
      · exact ⟨h2, good_of_word (wsA_good h2)⟩
      · rcases List.mem_cons.mp hv with rfl | hv
        · exact ⟨h3, good_of_word (wsA_good h3)⟩
        · exact absurd hv List.not_mem_nil
  · exact k_goodIn h v hv
section KC
variable {p : Program} {l : Launch} {e : Env} {R : Room} {s : State} {m : MethodId} {args : Array Value} {below : List Frame} {meth : Method} {c : Code} {H : Heap} {locs : List Loc} {cells slots : Nat} {Q : State → Prop}
variable {cc : ByteArray} {pc : Nat} {ls : Array Slot} {rest st0 : List Value} {A0 : Nat → Prop} {D : va_G}
variable {y : MethodName} {bytes : ByteArray} {maxL nL n index : Nat} {ret : Option FieldType} {own host : String} {b : Nat} {As : List Value} {ws wc wr : va_W} {tys tc : k_T} {fr mc ms lo c2 s2 : Nat}
/-- what stands at every row of a walk -/
abbrev k_C (p : Program) (s : State) (m : MethodId) (args : Array Value) (c : Code) (cc : ByteArray) (nL : Nat) (own : String) : Prop := CallFix p m c cc nL s args wsA own
theorem k_callB (ht : ∀ w ∈ wsA, w.before args s = true) (hl : (Cond.methodLink own index y).before args s = true) (hi : Cond.initialized y.cls ∈ wsA) (hc : Cond.code y bytes maxL ret ∈ wsA) (hy : k_y y n) (hR : fr + 1 ≤ R.frames ∧ 8 + (maxL + 11) + lo ≤ R.locals) : CallB R s args own index y bytes maxL ret (k_ws y bytes maxL ret) (k_rm fr mc ms lo) mc ms n :=
  callB_of n ht (k_goodIn hc) rfl rfl rfl (ht _ hi) hl hy hR
/-- a norm of a computed number -/
theorem k_nrm {x y : Int32} (h : x = y) (k : W p l e R s m args below meth c H locs cells slots Q (F0 m pc ls (.int y :: rest))) : W p l e R s m args below meth c H locs cells slots Q (F0 m pc ls (.int x :: rest)) := h ▸ k
theorem k_nrml {x y : Int64} (h : x = y) (k : W p l e R s m args below meth c H locs cells slots Q (F0 m pc ls (.long y :: rest))) : W p l e R s m args below meth c H locs cells slots Q (F0 m pc ls (.long x :: rest)) := h ▸ k
/-- what a call asks of the caller's world: the callee's cells out of it, the rest beside -/
def k_cut (D : va_G) (A0 : Nat → Prop) (s : State) (H : Heap) (locs : List Loc) (ws wc wr : va_W) (tys tc : k_T) : Prop :=
  k_G A0 s s.heap ∧ va_S A0 s.heap H locs ∧ (∀ q, s.heap.size ≤ q → A0 q) ∧ va_K D vwCl tys s ∧ va_K D vwCl tc s ∧ va_P D vwCl wc H ∧ va_D A0 wc ∧ (∀ q, va_A wc H.size q → A0 q) ∧
  (∀ (w1 : va_W) (H1 : Heap), (∀ q : Nat, q < H.size → ¬ va_A wc H.size q → H1[q]? = H[q]?) → va_P D vwCl w1 H1 → va_D (va_A wc H.size) w1 → va_P D vwCl (wr ++ w1) H1 ∧ va_D A0 (wr ++ w1))
theorem k_cut_of (hG : k_G A0 s s.heap) (hS : va_S A0 s.heap H locs) (hA : ∀ q, s.heap.size ≤ q → A0 q) (hK : va_K D vwCl tys s) (hP : va_P D vwCl ws H) (hD : va_D A0 ws) (isC isR isT : List Nat)
    (hC : isC.map (fun i => ws[i]?) = wc.map some) (hR : isR.map (fun i => ws[i]?) = wr.map some) (hn : va_nd isC = true) (hnR : va_nd isR = true) (hdis : ∀ i ∈ isR, i ∉ isC) (hT : isT.filterMap (fun i => tys[i]?) = tc) : k_cut D A0 s H locs ws wc wr tys tc := by
  have hF := va_free (wc := wc) hD hS hA isC hC
  have hPc : va_P D vwCl wc H := by
    intro k q hk
    have h1 : (isC.map (fun i => ws[i]?))[k]? = some (some q) := by rw [hC, List.getElem?_map, hk]; rfl
    rw [List.getElem?_map] at h1
    cases hi : isC[k]? with
    | none => rw [hi] at h1; cases h1
    | some i => rw [hi] at h1; exact hP i q (Option.some.inj h1)
  exact ⟨hG, hS, hA, hK, hK.sub isT hT, hPc, hD.sub isC hn hC, hF, fun w1 H1 hk hP1 hD1 => va_join (wr := wr) (w1 := w1) hP hD isC isR hC hR hnR hdis hk hF hP1 hD1⟩
abbrev k_KK {α : Type} (D : va_G) (A0 : Nat → Prop) (s : State) (wr : va_W) (tys : k_T) {S : Type} (post : α → S → Prop) (w1 : S → va_W) (t1 : S → k_T) (K : Heap → List Loc → α → Prop) : Prop :=
  ∀ (r : α) (u : S) (H1 : Heap) (locs1 : List Loc), post r u → va_P D vwCl (wr ++ w1 u) H1 → va_D A0 (wr ++ w1 u) → va_K D vwCl (tys ++ t1 u) s → va_S A0 s.heap H1 locs1 → K H1 locs1 r
theorem k_endi {S : Type} {post : Int32 → S → Prop} {w1 : S → va_W} {t1 : S → k_T} (ct : k_cut D A0 s H locs ws wc wr tys tc)
    (hr : va_Run p l e R s m args below meth c H locs cells slots mc ms (F0 m pc ls st0) rest (va_Qi post (k_B D (va_A wc H.size) w1 t1) (va_A wc H.size) As.toArray) (va_A wc H.size)) (hc2 : cells + mc = c2) (hs2 : slots + ms = s2)
    (kk : k_KK D A0 s wr tys post w1 t1 (fun H1 locs1 r => W p l e R s m args below meth c H1 locs1 c2 s2 Q (F0 m (pc + 3) ls (.int r :: rest)))) : W p l e R s m args below meth c H locs cells slots Q (F0 m pc ls st0) := by
  obtain ⟨hG, hS, hA, hK, hKc, hPc, hDc, hF, hJ⟩ := ct
  refine va_calli hr hS (fun q _ h => hF q h) hF (fun r u t H1 locs1 ht hvm hw hB hz1 hk1 hS1 => ?_)
  obtain ⟨hP1, hK1, hD1⟩ := hB
  rw [ht] at hP1
  obtain ⟨hP2, hD2⟩ := hJ (w1 u) H1 hk1 hP1 hD1
  rw [hc2, hs2]
  exact kk r u H1 locs1 hw hP2 hD2 (hK.app (va_K.moved hvm.symm hK1)) hS1
theorem k_endl {S : Type} {post : Int64 → S → Prop} {w1 : S → va_W} {t1 : S → k_T} (ct : k_cut D A0 s H locs ws wc wr tys tc)
    (hr : va_Run p l e R s m args below meth c H locs cells slots mc ms (F0 m pc ls st0) rest (va_Ql post (k_B D (va_A wc H.size) w1 t1) (va_A wc H.size) As.toArray) (va_A wc H.size)) (hc2 : cells + mc = c2) (hs2 : slots + ms = s2)
    (kk : k_KK D A0 s wr tys post w1 t1 (fun H1 locs1 r => W p l e R s m args below meth c H1 locs1 c2 s2 Q (F0 m (pc + 3) ls (.long r :: rest)))) : W p l e R s m args below meth c H locs cells slots Q (F0 m pc ls st0) := by
  obtain ⟨hG, hS, hA, hK, hKc, hPc, hDc, hF, hJ⟩ := ct
  refine va_calll hr hS (fun q _ h => hF q h) hF (fun r u t H1 locs1 ht hvm hw hB hz1 hk1 hS1 => ?_)
  obtain ⟨hP1, hK1, hD1⟩ := hB
  rw [ht] at hP1
  obtain ⟨hP2, hD2⟩ := hJ (w1 u) H1 hk1 hP1 hD1
  rw [hc2, hs2]
  exact kk r u H1 locs1 hw hP2 hD2 (hK.app (va_K.moved hvm.symm hK1)) hS1
theorem k_endv {S : Type} {post : S → Prop} {w1 : S → va_W} {t1 : S → k_T} (ct : k_cut D A0 s H locs ws wc wr tys tc)
    (hr : va_Run p l e R s m args below meth c H locs cells slots mc ms (F0 m pc ls st0) rest (va_Qv post (k_B D (va_A wc H.size) w1 t1) (va_A wc H.size) As.toArray) (va_A wc H.size)) (hc2 : cells + mc = c2) (hs2 : slots + ms = s2)
    (kk : k_KK D A0 s wr tys (fun (_ : Unit) u => post u) w1 t1 (fun H1 locs1 _ => W p l e R s m args below meth c H1 locs1 c2 s2 Q (F0 m (pc + 3) ls rest))) : W p l e R s m args below meth c H locs cells slots Q (F0 m pc ls st0) := by
  obtain ⟨hG, hS, hA, hK, hKc, hPc, hDc, hF, hJ⟩ := ct
  refine va_callv hr hS (fun q _ h => hF q h) hF (fun u t H1 locs1 ht hvm hw hB hz1 hk1 hS1 => ?_)
  obtain ⟨hP1, hK1, hD1⟩ := hB
  rw [ht] at hP1
  obtain ⟨hP2, hD2⟩ := hJ (w1 u) H1 hk1 hP1 hD1
  rw [hc2, hs2]
  exact kk () u H1 locs1 hw hP2 hD2 (hK.app (va_K.moved hvm.symm hK1)) hS1
theorem k_endr {S : Type} {post : S → Nat → Prop} {w1 : S → va_W} {t1 : S → k_T} (ct : k_cut D A0 s H locs ws wc wr tys tc)
    (hr : va_Run p l e R s m args below meth c H locs cells slots mc ms (F0 m pc ls st0) rest (va_Qr (fun _ : S => True) (fun u a t => post u a ∧ k_B D (va_A wc H.size) w1 t1 u t) (va_A wc H.size) As.toArray) (va_A wc H.size)) (hc2 : cells + mc = c2) (hs2 : slots + ms = s2)
    (kk : k_KK D A0 s wr tys (fun (r : Nat) u => post u r) w1 t1 (fun H1 locs1 r => W p l e R s m args below meth c H1 locs1 c2 s2 Q (F0 m (pc + 3) ls (.ref r :: rest)))) : W p l e R s m args below meth c H locs cells slots Q (F0 m pc ls st0) := by
  obtain ⟨hG, hS, hA, hK, hKc, hPc, hDc, hF, hJ⟩ := ct
  refine va_callr hr hS (fun q _ h => hF q h) hF (fun u ra t H1 locs1 ht hvm hw hB hz1 hk1 hS1 => ?_)
  obtain ⟨hw, hP1, hK1, hD1⟩ := hB
  rw [ht] at hP1
  obtain ⟨hP2, hD2⟩ := hJ (w1 u) H1 hk1 hP1 hD1
  rw [hc2, hs2]
  exact kk ra u H1 locs1 hw hP2 hD2 (hK.app (va_K.moved hvm.symm hK1)) hS1
/-- where the callee throws, the caller's world is as it was -/
abbrev k_KX (p : Program) (l : Launch) (e : Env) (R : Room) (s : State) (m : MethodId) (args : Array Value) (below : List Frame) (meth : Method) (c : Code) (Q : State → Prop) (D : va_G) (A0 : Nat → Prop) (wr wc : va_W) (tys : k_T) (EX : String → Prop) (c2 s2 : Nat) (g : JFrame) : Prop :=
  ∀ (E : String) (ce : Cell) (q9 : Addr) (H1 : Heap) (locs1 : List Loc), EX E → va_P D vwCl (wr ++ wc) H1 → va_D A0 (wr ++ wc) → va_S A0 s.heap H1 locs1 → H1[q9]? = some ce → ce.vm = .none → s.vm.findClass E = some ce.cls → vx_W p l e R s m args below meth c H1 locs1 c2 s2 Q g q9
theorem k_endXi {S : Type} {post : Int32 → S → Prop} {w1 : S → va_W} {t1 : S → k_T} {EX : String → Prop} {tx : k_T} (ct : k_cut D A0 s H locs ws wc wr tys tc)
    (hr : vx_Run p l e R s m args below meth c H locs cells slots mc ms (F0 m pc ls st0) rest (va_Qi post (k_B D (va_A wc H.size) w1 t1) (va_A wc H.size) As.toArray) (k_X D wc tx H.size EX) (va_A wc H.size)) (hc2 : cells + mc = c2) (hs2 : slots + ms = s2)
    (kx : k_KX p l e R s m args below meth c Q D A0 wr wc tys EX c2 s2 (F0 m pc ls rest))
    (kk : k_KK D A0 s wr tys post w1 t1 (fun H1 locs1 r => W p l e R s m args below meth c H1 locs1 c2 s2 Q (F0 m (pc + 3) ls (.int r :: rest)))) : W p l e R s m args below meth c H locs cells slots Q (F0 m pc ls st0) := by
  obtain ⟨hG, hS, hA, hK, hKc, hPc, hDc, hF, hJ⟩ := ct
  refine vx_calli hr hS (fun q _ h => hF q h) hF (fun q _ h => hF q h) (fun E ce q9 u t H1 locs1 ht hvm hw hB hz1 hk1 hS1 h1 h2 h3 => ?_) (fun r u t H1 locs1 ht hvm hw hB hz1 hk1 hS1 => ?_)
  · obtain ⟨hE, hP1, hK1, hD1⟩ := hB
    rw [ht] at hP1
    obtain ⟨hP2, hD2⟩ := hJ wc H1 hk1 hP1 hD1
    rw [hc2, hs2]
    exact kx E ce q9 H1 locs1 hE hP2 hD2 hS1 h1 h2 h3
  · obtain ⟨hP1, hK1, hD1⟩ := hB
    rw [ht] at hP1
    obtain ⟨hP2, hD2⟩ := hJ (w1 u) H1 hk1 hP1 hD1
    rw [hc2, hs2]
    exact kk r u H1 locs1 hw hP2 hD2 (hK.app (va_K.moved hvm.symm hK1)) hS1
theorem k_endXv {S : Type} {post : S → Prop} {w1 : S → va_W} {t1 : S → k_T} {EX : String → Prop} {tx : k_T} (ct : k_cut D A0 s H locs ws wc wr tys tc)
    (hr : vx_Run p l e R s m args below meth c H locs cells slots mc ms (F0 m pc ls st0) rest (va_Qv post (k_B D (va_A wc H.size) w1 t1) (va_A wc H.size) As.toArray) (k_X D wc tx H.size EX) (va_A wc H.size)) (hc2 : cells + mc = c2) (hs2 : slots + ms = s2)
    (kx : k_KX p l e R s m args below meth c Q D A0 wr wc tys EX c2 s2 (F0 m pc ls rest))
    (kk : k_KK D A0 s wr tys (fun (_ : Unit) u => post u) w1 t1 (fun H1 locs1 _ => W p l e R s m args below meth c H1 locs1 c2 s2 Q (F0 m (pc + 3) ls rest))) : W p l e R s m args below meth c H locs cells slots Q (F0 m pc ls st0) := by
  obtain ⟨hG, hS, hA, hK, hKc, hPc, hDc, hF, hJ⟩ := ct
  refine vx_callv hr hS (fun q _ h => hF q h) hF (fun q _ h => hF q h) (fun E ce q9 u t H1 locs1 ht hvm hw hB hz1 hk1 hS1 h1 h2 h3 => ?_) (fun u t H1 locs1 ht hvm hw hB hz1 hk1 hS1 => ?_)
  · obtain ⟨hE, hP1, hK1, hD1⟩ := hB
    rw [ht] at hP1
    obtain ⟨hP2, hD2⟩ := hJ wc H1 hk1 hP1 hD1
    rw [hc2, hs2]
    exact kx E ce q9 H1 locs1 hE hP2 hD2 hS1 h1 h2 h3
  · obtain ⟨hP1, hK1, hD1⟩ := hB
    rw [ht] at hP1
    obtain ⟨hP2, hD2⟩ := hJ (w1 u) H1 hk1 hP1 hD1
    rw [hc2, hs2]
    exact kk () u H1 locs1 hw hP2 hD2 (hK.app (va_K.moved hvm.symm hK1)) hS1
/-! the runs: by the link's kind -/
theorem k_preV {C : String} {T : u_T} {N ci q0 : Nat} {fs : List Value} (ct : k_cut D A0 s H locs ws wc wr tys tc) (hc : vwCl[ci]? = some (C, T, N)) (hq : wc[q0]? = some (b, .inr (ci, fs))) : PreV s H C b (k_P D (.ref b :: As) wc tc H.size) As := by
  obtain ⟨hG, hS, hA, hK, hKc, hPc, hDc, hF, hJ⟩ := ct
  exact ⟨k_P_blind, va_recv hKc hPc hc hq, fun U hU hW => k_P_of (av := .ref b :: As) (ws := ws) (tys := tys) hG hS hF hPc hKc hDc U hU hW⟩
theorem k_preS (ct : k_cut D A0 s H locs ws wc wr tys tc) : PreS s H (k_P D As wc tc H.size) As := by
  obtain ⟨hG, hS, hA, hK, hKc, hPc, hDc, hF, hJ⟩ := ct
  exact ⟨k_P_blind, fun U hU hW => k_P_of (av := As) (ws := ws) (tys := tys) hG hS hF hPc hKc hDc U hU hW⟩
/-- the room that a call asks -/
abbrev k_fit (R : Room) (fr lo maxL mc ms cells slots : Nat) : Prop := (fr + 1 ≤ R.frames ∧ 8 + (maxL + 11) + lo ≤ R.locals) ∧ cells + mc ≤ R.cells ∧ slots + ms ≤ R.slots
theorem k_runV {Qc : Array Value → State → Outcome → State → Prop} {free : Addr → Prop} {C : String} {T : u_T} {N ci q0 : Nat} {fs : List Value} (S : k_C p s m args c cc nL own) (L : k_LV own index y bytes maxL ret n) (hC : y.cls = C) (hc : vwCl[ci]? = some (C, T, N)) (hq : wc[q0]? = some (b, .inr (ci, fs))) (ct : k_cut D A0 s H locs ws wc wr tys tc)
    (hM : Met l y (k_ws y bytes maxL ret) (k_rm fr mc ms lo) (k_P D (.ref b :: As) wc tc H.size) Qc mc ms free) (hsz : ls.size = nL) (hst : st0 = As.reverse ++ .ref b :: rest) (hW : (rest.map fun v => v.category).sum ≤ 8) (hn : As.length = n) (hdg : decode cc pc = .ok (.invokevirtual index, 3)) (hf : k_fit R fr lo maxL mc ms cells slots) :
    va_Run p l e R s m args below meth c H locs cells slots mc ms (F0 m pc ls st0) rest (Qc (Value.ref b :: As).toArray) free := by
  obtain ⟨L1, L2, L3, L4, L5, L6⟩ := L
  subst hC
  exact va_runV S hM ⟨k_callB S.2.2.2.2 (S.2.2.2.2 _ L1) L4 L5 L6 hf.1, S.2.2.2.2 _ L2, S.2.2.2.2 _ L3⟩ (k_preV ct hc hq) rfl hn hsz hst (lv_room (m := m) (pc := pc) (ls := ls) (rest := st0) hW) hdg hf.2
theorem k_runI {Qc : Array Value → State → Outcome → State → Prop} {free : Addr → Prop} (S : k_C p s m args c cc nL own) (L : k_LI own index y bytes maxL n) (ct : k_cut D A0 s H locs ws wc wr tys tc)
    (hM : Met l y (k_ws y bytes maxL none) (k_rm fr mc ms lo) (k_P D (.ref b :: As) wc tc H.size) Qc mc ms free) (hsz : ls.size = nL) (hst : st0 = As.reverse ++ .ref b :: rest) (hW : (rest.map fun v => v.category).sum ≤ 8) (hn : As.length = n) (hdg : decode cc pc = .ok (.invokespecial index, 3)) (hf : k_fit R fr lo maxL mc ms cells slots) :
    va_Run p l e R s m args below meth c H locs cells slots mc ms (F0 m pc ls st0) rest (Qc (Value.ref b :: As).toArray) free := by
  obtain ⟨L1, L2, L4, L5, L7, L6⟩ := L
  exact va_runI S hM ⟨k_callB S.2.2.2.2 (S.2.2.2.2 _ L1) L4 L5 L6 hf.1, L7, S.2.2.2.2 _ L2⟩ (k_preS (As := .ref b :: As) ct) rfl hn hsz hst (lv_room (m := m) (pc := pc) (ls := ls) (rest := st0) hW) hdg hf.2
theorem k_runS {Qc : Array Value → State → Outcome → State → Prop} {free : Addr → Prop} (S : k_C p s m args c cc nL own) (L : k_LS own index y bytes maxL ret n) (ct : k_cut D A0 s H locs ws wc wr tys tc)
    (hM : Met l y (k_ws y bytes maxL ret) (k_rm fr mc ms lo) (k_P D As wc tc H.size) Qc mc ms free) (hsz : ls.size = nL) (hst : st0 = As.reverse ++ rest) (hW : (rest.map fun v => v.category).sum ≤ 8) (hn : As.length = n) (hdg : decode cc pc = .ok (.invokestatic index, 3)) (hf : k_fit R fr lo maxL mc ms cells slots) :
    va_Run p l e R s m args below meth c H locs cells slots mc ms (F0 m pc ls st0) rest (Qc As.toArray) free := by
  obtain ⟨L1, L2, L4, L5, L6⟩ := L
  exact va_runS S hM ⟨k_callB S.2.2.2.2 (S.2.2.2.2 _ L1) L4 L5 L6 hf.1, S.2.2.2.2 _ L2⟩ (k_preS ct) rfl hn hsz hst (lv_room (m := m) (pc := pc) (ls := ls) (rest := st0) hW) hdg hf.2
theorem k_xrunV {Qc : Array Value → State → Outcome → State → Prop} {XC : String → State → State → Prop} {free : Addr → Prop} {C : String} {T : u_T} {N ci q0 : Nat} {fs : List Value} (S : k_C p s m args c cc nL own) (L : k_LV own index y bytes maxL ret n) (hC : y.cls = C) (hc : vwCl[ci]? = some (C, T, N)) (hq : wc[q0]? = some (b, .inr (ci, fs))) (ct : k_cut D A0 s H locs ws wc wr tys tc)
    (hM : vx_Met l y (k_ws y bytes maxL ret) (k_rm fr mc ms lo) (k_P D (.ref b :: As) wc tc H.size) Qc XC mc ms free) (hsz : ls.size = nL) (hst : st0 = As.reverse ++ .ref b :: rest) (hW : (rest.map fun v => v.category).sum ≤ 8) (hn : As.length = n) (hdg : decode cc pc = .ok (.invokevirtual index, 3)) (hf : k_fit R fr lo maxL mc ms cells slots) :
    vx_Run p l e R s m args below meth c H locs cells slots mc ms (F0 m pc ls st0) rest (Qc (Value.ref b :: As).toArray) XC free := by
  obtain ⟨L1, L2, L3, L4, L5, L6⟩ := L
  subst hC
  exact vx_runV S hM ⟨k_callB S.2.2.2.2 (S.2.2.2.2 _ L1) L4 L5 L6 hf.1, S.2.2.2.2 _ L2, S.2.2.2.2 _ L3⟩ (k_preV ct hc hq) rfl hn hsz hst (lv_room (m := m) (pc := pc) (ls := ls) (rest := st0) hW) hdg hf.2
theorem k_cn (ht : ∀ w ∈ wsA, w.before args s = true) (hN : Cond.methodLinkNest own index y host ∈ tables_1) (hg : k_G A0 s s.heap) (hi : Cond.initialized y.cls ∈ wsA) (hc : Cond.code y bytes maxL ret ∈ wsA) (hy : k_y y n) (hR : fr + 1 ≤ R.frames ∧ 8 + (maxL + 11) + lo ≤ R.locals) : va_CN R s args own index y host bytes maxL ret (k_ws y bytes maxL ret) (k_rm fr mc ms lo) mc ms n :=
  va_cnB n ht (k_goodIn hc) rfl rfl rfl (hg.1 _ hN rfl) (ht _ hi) hy hR
theorem k_runIN {Qc : Array Value → State → Outcome → State → Prop} {free : Addr → Prop} (S : k_C p s m args c cc nL own) (L : k_LIN own index host y bytes maxL n) (ct : k_cut D A0 s H locs ws wc wr tys tc)
    (hM : Met l y (k_ws y bytes maxL none) (k_rm fr mc ms lo) (k_P D (.ref b :: As) wc tc H.size) Qc mc ms free) (hsz : ls.size = nL) (hst : st0 = As.reverse ++ .ref b :: rest) (hW : (rest.map fun v => v.category).sum ≤ 8) (hn : As.length = n) (hdg : decode cc pc = .ok (.invokespecial index, 3)) (hf : k_fit R fr lo maxL mc ms cells slots) :
    va_Run p l e R s m args below meth c H locs cells slots mc ms (F0 m pc ls st0) rest (Qc (Value.ref b :: As).toArray) free := by
  obtain ⟨L1, L2, L4, L5, L7, L6⟩ := L
  exact va_runIN S hM ⟨k_cn S.2.2.2.2 L1 ct.1 L4 L5 L6 hf.1, L7, S.2.2.2.2 _ L2⟩ (k_preS (As := .ref b :: As) ct) rfl hn hsz hst (lv_room (m := m) (pc := pc) (ls := ls) (rest := st0) hW) hdg hf.2
theorem k_runSN {Qc : Array Value → State → Outcome → State → Prop} {free : Addr → Prop} (S : k_C p s m args c cc nL own) (L : k_LSN own index host y bytes maxL ret n) (ct : k_cut D A0 s H locs ws wc wr tys tc)
    (hM : Met l y (k_ws y bytes maxL ret) (k_rm fr mc ms lo) (k_P D As wc tc H.size) Qc mc ms free) (hsz : ls.size = nL) (hst : st0 = As.reverse ++ rest) (hW : (rest.map fun v => v.category).sum ≤ 8) (hn : As.length = n) (hdg : decode cc pc = .ok (.invokestatic index, 3)) (hf : k_fit R fr lo maxL mc ms cells slots) :
    va_Run p l e R s m args below meth c H locs cells slots mc ms (F0 m pc ls st0) rest (Qc As.toArray) free := by
  obtain ⟨L1, L2, L4, L5, L6⟩ := L
  exact va_runSN S hM ⟨k_cn S.2.2.2.2 L1 ct.1 L4 L5 L6 hf.1, S.2.2.2.2 _ L2, trivial⟩ (k_preS ct) rfl hn hsz hst (lv_room (m := m) (pc := pc) (ls := ls) (rest := st0) hW) hdg hf.2
theorem k_runSW {hh : List (Nat × Nat × Nat × Nat)} {Qc : Array Value → State → Outcome → State → Prop} {free : Addr → Prop} (S : k_C p s m args c cc nL own) (L : k_LW own index y bytes maxL ret hh n) (ct : k_cut D A0 s H locs ws wc wr tys tc)
    (hM : Met l y (Cond.codeWith y bytes maxL ret hh :: wsA) (k_rm fr mc ms lo) (k_P D As wc tc H.size) Qc mc ms free) (hsz : ls.size = nL) (hst : st0 = As.reverse ++ rest) (hW : (rest.map fun v => v.category).sum ≤ 8) (hn : As.length = n) (hdg : decode cc pc = .ok (.invokestatic index, 3)) (hf : k_fit R fr lo maxL mc ms cells slots) :
    va_Run p l e R s m args below meth c H locs cells slots mc ms (F0 m pc ls st0) rest (Qc As.toArray) free := by
  obtain ⟨L1, L2, L4, L5, L6⟩ := L
  exact vx_runSW (hh := hh) S hM (vx_cwSW n S.2.2.2.2 (k_goodS L1 L2 L4 L5) rfl rfl rfl L6 hf.1) (k_preS ct) rfl hn hsz hst (lv_room (m := m) (pc := pc) (ls := ls) (rest := st0) hW) hdg hf.2
theorem lgc (x : Int64) : lg_cmp x x = 0 := by
  unfold lg_cmp
  rw [if_neg (fun h => Int64.lt_irrefl h), if_pos rfl]
end KC
