theorem lk_X3_layOut : Cond.code yX3_layOut cX3_layOut 4 none ∈ wsA := mA 296 rfl rfl
theorem ly_X3_layOut : k_y yX3_layOut 2 := ⟨by decide +kernel, by decide +kernel, by decide +kernel⟩
theorem lm_X3_layOut : Cond.instanceMethod yX3_layOut ∈ wsA := mA 295 rfl rfl
theorem le_X3_layOut : Cond.selects (yX3_layOut).cls yX3_layOut yX3_layOut ∈ wsA := mS 2 rfl rfl
theorem Lv_X3_33 : k_LV RX3 33 yX3_layOut cX3_layOut 4 none 2 := ⟨mA 293 rfl rfl, lm_X3_layOut, le_X3_layOut, li_BarcodeWand_Reader, lk_X3_layOut, ly_X3_layOut⟩
set_option maxRecDepth 20000 in
theorem lk_X3_digitsOf : Cond.code yX3_digitsOf cX3_digitsOf 4 (some .int) ∈ wsA := mA 303 rfl rfl
theorem ly_X3_digitsOf : k_y yX3_digitsOf 1 := ⟨by decide +kernel, by decide +kernel, by decide +kernel⟩
set_option maxRecDepth 20000 in
theorem ls_X3_digitsOf : Cond.static yX3_digitsOf ∈ wsA := mA 302 rfl rfl
set_option maxRecDepth 20000 in
theorem Ls_X3_41 : k_LS RX3 41 yX3_digitsOf cX3_digitsOf 4 (some .int) 1 := ⟨mA 301 rfl rfl, ls_X3_digitsOf, li_BarcodeWand_Reader, lk_X3_digitsOf, ly_X3_digitsOf⟩
set_option maxRecDepth 20000 in
theorem lk_X3_isLeftGuardRight : Cond.code yX3_isLeftGuardRight cX3_isLeftGuardRight 3 (some .boolean) ∈ wsA := mA 311 rfl rfl
theorem ly_X3_isLeftGuardRight : k_y yX3_isLeftGuardRight 0 := ⟨by decide +kernel, by decide +kernel, by decide +kernel⟩
set_option maxRecDepth 20000 in
theorem lm_X3_isLeftGuardRight : Cond.instanceMethod yX3_isLeftGuardRight ∈ wsA := mA 310 rfl rfl
theorem le_X3_isLeftGuardRight : Cond.selects (yX3_isLeftGuardRight).cls yX3_isLeftGuardRight yX3_isLeftGuardRight ∈ wsA := mS 4 rfl rfl
set_option maxRecDepth 20000 in
theorem Lv_X3_49 : k_LV RX3 49 yX3_isLeftGuardRight cX3_isLeftGuardRight 3 (some .boolean) 0 := ⟨mA 308 rfl rfl, lm_X3_isLeftGuardRight, le_X3_isLeftGuardRight, li_BarcodeWand_Reader, lk_X3_isLeftGuardRight, ly_X3_isLeftGuardRight⟩
set_option maxRecDepth 20000 in
theorem lk_X3_isRightGuardRight : Cond.code yX3_isRightGuardRight cX3_isRightGuardRight 3 (some .boolean) ∈ wsA := mA 327 rfl rfl
theorem ly_X3_isRightGuardRight : k_y yX3_isRightGuardRight 0 := ⟨by decide +kernel, by decide +kernel, by decide +kernel⟩
set_option maxRecDepth 20000 in
theorem lm_X3_isRightGuardRight : Cond.instanceMethod yX3_isRightGuardRight ∈ wsA := mA 326 rfl rfl
theorem le_X3_isRightGuardRight : Cond.selects (yX3_isRightGuardRight).cls yX3_isRightGuardRight yX3_isRightGuardRight ∈ wsA := mS 6 rfl rfl
set_option maxRecDepth 20000 in
theorem Lv_X3_74 : k_LV RX3 74 yX3_isRightGuardRight cX3_isRightGuardRight 3 (some .boolean) 0 := ⟨mA 324 rfl rfl, lm_X3_isRightGuardRight, le_X3_isRightGuardRight, li_BarcodeWand_Reader, lk_X3_isRightGuardRight, ly_X3_isRightGuardRight⟩
set_option maxRecDepth 20000 in
theorem Ls_X3_80 : k_LSN RX3 80 "BarcodeWand" yX7_checkDigitFor cX7_checkDigitFor 5 (some .int) 2 := ⟨List.mem_of_getElem? (i := 328) rfl, ls_X7_checkDigitFor, li_BarcodeWand, lk_X7_checkDigitFor, ly_X7_checkDigitFor⟩
set_option maxRecDepth 20000 in
theorem lk_X3_failAt : Cond.code yX3_failAt cX3_failAt 4 (some .int) ∈ wsA := mA 307 rfl rfl
theorem ly_X3_failAt : k_y yX3_failAt 3 := ⟨by decide +kernel, by decide +kernel, by decide +kernel⟩
set_option maxRecDepth 20000 in
theorem lm_X3_failAt : Cond.instanceMethod yX3_failAt ∈ wsA := mA 306 rfl rfl
theorem le_X3_failAt : Cond.selects (yX3_failAt).cls yX3_failAt yX3_failAt ∈ wsA := mS 3 rfl rfl
set_option maxRecDepth 20000 in
theorem Lv_X3_45 : k_LV RX3 45 yX3_failAt cX3_failAt 4 (some .int) 3 := ⟨mA 304 rfl rfl, lm_X3_failAt, le_X3_failAt, li_BarcodeWand_Reader, lk_X3_failAt, ly_X3_failAt⟩
set_option maxRecDepth 20000 in
theorem lk_X3_findNearest : Cond.code yX3_findNearest cX3_findNearest 9 none ∈ wsA := mA 317 rfl rfl
theorem ly_X3_findNearest : k_y yX3_findNearest 2 := ⟨by decide +kernel, by decide +kernel, by decide +kernel⟩
set_option maxRecDepth 20000 in
theorem lm_X3_findNearest : Cond.instanceMethod yX3_findNearest ∈ wsA := mA 315 rfl rfl
set_option maxRecDepth 20000 in
theorem le_X3_findNearest : Cond.selects (yX3_findNearest).cls yX3_findNearest yX3_findNearest ∈ wsA := mA 316 rfl rfl
set_option maxRecDepth 20000 in
theorem Lv_X3_53 : k_LV RX3 53 yX3_findNearest cX3_findNearest 9 none 2 := ⟨mA 314 rfl rfl, lm_X3_findNearest, le_X3_findNearest, li_BarcodeWand_Reader, lk_X3_findNearest, ly_X3_findNearest⟩
theorem dX3_failureOf_0 : decode cX3_failureOf 0 = .ok (.aload_n 0, 1) := by decide +kernel
theorem dX3_failureOf_1 : decode cX3_failureOf 1 = .ok (.aload_n 1, 1) := by decide +kernel
theorem dX3_failureOf_2 : decode cX3_failureOf 2 = .ok (.iload_n 2, 1) := by decide +kernel
theorem dX3_failureOf_3 : decode cX3_failureOf 3 = .ok (.invokevirtual 33, 3) := by decide +kernel
theorem dX3_failureOf_6 : decode cX3_failureOf 6 = .ok (.aload_n 0, 1) := by decide +kernel
theorem dX3_failureOf_7 : decode cX3_failureOf 7 = .ok (.getfield 20, 3) := by decide +kernel
theorem dX3_failureOf_10 : decode cX3_failureOf 10 = .ok (.invokevirtual 37, 3) := by decide +kernel
theorem dX3_failureOf_13 : decode cX3_failureOf 13 = .ok (.invokestatic 41, 3) := by decide +kernel
theorem dX3_failureOf_16 : decode cX3_failureOf 16 = .ok (.istore 4, 2) := by decide +kernel
theorem dX3_failureOf_18 : decode cX3_failureOf 18 = .ok (.iload 4, 2) := by decide +kernel
theorem dX3_failureOf_20 : decode cX3_failureOf 20 = .ok (.ifCond .ne 17, 3) := by decide +kernel
theorem dX3_failureOf_23 : decode cX3_failureOf 23 = .ok (.aload_n 0, 1) := by decide +kernel
theorem dX3_failureOf_24 : decode cX3_failureOf 24 = .ok (.iconst 1, 1) := by decide +kernel
theorem dX3_failureOf_25 : decode cX3_failureOf 25 = .ok (.iconst 0, 1) := by decide +kernel
theorem dX3_failureOf_26 : decode cX3_failureOf 26 = .ok (.aload_n 0, 1) := by decide +kernel
theorem dX3_failureOf_27 : decode cX3_failureOf 27 = .ok (.getfield 20, 3) := by decide +kernel
theorem dX3_failureOf_30 : decode cX3_failureOf 30 = .ok (.invokevirtual 37, 3) := by decide +kernel
theorem dX3_failureOf_33 : decode cX3_failureOf 33 = .ok (.invokevirtual 45, 3) := by decide +kernel
theorem dX3_failureOf_36 : decode cX3_failureOf 36 = .ok (.ireturn, 1) := by decide +kernel
theorem dX3_failureOf_37 : decode cX3_failureOf 37 = .ok (.aload_n 0, 1) := by decide +kernel
theorem dX3_failureOf_38 : decode cX3_failureOf 38 = .ok (.invokevirtual 49, 3) := by decide +kernel
theorem dX3_failureOf_41 : decode cX3_failureOf 41 = .ok (.ifCond .ne 11, 3) := by decide +kernel
theorem dX3_failureOf_44 : decode cX3_failureOf 44 = .ok (.aload_n 0, 1) := by decide +kernel
theorem dX3_failureOf_45 : decode cX3_failureOf 45 = .ok (.iconst 2, 1) := by decide +kernel
theorem dX3_failureOf_46 : decode cX3_failureOf 46 = .ok (.iconst 0, 1) := by decide +kernel
theorem dX3_failureOf_47 : decode cX3_failureOf 47 = .ok (.iconst 3, 1) := by decide +kernel
theorem dX3_failureOf_48 : decode cX3_failureOf 48 = .ok (.invokevirtual 45, 3) := by decide +kernel
theorem dX3_failureOf_51 : decode cX3_failureOf 51 = .ok (.ireturn, 1) := by decide +kernel
theorem dX3_failureOf_52 : decode cX3_failureOf 52 = .ok (.iconst 0, 1) := by decide +kernel
theorem dX3_failureOf_53 : decode cX3_failureOf 53 = .ok (.istore 5, 2) := by decide +kernel
theorem dX3_failureOf_55 : decode cX3_failureOf 55 = .ok (.iload 5, 2) := by decide +kernel
theorem dX3_failureOf_57 : decode cX3_failureOf 57 = .ok (.iload 4, 2) := by decide +kernel
theorem dX3_failureOf_59 : decode cX3_failureOf 59 = .ok (.if_icmp .ge 72, 3) := by decide +kernel
theorem dX3_failureOf_62 : decode cX3_failureOf 62 = .ok (.iconst 3, 1) := by decide +kernel
theorem dX3_failureOf_63 : decode cX3_failureOf 63 = .ok (.iconst 4, 1) := by decide +kernel
theorem dX3_failureOf_64 : decode cX3_failureOf 64 = .ok (.iload 5, 2) := by decide +kernel
theorem dX3_failureOf_66 : decode cX3_failureOf 66 = .ok (.imul, 1) := by decide +kernel
theorem dX3_failureOf_67 : decode cX3_failureOf 67 = .ok (.iadd, 1) := by decide +kernel
theorem dX3_failureOf_68 : decode cX3_failureOf 68 = .ok (.istore 6, 2) := by decide +kernel
theorem dX3_failureOf_70 : decode cX3_failureOf 70 = .ok (.aload_n 0, 1) := by decide +kernel
theorem dX3_failureOf_71 : decode cX3_failureOf 71 = .ok (.aload_n 0, 1) := by decide +kernel
theorem dX3_failureOf_72 : decode cX3_failureOf 72 = .ok (.getfield 20, 3) := by decide +kernel
theorem dX3_failureOf_75 : decode cX3_failureOf 75 = .ok (.iload 6, 2) := by decide +kernel
theorem dX3_failureOf_77 : decode cX3_failureOf 77 = .ok (.invokevirtual 53, 3) := by decide +kernel
theorem dX3_failureOf_80 : decode cX3_failureOf 80 = .ok (.aload_n 0, 1) := by decide +kernel
theorem dX3_failureOf_81 : decode cX3_failureOf 81 = .ok (.getfield 57, 3) := by decide +kernel
theorem dX3_failureOf_84 : decode cX3_failureOf 84 = .ok (.ifCond .ne 18, 3) := by decide +kernel
theorem dX3_failureOf_87 : decode cX3_failureOf 87 = .ok (.iconst 4, 1) := by decide +kernel
theorem dX3_failureOf_88 : decode cX3_failureOf 88 = .ok (.aload_n 0, 1) := by decide +kernel
theorem dX3_failureOf_89 : decode cX3_failureOf 89 = .ok (.getfield 61, 3) := by decide +kernel
theorem dX3_failureOf_92 : decode cX3_failureOf 92 = .ok (.imul, 1) := by decide +kernel
theorem dX3_failureOf_93 : decode cX3_failureOf 93 = .ok (.aload_n 0, 1) := by decide +kernel
theorem dX3_failureOf_94 : decode cX3_failureOf 94 = .ok (.getfield 65, 3) := by decide +kernel
theorem dX3_failureOf_97 : decode cX3_failureOf 97 = .ok (.iload_n 3, 1) := by decide +kernel
theorem dX3_failureOf_98 : decode cX3_failureOf 98 = .ok (.imul, 1) := by decide +kernel
theorem dX3_failureOf_99 : decode cX3_failureOf 99 = .ok (.if_icmp .le 15, 3) := by decide +kernel
theorem dX3_failureOf_102 : decode cX3_failureOf 102 = .ok (.aload_n 0, 1) := by decide +kernel
theorem dX3_failureOf_103 : decode cX3_failureOf 103 = .ok (.iconst 3, 1) := by decide +kernel
theorem dX3_failureOf_104 : decode cX3_failureOf 104 = .ok (.iload 6, 2) := by decide +kernel
theorem dX3_failureOf_106 : decode cX3_failureOf 106 = .ok (.iload 6, 2) := by decide +kernel
theorem dX3_failureOf_108 : decode cX3_failureOf 108 = .ok (.iconst 4, 1) := by decide +kernel
theorem dX3_failureOf_109 : decode cX3_failureOf 109 = .ok (.iadd, 1) := by decide +kernel
theorem dX3_failureOf_110 : decode cX3_failureOf 110 = .ok (.invokevirtual 45, 3) := by decide +kernel
theorem dX3_failureOf_113 : decode cX3_failureOf 113 = .ok (.ireturn, 1) := by decide +kernel
theorem dX3_failureOf_114 : decode cX3_failureOf 114 = .ok (.aload_n 0, 1) := by decide +kernel
theorem dX3_failureOf_115 : decode cX3_failureOf 115 = .ok (.getfield 14, 3) := by decide +kernel
theorem dX3_failureOf_118 : decode cX3_failureOf 118 = .ok (.aload_n 0, 1) := by decide +kernel
theorem dX3_failureOf_119 : decode cX3_failureOf 119 = .ok (.getfield 68, 3) := by decide +kernel
theorem dX3_failureOf_122 : decode cX3_failureOf 122 = .ok (.invokevirtual 71, 3) := by decide +kernel
theorem dX3_failureOf_125 : decode cX3_failureOf 125 = .ok (.iinc 5 1, 3) := by decide +kernel
theorem dX3_failureOf_128 : decode cX3_failureOf 128 = .ok (.goto (-73), 3) := by decide +kernel
theorem dX3_failureOf_131 : decode cX3_failureOf 131 = .ok (.aload_n 0, 1) := by decide +kernel
theorem dX3_failureOf_132 : decode cX3_failureOf 132 = .ok (.invokevirtual 74, 3) := by decide +kernel
theorem dX3_failureOf_135 : decode cX3_failureOf 135 = .ok (.ifCond .ne 25, 3) := by decide +kernel
theorem dX3_failureOf_138 : decode cX3_failureOf 138 = .ok (.aload_n 0, 1) := by decide +kernel
theorem dX3_failureOf_139 : decode cX3_failureOf 139 = .ok (.iconst 4, 1) := by decide +kernel
theorem dX3_failureOf_140 : decode cX3_failureOf 140 = .ok (.aload_n 0, 1) := by decide +kernel
theorem dX3_failureOf_141 : decode cX3_failureOf 141 = .ok (.getfield 20, 3) := by decide +kernel
theorem dX3_failureOf_144 : decode cX3_failureOf 144 = .ok (.invokevirtual 37, 3) := by decide +kernel
theorem dX3_failureOf_147 : decode cX3_failureOf 147 = .ok (.iconst 2, 1) := by decide +kernel
theorem dX3_failureOf_148 : decode cX3_failureOf 148 = .ok (.isub, 1) := by decide +kernel
theorem dX3_failureOf_149 : decode cX3_failureOf 149 = .ok (.aload_n 0, 1) := by decide +kernel
theorem dX3_failureOf_150 : decode cX3_failureOf 150 = .ok (.getfield 20, 3) := by decide +kernel
theorem dX3_failureOf_153 : decode cX3_failureOf 153 = .ok (.invokevirtual 37, 3) := by decide +kernel
theorem dX3_failureOf_156 : decode cX3_failureOf 156 = .ok (.invokevirtual 45, 3) := by decide +kernel
theorem dX3_failureOf_159 : decode cX3_failureOf 159 = .ok (.ireturn, 1) := by decide +kernel
theorem dX3_failureOf_160 : decode cX3_failureOf 160 = .ok (.aload_n 0, 1) := by decide +kernel
theorem dX3_failureOf_161 : decode cX3_failureOf 161 = .ok (.getfield 14, 3) := by decide +kernel
theorem dX3_failureOf_164 : decode cX3_failureOf 164 = .ok (.iload 4, 2) := by decide +kernel
theorem dX3_failureOf_166 : decode cX3_failureOf 166 = .ok (.iconst 1, 1) := by decide +kernel
theorem dX3_failureOf_167 : decode cX3_failureOf 167 = .ok (.isub, 1) := by decide +kernel
theorem dX3_failureOf_168 : decode cX3_failureOf 168 = .ok (.invokevirtual 77, 3) := by decide +kernel
theorem dX3_failureOf_171 : decode cX3_failureOf 171 = .ok (.aload_n 0, 1) := by decide +kernel
theorem dX3_failureOf_172 : decode cX3_failureOf 172 = .ok (.getfield 14, 3) := by decide +kernel
theorem dX3_failureOf_175 : decode cX3_failureOf 175 = .ok (.iload 4, 2) := by decide +kernel
theorem dX3_failureOf_177 : decode cX3_failureOf 177 = .ok (.iconst 1, 1) := by decide +kernel
theorem dX3_failureOf_178 : decode cX3_failureOf 178 = .ok (.isub, 1) := by decide +kernel
theorem dX3_failureOf_179 : decode cX3_failureOf 179 = .ok (.invokestatic 80, 3) := by decide +kernel
theorem dX3_failureOf_182 : decode cX3_failureOf 182 = .ok (.if_icmp .ne 7, 3) := by decide +kernel
theorem dX3_failureOf_185 : decode cX3_failureOf 185 = .ok (.iconst 1, 1) := by decide +kernel
theorem dX3_failureOf_186 : decode cX3_failureOf 186 = .ok (.goto 4, 3) := by decide +kernel
theorem dX3_failureOf_189 : decode cX3_failureOf 189 = .ok (.iconst 0, 1) := by decide +kernel
theorem dX3_failureOf_190 : decode cX3_failureOf 190 = .ok (.istore 5, 2) := by decide +kernel
theorem dX3_failureOf_192 : decode cX3_failureOf 192 = .ok (.iload 5, 2) := by decide +kernel
theorem dX3_failureOf_194 : decode cX3_failureOf 194 = .ok (.ifCond .eq 7, 3) := by decide +kernel
theorem dX3_failureOf_197 : decode cX3_failureOf 197 = .ok (.iconst 0, 1) := by decide +kernel
theorem dX3_failureOf_198 : decode cX3_failureOf 198 = .ok (.goto 16, 3) := by decide +kernel
theorem dX3_failureOf_201 : decode cX3_failureOf 201 = .ok (.aload_n 0, 1) := by decide +kernel
theorem dX3_failureOf_202 : decode cX3_failureOf 202 = .ok (.iconst 5, 1) := by decide +kernel
theorem dX3_failureOf_203 : decode cX3_failureOf 203 = .ok (.iconst 0, 1) := by decide +kernel
theorem dX3_failureOf_204 : decode cX3_failureOf 204 = .ok (.aload_n 0, 1) := by decide +kernel
theorem dX3_failureOf_205 : decode cX3_failureOf 205 = .ok (.getfield 20, 3) := by decide +kernel
theorem dX3_failureOf_208 : decode cX3_failureOf 208 = .ok (.invokevirtual 37, 3) := by decide +kernel
theorem dX3_failureOf_211 : decode cX3_failureOf 211 = .ok (.invokevirtual 45, 3) := by decide +kernel
theorem dX3_failureOf_214 : decode cX3_failureOf 214 = .ok (.ireturn, 1) := by decide +kernel
theorem dgc_le {k : Nat} (h : k ≤ 41) : dgc k ≤ 9 := by
  unfold dgc
  split <;> omega
theorem dgc_z : ∀ k, k ≤ 41 → nI (dgc k) = 0 → dgc k = 0 := by decide +kernel
theorem csum_congr {f g : Nat → Int32} {j : Nat} (h : ∀ m, m < j → f m = g m) : ∀ i, i ≤ j → csum f j i = csum g j i := by
  intro i
  induction i with
  | zero => intro _; rfl
  | succ i ih =>
    intro hi
    unfold csum
    rw [ih (by omega), h _ (by omega)]
/-- the m-th time of the k-th digit; their sum; the distances -/
def tkF (n : Nat) (lf : Nat → Int32) (k m : Nat) : Int32 := rowAt 41 (nI n) lf (nI (3 + 4 * k + m))
def smK (n : Nat) (lf : Nat → Int32) (k : Nat) : Int32 := tkF n lf k 0 + tkF n lf k 1 + tkF n lf k 2 + tkF n lf k 3
def ddK (n : Nat) (lf : Nat → Int32) (k : Nat) : Nat → Int32 := dsF (tkF n lf k 0) (tkF n lf k 1) (tkF n lf k 2) (tkF n lf k 3) (smK n lf k)
def nrD (n : Nat) (lf : Nat → Int32) (k : Nat) : Int32 := (nrF (ddK n lf k) 0 0 10).1
def okD (n : Nat) (lf : Nat → Int32) (tol : Int32) (k : Nat) : Prop := (nrF (ddK n lf k) 0 0 10).2.2 = 0 ∧ 4 * (nrF (ddK n lf k) 0 0 10).2.1 ≤ smK n lf k * tol
def lgG (n : Nat) (lf : Nat → Int32) : Int32 := lgF (rowAt 41 (nI n) lf 0) (rowAt 41 (nI n) lf 1) (rowAt 41 (nI n) lf 2)
def rgG (n : Nat) (lf : Nat → Int32) : Int32 := rgF (rowAt 41 (nI n) lf (nI n - 2)) (rowAt 41 (nI n) lf (nI n - 1))
/-- the check digit fits -/
def ckD (n : Nat) (lf : Nat → Int32) : Prop := nrD n lf (dgc n - 1) = chkd (csum (nrD n lf) (dgc n - 1) (dgc n - 1))
noncomputable def failF (n : Nat) (lf : Nat → Int32) (tol : Int32) : Int32 := if dgc n = 0 then 1 else if lgG n lf = 0 then 2 else @ite Int32 (∀ k, k < dgc n → okD n lf tol k) (Classical.propDecidable _) (if rgG n lf = 0 then 4 else @ite Int32 (ckD n lf) (Classical.propDecidable _) 0 5) 3
theorem failF_1 {n : Nat} {lf : Nat → Int32} {tol : Int32} (h : dgc n = 0) : failF n lf tol = 1 := if_pos h
theorem failF_2 {n : Nat} {lf : Nat → Int32} {tol : Int32} (h : ¬ dgc n = 0) (h2 : lgG n lf = 0) : failF n lf tol = 2 := by unfold failF; rw [if_neg h, if_pos h2]
theorem failF_3 {n : Nat} {lf : Nat → Int32} {tol : Int32} (h : ¬ dgc n = 0) (h2 : ¬ lgG n lf = 0) (h3 : ¬ ∀ k, k < dgc n → okD n lf tol k) : failF n lf tol = 3 := by unfold failF; rw [if_neg h, if_neg h2, if_neg h3]
theorem failF_4 {n : Nat} {lf : Nat → Int32} {tol : Int32} (h : ¬ dgc n = 0) (h2 : ¬ lgG n lf = 0) (h3 : ∀ k, k < dgc n → okD n lf tol k) (h4 : rgG n lf = 0) : failF n lf tol = 4 := by unfold failF; rw [if_neg h, if_neg h2, if_pos h3, if_pos h4]
theorem failF_5 {n : Nat} {lf : Nat → Int32} {tol : Int32} (h : ¬ dgc n = 0) (h2 : ¬ lgG n lf = 0) (h3 : ∀ k, k < dgc n → okD n lf tol k) (h4 : ¬ rgG n lf = 0) (h5 : ¬ ckD n lf) : failF n lf tol = 5 := by unfold failF; rw [if_neg h, if_neg h2, if_pos h3, if_neg h4, if_neg h5]
theorem failF_0 {n : Nat} {lf : Nat → Int32} {tol : Int32} (h : ¬ dgc n = 0) (h2 : ¬ lgG n lf = 0) (h3 : ∀ k, k < dgc n → okD n lf tol k) (h4 : ¬ rgG n lf = 0) (h5 : ckD n lf) : failF n lf tol = 0 := by unfold failF; rw [if_neg h, if_neg h2, if_pos h3, if_neg h4, if_pos h5]
/-- what a reading can come to -/
theorem failF_all (n : Nat) (lf : Nat → Int32) (tol : Int32) : (failF n lf tol = 1 ∧ dgc n = 0) ∨ (failF n lf tol = 2 ∧ ¬ dgc n = 0) ∨ (failF n lf tol = 3 ∧ ¬ dgc n = 0) ∨ (failF n lf tol = 4 ∧ ¬ dgc n = 0) ∨ (failF n lf tol = 5 ∧ ¬ dgc n = 0) ∨ (failF n lf tol = 0 ∧ ¬ dgc n = 0 ∧ ¬ lgG n lf = 0 ∧ (∀ k, k < dgc n → okD n lf tol k) ∧ ¬ rgG n lf = 0 ∧ ckD n lf) := by
  by_cases h : dgc n = 0
  · exact Or.inl ⟨failF_1 h, h⟩
  · by_cases h2 : lgG n lf = 0
    · exact Or.inr (Or.inl ⟨failF_2 h h2, h⟩)
    · by_cases h3 : ∀ k, k < dgc n → okD n lf tol k
      · by_cases h4 : rgG n lf = 0
        · exact Or.inr (Or.inr (Or.inr (Or.inl ⟨failF_4 h h2 h3 h4, h⟩)))
        · by_cases h5 : ckD n lf
          · exact Or.inr (Or.inr (Or.inr (Or.inr (Or.inr ⟨failF_0 h h2 h3 h4 h5, h, h2, h3, h4, h5⟩))))
          · exact Or.inr (Or.inr (Or.inr (Or.inr (Or.inl ⟨failF_5 h h2 h3 h4 h5, h⟩))))
      · exact Or.inr (Or.inr (Or.inl ⟨failF_3 h h2 h3, h⟩))
theorem failF_in (n : Nat) (lf : Nat → Int32) (tol : Int32) : failF n lf tol = 0 ∨ failF n lf tol = 1 ∨ failF n lf tol = 2 ∨ failF n lf tol = 3 ∨ failF n lf tol = 4 ∨ failF n lf tol = 5 := by
  rcases failF_all n lf tol with h | h | h | h | h | h <;> simp only [h.1, true_or, or_true]
theorem mx_pos {x y : Int32} (hx : x = 0 ∨ x = 1 ∨ x = 2 ∨ x = 3 ∨ x = 4 ∨ x = 5) (hy : y = 0 ∨ y = 1 ∨ y = 2 ∨ y = 3 ∨ y = 4 ∨ y = 5) (h1 : ¬ x = 0) (h2 : ¬ y = 0) : ¬ mxI x y = 0 ∧ ¬ mxI x y = (-1) := by
  rcases hx with rfl | rfl | rfl | rfl | rfl | rfl <;> rcases hy with rfl | rfl | rfl | rfl | rfl | rfl <;> first | exact absurd rfl h1 | exact absurd rfl h2 | decide
noncomputable def resF (n : Nat) (tf : Nat → Int32) (tol : Int32) : Int32 := if failF n (lnF n tf 0) tol = 0 then 0 else if failF n (lnF n tf 1) tol = 0 then (-1) else mxI (failF n (lnF n tf 0) tol) (failF n (lnF n tf 1) tol)
/-- a reading that fails, fails with any times that are the same from ff up to ft -/
def fcert (n : Nat) (lf : Nat → Int32) (tol ff ft : Int32) : Prop := ∀ lf' : Nat → Int32, (∀ j, j < n → ¬ nI j < ff → nI j < ft → lf' j = lf j) → ¬ failF n lf' tol = 0
theorem dgc_pos {n : Nat} (h : ¬ dgc n = 0) : 2 ≤ dgc n ∧ dgc n ≤ 9 ∧ n = 4 * dgc n + 5 := by
  unfold dgc at h ⊢
  by_cases h1 : 13 ≤ n ∧ n ≤ 41 ∧ n % 4 = 1
  · rw [if_pos h1]
    omega
  · rw [if_neg h1] at h
    exact absurd rfl h
theorem failF_congr {n : Nat} {f g : Nat → Int32} (h : ∀ j, j < n → f j = g j) (hn : n ≤ 41) (tol : Int32) : failF n f tol = failF n g tol ∧ nrD n f = nrD n g := by
  have hr : rowAt 41 (nI n) f = rowAt 41 (nI n) g := funext fun _ => rowAt_can0 h (by omega)
  have ht : tkF n f = tkF n g := by funext k m; unfold tkF; rw [hr]
  have hs : smK n f = smK n g := by funext k; unfold smK; rw [ht]
  have hd : ddK n f = ddK n g := by funext k; unfold ddK; rw [ht, hs]
  have hnr : nrD n f = nrD n g := by funext k; unfold nrD; rw [hd]
  have ho : okD n f tol = okD n g tol := by funext k; unfold okD; rw [hd, hs]
  have hlg : lgG n f = lgG n g := by unfold lgG; rw [hr]
  have hrg : rgG n f = rgG n g := by unfold rgG; rw [hr]
  have hck : ckD n f = ckD n g := by unfold ckD; rw [hnr]
  refine ⟨?_, hnr⟩
  unfold failF
  rw [hlg, hrg, ho, hck]
theorem rowAt_1 {n j : Nat} {f g : Nat → Int32} (hj : j < n) (hn : n ≤ 41) (h : f j = g j) : rowAt 41 (nI n) f (nI j) = rowAt 41 (nI n) g (nI j) := by
  rw [rowAt_lt hj hn (by decide), rowAt_lt hj hn (by decide), h]
theorem fcert_1 {n : Nat} {lf : Nat → Int32} {tol ff ft : Int32} (h : dgc n = 0) : fcert n lf tol ff ft := fun lf' _ q => by
  rw [failF_1 h] at q
  exact absurd q (by decide)
theorem fcert_2 {n : Nat} {lf : Nat → Int32} {tol : Int32} (hn : n ≤ 41) (h : ¬ dgc n = 0) (h2 : lgG n lf = 0) : fcert n lf tol 0 3 := fun lf' hl q => by
  have h13 := dgc_pos h
  have e : ∀ j, j < 3 → rowAt 41 (nI n) lf' (nI j) = rowAt 41 (nI n) lf (nI j) := fun j hj => rowAt_1 (by omega) hn (hl j (by omega) (nI_pos (by omega)) (nI_lt (b := 3) hj (by decide)))
  have e2 : lgG n lf' = 0 := by
    rw [← h2]
    unfold lgG
    rw [show (0 : Int32) = nI 0 from rfl, show (1 : Int32) = nI 1 from rfl, show (2 : Int32) = nI 2 from rfl, e 0 (by decide), e 1 (by decide), e 2 (by decide)]
  rw [failF_2 h e2] at q
  exact absurd q (by decide)
theorem fcert_3 {n k : Nat} {lf : Nat → Int32} {tol : Int32} (hn : n ≤ 41) (h : ¬ dgc n = 0) (hk : k < dgc n) (h3 : ¬ okD n lf tol k) : fcert n lf tol (nI (3 + 4 * k)) (nI (3 + 4 * k) + 4) := fun lf' hl q => by
  have h13 := dgc_pos h
  have e : ∀ m, m < 4 → tkF n lf' k m = tkF n lf k m := fun m hm => rowAt_1 (by omega) hn (hl _ (by omega) (nI_nlt (by omega) (by omega)) (by rw [show (4 : Int32) = nI 4 from rfl, nI_add]; exact nI_lt (by omega) (by omega)))
  have e3 : ¬ okD n lf' tol k := by
    have es : smK n lf' k = smK n lf k := by unfold smK; rw [e 0 (by decide), e 1 (by decide), e 2 (by decide), e 3 (by decide)]
    have ed : ddK n lf' k = ddK n lf k := by unfold ddK; rw [e 0 (by decide), e 1 (by decide), e 2 (by decide), e 3 (by decide), es]
    unfold okD
    rw [es, ed]
    exact h3
  by_cases h2 : lgG n lf' = 0
  · rw [failF_2 h h2] at q
    exact absurd q (by decide)
  · rw [failF_3 h h2 (fun w => e3 (w k hk))] at q
    exact absurd q (by decide)
theorem fcert_4 {n : Nat} {lf : Nat → Int32} {tol : Int32} (hn : n ≤ 41) (h : ¬ dgc n = 0) (h4 : rgG n lf = 0) : fcert n lf tol (nI n - 2) (nI n) := fun lf' hl q => by
  have h13 := dgc_pos h
  have e1 : nI n - 1 = nI (n - 1) := pk_sub (b := 1) (by omega)
  have e2 : nI n - 2 = nI (n - 2) := pk_sub (b := 2) (by omega)
  have e : ∀ j, n - 2 ≤ j → j < n → rowAt 41 (nI n) lf' (nI j) = rowAt 41 (nI n) lf (nI j) := fun j h1 h2 => rowAt_1 h2 hn (hl j h2 (by rw [e2]; exact nI_nlt h1 (by omega)) (nI_lt h2 (by omega)))
  have eg : rgG n lf' = 0 := by
    rw [← h4]
    unfold rgG
    rw [e1, e2, e (n - 2) (by omega) (by omega), e (n - 1) (by omega) (by omega)]
  rcases failF_all n lf' tol with w | w | w | w | w | w
  · exact absurd (w.1.symm.trans q) (by decide)
  · exact absurd (w.1.symm.trans q) (by decide)
  · exact absurd (w.1.symm.trans q) (by decide)
  · exact absurd (w.1.symm.trans q) (by decide)
  · exact absurd (w.1.symm.trans q) (by decide)
  · exact w.2.2.2.2.1 eg
theorem fcert_5 {n : Nat} {lf : Nat → Int32} {tol : Int32} (hn : n ≤ 41) (h : ¬ failF n lf tol = 0) : fcert n lf tol 0 (nI n) := fun lf' hl q => by
  rw [(failF_congr (f := lf') (g := lf) (fun j hj => hl j hj (nI_pos (by omega)) (nI_lt hj (by omega))) hn tol).1] at q
  exact h q
set_option maxHeartbeats 4000000 in
set_option maxRecDepth 100000 in
theorem c_failureOf (l : Launch) (D : va_G) (re : Nat) (rd : Nat) (nd : Int32) (rl : Nat) (ldi : Int32) (sot : Int32) (tie : Int32) (ff : Int32) (ft : Int32) (rdA : Nat) (rn : Int32) (K : ClassId) (rg : Nat → Int32) (rlA : Nat) (lnn : Int32) (rlf : Nat → Int32) (tm : Nat) (tmA : Nat) (tn : Nat) (tf : Nat → Int32) (b : Int32) (to : Int32) (htn : tn ≤ 41) (sz : Nat) : k_Mi (S := Int32 × Int32 × Int32 × Int32 × Int32 × Int32 × Nat) l D yX3_failureOf cX3_failureOf 7 (some .int) 2 0 0 51 [.ref re, .ref tm, .int b, .int to] [(re, .inr (3, [.ref rd, .int nd, .ref rl, .int ldi, .int sot, .int tie, .int ff, .int ft])), (rd, .inr (4, [.ref rdA, .int rn])), (rdA, .inl (K, 9, .inl rg)), (rl, .inr (4, [.ref rlA, .int lnn])), (rlA, .inl (K, 41, .inl rlf)), (tm, .inr (4, [.ref tmA, .int (nI tn)])), (tmA, .inl (K, 41, .inl tf))] [(K, .int)] (fun (r : Int32) (u : Int32 × Int32 × Int32 × Int32 × Int32 × Int32 × Nat) => match u with | (nd1, ldi1, sot1, tie1, ff1, ft1, n1) => r = failF tn (lnF tn tf b) to ∧ n1 ≤ 9 ∧ (r = 0 → n1 = dgc tn) ∧ (¬ r = 0 → fcert tn (lnF tn tf b) to ff1 ft1)) (fun u => match u with | (nd1, ldi1, sot1, tie1, ff1, ft1, n1) => [(re, .inr (3, [.ref rd, .int nd1, .ref rl, .int ldi1, .int sot1, .int tie1, .int ff1, .int ft1])), (rd, .inr (4, [.ref rdA, .int (nI n1)])), (rdA, .inl (K, 9, .inl (cpy (nrD tn (lnF tn tf b)) rg n1))), (rl, .inr (4, [.ref rlA, .int (nI tn)])), (rlA, .inl (K, 41, .inl (cpy (lnF tn tf b) rlf tn))), (tm, .inr (4, [.ref tmA, .int (nI tn)])), (tmA, .inl (K, 41, .inl tf))]) (fun u => match u with | (nd1, ldi1, sot1, tie1, ff1, ft1, n1) => []) sz := by
  refine Met.ofW (cc := cX3_failureOf) (maxL := 7) (ret := (some .int)) (by decide) rfl ?_
  intro p e s m args below meth c s₁ B hml hv
  obtain ⟨rfl, hsz, hP, hK, hD0, hG⟩ := hv
  have hx := B.exec
  have hb := B.bytes
  have hr := B.returns
  have ht : ∀ v9 ∈ wsA, v9.before ([.ref re, .ref tm, .int b, .int to] : List Value).toArray s = true := fun v9 h9 => atoms_spec (ws := k_ws yX3_failureOf cX3_failureOf 7 (some .int)) B.pre v9 (List.mem_cons_of_mem _ h9)
  have hown : s.vm.findClass RX3 = some m.cls := findClass_of_methodNamed B.named
  have S0 : k_C p s m ([.ref re, .ref tm, .int b, .int to] : List Value).toArray c cX3_failureOf 7 RX3 := ⟨hx, hb, hml, hown, ht⟩
  have hlocks := B.notSynchronized
  subst hsz
  have hD := hD0.self (sz := s.heap.size)
  generalize hAe : va_A [(re, .inr (3, [.ref rd, .int nd, .ref rl, .int ldi, .int sot, .int tie, .int ff, .int ft])), (rd, .inr (4, [.ref rdA, .int rn])), (rdA, .inl (K, 9, .inl rg)), (rl, .inr (4, [.ref rlA, .int lnn])), (rlA, .inl (K, 41, .inl rlf)), (tm, .inr (4, [.ref tmA, .int (nI tn)])), (tmA, .inl (K, 41, .inl tf))] s.heap.size = A at hD hG ⊢
  have hA : ∀ q : Nat, s.heap.size ≤ q → A q := fun q h => by rw [← hAe]; exact Or.inr h
  have hS : va_S A s.heap s.heap [] := va_S.rf
  have hl := lv_entry ([.ref re, .ref tm, .int b, .int to]) (n := 7) (Nat.le_of_ble_eq_true rfl)
  rw [lg_entry_eq]
  generalize (lg_sl ([.ref re, .ref tm, .int b, .int to]) ++ List.replicate (7 - (lg_sl ([.ref re, .ref tm, .int b, .int to])).length) Slot.unset).toArray = ls at hl ⊢
  have hl : lv_has ls 7 [(0, .ref re), (1, .ref tm), (2, .int b), (3, .int to)] := hl
  have hP : va_P D vwCl [(re, .inr (3, [.ref rd, .int nd, .ref rl, .int ldi, .int sot, .int tie, .int ff, .int ft])), (rd, .inr (4, [.ref rdA, .int rn])), (rdA, .inl (K, 9, .inl rg)), (rl, .inr (4, [.ref rlA, .int lnn])), (rlA, .inl (K, 41, .inl rlf)), (tm, .inr (4, [.ref tmA, .int (nI tn)])), (tmA, .inl (K, 41, .inl tf))] s.heap := hP
  refine lv_aload_n hx hb dX3_failureOf_0 rfl (lv_at hl 0 rfl) ?_
  refine lv_aload_n hx hb dX3_failureOf_1 rfl (lv_at hl 1 rfl) ?_
  refine lv_iload_n hx hb dX3_failureOf_2 rfl (lv_at hl 2 rfl) ?_
  have ct := k_cut_of (wc := [(re, .inr (3, [.ref rd, .int nd, .ref rl, .int ldi, .int sot, .int tie, .int ff, .int ft])), (rd, .inr (4, [.ref rdA, .int rn])), (rl, .inr (4, [.ref rlA, .int lnn])), (rlA, .inl (K, 41, .inl rlf)), (tm, .inr (4, [.ref tmA, .int (nI tn)])), (tmA, .inl (K, 41, .inl tf))]) (wr := [(rdA, .inl (K, 9, .inl rg))]) (tc := [(K, .int)]) hG hS hA hK hP hD [0, 1, 3, 4, 5, 6] [2] [0] rfl rfl (by decide) (by decide) (by decide) rfl
  refine k_endv (As := [.ref re, .ref tm, .int b]) ct (k_runV (As := [.ref tm, .int b]) (rest := []) S0 Lv_X3_33 rfl (ci := 3) (q0 := 0) rfl rfl ct (c_layOut l D re rd nd rl ldi sot tie ff ft rdA rn rlA lnn K rlf tm tmA tn tf b (by first | assumption | omega) s.heap.size) hl.1 rfl (Nat.le_of_ble_eq_true rfl) rfl dX3_failureOf_3 ⟨⟨Nat.le_of_ble_eq_true rfl, Nat.le_of_ble_eq_true rfl⟩, Nat.le_of_ble_eq_true rfl, Nat.le_of_ble_eq_true rfl⟩) rfl rfl (fun _ _ H locs hw_2 hP hD hK hS => ?_)
  have hK : va_K D vwCl [(K, .int)] s := hK
  have hP : va_P D vwCl [(rdA, .inl (K, 9, .inl rg)), (re, .inr (3, [.ref rd, .int nd, .ref rl, .int ldi, .int sot, .int tie, .int ff, .int ft])), (rd, .inr (4, [.ref rdA, .int (nI 0)])), (rl, .inr (4, [.ref rlA, .int (nI tn)])), (rlA, .inl (K, 41, .inl (cpy (lnF tn tf b) rlf tn))), (tm, .inr (4, [.ref tmA, .int (nI tn)])), (tmA, .inl (K, 41, .inl tf))] H := hP
  have hD : va_D A [(rdA, .inl (K, 9, .inl rg)), (re, .inr (3, [.ref rd, .int nd, .ref rl, .int ldi, .int sot, .int tie, .int ff, .int ft])), (rd, .inr (4, [.ref rdA, .int (nI 0)])), (rl, .inr (4, [.ref rlA, .int (nI tn)])), (rlA, .inl (K, 41, .inl (cpy (lnF tn tf b) rlf tn))), (tm, .inr (4, [.ref tmA, .int (nI tn)])), (tmA, .inl (K, 41, .inl tf))] := hD
  obtain ⟨lf, hlf⟩ : ∃ z9 : Nat → Int32, z9 = cpy (lnF tn tf b) rlf tn := ⟨_, rfl⟩
  have hR : ∀ x9, rowAt 41 (nI tn) lf x9 = rowAt 41 (nI tn) (lnF tn tf b) x9 := fun x9 => by rw [hlf]; exact rowAt_cpy (by omega)
  have hcn := dgc_le htn
  have hf_3 : ((cpy (lnF tn tf b) rlf tn) : Nat → Int32) = lf := hlf.symm
  have hP : va_P D vwCl [(rdA, .inl (K, 9, .inl rg)), (re, .inr (3, [.ref rd, .int nd, .ref rl, .int ldi, .int sot, .int tie, .int ff, .int ft])), (rd, .inr (4, [.ref rdA, .int (nI 0)])), (rl, .inr (4, [.ref rlA, .int (nI tn)])), (rlA, .inl (K, 41, .inl lf)), (tm, .inr (4, [.ref tmA, .int (nI tn)])), (tmA, .inl (K, 41, .inl tf))] H := (congrArg (fun z9 : Nat → Int32 => va_P D vwCl [(rdA, .inl (K, 9, .inl rg)), (re, .inr (3, [.ref rd, .int nd, .ref rl, .int ldi, .int sot, .int tie, .int ff, .int ft])), (rd, .inr (4, [.ref rdA, .int (nI 0)])), (rl, .inr (4, [.ref rlA, .int (nI tn)])), (rlA, .inl (K, 41, .inl z9)), (tm, .inr (4, [.ref tmA, .int (nI tn)])), (tmA, .inl (K, 41, .inl tf))] H) hf_3).mp hP
  have hD : va_D A [(rdA, .inl (K, 9, .inl rg)), (re, .inr (3, [.ref rd, .int nd, .ref rl, .int ldi, .int sot, .int tie, .int ff, .int ft])), (rd, .inr (4, [.ref rdA, .int (nI 0)])), (rl, .inr (4, [.ref rlA, .int (nI tn)])), (rlA, .inl (K, 41, .inl lf)), (tm, .inr (4, [.ref tmA, .int (nI tn)])), (tmA, .inl (K, 41, .inl tf))] := (congrArg (fun z9 : Nat → Int32 => va_D A [(rdA, .inl (K, 9, .inl rg)), (re, .inr (3, [.ref rd, .int nd, .ref rl, .int ldi, .int sot, .int tie, .int ff, .int ft])), (rd, .inr (4, [.ref rdA, .int (nI 0)])), (rl, .inr (4, [.ref rlA, .int (nI tn)])), (rlA, .inl (K, 41, .inl z9)), (tm, .inr (4, [.ref tmA, .int (nI tn)])), (tmA, .inl (K, 41, .inl tf))]) hf_3).mp hD
  refine lv_aload_n hx hb dX3_failureOf_6 rfl (lv_at hl 0 rfl) ?_
  refine va_get (D := D) (ci := 3) (v := .ref rl) (C := RX3) (T := TX3) (N := 8) hx hb ht inA_X3 hown hK hP 1 rfl rfl 2 (by decide) (ht _ lf_X3_20) (fun _ h9 => h9) rfl dX3_failureOf_7 ?_
  have ct := k_cut_of (wc := [(rl, .inr (4, [.ref rlA, .int (nI tn)]))]) (wr := [(rdA, .inl (K, 9, .inl rg)), (re, .inr (3, [.ref rd, .int nd, .ref rl, .int ldi, .int sot, .int tie, .int ff, .int ft])), (rd, .inr (4, [.ref rdA, .int (nI 0)])), (rlA, .inl (K, 41, .inl lf)), (tm, .inr (4, [.ref tmA, .int (nI tn)])), (tmA, .inl (K, 41, .inl tf))]) (tc := []) hG hS hA hK hP hD [3] [0, 1, 2, 4, 5, 6] [] rfl rfl (by decide) (by decide) (by decide) rfl
  refine k_endi (As := [.ref rl]) ct (k_runV (As := []) (rest := []) S0 Lv_X3_37 rfl (ci := 4) (q0 := 0) rfl rfl ct (c_Row_size l D rl rlA (nI tn) H.size) hl.1 rfl (Nat.le_of_ble_eq_true rfl) rfl dX3_failureOf_10 ⟨⟨Nat.le_of_ble_eq_true rfl, Nat.le_of_ble_eq_true rfl⟩, Nat.le_of_ble_eq_true rfl, Nat.le_of_ble_eq_true rfl⟩) rfl rfl (fun r_4 _ H locs hw_5 hP hD hK hS => ?_)
  have hK : va_K D vwCl [(K, .int)] s := hK
  have hP : va_P D vwCl [(rdA, .inl (K, 9, .inl rg)), (re, .inr (3, [.ref rd, .int nd, .ref rl, .int ldi, .int sot, .int tie, .int ff, .int ft])), (rd, .inr (4, [.ref rdA, .int (nI 0)])), (rlA, .inl (K, 41, .inl lf)), (tm, .inr (4, [.ref tmA, .int (nI tn)])), (tmA, .inl (K, 41, .inl tf)), (rl, .inr (4, [.ref rlA, .int (nI tn)]))] H := hP
  have hD : va_D A [(rdA, .inl (K, 9, .inl rg)), (re, .inr (3, [.ref rd, .int nd, .ref rl, .int ldi, .int sot, .int tie, .int ff, .int ft])), (rd, .inr (4, [.ref rdA, .int (nI 0)])), (rlA, .inl (K, 41, .inl lf)), (tm, .inr (4, [.ref tmA, .int (nI tn)])), (tmA, .inl (K, 41, .inl tf)), (rl, .inr (4, [.ref rlA, .int (nI tn)]))] := hD
  have hw_5 : r_4 = (nI tn) := hw_5
  have hw_5 := hw_5.symm
  subst hw_5
  refine k_nrm (y := (nI tn)) rfl ?_
  have ct := k_cut_of (wc := []) (wr := [(rdA, .inl (K, 9, .inl rg)), (re, .inr (3, [.ref rd, .int nd, .ref rl, .int ldi, .int sot, .int tie, .int ff, .int ft])), (rd, .inr (4, [.ref rdA, .int (nI 0)])), (rlA, .inl (K, 41, .inl lf)), (tm, .inr (4, [.ref tmA, .int (nI tn)])), (tmA, .inl (K, 41, .inl tf)), (rl, .inr (4, [.ref rlA, .int (nI tn)]))]) (tc := []) hG hS hA hK hP hD [] [0, 1, 2, 3, 4, 5, 6] [] rfl rfl (by decide) (by decide) (by decide) rfl
  refine k_endi (As := [.int (nI tn)]) ct (k_runS (As := [.int (nI tn)]) (rest := []) S0 Ls_X3_41 ct (c_digitsOf l D (nI tn) H.size) hl.1 rfl (Nat.le_of_ble_eq_true rfl) rfl dX3_failureOf_13 ⟨⟨Nat.le_of_ble_eq_true rfl, Nat.le_of_ble_eq_true rfl⟩, Nat.le_of_ble_eq_true rfl, Nat.le_of_ble_eq_true rfl⟩) rfl rfl (fun r_6 _ H locs hw_7 hP hD hK hS => ?_)
  have hK : va_K D vwCl [(K, .int)] s := hK
  have hP : va_P D vwCl [(rdA, .inl (K, 9, .inl rg)), (re, .inr (3, [.ref rd, .int nd, .ref rl, .int ldi, .int sot, .int tie, .int ff, .int ft])), (rd, .inr (4, [.ref rdA, .int (nI 0)])), (rlA, .inl (K, 41, .inl lf)), (tm, .inr (4, [.ref tmA, .int (nI tn)])), (tmA, .inl (K, 41, .inl tf)), (rl, .inr (4, [.ref rlA, .int (nI tn)]))] H := hP
  have hD : va_D A [(rdA, .inl (K, 9, .inl rg)), (re, .inr (3, [.ref rd, .int nd, .ref rl, .int ldi, .int sot, .int tie, .int ff, .int ft])), (rd, .inr (4, [.ref rdA, .int (nI 0)])), (rlA, .inl (K, 41, .inl lf)), (tm, .inr (4, [.ref tmA, .int (nI tn)])), (tmA, .inl (K, 41, .inl tf)), (rl, .inr (4, [.ref rlA, .int (nI tn)]))] := hD
  have hw_7 : r_6 = (digF (nI tn)) := hw_7
  have hw_7 := hw_7.symm
  subst hw_7
  refine k_nrm (y := (digF (nI tn))) rfl ?_
  refine k_nrm (y := nI (dgc tn)) (digF_nI tn htn) ?_
  refine lv_istore (lv' := [(4, .int (nI (dgc tn))), (0, .ref re), (1, .ref tm), (2, .int b), (3, .int to)]) hx hb dX3_failureOf_16 hl (by decide) rfl (fun ls hl => ?_)
  refine lv_iload hx hb dX3_failureOf_18 (lv_at hl 0 rfl) ?_
  refine lv_if_ne (tgt := 37) hx hb dX3_failureOf_20 (by decide) (fun c_8 => ?_) (fun c_8 => ?_)
  · have hc9 := c_8
    have hc1 : 1 ≤ (dgc tn) := by rcases Nat.lt_or_ge 0 (dgc tn) with q9 | q9; exact q9; exact absurd (show nI (dgc tn) = 0 by rw [Nat.le_zero.mp q9]; rfl) c_8
    refine lv_aload_n hx hb dX3_failureOf_37 rfl (lv_at hl 1 rfl) ?_
    have ct := k_cut_of (wc := [(re, .inr (3, [.ref rd, .int nd, .ref rl, .int ldi, .int sot, .int tie, .int ff, .int ft])), (rl, .inr (4, [.ref rlA, .int (nI tn)])), (rlA, .inl (K, 41, .inl lf))]) (wr := [(rdA, .inl (K, 9, .inl rg)), (rd, .inr (4, [.ref rdA, .int (nI 0)])), (tm, .inr (4, [.ref tmA, .int (nI tn)])), (tmA, .inl (K, 41, .inl tf))]) (tc := [(K, .int)]) hG hS hA hK hP hD [1, 6, 3] [0, 2, 4, 5] [0] rfl rfl (by decide) (by decide) (by decide) rfl
    refine k_endi (As := [.ref re]) ct (k_runV (As := []) (rest := []) S0 Lv_X3_49 rfl (ci := 3) (q0 := 0) rfl rfl ct (c_leftGuard l D re rd nd rl ldi sot tie ff ft rlA tn K lf (by first | assumption | omega) H.size) hl.1 rfl (Nat.le_of_ble_eq_true rfl) rfl dX3_failureOf_38 ⟨⟨Nat.le_of_ble_eq_true rfl, Nat.le_of_ble_eq_true rfl⟩, Nat.le_of_ble_eq_true rfl, Nat.le_of_ble_eq_true rfl⟩) rfl rfl (fun r_9 _ H locs hw_10 hP hD hK hS => ?_)
    have hK : va_K D vwCl [(K, .int)] s := hK
    have hP : va_P D vwCl [(rdA, .inl (K, 9, .inl rg)), (rd, .inr (4, [.ref rdA, .int (nI 0)])), (tm, .inr (4, [.ref tmA, .int (nI tn)])), (tmA, .inl (K, 41, .inl tf)), (re, .inr (3, [.ref rd, .int nd, .ref rl, .int ldi, .int sot, .int tie, .int ff, .int ft])), (rl, .inr (4, [.ref rlA, .int (nI tn)])), (rlA, .inl (K, 41, .inl lf))] H := hP
    have hD : va_D A [(rdA, .inl (K, 9, .inl rg)), (rd, .inr (4, [.ref rdA, .int (nI 0)])), (tm, .inr (4, [.ref tmA, .int (nI tn)])), (tmA, .inl (K, 41, .inl tf)), (re, .inr (3, [.ref rd, .int nd, .ref rl, .int ldi, .int sot, .int tie, .int ff, .int ft])), (rl, .inr (4, [.ref rlA, .int (nI tn)])), (rlA, .inl (K, 41, .inl lf))] := hD
    have hw_10 : r_9 = (lgF (rowAt 41 (nI tn) lf 0) (rowAt 41 (nI tn) lf 1) (rowAt 41 (nI tn) lf 2)) := hw_10
    have hw_10 := hw_10.symm
    subst hw_10
    refine k_nrm (y := (lgF (rowAt 41 (nI tn) lf 0) (rowAt 41 (nI tn) lf 1) (rowAt 41 (nI tn) lf 2))) rfl ?_
    refine k_nrm (y := lgG tn (lnF tn tf b)) (by unfold lgG; rw [hR, hR, hR]) ?_
    refine lv_if_ne (tgt := 52) hx hb dX3_failureOf_41 (by decide) (fun c_11 => ?_) (fun c_11 => ?_)
    · have hc9 := c_11
      refine lv_iconst (v := 0) hx hb dX3_failureOf_52 (by decide) ?_
      refine lv_istore (lv' := [(5, .int 0), (4, .int (nI (dgc tn))), (0, .ref re), (1, .ref tm), (2, .int b), (3, .int to)]) hx hb dX3_failureOf_53 hl (by decide) rfl (fun ls hl => ?_)
      have hf_12 : (rg : Nat → Int32) = (cpy (nrD tn (lnF tn tf b)) rg 0) := (cpy_0 _ rg).symm
      have hP : va_P D vwCl [(rdA, .inl (K, 9, .inl (cpy (nrD tn (lnF tn tf b)) rg 0))), (rd, .inr (4, [.ref rdA, .int (nI 0)])), (tm, .inr (4, [.ref tmA, .int (nI tn)])), (tmA, .inl (K, 41, .inl tf)), (re, .inr (3, [.ref rd, .int nd, .ref rl, .int ldi, .int sot, .int tie, .int ff, .int ft])), (rl, .inr (4, [.ref rlA, .int (nI tn)])), (rlA, .inl (K, 41, .inl lf))] H := (congrArg (fun z9 : Nat → Int32 => va_P D vwCl [(rdA, .inl (K, 9, .inl z9)), (rd, .inr (4, [.ref rdA, .int (nI 0)])), (tm, .inr (4, [.ref tmA, .int (nI tn)])), (tmA, .inl (K, 41, .inl tf)), (re, .inr (3, [.ref rd, .int nd, .ref rl, .int ldi, .int sot, .int tie, .int ff, .int ft])), (rl, .inr (4, [.ref rlA, .int (nI tn)])), (rlA, .inl (K, 41, .inl lf))] H) hf_12).mp hP
      have hD : va_D A [(rdA, .inl (K, 9, .inl (cpy (nrD tn (lnF tn tf b)) rg 0))), (rd, .inr (4, [.ref rdA, .int (nI 0)])), (tm, .inr (4, [.ref tmA, .int (nI tn)])), (tmA, .inl (K, 41, .inl tf)), (re, .inr (3, [.ref rd, .int nd, .ref rl, .int ldi, .int sot, .int tie, .int ff, .int ft])), (rl, .inr (4, [.ref rlA, .int (nI tn)])), (rlA, .inl (K, 41, .inl lf))] := (congrArg (fun z9 : Nat → Int32 => va_D A [(rdA, .inl (K, 9, .inl z9)), (rd, .inr (4, [.ref rdA, .int (nI 0)])), (tm, .inr (4, [.ref tmA, .int (nI tn)])), (tmA, .inl (K, 41, .inl tf)), (re, .inr (3, [.ref rd, .int nd, .ref rl, .int ldi, .int sot, .int tie, .int ff, .int ft])), (rl, .inr (4, [.ref rlA, .int (nI tn)])), (rlA, .inl (K, 41, .inl lf))]) hf_12).mp hD
      have hl : lv_has ls 7 [(5, .int (nI 0)), (4, .int (nI (dgc tn))), (0, .ref re), (1, .ref tm), (2, .int b), (3, .int to)] := hl
      refine k_loop (ι := Nat × Int32 × Int32 × Int32 × Int32) (fun (x9 : Nat × Int32 × Int32 × Int32 × Int32) H9 locs9 ls9 => match x9 with | (i, v1, v2, v3, v4) => (i ≤ (dgc tn)) ∧ (∀ m9, m9 < i → okD tn (lnF tn tf b) to m9) ∧ va_P D vwCl [(re, .inr (3, [.ref rd, .int v1, .ref rl, .int v2, .int v3, .int v4, .int ff, .int ft])), (rd, .inr (4, [.ref rdA, .int (nI i)])), (rdA, .inl (K, 9, .inl (cpy (nrD tn (lnF tn tf b)) rg i))), (rl, .inr (4, [.ref rlA, .int (nI tn)])), (rlA, .inl (K, 41, .inl lf)), (tm, .inr (4, [.ref tmA, .int (nI tn)])), (tmA, .inl (K, 41, .inl tf))] H9 ∧ va_D A [(re, .inr (3, [.ref rd, .int v1, .ref rl, .int v2, .int v3, .int v4, .int ff, .int ft])), (rd, .inr (4, [.ref rdA, .int (nI i)])), (rdA, .inl (K, 9, .inl (cpy (nrD tn (lnF tn tf b)) rg i))), (rl, .inr (4, [.ref rlA, .int (nI tn)])), (rlA, .inl (K, 41, .inl lf)), (tm, .inr (4, [.ref tmA, .int (nI tn)])), (tmA, .inl (K, 41, .inl tf))] ∧ va_S A s.heap H9 locs9 ∧ lv_has ls9 7 [(5, .int (nI i)), (4, .int (nI (dgc tn))), (0, .ref re), (1, .ref tm), (2, .int b), (3, .int to)]) (fun (x9 : Nat × Int32 × Int32 × Int32 × Int32) => match x9 with | (i, v1, v2, v3, v4) => (dgc tn) - i) ?_ ((0, nd, ldi, sot, tie)) ⟨(Nat.zero_le _), (fun m9 h9 => absurd h9 (Nat.not_lt_zero m9)), hP.sub [4, 1, 0, 5, 6, 2, 3] rfl, hD.sub [4, 1, 0, 5, 6, 2, 3] (by decide) rfl, hS, lv_sub hl [0, 1, 2, 3, 4, 5] rfl⟩
      intro x9 H locs ls hF9 ih9
      obtain ⟨i, v1, v2, v3, v4⟩ := x9
      obtain ⟨hi, hall, hP, hD, hS, hl⟩ := hF9
      try dsimp only at ih9
      have hP : va_P D vwCl [(re, .inr (3, [.ref rd, .int v1, .ref rl, .int v2, .int v3, .int v4, .int ff, .int ft])), (rd, .inr (4, [.ref rdA, .int (nI i)])), (rdA, .inl (K, 9, .inl (cpy (nrD tn (lnF tn tf b)) rg i))), (rl, .inr (4, [.ref rlA, .int (nI tn)])), (rlA, .inl (K, 41, .inl lf)), (tm, .inr (4, [.ref tmA, .int (nI tn)])), (tmA, .inl (K, 41, .inl tf))] H := hP
      have hD : va_D A [(re, .inr (3, [.ref rd, .int v1, .ref rl, .int v2, .int v3, .int v4, .int ff, .int ft])), (rd, .inr (4, [.ref rdA, .int (nI i)])), (rdA, .inl (K, 9, .inl (cpy (nrD tn (lnF tn tf b)) rg i))), (rl, .inr (4, [.ref rlA, .int (nI tn)])), (rlA, .inl (K, 41, .inl lf)), (tm, .inr (4, [.ref tmA, .int (nI tn)])), (tmA, .inl (K, 41, .inl tf))] := hD
      have hl : lv_has ls 7 [(5, .int (nI i)), (4, .int (nI (dgc tn))), (0, .ref re), (1, .ref tm), (2, .int b), (3, .int to)] := hl
      refine lv_iload hx hb dX3_failureOf_55 (lv_at hl 0 rfl) ?_
      refine lv_iload hx hb dX3_failureOf_57 (lv_at hl 1 rfl) ?_
      refine lv_icmp_ge (tgt := 131) hx hb dX3_failureOf_59 (by decide) (fun c_13 => ?_) (fun c_13 => ?_)
      · have hc9 := c_13
        obtain rfl : (dgc tn) = i := by rcases Nat.lt_or_ge i (dgc tn) with q9 | q9; exact absurd c_13 (nI_ge q9 (by omega)); omega
        refine lv_aload_n hx hb dX3_failureOf_131 rfl (lv_at hl 2 rfl) ?_
        have ct := k_cut_of (wc := [(re, .inr (3, [.ref rd, .int v1, .ref rl, .int v2, .int v3, .int v4, .int ff, .int ft])), (rl, .inr (4, [.ref rlA, .int (nI tn)])), (rlA, .inl (K, 41, .inl lf))]) (wr := [(rd, .inr (4, [.ref rdA, .int (nI (dgc tn))])), (rdA, .inl (K, 9, .inl (cpy (nrD tn (lnF tn tf b)) rg (dgc tn)))), (tm, .inr (4, [.ref tmA, .int (nI tn)])), (tmA, .inl (K, 41, .inl tf))]) (tc := [(K, .int)]) hG hS hA hK hP hD [0, 3, 4] [1, 2, 5, 6] [0] rfl rfl (by decide) (by decide) (by decide) rfl
        refine k_endi (As := [.ref re]) ct (k_runV (As := []) (rest := []) S0 Lv_X3_74 rfl (ci := 3) (q0 := 0) rfl rfl ct (c_rightGuard l D re rd v1 rl v2 v3 v4 ff ft rlA tn K lf (by first | assumption | omega) H.size) hl.1 rfl (Nat.le_of_ble_eq_true rfl) rfl dX3_failureOf_132 ⟨⟨Nat.le_of_ble_eq_true rfl, Nat.le_of_ble_eq_true rfl⟩, Nat.le_of_ble_eq_true rfl, Nat.le_of_ble_eq_true rfl⟩) rfl rfl (fun r_14 _ H locs hw_15 hP hD hK hS => ?_)
        have hK : va_K D vwCl [(K, .int)] s := hK
        have hP : va_P D vwCl [(rd, .inr (4, [.ref rdA, .int (nI (dgc tn))])), (rdA, .inl (K, 9, .inl (cpy (nrD tn (lnF tn tf b)) rg (dgc tn)))), (tm, .inr (4, [.ref tmA, .int (nI tn)])), (tmA, .inl (K, 41, .inl tf)), (re, .inr (3, [.ref rd, .int v1, .ref rl, .int v2, .int v3, .int v4, .int ff, .int ft])), (rl, .inr (4, [.ref rlA, .int (nI tn)])), (rlA, .inl (K, 41, .inl lf))] H := hP
        have hD : va_D A [(rd, .inr (4, [.ref rdA, .int (nI (dgc tn))])), (rdA, .inl (K, 9, .inl (cpy (nrD tn (lnF tn tf b)) rg (dgc tn)))), (tm, .inr (4, [.ref tmA, .int (nI tn)])), (tmA, .inl (K, 41, .inl tf)), (re, .inr (3, [.ref rd, .int v1, .ref rl, .int v2, .int v3, .int v4, .int ff, .int ft])), (rl, .inr (4, [.ref rlA, .int (nI tn)])), (rlA, .inl (K, 41, .inl lf))] := hD
        have hw_15 : r_14 = (rgF (rowAt 41 (nI tn) lf (nI tn - 2)) (rowAt 41 (nI tn) lf (nI tn - 1))) := hw_15
        have hw_15 := hw_15.symm
        subst hw_15
        refine k_nrm (y := (rgF (rowAt 41 (nI tn) lf (nI tn - 2)) (rowAt 41 (nI tn) lf (nI tn - 1)))) rfl ?_
        refine k_nrm (y := rgG tn (lnF tn tf b)) (by unfold rgG; rw [hR, hR]) ?_
        refine lv_if_ne (tgt := 160) hx hb dX3_failureOf_135 (by decide) (fun c_16 => ?_) (fun c_16 => ?_)
        · have hc9 := c_16
          refine lv_aload_n hx hb dX3_failureOf_160 rfl (lv_at hl 2 rfl) ?_
          refine va_get (D := D) (ci := 3) (v := .ref rd) (C := RX3) (T := TX3) (N := 8) hx hb ht inA_X3 hown hK hP 4 rfl rfl 0 (by decide) (ht _ lf_X3_14) (fun _ h9 => h9) rfl dX3_failureOf_161 ?_
          refine lv_iload hx hb dX3_failureOf_164 (lv_at hl 1 rfl) ?_
          refine lv_iconst (v := 1) hx hb dX3_failureOf_166 (by decide) ?_
          refine lv_isub hx hb dX3_failureOf_167 ?_
          refine k_nrm (y := (nI ((dgc tn) - 1))) (pk_sub hc1) ?_
          have ct := k_cut_of (wc := [(rd, .inr (4, [.ref rdA, .int (nI (dgc tn))])), (rdA, .inl (K, 9, .inl (cpy (nrD tn (lnF tn tf b)) rg (dgc tn))))]) (wr := [(tm, .inr (4, [.ref tmA, .int (nI tn)])), (tmA, .inl (K, 41, .inl tf)), (re, .inr (3, [.ref rd, .int v1, .ref rl, .int v2, .int v3, .int v4, .int ff, .int ft])), (rl, .inr (4, [.ref rlA, .int (nI tn)])), (rlA, .inl (K, 41, .inl lf))]) (tc := [(K, .int)]) hG hS hA hK hP hD [0, 1] [2, 3, 4, 5, 6] [0] rfl rfl (by decide) (by decide) (by decide) rfl
          refine k_endi (As := [.ref rd, .int (nI ((dgc tn) - 1))]) ct (k_runV (As := [.int (nI ((dgc tn) - 1))]) (rest := []) S0 Lv_X3_77 rfl (ci := 4) (q0 := 0) rfl rfl ct (c_Row_at l D rd rdA (nI (dgc tn)) K 9 (cpy (nrD tn (lnF tn tf b)) rg (dgc tn)) (nI ((dgc tn) - 1)) (by first | assumption | decide) H.size) hl.1 rfl (Nat.le_of_ble_eq_true rfl) rfl dX3_failureOf_168 ⟨⟨Nat.le_of_ble_eq_true rfl, Nat.le_of_ble_eq_true rfl⟩, Nat.le_of_ble_eq_true rfl, Nat.le_of_ble_eq_true rfl⟩) rfl rfl (fun r_17 _ H locs hw_18 hP hD hK hS => ?_)
          have hK : va_K D vwCl [(K, .int)] s := hK
          have hP : va_P D vwCl [(tm, .inr (4, [.ref tmA, .int (nI tn)])), (tmA, .inl (K, 41, .inl tf)), (re, .inr (3, [.ref rd, .int v1, .ref rl, .int v2, .int v3, .int v4, .int ff, .int ft])), (rl, .inr (4, [.ref rlA, .int (nI tn)])), (rlA, .inl (K, 41, .inl lf)), (rd, .inr (4, [.ref rdA, .int (nI (dgc tn))])), (rdA, .inl (K, 9, .inl (cpy (nrD tn (lnF tn tf b)) rg (dgc tn))))] H := hP
          have hD : va_D A [(tm, .inr (4, [.ref tmA, .int (nI tn)])), (tmA, .inl (K, 41, .inl tf)), (re, .inr (3, [.ref rd, .int v1, .ref rl, .int v2, .int v3, .int v4, .int ff, .int ft])), (rl, .inr (4, [.ref rlA, .int (nI tn)])), (rlA, .inl (K, 41, .inl lf)), (rd, .inr (4, [.ref rdA, .int (nI (dgc tn))])), (rdA, .inl (K, 9, .inl (cpy (nrD tn (lnF tn tf b)) rg (dgc tn))))] := hD
          have hw_18 : r_17 = (rowAt 9 (nI (dgc tn)) (cpy (nrD tn (lnF tn tf b)) rg (dgc tn)) (nI ((dgc tn) - 1))) := hw_18
          have hw_18 := hw_18.symm
          subst hw_18
          refine k_nrm (y := (rowAt 9 (nI (dgc tn)) (cpy (nrD tn (lnF tn tf b)) rg (dgc tn)) (nI ((dgc tn) - 1)))) rfl ?_
          refine k_nrm (y := nrD tn (lnF tn tf b) ((dgc tn) - 1)) (by rw [rowAt_lt (by omega) (by omega) (by decide), cpy_lt (by omega)]) ?_
          refine lv_aload_n hx hb dX3_failureOf_171 rfl (lv_at hl 2 rfl) ?_
          refine va_get (D := D) (ci := 3) (v := .ref rd) (C := RX3) (T := TX3) (N := 8) hx hb ht inA_X3 hown hK hP 2 rfl rfl 0 (by decide) (ht _ lf_X3_14) (fun _ h9 => h9) rfl dX3_failureOf_172 ?_
          refine lv_iload hx hb dX3_failureOf_175 (lv_at hl 1 rfl) ?_
          refine lv_iconst (v := 1) hx hb dX3_failureOf_177 (by decide) ?_
          refine lv_isub hx hb dX3_failureOf_178 ?_
          refine k_nrm (y := (nI ((dgc tn) - 1))) (pk_sub hc1) ?_
          have ct := k_cut_of (wc := [(rd, .inr (4, [.ref rdA, .int (nI (dgc tn))])), (rdA, .inl (K, 9, .inl (cpy (nrD tn (lnF tn tf b)) rg (dgc tn))))]) (wr := [(tm, .inr (4, [.ref tmA, .int (nI tn)])), (tmA, .inl (K, 41, .inl tf)), (re, .inr (3, [.ref rd, .int v1, .ref rl, .int v2, .int v3, .int v4, .int ff, .int ft])), (rl, .inr (4, [.ref rlA, .int (nI tn)])), (rlA, .inl (K, 41, .inl lf))]) (tc := [(K, .int)]) hG hS hA hK hP hD [5, 6] [0, 1, 2, 3, 4] [0] rfl rfl (by decide) (by decide) (by decide) rfl
          refine k_endi (As := [.ref rd, .int (nI ((dgc tn) - 1))]) ct (k_runSN (As := [.ref rd, .int (nI ((dgc tn) - 1))]) (rest := [.int (nrD tn (lnF tn tf b) ((dgc tn) - 1))]) S0 Ls_X3_80 ct (c_check l D rd rdA (dgc tn) K 9 (cpy (nrD tn (lnF tn tf b)) rg (dgc tn)) (nI ((dgc tn) - 1)) ((dgc tn) - 1) (by first | assumption | decide) (by first | assumption | rfl) (by omega) (by omega) (by omega) H.size) hl.1 rfl (Nat.le_of_ble_eq_true rfl) rfl dX3_failureOf_179 ⟨⟨Nat.le_of_ble_eq_true rfl, Nat.le_of_ble_eq_true rfl⟩, Nat.le_of_ble_eq_true rfl, Nat.le_of_ble_eq_true rfl⟩) rfl rfl (fun r_19 _ H locs hw_20 hP hD hK hS => ?_)
          have hK : va_K D vwCl [(K, .int)] s := hK
          have hP : va_P D vwCl [(tm, .inr (4, [.ref tmA, .int (nI tn)])), (tmA, .inl (K, 41, .inl tf)), (re, .inr (3, [.ref rd, .int v1, .ref rl, .int v2, .int v3, .int v4, .int ff, .int ft])), (rl, .inr (4, [.ref rlA, .int (nI tn)])), (rlA, .inl (K, 41, .inl lf)), (rd, .inr (4, [.ref rdA, .int (nI (dgc tn))])), (rdA, .inl (K, 9, .inl (cpy (nrD tn (lnF tn tf b)) rg (dgc tn))))] H := hP
          have hD : va_D A [(tm, .inr (4, [.ref tmA, .int (nI tn)])), (tmA, .inl (K, 41, .inl tf)), (re, .inr (3, [.ref rd, .int v1, .ref rl, .int v2, .int v3, .int v4, .int ff, .int ft])), (rl, .inr (4, [.ref rlA, .int (nI tn)])), (rlA, .inl (K, 41, .inl lf)), (rd, .inr (4, [.ref rdA, .int (nI (dgc tn))])), (rdA, .inl (K, 9, .inl (cpy (nrD tn (lnF tn tf b)) rg (dgc tn))))] := hD
          have hw_20 : r_19 = (chkd (csum (cpy (nrD tn (lnF tn tf b)) rg (dgc tn)) ((dgc tn) - 1) ((dgc tn) - 1))) := hw_20
          have hw_20 := hw_20.symm
          subst hw_20
          refine k_nrm (y := (chkd (csum (cpy (nrD tn (lnF tn tf b)) rg (dgc tn)) ((dgc tn) - 1) ((dgc tn) - 1)))) rfl ?_
          refine k_nrm (y := (chkd (csum (nrD tn (lnF tn tf b)) ((dgc tn) - 1) ((dgc tn) - 1)))) (by rw [csum_congr (g := nrD tn (lnF tn tf b)) (fun m9 h9 => cpy_lt (by omega)) _ (Nat.le_refl _)]) ?_
          refine lv_icmp_ne (tgt := 189) hx hb dX3_failureOf_182 (by decide) (fun c_21 => ?_) (fun c_21 => ?_)
          · have hc9 := c_21
            refine lv_iconst (v := 0) hx hb dX3_failureOf_189 (by decide) ?_
            refine lv_istore (lv' := [(5, .int 0), (4, .int (nI (dgc tn))), (0, .ref re), (1, .ref tm), (2, .int b), (3, .int to)]) hx hb dX3_failureOf_190 hl (by decide) rfl (fun ls hl => ?_)
            refine lv_iload hx hb dX3_failureOf_192 (lv_at hl 0 rfl) ?_
            refine lv_if_eq (tgt := 201) hx hb dX3_failureOf_194 (by decide) (fun _ => ?_) (fun c9 => absurd (by decide) c9)
            refine lv_aload_n hx hb dX3_failureOf_201 rfl (lv_at hl 2 rfl) ?_
            refine lv_iconst (v := 5) hx hb dX3_failureOf_202 (by decide) ?_
            refine lv_iconst (v := 0) hx hb dX3_failureOf_203 (by decide) ?_
            refine lv_aload_n hx hb dX3_failureOf_204 rfl (lv_at hl 2 rfl) ?_
            refine va_get (D := D) (ci := 3) (v := .ref rl) (C := RX3) (T := TX3) (N := 8) hx hb ht inA_X3 hown hK hP 2 rfl rfl 2 (by decide) (ht _ lf_X3_20) (fun _ h9 => h9) rfl dX3_failureOf_205 ?_
            have ct := k_cut_of (wc := [(rl, .inr (4, [.ref rlA, .int (nI tn)]))]) (wr := [(tm, .inr (4, [.ref tmA, .int (nI tn)])), (tmA, .inl (K, 41, .inl tf)), (re, .inr (3, [.ref rd, .int v1, .ref rl, .int v2, .int v3, .int v4, .int ff, .int ft])), (rlA, .inl (K, 41, .inl lf)), (rd, .inr (4, [.ref rdA, .int (nI (dgc tn))])), (rdA, .inl (K, 9, .inl (cpy (nrD tn (lnF tn tf b)) rg (dgc tn))))]) (tc := []) hG hS hA hK hP hD [3] [0, 1, 2, 4, 5, 6] [] rfl rfl (by decide) (by decide) (by decide) rfl
            refine k_endi (As := [.ref rl]) ct (k_runV (As := []) (rest := [.int 0, .int 5, .ref re]) S0 Lv_X3_37 rfl (ci := 4) (q0 := 0) rfl rfl ct (c_Row_size l D rl rlA (nI tn) H.size) hl.1 rfl (Nat.le_of_ble_eq_true rfl) rfl dX3_failureOf_208 ⟨⟨Nat.le_of_ble_eq_true rfl, Nat.le_of_ble_eq_true rfl⟩, Nat.le_of_ble_eq_true rfl, Nat.le_of_ble_eq_true rfl⟩) rfl rfl (fun r_22 _ H locs hw_23 hP hD hK hS => ?_)
            have hK : va_K D vwCl [(K, .int)] s := hK
            have hP : va_P D vwCl [(tm, .inr (4, [.ref tmA, .int (nI tn)])), (tmA, .inl (K, 41, .inl tf)), (re, .inr (3, [.ref rd, .int v1, .ref rl, .int v2, .int v3, .int v4, .int ff, .int ft])), (rlA, .inl (K, 41, .inl lf)), (rd, .inr (4, [.ref rdA, .int (nI (dgc tn))])), (rdA, .inl (K, 9, .inl (cpy (nrD tn (lnF tn tf b)) rg (dgc tn)))), (rl, .inr (4, [.ref rlA, .int (nI tn)]))] H := hP
            have hD : va_D A [(tm, .inr (4, [.ref tmA, .int (nI tn)])), (tmA, .inl (K, 41, .inl tf)), (re, .inr (3, [.ref rd, .int v1, .ref rl, .int v2, .int v3, .int v4, .int ff, .int ft])), (rlA, .inl (K, 41, .inl lf)), (rd, .inr (4, [.ref rdA, .int (nI (dgc tn))])), (rdA, .inl (K, 9, .inl (cpy (nrD tn (lnF tn tf b)) rg (dgc tn)))), (rl, .inr (4, [.ref rlA, .int (nI tn)]))] := hD
            have hw_23 : r_22 = (nI tn) := hw_23
            have hw_23 := hw_23.symm
            subst hw_23
            refine k_nrm (y := (nI tn)) rfl ?_
            have ct := k_cut_of (wc := [(re, .inr (3, [.ref rd, .int v1, .ref rl, .int v2, .int v3, .int v4, .int ff, .int ft]))]) (wr := [(tm, .inr (4, [.ref tmA, .int (nI tn)])), (tmA, .inl (K, 41, .inl tf)), (rlA, .inl (K, 41, .inl lf)), (rd, .inr (4, [.ref rdA, .int (nI (dgc tn))])), (rdA, .inl (K, 9, .inl (cpy (nrD tn (lnF tn tf b)) rg (dgc tn)))), (rl, .inr (4, [.ref rlA, .int (nI tn)]))]) (tc := []) hG hS hA hK hP hD [2] [0, 1, 3, 4, 5, 6] [] rfl rfl (by decide) (by decide) (by decide) rfl
            refine k_endi (As := [.ref re, .int 5, .int 0, .int (nI tn)]) ct (k_runV (As := [.int 5, .int 0, .int (nI tn)]) (rest := []) S0 Lv_X3_45 rfl (ci := 3) (q0 := 0) rfl rfl ct (c_failAt l D re rd v1 rl v2 v3 v4 ff ft 5 0 (nI tn) H.size) hl.1 rfl (Nat.le_of_ble_eq_true rfl) rfl dX3_failureOf_211 ⟨⟨Nat.le_of_ble_eq_true rfl, Nat.le_of_ble_eq_true rfl⟩, Nat.le_of_ble_eq_true rfl, Nat.le_of_ble_eq_true rfl⟩) rfl rfl (fun r_24 _ H locs hw_25 hP hD hK hS => ?_)
            have hK : va_K D vwCl [(K, .int)] s := hK
            have hP : va_P D vwCl [(tm, .inr (4, [.ref tmA, .int (nI tn)])), (tmA, .inl (K, 41, .inl tf)), (rlA, .inl (K, 41, .inl lf)), (rd, .inr (4, [.ref rdA, .int (nI (dgc tn))])), (rdA, .inl (K, 9, .inl (cpy (nrD tn (lnF tn tf b)) rg (dgc tn)))), (rl, .inr (4, [.ref rlA, .int (nI tn)])), (re, .inr (3, [.ref rd, .int v1, .ref rl, .int v2, .int v3, .int v4, .int 0, .int (nI tn)]))] H := hP
            have hD : va_D A [(tm, .inr (4, [.ref tmA, .int (nI tn)])), (tmA, .inl (K, 41, .inl tf)), (rlA, .inl (K, 41, .inl lf)), (rd, .inr (4, [.ref rdA, .int (nI (dgc tn))])), (rdA, .inl (K, 9, .inl (cpy (nrD tn (lnF tn tf b)) rg (dgc tn)))), (rl, .inr (4, [.ref rlA, .int (nI tn)])), (re, .inr (3, [.ref rd, .int v1, .ref rl, .int v2, .int v3, .int v4, .int 0, .int (nI tn)]))] := hD
            have hw_25 : r_24 = 5 := hw_25
            have hw_25 := hw_25.symm
            subst hw_25
            refine k_nrm (y := 5) rfl ?_
            have hf_26 : (lf : Nat → Int32) = (cpy (lnF tn tf b) rlf tn) := hlf
            have hP : va_P D vwCl [(tm, .inr (4, [.ref tmA, .int (nI tn)])), (tmA, .inl (K, 41, .inl tf)), (rlA, .inl (K, 41, .inl (cpy (lnF tn tf b) rlf tn))), (rd, .inr (4, [.ref rdA, .int (nI (dgc tn))])), (rdA, .inl (K, 9, .inl (cpy (nrD tn (lnF tn tf b)) rg (dgc tn)))), (rl, .inr (4, [.ref rlA, .int (nI tn)])), (re, .inr (3, [.ref rd, .int v1, .ref rl, .int v2, .int v3, .int v4, .int 0, .int (nI tn)]))] H := (congrArg (fun z9 : Nat → Int32 => va_P D vwCl [(tm, .inr (4, [.ref tmA, .int (nI tn)])), (tmA, .inl (K, 41, .inl tf)), (rlA, .inl (K, 41, .inl z9)), (rd, .inr (4, [.ref rdA, .int (nI (dgc tn))])), (rdA, .inl (K, 9, .inl (cpy (nrD tn (lnF tn tf b)) rg (dgc tn)))), (rl, .inr (4, [.ref rlA, .int (nI tn)])), (re, .inr (3, [.ref rd, .int v1, .ref rl, .int v2, .int v3, .int v4, .int 0, .int (nI tn)]))] H) hf_26).mp hP
            have hD : va_D A [(tm, .inr (4, [.ref tmA, .int (nI tn)])), (tmA, .inl (K, 41, .inl tf)), (rlA, .inl (K, 41, .inl (cpy (lnF tn tf b) rlf tn))), (rd, .inr (4, [.ref rdA, .int (nI (dgc tn))])), (rdA, .inl (K, 9, .inl (cpy (nrD tn (lnF tn tf b)) rg (dgc tn)))), (rl, .inr (4, [.ref rlA, .int (nI tn)])), (re, .inr (3, [.ref rd, .int v1, .ref rl, .int v2, .int v3, .int v4, .int 0, .int (nI tn)]))] := (congrArg (fun z9 : Nat → Int32 => va_D A [(tm, .inr (4, [.ref tmA, .int (nI tn)])), (tmA, .inl (K, 41, .inl tf)), (rlA, .inl (K, 41, .inl z9)), (rd, .inr (4, [.ref rdA, .int (nI (dgc tn))])), (rdA, .inl (K, 9, .inl (cpy (nrD tn (lnF tn tf b)) rg (dgc tn)))), (rl, .inr (4, [.ref rlA, .int (nI tn)])), (re, .inr (3, [.ref rd, .int v1, .ref rl, .int v2, .int v3, .int v4, .int 0, .int (nI tn)]))]) hf_26).mp hD
            have hP9 : va_P D vwCl [(re, .inr (3, [.ref rd, .int v1, .ref rl, .int v2, .int v3, .int v4, .int 0, .int (nI tn)])), (rd, .inr (4, [.ref rdA, .int (nI (dgc tn))])), (rdA, .inl (K, 9, .inl (cpy (nrD tn (lnF tn tf b)) rg (dgc tn)))), (rl, .inr (4, [.ref rlA, .int (nI tn)])), (rlA, .inl (K, 41, .inl (cpy (lnF tn tf b) rlf tn))), (tm, .inr (4, [.ref tmA, .int (nI tn)])), (tmA, .inl (K, 41, .inl tf))] H := hP.sub [6, 3, 4, 5, 2, 0, 1] rfl
            have hD9 : va_D A [(re, .inr (3, [.ref rd, .int v1, .ref rl, .int v2, .int v3, .int v4, .int 0, .int (nI tn)])), (rd, .inr (4, [.ref rdA, .int (nI (dgc tn))])), (rdA, .inl (K, 9, .inl (cpy (nrD tn (lnF tn tf b)) rg (dgc tn)))), (rl, .inr (4, [.ref rlA, .int (nI tn)])), (rlA, .inl (K, 41, .inl (cpy (lnF tn tf b) rlf tn))), (tm, .inr (4, [.ref tmA, .int (nI tn)])), (tmA, .inl (K, 41, .inl tf))] := hD.sub [6, 3, 4, 5, 2, 0, 1] (by decide) rfl
            have hK9 : va_K D vwCl [] s := hK.sub [] rfl
            exact W.iret (v := 5) hx hb hr (fun t ht9 hW9 => ⟨⟨5, (v1, v2, v3, v4, 0, (nI tn), (dgc tn)), rfl, by (exact ⟨(failF_5 (fun q9 => c_8 (by rw [q9]; rfl)) c_11 hall c_16 c_21).symm, hcn, fun q9 => absurd q9 (by decide), fun _ => fcert_5 htn (by rw [failF_5 (fun q9 => c_8 (by rw [q9]; rfl)) c_11 hall c_16 c_21]; decide)⟩), ⟨by rw [ht9]; exact hP9, va_K.moved hW9.alike hK9, hD9⟩⟩, hS.F ht9⟩) hS.2.2 dX3_failureOf_214
          · have hc9 := c_21
            refine lv_iconst (v := 1) hx hb dX3_failureOf_185 (by decide) ?_
            refine lv_goto (tgt := 190) hx hb dX3_failureOf_186 (by decide) ?_
            refine lv_istore (lv' := [(5, .int 1), (4, .int (nI (dgc tn))), (0, .ref re), (1, .ref tm), (2, .int b), (3, .int to)]) hx hb dX3_failureOf_190 hl (by decide) rfl (fun ls hl => ?_)
            refine lv_iload hx hb dX3_failureOf_192 (lv_at hl 0 rfl) ?_
            refine lv_if_eq (tgt := 201) hx hb dX3_failureOf_194 (by decide) (fun c9 => absurd c9 (by decide)) (fun _ => ?_)
            refine lv_iconst (v := 0) hx hb dX3_failureOf_197 (by decide) ?_
            refine lv_goto (tgt := 214) hx hb dX3_failureOf_198 (by decide) ?_
            have hf_27 : (lf : Nat → Int32) = (cpy (lnF tn tf b) rlf tn) := hlf
            have hP : va_P D vwCl [(tm, .inr (4, [.ref tmA, .int (nI tn)])), (tmA, .inl (K, 41, .inl tf)), (re, .inr (3, [.ref rd, .int v1, .ref rl, .int v2, .int v3, .int v4, .int ff, .int ft])), (rl, .inr (4, [.ref rlA, .int (nI tn)])), (rlA, .inl (K, 41, .inl (cpy (lnF tn tf b) rlf tn))), (rd, .inr (4, [.ref rdA, .int (nI (dgc tn))])), (rdA, .inl (K, 9, .inl (cpy (nrD tn (lnF tn tf b)) rg (dgc tn))))] H := (congrArg (fun z9 : Nat → Int32 => va_P D vwCl [(tm, .inr (4, [.ref tmA, .int (nI tn)])), (tmA, .inl (K, 41, .inl tf)), (re, .inr (3, [.ref rd, .int v1, .ref rl, .int v2, .int v3, .int v4, .int ff, .int ft])), (rl, .inr (4, [.ref rlA, .int (nI tn)])), (rlA, .inl (K, 41, .inl z9)), (rd, .inr (4, [.ref rdA, .int (nI (dgc tn))])), (rdA, .inl (K, 9, .inl (cpy (nrD tn (lnF tn tf b)) rg (dgc tn))))] H) hf_27).mp hP
            have hD : va_D A [(tm, .inr (4, [.ref tmA, .int (nI tn)])), (tmA, .inl (K, 41, .inl tf)), (re, .inr (3, [.ref rd, .int v1, .ref rl, .int v2, .int v3, .int v4, .int ff, .int ft])), (rl, .inr (4, [.ref rlA, .int (nI tn)])), (rlA, .inl (K, 41, .inl (cpy (lnF tn tf b) rlf tn))), (rd, .inr (4, [.ref rdA, .int (nI (dgc tn))])), (rdA, .inl (K, 9, .inl (cpy (nrD tn (lnF tn tf b)) rg (dgc tn))))] := (congrArg (fun z9 : Nat → Int32 => va_D A [(tm, .inr (4, [.ref tmA, .int (nI tn)])), (tmA, .inl (K, 41, .inl tf)), (re, .inr (3, [.ref rd, .int v1, .ref rl, .int v2, .int v3, .int v4, .int ff, .int ft])), (rl, .inr (4, [.ref rlA, .int (nI tn)])), (rlA, .inl (K, 41, .inl z9)), (rd, .inr (4, [.ref rdA, .int (nI (dgc tn))])), (rdA, .inl (K, 9, .inl (cpy (nrD tn (lnF tn tf b)) rg (dgc tn))))]) hf_27).mp hD
            have hP9 : va_P D vwCl [(re, .inr (3, [.ref rd, .int v1, .ref rl, .int v2, .int v3, .int v4, .int ff, .int ft])), (rd, .inr (4, [.ref rdA, .int (nI (dgc tn))])), (rdA, .inl (K, 9, .inl (cpy (nrD tn (lnF tn tf b)) rg (dgc tn)))), (rl, .inr (4, [.ref rlA, .int (nI tn)])), (rlA, .inl (K, 41, .inl (cpy (lnF tn tf b) rlf tn))), (tm, .inr (4, [.ref tmA, .int (nI tn)])), (tmA, .inl (K, 41, .inl tf))] H := hP.sub [2, 5, 6, 3, 4, 0, 1] rfl
            have hD9 : va_D A [(re, .inr (3, [.ref rd, .int v1, .ref rl, .int v2, .int v3, .int v4, .int ff, .int ft])), (rd, .inr (4, [.ref rdA, .int (nI (dgc tn))])), (rdA, .inl (K, 9, .inl (cpy (nrD tn (lnF tn tf b)) rg (dgc tn)))), (rl, .inr (4, [.ref rlA, .int (nI tn)])), (rlA, .inl (K, 41, .inl (cpy (lnF tn tf b) rlf tn))), (tm, .inr (4, [.ref tmA, .int (nI tn)])), (tmA, .inl (K, 41, .inl tf))] := hD.sub [2, 5, 6, 3, 4, 0, 1] (by decide) rfl
            have hK9 : va_K D vwCl [] s := hK.sub [] rfl
            exact W.iret (v := 0) hx hb hr (fun t ht9 hW9 => ⟨⟨0, (v1, v2, v3, v4, ff, ft, (dgc tn)), rfl, by (exact ⟨(failF_0 (fun q9 => c_8 (by rw [q9]; rfl)) c_11 hall c_16 c_21).symm, hcn, fun _ => rfl, fun q9 => absurd rfl q9⟩), ⟨by rw [ht9]; exact hP9, va_K.moved hW9.alike hK9, hD9⟩⟩, hS.F ht9⟩) hS.2.2 dX3_failureOf_214
        · have hc9 := c_16
          refine lv_aload_n hx hb dX3_failureOf_138 rfl (lv_at hl 2 rfl) ?_
          refine lv_iconst (v := 4) hx hb dX3_failureOf_139 (by decide) ?_
          refine lv_aload_n hx hb dX3_failureOf_140 rfl (lv_at hl 2 rfl) ?_
          refine va_get (D := D) (ci := 3) (v := .ref rl) (C := RX3) (T := TX3) (N := 8) hx hb ht inA_X3 hown hK hP 4 rfl rfl 2 (by decide) (ht _ lf_X3_20) (fun _ h9 => h9) rfl dX3_failureOf_141 ?_
          have ct := k_cut_of (wc := [(rl, .inr (4, [.ref rlA, .int (nI tn)]))]) (wr := [(rd, .inr (4, [.ref rdA, .int (nI (dgc tn))])), (rdA, .inl (K, 9, .inl (cpy (nrD tn (lnF tn tf b)) rg (dgc tn)))), (tm, .inr (4, [.ref tmA, .int (nI tn)])), (tmA, .inl (K, 41, .inl tf)), (re, .inr (3, [.ref rd, .int v1, .ref rl, .int v2, .int v3, .int v4, .int ff, .int ft])), (rlA, .inl (K, 41, .inl lf))]) (tc := []) hG hS hA hK hP hD [5] [0, 1, 2, 3, 4, 6] [] rfl rfl (by decide) (by decide) (by decide) rfl
          refine k_endi (As := [.ref rl]) ct (k_runV (As := []) (rest := [.int 4, .ref re]) S0 Lv_X3_37 rfl (ci := 4) (q0 := 0) rfl rfl ct (c_Row_size l D rl rlA (nI tn) H.size) hl.1 rfl (Nat.le_of_ble_eq_true rfl) rfl dX3_failureOf_144 ⟨⟨Nat.le_of_ble_eq_true rfl, Nat.le_of_ble_eq_true rfl⟩, Nat.le_of_ble_eq_true rfl, Nat.le_of_ble_eq_true rfl⟩) rfl rfl (fun r_28 _ H locs hw_29 hP hD hK hS => ?_)
          have hK : va_K D vwCl [(K, .int)] s := hK
          have hP : va_P D vwCl [(rd, .inr (4, [.ref rdA, .int (nI (dgc tn))])), (rdA, .inl (K, 9, .inl (cpy (nrD tn (lnF tn tf b)) rg (dgc tn)))), (tm, .inr (4, [.ref tmA, .int (nI tn)])), (tmA, .inl (K, 41, .inl tf)), (re, .inr (3, [.ref rd, .int v1, .ref rl, .int v2, .int v3, .int v4, .int ff, .int ft])), (rlA, .inl (K, 41, .inl lf)), (rl, .inr (4, [.ref rlA, .int (nI tn)]))] H := hP
          have hD : va_D A [(rd, .inr (4, [.ref rdA, .int (nI (dgc tn))])), (rdA, .inl (K, 9, .inl (cpy (nrD tn (lnF tn tf b)) rg (dgc tn)))), (tm, .inr (4, [.ref tmA, .int (nI tn)])), (tmA, .inl (K, 41, .inl tf)), (re, .inr (3, [.ref rd, .int v1, .ref rl, .int v2, .int v3, .int v4, .int ff, .int ft])), (rlA, .inl (K, 41, .inl lf)), (rl, .inr (4, [.ref rlA, .int (nI tn)]))] := hD
          have hw_29 : r_28 = (nI tn) := hw_29
          have hw_29 := hw_29.symm
          subst hw_29
          refine k_nrm (y := (nI tn)) rfl ?_
          refine lv_iconst (v := 2) hx hb dX3_failureOf_147 (by decide) ?_
          refine lv_isub hx hb dX3_failureOf_148 ?_
          refine k_nrm (y := (nI tn - 2)) (rfl) ?_
          refine lv_aload_n hx hb dX3_failureOf_149 rfl (lv_at hl 2 rfl) ?_
          refine va_get (D := D) (ci := 3) (v := .ref rl) (C := RX3) (T := TX3) (N := 8) hx hb ht inA_X3 hown hK hP 4 rfl rfl 2 (by decide) (ht _ lf_X3_20) (fun _ h9 => h9) rfl dX3_failureOf_150 ?_
          have ct := k_cut_of (wc := [(rl, .inr (4, [.ref rlA, .int (nI tn)]))]) (wr := [(rd, .inr (4, [.ref rdA, .int (nI (dgc tn))])), (rdA, .inl (K, 9, .inl (cpy (nrD tn (lnF tn tf b)) rg (dgc tn)))), (tm, .inr (4, [.ref tmA, .int (nI tn)])), (tmA, .inl (K, 41, .inl tf)), (re, .inr (3, [.ref rd, .int v1, .ref rl, .int v2, .int v3, .int v4, .int ff, .int ft])), (rlA, .inl (K, 41, .inl lf))]) (tc := []) hG hS hA hK hP hD [6] [0, 1, 2, 3, 4, 5] [] rfl rfl (by decide) (by decide) (by decide) rfl
          refine k_endi (As := [.ref rl]) ct (k_runV (As := []) (rest := [.int (nI tn - 2), .int 4, .ref re]) S0 Lv_X3_37 rfl (ci := 4) (q0 := 0) rfl rfl ct (c_Row_size l D rl rlA (nI tn) H.size) hl.1 rfl (Nat.le_of_ble_eq_true rfl) rfl dX3_failureOf_153 ⟨⟨Nat.le_of_ble_eq_true rfl, Nat.le_of_ble_eq_true rfl⟩, Nat.le_of_ble_eq_true rfl, Nat.le_of_ble_eq_true rfl⟩) rfl rfl (fun r_30 _ H locs hw_31 hP hD hK hS => ?_)
          have hK : va_K D vwCl [(K, .int)] s := hK
          have hP : va_P D vwCl [(rd, .inr (4, [.ref rdA, .int (nI (dgc tn))])), (rdA, .inl (K, 9, .inl (cpy (nrD tn (lnF tn tf b)) rg (dgc tn)))), (tm, .inr (4, [.ref tmA, .int (nI tn)])), (tmA, .inl (K, 41, .inl tf)), (re, .inr (3, [.ref rd, .int v1, .ref rl, .int v2, .int v3, .int v4, .int ff, .int ft])), (rlA, .inl (K, 41, .inl lf)), (rl, .inr (4, [.ref rlA, .int (nI tn)]))] H := hP
          have hD : va_D A [(rd, .inr (4, [.ref rdA, .int (nI (dgc tn))])), (rdA, .inl (K, 9, .inl (cpy (nrD tn (lnF tn tf b)) rg (dgc tn)))), (tm, .inr (4, [.ref tmA, .int (nI tn)])), (tmA, .inl (K, 41, .inl tf)), (re, .inr (3, [.ref rd, .int v1, .ref rl, .int v2, .int v3, .int v4, .int ff, .int ft])), (rlA, .inl (K, 41, .inl lf)), (rl, .inr (4, [.ref rlA, .int (nI tn)]))] := hD
          have hw_31 : r_30 = (nI tn) := hw_31
          have hw_31 := hw_31.symm
          subst hw_31
          refine k_nrm (y := (nI tn)) rfl ?_
          have ct := k_cut_of (wc := [(re, .inr (3, [.ref rd, .int v1, .ref rl, .int v2, .int v3, .int v4, .int ff, .int ft]))]) (wr := [(rd, .inr (4, [.ref rdA, .int (nI (dgc tn))])), (rdA, .inl (K, 9, .inl (cpy (nrD tn (lnF tn tf b)) rg (dgc tn)))), (tm, .inr (4, [.ref tmA, .int (nI tn)])), (tmA, .inl (K, 41, .inl tf)), (rlA, .inl (K, 41, .inl lf)), (rl, .inr (4, [.ref rlA, .int (nI tn)]))]) (tc := []) hG hS hA hK hP hD [4] [0, 1, 2, 3, 5, 6] [] rfl rfl (by decide) (by decide) (by decide) rfl
          refine k_endi (As := [.ref re, .int 4, .int (nI tn - 2), .int (nI tn)]) ct (k_runV (As := [.int 4, .int (nI tn - 2), .int (nI tn)]) (rest := []) S0 Lv_X3_45 rfl (ci := 3) (q0 := 0) rfl rfl ct (c_failAt l D re rd v1 rl v2 v3 v4 ff ft 4 (nI tn - 2) (nI tn) H.size) hl.1 rfl (Nat.le_of_ble_eq_true rfl) rfl dX3_failureOf_156 ⟨⟨Nat.le_of_ble_eq_true rfl, Nat.le_of_ble_eq_true rfl⟩, Nat.le_of_ble_eq_true rfl, Nat.le_of_ble_eq_true rfl⟩) rfl rfl (fun r_32 _ H locs hw_33 hP hD hK hS => ?_)
          have hK : va_K D vwCl [(K, .int)] s := hK
          have hP : va_P D vwCl [(rd, .inr (4, [.ref rdA, .int (nI (dgc tn))])), (rdA, .inl (K, 9, .inl (cpy (nrD tn (lnF tn tf b)) rg (dgc tn)))), (tm, .inr (4, [.ref tmA, .int (nI tn)])), (tmA, .inl (K, 41, .inl tf)), (rlA, .inl (K, 41, .inl lf)), (rl, .inr (4, [.ref rlA, .int (nI tn)])), (re, .inr (3, [.ref rd, .int v1, .ref rl, .int v2, .int v3, .int v4, .int (nI tn - 2), .int (nI tn)]))] H := hP
          have hD : va_D A [(rd, .inr (4, [.ref rdA, .int (nI (dgc tn))])), (rdA, .inl (K, 9, .inl (cpy (nrD tn (lnF tn tf b)) rg (dgc tn)))), (tm, .inr (4, [.ref tmA, .int (nI tn)])), (tmA, .inl (K, 41, .inl tf)), (rlA, .inl (K, 41, .inl lf)), (rl, .inr (4, [.ref rlA, .int (nI tn)])), (re, .inr (3, [.ref rd, .int v1, .ref rl, .int v2, .int v3, .int v4, .int (nI tn - 2), .int (nI tn)]))] := hD
          have hw_33 : r_32 = 4 := hw_33
          have hw_33 := hw_33.symm
          subst hw_33
          refine k_nrm (y := 4) rfl ?_
          have hf_34 : (lf : Nat → Int32) = (cpy (lnF tn tf b) rlf tn) := hlf
          have hP : va_P D vwCl [(rd, .inr (4, [.ref rdA, .int (nI (dgc tn))])), (rdA, .inl (K, 9, .inl (cpy (nrD tn (lnF tn tf b)) rg (dgc tn)))), (tm, .inr (4, [.ref tmA, .int (nI tn)])), (tmA, .inl (K, 41, .inl tf)), (rlA, .inl (K, 41, .inl (cpy (lnF tn tf b) rlf tn))), (rl, .inr (4, [.ref rlA, .int (nI tn)])), (re, .inr (3, [.ref rd, .int v1, .ref rl, .int v2, .int v3, .int v4, .int (nI tn - 2), .int (nI tn)]))] H := (congrArg (fun z9 : Nat → Int32 => va_P D vwCl [(rd, .inr (4, [.ref rdA, .int (nI (dgc tn))])), (rdA, .inl (K, 9, .inl (cpy (nrD tn (lnF tn tf b)) rg (dgc tn)))), (tm, .inr (4, [.ref tmA, .int (nI tn)])), (tmA, .inl (K, 41, .inl tf)), (rlA, .inl (K, 41, .inl z9)), (rl, .inr (4, [.ref rlA, .int (nI tn)])), (re, .inr (3, [.ref rd, .int v1, .ref rl, .int v2, .int v3, .int v4, .int (nI tn - 2), .int (nI tn)]))] H) hf_34).mp hP
          have hD : va_D A [(rd, .inr (4, [.ref rdA, .int (nI (dgc tn))])), (rdA, .inl (K, 9, .inl (cpy (nrD tn (lnF tn tf b)) rg (dgc tn)))), (tm, .inr (4, [.ref tmA, .int (nI tn)])), (tmA, .inl (K, 41, .inl tf)), (rlA, .inl (K, 41, .inl (cpy (lnF tn tf b) rlf tn))), (rl, .inr (4, [.ref rlA, .int (nI tn)])), (re, .inr (3, [.ref rd, .int v1, .ref rl, .int v2, .int v3, .int v4, .int (nI tn - 2), .int (nI tn)]))] := (congrArg (fun z9 : Nat → Int32 => va_D A [(rd, .inr (4, [.ref rdA, .int (nI (dgc tn))])), (rdA, .inl (K, 9, .inl (cpy (nrD tn (lnF tn tf b)) rg (dgc tn)))), (tm, .inr (4, [.ref tmA, .int (nI tn)])), (tmA, .inl (K, 41, .inl tf)), (rlA, .inl (K, 41, .inl z9)), (rl, .inr (4, [.ref rlA, .int (nI tn)])), (re, .inr (3, [.ref rd, .int v1, .ref rl, .int v2, .int v3, .int v4, .int (nI tn - 2), .int (nI tn)]))]) hf_34).mp hD
          have hP9 : va_P D vwCl [(re, .inr (3, [.ref rd, .int v1, .ref rl, .int v2, .int v3, .int v4, .int (nI tn - 2), .int (nI tn)])), (rd, .inr (4, [.ref rdA, .int (nI (dgc tn))])), (rdA, .inl (K, 9, .inl (cpy (nrD tn (lnF tn tf b)) rg (dgc tn)))), (rl, .inr (4, [.ref rlA, .int (nI tn)])), (rlA, .inl (K, 41, .inl (cpy (lnF tn tf b) rlf tn))), (tm, .inr (4, [.ref tmA, .int (nI tn)])), (tmA, .inl (K, 41, .inl tf))] H := hP.sub [6, 0, 1, 5, 4, 2, 3] rfl
          have hD9 : va_D A [(re, .inr (3, [.ref rd, .int v1, .ref rl, .int v2, .int v3, .int v4, .int (nI tn - 2), .int (nI tn)])), (rd, .inr (4, [.ref rdA, .int (nI (dgc tn))])), (rdA, .inl (K, 9, .inl (cpy (nrD tn (lnF tn tf b)) rg (dgc tn)))), (rl, .inr (4, [.ref rlA, .int (nI tn)])), (rlA, .inl (K, 41, .inl (cpy (lnF tn tf b) rlf tn))), (tm, .inr (4, [.ref tmA, .int (nI tn)])), (tmA, .inl (K, 41, .inl tf))] := hD.sub [6, 0, 1, 5, 4, 2, 3] (by decide) rfl
          have hK9 : va_K D vwCl [] s := hK.sub [] rfl
          exact W.iret (v := 4) hx hb hr (fun t ht9 hW9 => ⟨⟨4, (v1, v2, v3, v4, (nI tn - 2), (nI tn), (dgc tn)), rfl, by (exact ⟨(failF_4 (fun q9 => c_8 (by rw [q9]; rfl)) c_11 hall c_16).symm, hcn, fun q9 => absurd q9 (by decide), fun _ => fcert_4 htn (fun q9 => c_8 (by rw [q9]; rfl)) c_16⟩), ⟨by rw [ht9]; exact hP9, va_K.moved hW9.alike hK9, hD9⟩⟩, hS.F ht9⟩) hS.2.2 dX3_failureOf_159
      · have hc9 := c_13
        have hik : i + 1 ≤ (dgc tn) := by rcases Nat.lt_or_ge i (dgc tn) with q9 | q9; exact q9; exact absurd (nI_le q9 (by omega)) c_13
        refine lv_iconst (v := 3) hx hb dX3_failureOf_62 (by decide) ?_
        refine lv_iconst (v := 4) hx hb dX3_failureOf_63 (by decide) ?_
        refine lv_iload hx hb dX3_failureOf_64 (lv_at hl 0 rfl) ?_
        refine lv_imul hx hb dX3_failureOf_66 ?_
        refine k_nrm (y := (nI (4 * i))) (pk_mul 4 i) ?_
        refine lv_iadd hx hb dX3_failureOf_67 ?_
        refine k_nrm (y := (nI (3 + 4 * i))) (nI_add 3 (4 * i)) ?_
        refine lv_istore (lv' := [(6, .int (nI (3 + 4 * i))), (5, .int (nI i)), (4, .int (nI (dgc tn))), (0, .ref re), (1, .ref tm), (2, .int b), (3, .int to)]) hx hb dX3_failureOf_68 hl (by decide) rfl (fun ls hl => ?_)
        refine lv_aload_n hx hb dX3_failureOf_70 rfl (lv_at hl 3 rfl) ?_
        refine lv_aload_n hx hb dX3_failureOf_71 rfl (lv_at hl 3 rfl) ?_
        refine va_get (D := D) (ci := 3) (v := .ref rl) (C := RX3) (T := TX3) (N := 8) hx hb ht inA_X3 hown hK hP 0 rfl rfl 2 (by decide) (ht _ lf_X3_20) (fun _ h9 => h9) rfl dX3_failureOf_72 ?_
        refine lv_iload hx hb dX3_failureOf_75 (lv_at hl 0 rfl) ?_
        have ct := k_cut_of (wc := [(re, .inr (3, [.ref rd, .int v1, .ref rl, .int v2, .int v3, .int v4, .int ff, .int ft])), (rl, .inr (4, [.ref rlA, .int (nI tn)])), (rlA, .inl (K, 41, .inl lf))]) (wr := [(rd, .inr (4, [.ref rdA, .int (nI i)])), (rdA, .inl (K, 9, .inl (cpy (nrD tn (lnF tn tf b)) rg i))), (tm, .inr (4, [.ref tmA, .int (nI tn)])), (tmA, .inl (K, 41, .inl tf))]) (tc := [(K, .int)]) hG hS hA hK hP hD [0, 3, 4] [1, 2, 5, 6] [0] rfl rfl (by decide) (by decide) (by decide) rfl
        refine k_endv (As := [.ref re, .ref rl, .int (nI (3 + 4 * i))]) ct (k_runV (As := [.ref rl, .int (nI (3 + 4 * i))]) (rest := []) S0 Lv_X3_53 rfl (ci := 3) (q0 := 0) rfl rfl ct (c_findNearest l D re rd v1 rl v2 v3 v4 ff ft rl rlA tn K lf (nI (3 + 4 * i)) (tkF tn (lnF tn tf b) i 0) (tkF tn (lnF tn tf b) i 1) (tkF tn (lnF tn tf b) i 2) (tkF tn (lnF tn tf b) i 3) (smK tn (lnF tn tf b) i) (ddK tn (lnF tn tf b) i) (by first | assumption | omega) (hR _) (by rw [nI_1]; exact hR _) (by rw [show (2 : Int32) = nI 2 from rfl, nI_add]; exact hR _) (by rw [show (3 : Int32) = nI 3 from rfl, nI_add]; exact hR _) rfl rfl H.size) hl.1 rfl (Nat.le_of_ble_eq_true rfl) rfl dX3_failureOf_77 ⟨⟨Nat.le_of_ble_eq_true rfl, Nat.le_of_ble_eq_true rfl⟩, Nat.le_of_ble_eq_true rfl, Nat.le_of_ble_eq_true rfl⟩) rfl rfl (fun _ u H locs hw_36 hP hD hK hS => ?_)
        obtain ⟨w1, w2, w3⟩ := u
        have hK : va_K D vwCl [(K, .int)] s := hK
        have hP : va_P D vwCl [(rd, .inr (4, [.ref rdA, .int (nI i)])), (rdA, .inl (K, 9, .inl (cpy (nrD tn (lnF tn tf b)) rg i))), (tm, .inr (4, [.ref tmA, .int (nI tn)])), (tmA, .inl (K, 41, .inl tf)), (re, .inr (3, [.ref rd, .int w1, .ref rl, .int w2, .int (smK tn (lnF tn tf b) i), .int w3, .int ff, .int ft])), (rl, .inr (4, [.ref rlA, .int (nI tn)])), (rlA, .inl (K, 41, .inl lf))] H := hP
        have hD : va_D A [(rd, .inr (4, [.ref rdA, .int (nI i)])), (rdA, .inl (K, 9, .inl (cpy (nrD tn (lnF tn tf b)) rg i))), (tm, .inr (4, [.ref tmA, .int (nI tn)])), (tmA, .inl (K, 41, .inl tf)), (re, .inr (3, [.ref rd, .int w1, .ref rl, .int w2, .int (smK tn (lnF tn tf b) i), .int w3, .int ff, .int ft])), (rl, .inr (4, [.ref rlA, .int (nI tn)])), (rlA, .inl (K, 41, .inl lf))] := hD
        have hw_36 : w1 = (nrF (ddK tn (lnF tn tf b) i) 0 0 10).1 ∧ w2 = (nrF (ddK tn (lnF tn tf b) i) 0 0 10).2.1 ∧ w3 = (nrF (ddK tn (lnF tn tf b) i) 0 0 10).2.2 := hw_36
        refine lv_aload_n hx hb dX3_failureOf_80 rfl (lv_at hl 3 rfl) ?_
        refine va_get (D := D) (ci := 3) (v := .int w3) (C := RX3) (T := TX3) (N := 8) hx hb ht inA_X3 hown hK hP 4 rfl rfl 5 (by decide) (ht _ lf_X3_57) (fun _ h9 => h9) rfl dX3_failureOf_81 ?_
        refine lv_if_ne (tgt := 102) hx hb dX3_failureOf_84 (by decide) (fun c_37 => ?_) (fun c_37 => ?_)
        · have hc9 := c_37
          refine lv_aload_n hx hb dX3_failureOf_102 rfl (lv_at hl 3 rfl) ?_
          refine lv_iconst (v := 3) hx hb dX3_failureOf_103 (by decide) ?_
          refine lv_iload hx hb dX3_failureOf_104 (lv_at hl 0 rfl) ?_
          refine lv_iload hx hb dX3_failureOf_106 (lv_at hl 0 rfl) ?_
          refine lv_iconst (v := 4) hx hb dX3_failureOf_108 (by decide) ?_
          refine lv_iadd hx hb dX3_failureOf_109 ?_
          refine k_nrm (y := (nI (3 + 4 * i) + 4)) (rfl) ?_
          have ct := k_cut_of (wc := [(re, .inr (3, [.ref rd, .int w1, .ref rl, .int w2, .int (smK tn (lnF tn tf b) i), .int w3, .int ff, .int ft]))]) (wr := [(rd, .inr (4, [.ref rdA, .int (nI i)])), (rdA, .inl (K, 9, .inl (cpy (nrD tn (lnF tn tf b)) rg i))), (tm, .inr (4, [.ref tmA, .int (nI tn)])), (tmA, .inl (K, 41, .inl tf)), (rl, .inr (4, [.ref rlA, .int (nI tn)])), (rlA, .inl (K, 41, .inl lf))]) (tc := []) hG hS hA hK hP hD [4] [0, 1, 2, 3, 5, 6] [] rfl rfl (by decide) (by decide) (by decide) rfl
          refine k_endi (As := [.ref re, .int 3, .int (nI (3 + 4 * i)), .int (nI (3 + 4 * i) + 4)]) ct (k_runV (As := [.int 3, .int (nI (3 + 4 * i)), .int (nI (3 + 4 * i) + 4)]) (rest := []) S0 Lv_X3_45 rfl (ci := 3) (q0 := 0) rfl rfl ct (c_failAt l D re rd w1 rl w2 (smK tn (lnF tn tf b) i) w3 ff ft 3 (nI (3 + 4 * i)) (nI (3 + 4 * i) + 4) H.size) hl.1 rfl (Nat.le_of_ble_eq_true rfl) rfl dX3_failureOf_110 ⟨⟨Nat.le_of_ble_eq_true rfl, Nat.le_of_ble_eq_true rfl⟩, Nat.le_of_ble_eq_true rfl, Nat.le_of_ble_eq_true rfl⟩) rfl rfl (fun r_38 _ H locs hw_39 hP hD hK hS => ?_)
          have hK : va_K D vwCl [(K, .int)] s := hK
          have hP : va_P D vwCl [(rd, .inr (4, [.ref rdA, .int (nI i)])), (rdA, .inl (K, 9, .inl (cpy (nrD tn (lnF tn tf b)) rg i))), (tm, .inr (4, [.ref tmA, .int (nI tn)])), (tmA, .inl (K, 41, .inl tf)), (rl, .inr (4, [.ref rlA, .int (nI tn)])), (rlA, .inl (K, 41, .inl lf)), (re, .inr (3, [.ref rd, .int w1, .ref rl, .int w2, .int (smK tn (lnF tn tf b) i), .int w3, .int (nI (3 + 4 * i)), .int (nI (3 + 4 * i) + 4)]))] H := hP
          have hD : va_D A [(rd, .inr (4, [.ref rdA, .int (nI i)])), (rdA, .inl (K, 9, .inl (cpy (nrD tn (lnF tn tf b)) rg i))), (tm, .inr (4, [.ref tmA, .int (nI tn)])), (tmA, .inl (K, 41, .inl tf)), (rl, .inr (4, [.ref rlA, .int (nI tn)])), (rlA, .inl (K, 41, .inl lf)), (re, .inr (3, [.ref rd, .int w1, .ref rl, .int w2, .int (smK tn (lnF tn tf b) i), .int w3, .int (nI (3 + 4 * i)), .int (nI (3 + 4 * i) + 4)]))] := hD
          have hw_39 : r_38 = 3 := hw_39
          have hw_39 := hw_39.symm
          subst hw_39
          refine k_nrm (y := 3) rfl ?_
          have hf_40 : (lf : Nat → Int32) = (cpy (lnF tn tf b) rlf tn) := hlf
          have hP : va_P D vwCl [(rd, .inr (4, [.ref rdA, .int (nI i)])), (rdA, .inl (K, 9, .inl (cpy (nrD tn (lnF tn tf b)) rg i))), (tm, .inr (4, [.ref tmA, .int (nI tn)])), (tmA, .inl (K, 41, .inl tf)), (rl, .inr (4, [.ref rlA, .int (nI tn)])), (rlA, .inl (K, 41, .inl (cpy (lnF tn tf b) rlf tn))), (re, .inr (3, [.ref rd, .int w1, .ref rl, .int w2, .int (smK tn (lnF tn tf b) i), .int w3, .int (nI (3 + 4 * i)), .int (nI (3 + 4 * i) + 4)]))] H := (congrArg (fun z9 : Nat → Int32 => va_P D vwCl [(rd, .inr (4, [.ref rdA, .int (nI i)])), (rdA, .inl (K, 9, .inl (cpy (nrD tn (lnF tn tf b)) rg i))), (tm, .inr (4, [.ref tmA, .int (nI tn)])), (tmA, .inl (K, 41, .inl tf)), (rl, .inr (4, [.ref rlA, .int (nI tn)])), (rlA, .inl (K, 41, .inl z9)), (re, .inr (3, [.ref rd, .int w1, .ref rl, .int w2, .int (smK tn (lnF tn tf b) i), .int w3, .int (nI (3 + 4 * i)), .int (nI (3 + 4 * i) + 4)]))] H) hf_40).mp hP
          have hD : va_D A [(rd, .inr (4, [.ref rdA, .int (nI i)])), (rdA, .inl (K, 9, .inl (cpy (nrD tn (lnF tn tf b)) rg i))), (tm, .inr (4, [.ref tmA, .int (nI tn)])), (tmA, .inl (K, 41, .inl tf)), (rl, .inr (4, [.ref rlA, .int (nI tn)])), (rlA, .inl (K, 41, .inl (cpy (lnF tn tf b) rlf tn))), (re, .inr (3, [.ref rd, .int w1, .ref rl, .int w2, .int (smK tn (lnF tn tf b) i), .int w3, .int (nI (3 + 4 * i)), .int (nI (3 + 4 * i) + 4)]))] := (congrArg (fun z9 : Nat → Int32 => va_D A [(rd, .inr (4, [.ref rdA, .int (nI i)])), (rdA, .inl (K, 9, .inl (cpy (nrD tn (lnF tn tf b)) rg i))), (tm, .inr (4, [.ref tmA, .int (nI tn)])), (tmA, .inl (K, 41, .inl tf)), (rl, .inr (4, [.ref rlA, .int (nI tn)])), (rlA, .inl (K, 41, .inl z9)), (re, .inr (3, [.ref rd, .int w1, .ref rl, .int w2, .int (smK tn (lnF tn tf b) i), .int w3, .int (nI (3 + 4 * i)), .int (nI (3 + 4 * i) + 4)]))]) hf_40).mp hD
          have hP9 : va_P D vwCl [(re, .inr (3, [.ref rd, .int w1, .ref rl, .int w2, .int (smK tn (lnF tn tf b) i), .int w3, .int (nI (3 + 4 * i)), .int (nI (3 + 4 * i) + 4)])), (rd, .inr (4, [.ref rdA, .int (nI i)])), (rdA, .inl (K, 9, .inl (cpy (nrD tn (lnF tn tf b)) rg i))), (rl, .inr (4, [.ref rlA, .int (nI tn)])), (rlA, .inl (K, 41, .inl (cpy (lnF tn tf b) rlf tn))), (tm, .inr (4, [.ref tmA, .int (nI tn)])), (tmA, .inl (K, 41, .inl tf))] H := hP.sub [6, 0, 1, 4, 5, 2, 3] rfl
          have hD9 : va_D A [(re, .inr (3, [.ref rd, .int w1, .ref rl, .int w2, .int (smK tn (lnF tn tf b) i), .int w3, .int (nI (3 + 4 * i)), .int (nI (3 + 4 * i) + 4)])), (rd, .inr (4, [.ref rdA, .int (nI i)])), (rdA, .inl (K, 9, .inl (cpy (nrD tn (lnF tn tf b)) rg i))), (rl, .inr (4, [.ref rlA, .int (nI tn)])), (rlA, .inl (K, 41, .inl (cpy (lnF tn tf b) rlf tn))), (tm, .inr (4, [.ref tmA, .int (nI tn)])), (tmA, .inl (K, 41, .inl tf))] := hD.sub [6, 0, 1, 4, 5, 2, 3] (by decide) rfl
          have hK9 : va_K D vwCl [] s := hK.sub [] rfl
          exact W.iret (v := 3) hx hb hr (fun t ht9 hW9 => ⟨⟨3, (w1, w2, smK tn (lnF tn tf b) i, w3, (nI (3 + 4 * i)), (nI (3 + 4 * i) + 4), i), rfl, by (exact ⟨(failF_3 (fun q9 => c_8 (by rw [q9]; rfl)) c_11 (fun q9 => c_37 (by rw [hw_36.2.2]; exact (q9 i hik).1))).symm, by omega, fun q9 => absurd q9 (by decide), fun _ => fcert_3 htn (fun q9 => c_8 (by rw [q9]; rfl)) hik (fun q8 => c_37 (by rw [hw_36.2.2]; exact (q8).1))⟩), ⟨by rw [ht9]; exact hP9, va_K.moved hW9.alike hK9, hD9⟩⟩, hS.F ht9⟩) hS.2.2 dX3_failureOf_113
        · have hc9 := c_37
          refine lv_iconst (v := 4) hx hb dX3_failureOf_87 (by decide) ?_
          refine lv_aload_n hx hb dX3_failureOf_88 rfl (lv_at hl 3 rfl) ?_
          refine va_get (D := D) (ci := 3) (v := .int w2) (C := RX3) (T := TX3) (N := 8) hx hb ht inA_X3 hown hK hP 4 rfl rfl 3 (by decide) (ht _ lf_X3_61) (fun _ h9 => h9) rfl dX3_failureOf_89 ?_
          refine lv_imul hx hb dX3_failureOf_92 ?_
          refine k_nrm (y := (4 * w2)) (rfl) ?_
          refine lv_aload_n hx hb dX3_failureOf_93 rfl (lv_at hl 3 rfl) ?_
          refine va_get (D := D) (ci := 3) (v := .int (smK tn (lnF tn tf b) i)) (C := RX3) (T := TX3) (N := 8) hx hb ht inA_X3 hown hK hP 4 rfl rfl 4 (by decide) (ht _ lf_X3_65) (fun _ h9 => h9) rfl dX3_failureOf_94 ?_
          refine lv_iload_n hx hb dX3_failureOf_97 rfl (lv_at hl 6 rfl) ?_
          refine lv_imul hx hb dX3_failureOf_98 ?_
          refine k_nrm (y := (smK tn (lnF tn tf b) i * to)) (rfl) ?_
          refine lv_icmp_le (tgt := 114) hx hb dX3_failureOf_99 (by decide) (fun c_41 => ?_) (fun c_41 => ?_)
          · have hc9 := c_41
            refine lv_aload_n hx hb dX3_failureOf_114 rfl (lv_at hl 3 rfl) ?_
            refine va_get (D := D) (ci := 3) (v := .ref rd) (C := RX3) (T := TX3) (N := 8) hx hb ht inA_X3 hown hK hP 4 rfl rfl 0 (by decide) (ht _ lf_X3_14) (fun _ h9 => h9) rfl dX3_failureOf_115 ?_
            refine lv_aload_n hx hb dX3_failureOf_118 rfl (lv_at hl 3 rfl) ?_
            refine va_get (D := D) (ci := 3) (v := .int w1) (C := RX3) (T := TX3) (N := 8) hx hb ht inA_X3 hown hK hP 4 rfl rfl 1 (by decide) (ht _ lf_X3_68) (fun _ h9 => h9) rfl dX3_failureOf_119 ?_
            have ct := k_cut_of (wc := [(rd, .inr (4, [.ref rdA, .int (nI i)])), (rdA, .inl (K, 9, .inl (cpy (nrD tn (lnF tn tf b)) rg i)))]) (wr := [(tm, .inr (4, [.ref tmA, .int (nI tn)])), (tmA, .inl (K, 41, .inl tf)), (re, .inr (3, [.ref rd, .int w1, .ref rl, .int w2, .int (smK tn (lnF tn tf b) i), .int w3, .int ff, .int ft])), (rl, .inr (4, [.ref rlA, .int (nI tn)])), (rlA, .inl (K, 41, .inl lf))]) (tc := [(K, .int)]) hG hS hA hK hP hD [0, 1] [2, 3, 4, 5, 6] [0] rfl rfl (by decide) (by decide) (by decide) rfl
            refine k_endv (As := [.ref rd, .int w1]) ct (k_runV (As := [.int w1]) (rest := []) S0 Lv_X3_71 rfl (ci := 4) (q0 := 0) rfl rfl ct (c_Row_add l D rd rdA i K 9 (cpy (nrD tn (lnF tn tf b)) rg i) w1 (by first | assumption | decide) (Nat.lt_of_lt_of_le hik hcn) H.size) hl.1 rfl (Nat.le_of_ble_eq_true rfl) rfl dX3_failureOf_122 ⟨⟨Nat.le_of_ble_eq_true rfl, Nat.le_of_ble_eq_true rfl⟩, Nat.le_of_ble_eq_true rfl, Nat.le_of_ble_eq_true rfl⟩) rfl rfl (fun _ _ H locs hw_43 hP hD hK hS => ?_)
            have hK : va_K D vwCl [(K, .int)] s := hK
            have hP : va_P D vwCl [(tm, .inr (4, [.ref tmA, .int (nI tn)])), (tmA, .inl (K, 41, .inl tf)), (re, .inr (3, [.ref rd, .int w1, .ref rl, .int w2, .int (smK tn (lnF tn tf b) i), .int w3, .int ff, .int ft])), (rl, .inr (4, [.ref rlA, .int (nI tn)])), (rlA, .inl (K, 41, .inl lf)), (rd, .inr (4, [.ref rdA, .int (nI (i + 1))])), (rdA, .inl (K, 9, .inl (upd (cpy (nrD tn (lnF tn tf b)) rg i) i w1)))] H := hP
            have hD : va_D A [(tm, .inr (4, [.ref tmA, .int (nI tn)])), (tmA, .inl (K, 41, .inl tf)), (re, .inr (3, [.ref rd, .int w1, .ref rl, .int w2, .int (smK tn (lnF tn tf b) i), .int w3, .int ff, .int ft])), (rl, .inr (4, [.ref rlA, .int (nI tn)])), (rlA, .inl (K, 41, .inl lf)), (rd, .inr (4, [.ref rdA, .int (nI (i + 1))])), (rdA, .inl (K, 9, .inl (upd (cpy (nrD tn (lnF tn tf b)) rg i) i w1)))] := hD
            have hf_44 : ((upd (cpy (nrD tn (lnF tn tf b)) rg i) i w1) : Nat → Int32) = (cpy (nrD tn (lnF tn tf b)) rg (i + 1)) := by rw [show w1 = nrD tn (lnF tn tf b) i from hw_36.1]; exact cpy_s (nrD tn (lnF tn tf b)) rg i
            have hP : va_P D vwCl [(tm, .inr (4, [.ref tmA, .int (nI tn)])), (tmA, .inl (K, 41, .inl tf)), (re, .inr (3, [.ref rd, .int w1, .ref rl, .int w2, .int (smK tn (lnF tn tf b) i), .int w3, .int ff, .int ft])), (rl, .inr (4, [.ref rlA, .int (nI tn)])), (rlA, .inl (K, 41, .inl lf)), (rd, .inr (4, [.ref rdA, .int (nI (i + 1))])), (rdA, .inl (K, 9, .inl (cpy (nrD tn (lnF tn tf b)) rg (i + 1))))] H := (congrArg (fun z9 : Nat → Int32 => va_P D vwCl [(tm, .inr (4, [.ref tmA, .int (nI tn)])), (tmA, .inl (K, 41, .inl tf)), (re, .inr (3, [.ref rd, .int w1, .ref rl, .int w2, .int (smK tn (lnF tn tf b) i), .int w3, .int ff, .int ft])), (rl, .inr (4, [.ref rlA, .int (nI tn)])), (rlA, .inl (K, 41, .inl lf)), (rd, .inr (4, [.ref rdA, .int (nI (i + 1))])), (rdA, .inl (K, 9, .inl z9))] H) hf_44).mp hP
            have hD : va_D A [(tm, .inr (4, [.ref tmA, .int (nI tn)])), (tmA, .inl (K, 41, .inl tf)), (re, .inr (3, [.ref rd, .int w1, .ref rl, .int w2, .int (smK tn (lnF tn tf b) i), .int w3, .int ff, .int ft])), (rl, .inr (4, [.ref rlA, .int (nI tn)])), (rlA, .inl (K, 41, .inl lf)), (rd, .inr (4, [.ref rdA, .int (nI (i + 1))])), (rdA, .inl (K, 9, .inl (cpy (nrD tn (lnF tn tf b)) rg (i + 1))))] := (congrArg (fun z9 : Nat → Int32 => va_D A [(tm, .inr (4, [.ref tmA, .int (nI tn)])), (tmA, .inl (K, 41, .inl tf)), (re, .inr (3, [.ref rd, .int w1, .ref rl, .int w2, .int (smK tn (lnF tn tf b) i), .int w3, .int ff, .int ft])), (rl, .inr (4, [.ref rlA, .int (nI tn)])), (rlA, .inl (K, 41, .inl lf)), (rd, .inr (4, [.ref rdA, .int (nI (i + 1))])), (rdA, .inl (K, 9, .inl z9))]) hf_44).mp hD
            obtain ⟨x_45, ex_45⟩ : ∃ z : Int32, z = (nI i) + 1 := ⟨_, rfl⟩
            refine lv_iinc (v := x_45) (lv' := [(5, .int x_45), (6, .int (nI (3 + 4 * i))), (4, .int (nI (dgc tn))), (0, .ref re), (1, .ref tm), (2, .int b), (3, .int to)]) hx hb dX3_failureOf_125 hl (k := 1) rfl (by rw [ex_45]; rfl) (by decide) rfl (fun ls hl => ?_)
            refine lv_goto (tgt := 55) hx hb dX3_failureOf_128 (by decide) ?_
            have he9 : x_45 = (nI (i + 1)) := by rw [ex_45]; exact nI_1 i
            rw [he9] at hl
            have hl : lv_has ls 7 [(5, .int (nI (i + 1))), (6, .int (nI (3 + 4 * i))), (4, .int (nI (dgc tn))), (0, .ref re), (1, .ref tm), (2, .int b), (3, .int to)] := hl
            exact ih9 ((i + 1, w1, w2, smK tn (lnF tn tf b) i, w3)) H locs ls (by omega) ⟨hik, (fun m9 h9 => by rcases Nat.lt_succ_iff_lt_or_eq.mp h9 with q9 | rfl; exact hall m9 q9; exact ⟨(by rw [← hw_36.2.2]; exact c_37), (by rw [← hw_36.2.1]; exact c_41)⟩), hP.sub [2, 5, 6, 3, 4, 0, 1] rfl, hD.sub [2, 5, 6, 3, 4, 0, 1] (by decide) rfl, hS, lv_sub hl [0, 2, 3, 4, 5, 6] rfl⟩
          · have hc9 := c_41
            refine lv_aload_n hx hb dX3_failureOf_102 rfl (lv_at hl 3 rfl) ?_
            refine lv_iconst (v := 3) hx hb dX3_failureOf_103 (by decide) ?_
            refine lv_iload hx hb dX3_failureOf_104 (lv_at hl 0 rfl) ?_
            refine lv_iload hx hb dX3_failureOf_106 (lv_at hl 0 rfl) ?_
            refine lv_iconst (v := 4) hx hb dX3_failureOf_108 (by decide) ?_
            refine lv_iadd hx hb dX3_failureOf_109 ?_
            refine k_nrm (y := (nI (3 + 4 * i) + 4)) (rfl) ?_
            have ct := k_cut_of (wc := [(re, .inr (3, [.ref rd, .int w1, .ref rl, .int w2, .int (smK tn (lnF tn tf b) i), .int w3, .int ff, .int ft]))]) (wr := [(rd, .inr (4, [.ref rdA, .int (nI i)])), (rdA, .inl (K, 9, .inl (cpy (nrD tn (lnF tn tf b)) rg i))), (tm, .inr (4, [.ref tmA, .int (nI tn)])), (tmA, .inl (K, 41, .inl tf)), (rl, .inr (4, [.ref rlA, .int (nI tn)])), (rlA, .inl (K, 41, .inl lf))]) (tc := []) hG hS hA hK hP hD [4] [0, 1, 2, 3, 5, 6] [] rfl rfl (by decide) (by decide) (by decide) rfl
            refine k_endi (As := [.ref re, .int 3, .int (nI (3 + 4 * i)), .int (nI (3 + 4 * i) + 4)]) ct (k_runV (As := [.int 3, .int (nI (3 + 4 * i)), .int (nI (3 + 4 * i) + 4)]) (rest := []) S0 Lv_X3_45 rfl (ci := 3) (q0 := 0) rfl rfl ct (c_failAt l D re rd w1 rl w2 (smK tn (lnF tn tf b) i) w3 ff ft 3 (nI (3 + 4 * i)) (nI (3 + 4 * i) + 4) H.size) hl.1 rfl (Nat.le_of_ble_eq_true rfl) rfl dX3_failureOf_110 ⟨⟨Nat.le_of_ble_eq_true rfl, Nat.le_of_ble_eq_true rfl⟩, Nat.le_of_ble_eq_true rfl, Nat.le_of_ble_eq_true rfl⟩) rfl rfl (fun r_46 _ H locs hw_47 hP hD hK hS => ?_)
            have hK : va_K D vwCl [(K, .int)] s := hK
            have hP : va_P D vwCl [(rd, .inr (4, [.ref rdA, .int (nI i)])), (rdA, .inl (K, 9, .inl (cpy (nrD tn (lnF tn tf b)) rg i))), (tm, .inr (4, [.ref tmA, .int (nI tn)])), (tmA, .inl (K, 41, .inl tf)), (rl, .inr (4, [.ref rlA, .int (nI tn)])), (rlA, .inl (K, 41, .inl lf)), (re, .inr (3, [.ref rd, .int w1, .ref rl, .int w2, .int (smK tn (lnF tn tf b) i), .int w3, .int (nI (3 + 4 * i)), .int (nI (3 + 4 * i) + 4)]))] H := hP
            have hD : va_D A [(rd, .inr (4, [.ref rdA, .int (nI i)])), (rdA, .inl (K, 9, .inl (cpy (nrD tn (lnF tn tf b)) rg i))), (tm, .inr (4, [.ref tmA, .int (nI tn)])), (tmA, .inl (K, 41, .inl tf)), (rl, .inr (4, [.ref rlA, .int (nI tn)])), (rlA, .inl (K, 41, .inl lf)), (re, .inr (3, [.ref rd, .int w1, .ref rl, .int w2, .int (smK tn (lnF tn tf b) i), .int w3, .int (nI (3 + 4 * i)), .int (nI (3 + 4 * i) + 4)]))] := hD
            have hw_47 : r_46 = 3 := hw_47
            have hw_47 := hw_47.symm
            subst hw_47
            refine k_nrm (y := 3) rfl ?_
            have hf_48 : (lf : Nat → Int32) = (cpy (lnF tn tf b) rlf tn) := hlf
            have hP : va_P D vwCl [(rd, .inr (4, [.ref rdA, .int (nI i)])), (rdA, .inl (K, 9, .inl (cpy (nrD tn (lnF tn tf b)) rg i))), (tm, .inr (4, [.ref tmA, .int (nI tn)])), (tmA, .inl (K, 41, .inl tf)), (rl, .inr (4, [.ref rlA, .int (nI tn)])), (rlA, .inl (K, 41, .inl (cpy (lnF tn tf b) rlf tn))), (re, .inr (3, [.ref rd, .int w1, .ref rl, .int w2, .int (smK tn (lnF tn tf b) i), .int w3, .int (nI (3 + 4 * i)), .int (nI (3 + 4 * i) + 4)]))] H := (congrArg (fun z9 : Nat → Int32 => va_P D vwCl [(rd, .inr (4, [.ref rdA, .int (nI i)])), (rdA, .inl (K, 9, .inl (cpy (nrD tn (lnF tn tf b)) rg i))), (tm, .inr (4, [.ref tmA, .int (nI tn)])), (tmA, .inl (K, 41, .inl tf)), (rl, .inr (4, [.ref rlA, .int (nI tn)])), (rlA, .inl (K, 41, .inl z9)), (re, .inr (3, [.ref rd, .int w1, .ref rl, .int w2, .int (smK tn (lnF tn tf b) i), .int w3, .int (nI (3 + 4 * i)), .int (nI (3 + 4 * i) + 4)]))] H) hf_48).mp hP
            have hD : va_D A [(rd, .inr (4, [.ref rdA, .int (nI i)])), (rdA, .inl (K, 9, .inl (cpy (nrD tn (lnF tn tf b)) rg i))), (tm, .inr (4, [.ref tmA, .int (nI tn)])), (tmA, .inl (K, 41, .inl tf)), (rl, .inr (4, [.ref rlA, .int (nI tn)])), (rlA, .inl (K, 41, .inl (cpy (lnF tn tf b) rlf tn))), (re, .inr (3, [.ref rd, .int w1, .ref rl, .int w2, .int (smK tn (lnF tn tf b) i), .int w3, .int (nI (3 + 4 * i)), .int (nI (3 + 4 * i) + 4)]))] := (congrArg (fun z9 : Nat → Int32 => va_D A [(rd, .inr (4, [.ref rdA, .int (nI i)])), (rdA, .inl (K, 9, .inl (cpy (nrD tn (lnF tn tf b)) rg i))), (tm, .inr (4, [.ref tmA, .int (nI tn)])), (tmA, .inl (K, 41, .inl tf)), (rl, .inr (4, [.ref rlA, .int (nI tn)])), (rlA, .inl (K, 41, .inl z9)), (re, .inr (3, [.ref rd, .int w1, .ref rl, .int w2, .int (smK tn (lnF tn tf b) i), .int w3, .int (nI (3 + 4 * i)), .int (nI (3 + 4 * i) + 4)]))]) hf_48).mp hD
            have hP9 : va_P D vwCl [(re, .inr (3, [.ref rd, .int w1, .ref rl, .int w2, .int (smK tn (lnF tn tf b) i), .int w3, .int (nI (3 + 4 * i)), .int (nI (3 + 4 * i) + 4)])), (rd, .inr (4, [.ref rdA, .int (nI i)])), (rdA, .inl (K, 9, .inl (cpy (nrD tn (lnF tn tf b)) rg i))), (rl, .inr (4, [.ref rlA, .int (nI tn)])), (rlA, .inl (K, 41, .inl (cpy (lnF tn tf b) rlf tn))), (tm, .inr (4, [.ref tmA, .int (nI tn)])), (tmA, .inl (K, 41, .inl tf))] H := hP.sub [6, 0, 1, 4, 5, 2, 3] rfl
            have hD9 : va_D A [(re, .inr (3, [.ref rd, .int w1, .ref rl, .int w2, .int (smK tn (lnF tn tf b) i), .int w3, .int (nI (3 + 4 * i)), .int (nI (3 + 4 * i) + 4)])), (rd, .inr (4, [.ref rdA, .int (nI i)])), (rdA, .inl (K, 9, .inl (cpy (nrD tn (lnF tn tf b)) rg i))), (rl, .inr (4, [.ref rlA, .int (nI tn)])), (rlA, .inl (K, 41, .inl (cpy (lnF tn tf b) rlf tn))), (tm, .inr (4, [.ref tmA, .int (nI tn)])), (tmA, .inl (K, 41, .inl tf))] := hD.sub [6, 0, 1, 4, 5, 2, 3] (by decide) rfl
            have hK9 : va_K D vwCl [] s := hK.sub [] rfl
            exact W.iret (v := 3) hx hb hr (fun t ht9 hW9 => ⟨⟨3, (w1, w2, smK tn (lnF tn tf b) i, w3, (nI (3 + 4 * i)), (nI (3 + 4 * i) + 4), i), rfl, by (exact ⟨(failF_3 (fun q9 => c_8 (by rw [q9]; rfl)) c_11 (fun q9 => c_41 (by rw [hw_36.2.1]; exact (q9 i hik).2))).symm, by omega, fun q9 => absurd q9 (by decide), fun _ => fcert_3 htn (fun q9 => c_8 (by rw [q9]; rfl)) hik (fun q8 => c_41 (by rw [hw_36.2.1]; exact (q8).2))⟩), ⟨by rw [ht9]; exact hP9, va_K.moved hW9.alike hK9, hD9⟩⟩, hS.F ht9⟩) hS.2.2 dX3_failureOf_113
    · have hc9 := c_11
      refine lv_aload_n hx hb dX3_failureOf_44 rfl (lv_at hl 1 rfl) ?_
      refine lv_iconst (v := 2) hx hb dX3_failureOf_45 (by decide) ?_
      refine lv_iconst (v := 0) hx hb dX3_failureOf_46 (by decide) ?_
      refine lv_iconst (v := 3) hx hb dX3_failureOf_47 (by decide) ?_
      have ct := k_cut_of (wc := [(re, .inr (3, [.ref rd, .int nd, .ref rl, .int ldi, .int sot, .int tie, .int ff, .int ft]))]) (wr := [(rdA, .inl (K, 9, .inl rg)), (rd, .inr (4, [.ref rdA, .int (nI 0)])), (tm, .inr (4, [.ref tmA, .int (nI tn)])), (tmA, .inl (K, 41, .inl tf)), (rl, .inr (4, [.ref rlA, .int (nI tn)])), (rlA, .inl (K, 41, .inl lf))]) (tc := []) hG hS hA hK hP hD [4] [0, 1, 2, 3, 5, 6] [] rfl rfl (by decide) (by decide) (by decide) rfl
      refine k_endi (As := [.ref re, .int 2, .int 0, .int 3]) ct (k_runV (As := [.int 2, .int 0, .int 3]) (rest := []) S0 Lv_X3_45 rfl (ci := 3) (q0 := 0) rfl rfl ct (c_failAt l D re rd nd rl ldi sot tie ff ft 2 0 3 H.size) hl.1 rfl (Nat.le_of_ble_eq_true rfl) rfl dX3_failureOf_48 ⟨⟨Nat.le_of_ble_eq_true rfl, Nat.le_of_ble_eq_true rfl⟩, Nat.le_of_ble_eq_true rfl, Nat.le_of_ble_eq_true rfl⟩) rfl rfl (fun r_49 _ H locs hw_50 hP hD hK hS => ?_)
      have hK : va_K D vwCl [(K, .int)] s := hK
      have hP : va_P D vwCl [(rdA, .inl (K, 9, .inl rg)), (rd, .inr (4, [.ref rdA, .int (nI 0)])), (tm, .inr (4, [.ref tmA, .int (nI tn)])), (tmA, .inl (K, 41, .inl tf)), (rl, .inr (4, [.ref rlA, .int (nI tn)])), (rlA, .inl (K, 41, .inl lf)), (re, .inr (3, [.ref rd, .int nd, .ref rl, .int ldi, .int sot, .int tie, .int 0, .int 3]))] H := hP
      have hD : va_D A [(rdA, .inl (K, 9, .inl rg)), (rd, .inr (4, [.ref rdA, .int (nI 0)])), (tm, .inr (4, [.ref tmA, .int (nI tn)])), (tmA, .inl (K, 41, .inl tf)), (rl, .inr (4, [.ref rlA, .int (nI tn)])), (rlA, .inl (K, 41, .inl lf)), (re, .inr (3, [.ref rd, .int nd, .ref rl, .int ldi, .int sot, .int tie, .int 0, .int 3]))] := hD
      have hw_50 : r_49 = 2 := hw_50
      have hw_50 := hw_50.symm
      subst hw_50
      refine k_nrm (y := 2) rfl ?_
      have hf_51 : (rg : Nat → Int32) = (cpy (nrD tn (lnF tn tf b)) rg 0) := (cpy_0 _ rg).symm
      have hP : va_P D vwCl [(rdA, .inl (K, 9, .inl (cpy (nrD tn (lnF tn tf b)) rg 0))), (rd, .inr (4, [.ref rdA, .int (nI 0)])), (tm, .inr (4, [.ref tmA, .int (nI tn)])), (tmA, .inl (K, 41, .inl tf)), (rl, .inr (4, [.ref rlA, .int (nI tn)])), (rlA, .inl (K, 41, .inl lf)), (re, .inr (3, [.ref rd, .int nd, .ref rl, .int ldi, .int sot, .int tie, .int 0, .int 3]))] H := (congrArg (fun z9 : Nat → Int32 => va_P D vwCl [(rdA, .inl (K, 9, .inl z9)), (rd, .inr (4, [.ref rdA, .int (nI 0)])), (tm, .inr (4, [.ref tmA, .int (nI tn)])), (tmA, .inl (K, 41, .inl tf)), (rl, .inr (4, [.ref rlA, .int (nI tn)])), (rlA, .inl (K, 41, .inl lf)), (re, .inr (3, [.ref rd, .int nd, .ref rl, .int ldi, .int sot, .int tie, .int 0, .int 3]))] H) hf_51).mp hP
      have hD : va_D A [(rdA, .inl (K, 9, .inl (cpy (nrD tn (lnF tn tf b)) rg 0))), (rd, .inr (4, [.ref rdA, .int (nI 0)])), (tm, .inr (4, [.ref tmA, .int (nI tn)])), (tmA, .inl (K, 41, .inl tf)), (rl, .inr (4, [.ref rlA, .int (nI tn)])), (rlA, .inl (K, 41, .inl lf)), (re, .inr (3, [.ref rd, .int nd, .ref rl, .int ldi, .int sot, .int tie, .int 0, .int 3]))] := (congrArg (fun z9 : Nat → Int32 => va_D A [(rdA, .inl (K, 9, .inl z9)), (rd, .inr (4, [.ref rdA, .int (nI 0)])), (tm, .inr (4, [.ref tmA, .int (nI tn)])), (tmA, .inl (K, 41, .inl tf)), (rl, .inr (4, [.ref rlA, .int (nI tn)])), (rlA, .inl (K, 41, .inl lf)), (re, .inr (3, [.ref rd, .int nd, .ref rl, .int ldi, .int sot, .int tie, .int 0, .int 3]))]) hf_51).mp hD
      have hf_52 : (lf : Nat → Int32) = (cpy (lnF tn tf b) rlf tn) := hlf
      have hP : va_P D vwCl [(rdA, .inl (K, 9, .inl (cpy (nrD tn (lnF tn tf b)) rg 0))), (rd, .inr (4, [.ref rdA, .int (nI 0)])), (tm, .inr (4, [.ref tmA, .int (nI tn)])), (tmA, .inl (K, 41, .inl tf)), (rl, .inr (4, [.ref rlA, .int (nI tn)])), (rlA, .inl (K, 41, .inl (cpy (lnF tn tf b) rlf tn))), (re, .inr (3, [.ref rd, .int nd, .ref rl, .int ldi, .int sot, .int tie, .int 0, .int 3]))] H := (congrArg (fun z9 : Nat → Int32 => va_P D vwCl [(rdA, .inl (K, 9, .inl (cpy (nrD tn (lnF tn tf b)) rg 0))), (rd, .inr (4, [.ref rdA, .int (nI 0)])), (tm, .inr (4, [.ref tmA, .int (nI tn)])), (tmA, .inl (K, 41, .inl tf)), (rl, .inr (4, [.ref rlA, .int (nI tn)])), (rlA, .inl (K, 41, .inl z9)), (re, .inr (3, [.ref rd, .int nd, .ref rl, .int ldi, .int sot, .int tie, .int 0, .int 3]))] H) hf_52).mp hP
      have hD : va_D A [(rdA, .inl (K, 9, .inl (cpy (nrD tn (lnF tn tf b)) rg 0))), (rd, .inr (4, [.ref rdA, .int (nI 0)])), (tm, .inr (4, [.ref tmA, .int (nI tn)])), (tmA, .inl (K, 41, .inl tf)), (rl, .inr (4, [.ref rlA, .int (nI tn)])), (rlA, .inl (K, 41, .inl (cpy (lnF tn tf b) rlf tn))), (re, .inr (3, [.ref rd, .int nd, .ref rl, .int ldi, .int sot, .int tie, .int 0, .int 3]))] := (congrArg (fun z9 : Nat → Int32 => va_D A [(rdA, .inl (K, 9, .inl (cpy (nrD tn (lnF tn tf b)) rg 0))), (rd, .inr (4, [.ref rdA, .int (nI 0)])), (tm, .inr (4, [.ref tmA, .int (nI tn)])), (tmA, .inl (K, 41, .inl tf)), (rl, .inr (4, [.ref rlA, .int (nI tn)])), (rlA, .inl (K, 41, .inl z9)), (re, .inr (3, [.ref rd, .int nd, .ref rl, .int ldi, .int sot, .int tie, .int 0, .int 3]))]) hf_52).mp hD
      have hP9 : va_P D vwCl [(re, .inr (3, [.ref rd, .int nd, .ref rl, .int ldi, .int sot, .int tie, .int 0, .int 3])), (rd, .inr (4, [.ref rdA, .int (nI 0)])), (rdA, .inl (K, 9, .inl (cpy (nrD tn (lnF tn tf b)) rg 0))), (rl, .inr (4, [.ref rlA, .int (nI tn)])), (rlA, .inl (K, 41, .inl (cpy (lnF tn tf b) rlf tn))), (tm, .inr (4, [.ref tmA, .int (nI tn)])), (tmA, .inl (K, 41, .inl tf))] H := hP.sub [6, 1, 0, 4, 5, 2, 3] rfl
      have hD9 : va_D A [(re, .inr (3, [.ref rd, .int nd, .ref rl, .int ldi, .int sot, .int tie, .int 0, .int 3])), (rd, .inr (4, [.ref rdA, .int (nI 0)])), (rdA, .inl (K, 9, .inl (cpy (nrD tn (lnF tn tf b)) rg 0))), (rl, .inr (4, [.ref rlA, .int (nI tn)])), (rlA, .inl (K, 41, .inl (cpy (lnF tn tf b) rlf tn))), (tm, .inr (4, [.ref tmA, .int (nI tn)])), (tmA, .inl (K, 41, .inl tf))] := hD.sub [6, 1, 0, 4, 5, 2, 3] (by decide) rfl
      have hK9 : va_K D vwCl [] s := hK.sub [] rfl
      exact W.iret (v := 2) hx hb hr (fun t ht9 hW9 => ⟨⟨2, (nd, ldi, sot, tie, 0, 3, 0), rfl, by (exact ⟨(failF_2 (fun q9 => c_8 (by rw [q9]; rfl)) c_11).symm, Nat.zero_le _, fun q9 => absurd q9 (by decide), fun _ => fcert_2 htn (fun q9 => c_8 (by rw [q9]; rfl)) c_11⟩), ⟨by rw [ht9]; exact hP9, va_K.moved hW9.alike hK9, hD9⟩⟩, hS.F ht9⟩) hS.2.2 dX3_failureOf_51
  · have hc9 := c_8
    refine lv_aload_n hx hb dX3_failureOf_23 rfl (lv_at hl 1 rfl) ?_
    refine lv_iconst (v := 1) hx hb dX3_failureOf_24 (by decide) ?_
    refine lv_iconst (v := 0) hx hb dX3_failureOf_25 (by decide) ?_
    refine lv_aload_n hx hb dX3_failureOf_26 rfl (lv_at hl 1 rfl) ?_
    refine va_get (D := D) (ci := 3) (v := .ref rl) (C := RX3) (T := TX3) (N := 8) hx hb ht inA_X3 hown hK hP 1 rfl rfl 2 (by decide) (ht _ lf_X3_20) (fun _ h9 => h9) rfl dX3_failureOf_27 ?_
    have ct := k_cut_of (wc := [(rl, .inr (4, [.ref rlA, .int (nI tn)]))]) (wr := [(rdA, .inl (K, 9, .inl rg)), (re, .inr (3, [.ref rd, .int nd, .ref rl, .int ldi, .int sot, .int tie, .int ff, .int ft])), (rd, .inr (4, [.ref rdA, .int (nI 0)])), (rlA, .inl (K, 41, .inl lf)), (tm, .inr (4, [.ref tmA, .int (nI tn)])), (tmA, .inl (K, 41, .inl tf))]) (tc := []) hG hS hA hK hP hD [6] [0, 1, 2, 3, 4, 5] [] rfl rfl (by decide) (by decide) (by decide) rfl
    refine k_endi (As := [.ref rl]) ct (k_runV (As := []) (rest := [.int 0, .int 1, .ref re]) S0 Lv_X3_37 rfl (ci := 4) (q0 := 0) rfl rfl ct (c_Row_size l D rl rlA (nI tn) H.size) hl.1 rfl (Nat.le_of_ble_eq_true rfl) rfl dX3_failureOf_30 ⟨⟨Nat.le_of_ble_eq_true rfl, Nat.le_of_ble_eq_true rfl⟩, Nat.le_of_ble_eq_true rfl, Nat.le_of_ble_eq_true rfl⟩) rfl rfl (fun r_53 _ H locs hw_54 hP hD hK hS => ?_)
    have hK : va_K D vwCl [(K, .int)] s := hK
    have hP : va_P D vwCl [(rdA, .inl (K, 9, .inl rg)), (re, .inr (3, [.ref rd, .int nd, .ref rl, .int ldi, .int sot, .int tie, .int ff, .int ft])), (rd, .inr (4, [.ref rdA, .int (nI 0)])), (rlA, .inl (K, 41, .inl lf)), (tm, .inr (4, [.ref tmA, .int (nI tn)])), (tmA, .inl (K, 41, .inl tf)), (rl, .inr (4, [.ref rlA, .int (nI tn)]))] H := hP
    have hD : va_D A [(rdA, .inl (K, 9, .inl rg)), (re, .inr (3, [.ref rd, .int nd, .ref rl, .int ldi, .int sot, .int tie, .int ff, .int ft])), (rd, .inr (4, [.ref rdA, .int (nI 0)])), (rlA, .inl (K, 41, .inl lf)), (tm, .inr (4, [.ref tmA, .int (nI tn)])), (tmA, .inl (K, 41, .inl tf)), (rl, .inr (4, [.ref rlA, .int (nI tn)]))] := hD
    have hw_54 : r_53 = (nI tn) := hw_54
    have hw_54 := hw_54.symm
    subst hw_54
    refine k_nrm (y := (nI tn)) rfl ?_
    have ct := k_cut_of (wc := [(re, .inr (3, [.ref rd, .int nd, .ref rl, .int ldi, .int sot, .int tie, .int ff, .int ft]))]) (wr := [(rdA, .inl (K, 9, .inl rg)), (rd, .inr (4, [.ref rdA, .int (nI 0)])), (rlA, .inl (K, 41, .inl lf)), (tm, .inr (4, [.ref tmA, .int (nI tn)])), (tmA, .inl (K, 41, .inl tf)), (rl, .inr (4, [.ref rlA, .int (nI tn)]))]) (tc := []) hG hS hA hK hP hD [1] [0, 2, 3, 4, 5, 6] [] rfl rfl (by decide) (by decide) (by decide) rfl
    refine k_endi (As := [.ref re, .int 1, .int 0, .int (nI tn)]) ct (k_runV (As := [.int 1, .int 0, .int (nI tn)]) (rest := []) S0 Lv_X3_45 rfl (ci := 3) (q0 := 0) rfl rfl ct (c_failAt l D re rd nd rl ldi sot tie ff ft 1 0 (nI tn) H.size) hl.1 rfl (Nat.le_of_ble_eq_true rfl) rfl dX3_failureOf_33 ⟨⟨Nat.le_of_ble_eq_true rfl, Nat.le_of_ble_eq_true rfl⟩, Nat.le_of_ble_eq_true rfl, Nat.le_of_ble_eq_true rfl⟩) rfl rfl (fun r_55 _ H locs hw_56 hP hD hK hS => ?_)
    have hK : va_K D vwCl [(K, .int)] s := hK
    have hP : va_P D vwCl [(rdA, .inl (K, 9, .inl rg)), (rd, .inr (4, [.ref rdA, .int (nI 0)])), (rlA, .inl (K, 41, .inl lf)), (tm, .inr (4, [.ref tmA, .int (nI tn)])), (tmA, .inl (K, 41, .inl tf)), (rl, .inr (4, [.ref rlA, .int (nI tn)])), (re, .inr (3, [.ref rd, .int nd, .ref rl, .int ldi, .int sot, .int tie, .int 0, .int (nI tn)]))] H := hP
    have hD : va_D A [(rdA, .inl (K, 9, .inl rg)), (rd, .inr (4, [.ref rdA, .int (nI 0)])), (rlA, .inl (K, 41, .inl lf)), (tm, .inr (4, [.ref tmA, .int (nI tn)])), (tmA, .inl (K, 41, .inl tf)), (rl, .inr (4, [.ref rlA, .int (nI tn)])), (re, .inr (3, [.ref rd, .int nd, .ref rl, .int ldi, .int sot, .int tie, .int 0, .int (nI tn)]))] := hD
    have hw_56 : r_55 = 1 := hw_56
    have hw_56 := hw_56.symm
    subst hw_56
    refine k_nrm (y := 1) rfl ?_
    have hf_57 : (rg : Nat → Int32) = (cpy (nrD tn (lnF tn tf b)) rg 0) := (cpy_0 _ rg).symm
    have hP : va_P D vwCl [(rdA, .inl (K, 9, .inl (cpy (nrD tn (lnF tn tf b)) rg 0))), (rd, .inr (4, [.ref rdA, .int (nI 0)])), (rlA, .inl (K, 41, .inl lf)), (tm, .inr (4, [.ref tmA, .int (nI tn)])), (tmA, .inl (K, 41, .inl tf)), (rl, .inr (4, [.ref rlA, .int (nI tn)])), (re, .inr (3, [.ref rd, .int nd, .ref rl, .int ldi, .int sot, .int tie, .int 0, .int (nI tn)]))] H := (congrArg (fun z9 : Nat → Int32 => va_P D vwCl [(rdA, .inl (K, 9, .inl z9)), (rd, .inr (4, [.ref rdA, .int (nI 0)])), (rlA, .inl (K, 41, .inl lf)), (tm, .inr (4, [.ref tmA, .int (nI tn)])), (tmA, .inl (K, 41, .inl tf)), (rl, .inr (4, [.ref rlA, .int (nI tn)])), (re, .inr (3, [.ref rd, .int nd, .ref rl, .int ldi, .int sot, .int tie, .int 0, .int (nI tn)]))] H) hf_57).mp hP
    have hD : va_D A [(rdA, .inl (K, 9, .inl (cpy (nrD tn (lnF tn tf b)) rg 0))), (rd, .inr (4, [.ref rdA, .int (nI 0)])), (rlA, .inl (K, 41, .inl lf)), (tm, .inr (4, [.ref tmA, .int (nI tn)])), (tmA, .inl (K, 41, .inl tf)), (rl, .inr (4, [.ref rlA, .int (nI tn)])), (re, .inr (3, [.ref rd, .int nd, .ref rl, .int ldi, .int sot, .int tie, .int 0, .int (nI tn)]))] := (congrArg (fun z9 : Nat → Int32 => va_D A [(rdA, .inl (K, 9, .inl z9)), (rd, .inr (4, [.ref rdA, .int (nI 0)])), (rlA, .inl (K, 41, .inl lf)), (tm, .inr (4, [.ref tmA, .int (nI tn)])), (tmA, .inl (K, 41, .inl tf)), (rl, .inr (4, [.ref rlA, .int (nI tn)])), (re, .inr (3, [.ref rd, .int nd, .ref rl, .int ldi, .int sot, .int tie, .int 0, .int (nI tn)]))]) hf_57).mp hD
    have hf_58 : (lf : Nat → Int32) = (cpy (lnF tn tf b) rlf tn) := hlf
    have hP : va_P D vwCl [(rdA, .inl (K, 9, .inl (cpy (nrD tn (lnF tn tf b)) rg 0))), (rd, .inr (4, [.ref rdA, .int (nI 0)])), (rlA, .inl (K, 41, .inl (cpy (lnF tn tf b) rlf tn))), (tm, .inr (4, [.ref tmA, .int (nI tn)])), (tmA, .inl (K, 41, .inl tf)), (rl, .inr (4, [.ref rlA, .int (nI tn)])), (re, .inr (3, [.ref rd, .int nd, .ref rl, .int ldi, .int sot, .int tie, .int 0, .int (nI tn)]))] H := (congrArg (fun z9 : Nat → Int32 => va_P D vwCl [(rdA, .inl (K, 9, .inl (cpy (nrD tn (lnF tn tf b)) rg 0))), (rd, .inr (4, [.ref rdA, .int (nI 0)])), (rlA, .inl (K, 41, .inl z9)), (tm, .inr (4, [.ref tmA, .int (nI tn)])), (tmA, .inl (K, 41, .inl tf)), (rl, .inr (4, [.ref rlA, .int (nI tn)])), (re, .inr (3, [.ref rd, .int nd, .ref rl, .int ldi, .int sot, .int tie, .int 0, .int (nI tn)]))] H) hf_58).mp hP
    have hD : va_D A [(rdA, .inl (K, 9, .inl (cpy (nrD tn (lnF tn tf b)) rg 0))), (rd, .inr (4, [.ref rdA, .int (nI 0)])), (rlA, .inl (K, 41, .inl (cpy (lnF tn tf b) rlf tn))), (tm, .inr (4, [.ref tmA, .int (nI tn)])), (tmA, .inl (K, 41, .inl tf)), (rl, .inr (4, [.ref rlA, .int (nI tn)])), (re, .inr (3, [.ref rd, .int nd, .ref rl, .int ldi, .int sot, .int tie, .int 0, .int (nI tn)]))] := (congrArg (fun z9 : Nat → Int32 => va_D A [(rdA, .inl (K, 9, .inl (cpy (nrD tn (lnF tn tf b)) rg 0))), (rd, .inr (4, [.ref rdA, .int (nI 0)])), (rlA, .inl (K, 41, .inl z9)), (tm, .inr (4, [.ref tmA, .int (nI tn)])), (tmA, .inl (K, 41, .inl tf)), (rl, .inr (4, [.ref rlA, .int (nI tn)])), (re, .inr (3, [.ref rd, .int nd, .ref rl, .int ldi, .int sot, .int tie, .int 0, .int (nI tn)]))]) hf_58).mp hD
    have hP9 : va_P D vwCl [(re, .inr (3, [.ref rd, .int nd, .ref rl, .int ldi, .int sot, .int tie, .int 0, .int (nI tn)])), (rd, .inr (4, [.ref rdA, .int (nI 0)])), (rdA, .inl (K, 9, .inl (cpy (nrD tn (lnF tn tf b)) rg 0))), (rl, .inr (4, [.ref rlA, .int (nI tn)])), (rlA, .inl (K, 41, .inl (cpy (lnF tn tf b) rlf tn))), (tm, .inr (4, [.ref tmA, .int (nI tn)])), (tmA, .inl (K, 41, .inl tf))] H := hP.sub [6, 1, 0, 5, 2, 3, 4] rfl
    have hD9 : va_D A [(re, .inr (3, [.ref rd, .int nd, .ref rl, .int ldi, .int sot, .int tie, .int 0, .int (nI tn)])), (rd, .inr (4, [.ref rdA, .int (nI 0)])), (rdA, .inl (K, 9, .inl (cpy (nrD tn (lnF tn tf b)) rg 0))), (rl, .inr (4, [.ref rlA, .int (nI tn)])), (rlA, .inl (K, 41, .inl (cpy (lnF tn tf b) rlf tn))), (tm, .inr (4, [.ref tmA, .int (nI tn)])), (tmA, .inl (K, 41, .inl tf))] := hD.sub [6, 1, 0, 5, 2, 3, 4] (by decide) rfl
    have hK9 : va_K D vwCl [] s := hK.sub [] rfl
    exact W.iret (v := 1) hx hb hr (fun t ht9 hW9 => ⟨⟨1, (nd, ldi, sot, tie, 0, (nI tn), 0), rfl, by (exact ⟨(failF_1 (dgc_z tn htn c_8)).symm, Nat.zero_le _, fun q9 => absurd q9 (by decide), fun _ => fcert_1 (dgc_z tn htn c_8)⟩), ⟨by rw [ht9]; exact hP9, va_K.moved hW9.alike hK9, hD9⟩⟩, hS.F ht9⟩) hS.2.2 dX3_failureOf_36
