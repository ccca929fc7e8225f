set_option maxRecDepth 20000 in
theorem lk_X8_number : Cond.code yX8_number cX8_number 3 (some .int) ∈ wsA := mA 965 rfl rfl
theorem ly_X8_number : k_y yX8_number 0 := ⟨by decide +kernel, by decide +kernel, by decide +kernel⟩
set_option maxRecDepth 20000 in
theorem lm_X8_number : Cond.instanceMethod yX8_number ∈ wsA := mA 964 rfl rfl
theorem le_X8_number : Cond.selects (yX8_number).cls yX8_number yX8_number ∈ wsA := mS 43 rfl rfl
set_option maxRecDepth 20000 in
theorem Lv_X8_116 : k_LV RX8 116 yX8_number cX8_number 3 (some .int) 0 := ⟨mA 962 rfl rfl, lm_X8_number, le_X8_number, li_BarcodeWandModel, lk_X8_number, ly_X8_number⟩
theorem dX8_notes_0 : decode cX8_notes 0 = .ok (.iconst 0, 1) := by decide +kernel
theorem dX8_notes_1 : decode cX8_notes 1 = .ok (.istore_n 1, 1) := by decide +kernel
theorem dX8_notes_2 : decode cX8_notes 2 = .ok (.iload_n 1, 1) := by decide +kernel
theorem dX8_notes_3 : decode cX8_notes 3 = .ok (.aload_n 0, 1) := by decide +kernel
theorem dX8_notes_4 : decode cX8_notes 4 = .ok (.getfield 7, 3) := by decide +kernel
theorem dX8_notes_7 : decode cX8_notes 7 = .ok (.bipush 94, 2) := by decide +kernel
theorem dX8_notes_9 : decode cX8_notes 9 = .ok (.iaload, 1) := by decide +kernel
theorem dX8_notes_10 : decode cX8_notes 10 = .ok (.if_icmp .ge 55, 3) := by decide +kernel
theorem dX8_notes_13 : decode cX8_notes 13 = .ok (.aload_n 0, 1) := by decide +kernel
theorem dX8_notes_14 : decode cX8_notes 14 = .ok (.getfield 7, 3) := by decide +kernel
theorem dX8_notes_17 : decode cX8_notes 17 = .ok (.bipush 95, 2) := by decide +kernel
theorem dX8_notes_19 : decode cX8_notes 19 = .ok (.iload_n 1, 1) := by decide +kernel
theorem dX8_notes_20 : decode cX8_notes 20 = .ok (.iadd, 1) := by decide +kernel
theorem dX8_notes_21 : decode cX8_notes 21 = .ok (.iaload, 1) := by decide +kernel
theorem dX8_notes_22 : decode cX8_notes 22 = .ok (.aload_n 0, 1) := by decide +kernel
theorem dX8_notes_23 : decode cX8_notes 23 = .ok (.invokevirtual 116, 3) := by decide +kernel
theorem dX8_notes_26 : decode cX8_notes 26 = .ok (.if_icmp .ne 33, 3) := by decide +kernel
theorem dX8_notes_29 : decode cX8_notes 29 = .ok (.aload_n 0, 1) := by decide +kernel
theorem dX8_notes_30 : decode cX8_notes 30 = .ok (.getfield 7, 3) := by decide +kernel
theorem dX8_notes_33 : decode cX8_notes 33 = .ok (.bipush 105, 2) := by decide +kernel
theorem dX8_notes_35 : decode cX8_notes 35 = .ok (.iload_n 1, 1) := by decide +kernel
theorem dX8_notes_36 : decode cX8_notes 36 = .ok (.iadd, 1) := by decide +kernel
theorem dX8_notes_37 : decode cX8_notes 37 = .ok (.iaload, 1) := by decide +kernel
theorem dX8_notes_38 : decode cX8_notes 38 = .ok (.aload_n 0, 1) := by decide +kernel
theorem dX8_notes_39 : decode cX8_notes 39 = .ok (.getfield 98, 3) := by decide +kernel
theorem dX8_notes_42 : decode cX8_notes 42 = .ok (.if_icmp .ne 17, 3) := by decide +kernel
theorem dX8_notes_45 : decode cX8_notes 45 = .ok (.aload_n 0, 1) := by decide +kernel
theorem dX8_notes_46 : decode cX8_notes 46 = .ok (.getfield 7, 3) := by decide +kernel
theorem dX8_notes_49 : decode cX8_notes 49 = .ok (.bipush 115, 2) := by decide +kernel
theorem dX8_notes_51 : decode cX8_notes 51 = .ok (.iload_n 1, 1) := by decide +kernel
theorem dX8_notes_52 : decode cX8_notes 52 = .ok (.iadd, 1) := by decide +kernel
theorem dX8_notes_53 : decode cX8_notes 53 = .ok (.dup2, 1) := by decide +kernel
theorem dX8_notes_54 : decode cX8_notes 54 = .ok (.iaload, 1) := by decide +kernel
theorem dX8_notes_55 : decode cX8_notes 55 = .ok (.iconst 1, 1) := by decide +kernel
theorem dX8_notes_56 : decode cX8_notes 56 = .ok (.iadd, 1) := by decide +kernel
theorem dX8_notes_57 : decode cX8_notes 57 = .ok (.iastore, 1) := by decide +kernel
theorem dX8_notes_58 : decode cX8_notes 58 = .ok (.return_, 1) := by decide +kernel
theorem dX8_notes_59 : decode cX8_notes 59 = .ok (.iinc 1 1, 3) := by decide +kernel
theorem dX8_notes_62 : decode cX8_notes 62 = .ok (.goto (-60), 3) := by decide +kernel
theorem dX8_notes_65 : decode cX8_notes 65 = .ok (.aload_n 0, 1) := by decide +kernel
theorem dX8_notes_66 : decode cX8_notes 66 = .ok (.getfield 7, 3) := by decide +kernel
theorem dX8_notes_69 : decode cX8_notes 69 = .ok (.bipush 94, 2) := by decide +kernel
theorem dX8_notes_71 : decode cX8_notes 71 = .ok (.iaload, 1) := by decide +kernel
theorem dX8_notes_72 : decode cX8_notes 72 = .ok (.bipush 10, 2) := by decide +kernel
theorem dX8_notes_74 : decode cX8_notes 74 = .ok (.if_icmp .ne 88, 3) := by decide +kernel
theorem dX8_notes_77 : decode cX8_notes 77 = .ok (.aload_n 0, 1) := by decide +kernel
theorem dX8_notes_78 : decode cX8_notes 78 = .ok (.getfield 7, 3) := by decide +kernel
theorem dX8_notes_81 : decode cX8_notes 81 = .ok (.bipush 94, 2) := by decide +kernel
theorem dX8_notes_83 : decode cX8_notes 83 = .ok (.dup2, 1) := by decide +kernel
theorem dX8_notes_84 : decode cX8_notes 84 = .ok (.iaload, 1) := by decide +kernel
theorem dX8_notes_85 : decode cX8_notes 85 = .ok (.iconst 1, 1) := by decide +kernel
theorem dX8_notes_86 : decode cX8_notes 86 = .ok (.isub, 1) := by decide +kernel
theorem dX8_notes_87 : decode cX8_notes 87 = .ok (.iastore, 1) := by decide +kernel
theorem dX8_notes_88 : decode cX8_notes 88 = .ok (.iconst 0, 1) := by decide +kernel
theorem dX8_notes_89 : decode cX8_notes 89 = .ok (.istore_n 1, 1) := by decide +kernel
theorem dX8_notes_90 : decode cX8_notes 90 = .ok (.iload_n 1, 1) := by decide +kernel
theorem dX8_notes_91 : decode cX8_notes 91 = .ok (.bipush 9, 2) := by decide +kernel
theorem dX8_notes_93 : decode cX8_notes 93 = .ok (.if_icmp .ge 69, 3) := by decide +kernel
theorem dX8_notes_96 : decode cX8_notes 96 = .ok (.aload_n 0, 1) := by decide +kernel
theorem dX8_notes_97 : decode cX8_notes 97 = .ok (.getfield 7, 3) := by decide +kernel
theorem dX8_notes_100 : decode cX8_notes 100 = .ok (.bipush 95, 2) := by decide +kernel
theorem dX8_notes_102 : decode cX8_notes 102 = .ok (.iload_n 1, 1) := by decide +kernel
theorem dX8_notes_103 : decode cX8_notes 103 = .ok (.iadd, 1) := by decide +kernel
theorem dX8_notes_104 : decode cX8_notes 104 = .ok (.aload_n 0, 1) := by decide +kernel
theorem dX8_notes_105 : decode cX8_notes 105 = .ok (.getfield 7, 3) := by decide +kernel
theorem dX8_notes_108 : decode cX8_notes 108 = .ok (.bipush 95, 2) := by decide +kernel
theorem dX8_notes_110 : decode cX8_notes 110 = .ok (.iload_n 1, 1) := by decide +kernel
theorem dX8_notes_111 : decode cX8_notes 111 = .ok (.iadd, 1) := by decide +kernel
theorem dX8_notes_112 : decode cX8_notes 112 = .ok (.iconst 1, 1) := by decide +kernel
theorem dX8_notes_113 : decode cX8_notes 113 = .ok (.iadd, 1) := by decide +kernel
theorem dX8_notes_114 : decode cX8_notes 114 = .ok (.iaload, 1) := by decide +kernel
theorem dX8_notes_115 : decode cX8_notes 115 = .ok (.iastore, 1) := by decide +kernel
theorem dX8_notes_116 : decode cX8_notes 116 = .ok (.aload_n 0, 1) := by decide +kernel
theorem dX8_notes_117 : decode cX8_notes 117 = .ok (.getfield 7, 3) := by decide +kernel
theorem dX8_notes_120 : decode cX8_notes 120 = .ok (.bipush 105, 2) := by decide +kernel
theorem dX8_notes_122 : decode cX8_notes 122 = .ok (.iload_n 1, 1) := by decide +kernel
theorem dX8_notes_123 : decode cX8_notes 123 = .ok (.iadd, 1) := by decide +kernel
theorem dX8_notes_124 : decode cX8_notes 124 = .ok (.aload_n 0, 1) := by decide +kernel
theorem dX8_notes_125 : decode cX8_notes 125 = .ok (.getfield 7, 3) := by decide +kernel
theorem dX8_notes_128 : decode cX8_notes 128 = .ok (.bipush 105, 2) := by decide +kernel
theorem dX8_notes_130 : decode cX8_notes 130 = .ok (.iload_n 1, 1) := by decide +kernel
theorem dX8_notes_131 : decode cX8_notes 131 = .ok (.iadd, 1) := by decide +kernel
theorem dX8_notes_132 : decode cX8_notes 132 = .ok (.iconst 1, 1) := by decide +kernel
theorem dX8_notes_133 : decode cX8_notes 133 = .ok (.iadd, 1) := by decide +kernel
theorem dX8_notes_134 : decode cX8_notes 134 = .ok (.iaload, 1) := by decide +kernel
theorem dX8_notes_135 : decode cX8_notes 135 = .ok (.iastore, 1) := by decide +kernel
theorem dX8_notes_136 : decode cX8_notes 136 = .ok (.aload_n 0, 1) := by decide +kernel
theorem dX8_notes_137 : decode cX8_notes 137 = .ok (.getfield 7, 3) := by decide +kernel
theorem dX8_notes_140 : decode cX8_notes 140 = .ok (.bipush 115, 2) := by decide +kernel
theorem dX8_notes_142 : decode cX8_notes 142 = .ok (.iload_n 1, 1) := by decide +kernel
theorem dX8_notes_143 : decode cX8_notes 143 = .ok (.iadd, 1) := by decide +kernel
theorem dX8_notes_144 : decode cX8_notes 144 = .ok (.aload_n 0, 1) := by decide +kernel
theorem dX8_notes_145 : decode cX8_notes 145 = .ok (.getfield 7, 3) := by decide +kernel
theorem dX8_notes_148 : decode cX8_notes 148 = .ok (.bipush 115, 2) := by decide +kernel
theorem dX8_notes_150 : decode cX8_notes 150 = .ok (.iload_n 1, 1) := by decide +kernel
theorem dX8_notes_151 : decode cX8_notes 151 = .ok (.iadd, 1) := by decide +kernel
theorem dX8_notes_152 : decode cX8_notes 152 = .ok (.iconst 1, 1) := by decide +kernel
theorem dX8_notes_153 : decode cX8_notes 153 = .ok (.iadd, 1) := by decide +kernel
theorem dX8_notes_154 : decode cX8_notes 154 = .ok (.iaload, 1) := by decide +kernel
theorem dX8_notes_155 : decode cX8_notes 155 = .ok (.iastore, 1) := by decide +kernel
theorem dX8_notes_156 : decode cX8_notes 156 = .ok (.iinc 1 1, 3) := by decide +kernel
theorem dX8_notes_159 : decode cX8_notes 159 = .ok (.goto (-69), 3) := by decide +kernel
theorem dX8_notes_162 : decode cX8_notes 162 = .ok (.aload_n 0, 1) := by decide +kernel
theorem dX8_notes_163 : decode cX8_notes 163 = .ok (.getfield 7, 3) := by decide +kernel
theorem dX8_notes_166 : decode cX8_notes 166 = .ok (.bipush 95, 2) := by decide +kernel
theorem dX8_notes_168 : decode cX8_notes 168 = .ok (.aload_n 0, 1) := by decide +kernel
theorem dX8_notes_169 : decode cX8_notes 169 = .ok (.getfield 7, 3) := by decide +kernel
theorem dX8_notes_172 : decode cX8_notes 172 = .ok (.bipush 94, 2) := by decide +kernel
theorem dX8_notes_174 : decode cX8_notes 174 = .ok (.iaload, 1) := by decide +kernel
theorem dX8_notes_175 : decode cX8_notes 175 = .ok (.iadd, 1) := by decide +kernel
theorem dX8_notes_176 : decode cX8_notes 176 = .ok (.aload_n 0, 1) := by decide +kernel
theorem dX8_notes_177 : decode cX8_notes 177 = .ok (.invokevirtual 116, 3) := by decide +kernel
theorem dX8_notes_180 : decode cX8_notes 180 = .ok (.iastore, 1) := by decide +kernel
theorem dX8_notes_181 : decode cX8_notes 181 = .ok (.aload_n 0, 1) := by decide +kernel
theorem dX8_notes_182 : decode cX8_notes 182 = .ok (.getfield 7, 3) := by decide +kernel
theorem dX8_notes_185 : decode cX8_notes 185 = .ok (.bipush 105, 2) := by decide +kernel
theorem dX8_notes_187 : decode cX8_notes 187 = .ok (.aload_n 0, 1) := by decide +kernel
theorem dX8_notes_188 : decode cX8_notes 188 = .ok (.getfield 7, 3) := by decide +kernel
theorem dX8_notes_191 : decode cX8_notes 191 = .ok (.bipush 94, 2) := by decide +kernel
theorem dX8_notes_193 : decode cX8_notes 193 = .ok (.iaload, 1) := by decide +kernel
theorem dX8_notes_194 : decode cX8_notes 194 = .ok (.iadd, 1) := by decide +kernel
theorem dX8_notes_195 : decode cX8_notes 195 = .ok (.aload_n 0, 1) := by decide +kernel
theorem dX8_notes_196 : decode cX8_notes 196 = .ok (.getfield 98, 3) := by decide +kernel
theorem dX8_notes_199 : decode cX8_notes 199 = .ok (.iastore, 1) := by decide +kernel
theorem dX8_notes_200 : decode cX8_notes 200 = .ok (.aload_n 0, 1) := by decide +kernel
theorem dX8_notes_201 : decode cX8_notes 201 = .ok (.getfield 7, 3) := by decide +kernel
theorem dX8_notes_204 : decode cX8_notes 204 = .ok (.bipush 115, 2) := by decide +kernel
theorem dX8_notes_206 : decode cX8_notes 206 = .ok (.aload_n 0, 1) := by decide +kernel
theorem dX8_notes_207 : decode cX8_notes 207 = .ok (.getfield 7, 3) := by decide +kernel
theorem dX8_notes_210 : decode cX8_notes 210 = .ok (.bipush 94, 2) := by decide +kernel
theorem dX8_notes_212 : decode cX8_notes 212 = .ok (.iaload, 1) := by decide +kernel
theorem dX8_notes_213 : decode cX8_notes 213 = .ok (.iadd, 1) := by decide +kernel
theorem dX8_notes_214 : decode cX8_notes 214 = .ok (.iconst 1, 1) := by decide +kernel
theorem dX8_notes_215 : decode cX8_notes 215 = .ok (.iastore, 1) := by decide +kernel
theorem dX8_notes_216 : decode cX8_notes 216 = .ok (.aload_n 0, 1) := by decide +kernel
theorem dX8_notes_217 : decode cX8_notes 217 = .ok (.getfield 7, 3) := by decide +kernel
theorem dX8_notes_220 : decode cX8_notes 220 = .ok (.bipush 94, 2) := by decide +kernel
theorem dX8_notes_222 : decode cX8_notes 222 = .ok (.dup2, 1) := by decide +kernel
theorem dX8_notes_223 : decode cX8_notes 223 = .ok (.iaload, 1) := by decide +kernel
theorem dX8_notes_224 : decode cX8_notes 224 = .ok (.iconst 1, 1) := by decide +kernel
theorem dX8_notes_225 : decode cX8_notes 225 = .ok (.iadd, 1) := by decide +kernel
theorem dX8_notes_226 : decode cX8_notes 226 = .ok (.iastore, 1) := by decide +kernel
theorem dX8_notes_227 : decode cX8_notes 227 = .ok (.return_, 1) := by decide +kernel
set_option maxHeartbeats 4000000 in
set_option maxRecDepth 100000 in
theorem c_M_notes (l : Launch) (D : va_G) (mo : Nat) (ms : Nat) (sv : Int32) (mb : Nat) (ty : Int32) (th : Int32) (mk : Nat) (ml : Int32) (mfd : Nat) (n : Nat) (sp : Int32) (on : Int32) (tw : Int32) (K : ClassId) (sf : Nat → Int32) (fd : Nat → Int32) (k : Nat) (h94 : sf 94 = nI k) (hk : k ≤ 10) (hn : n ≤ 9) (sz : Nat) : k_Mv (S := Nat → Int32) l D yX8_notes cX8_notes 2 none 1 0 0 22 [.ref mo] [(mo, .inr (8, [.ref ms, .int sv, .ref mb, .int ty, .int th, .ref mk, .int ml, .ref mfd, .int (nI n), .int sp, .int on, .int tw])), (ms, .inl (K, 889, .inl sf)), (mfd, .inl (K, 9, .inl fd))] [(K, .int)] (fun (sg : Nat → Int32) => NT sf sg k (numF fd n) (nI n)) (fun sg => [(mo, .inr (8, [.ref ms, .int sv, .ref mb, .int ty, .int th, .ref mk, .int ml, .ref mfd, .int (nI n), .int sp, .int on, .int tw])), (ms, .inl (K, 889, .inl sg)), (mfd, .inl (K, 9, .inl fd))]) (fun sg => []) sz := by
  refine Met.ofW (cc := cX8_notes) (maxL := 2) (ret := none) (by decide) rfl ?_
  intro p e s m args below meth c s₁ B hml hv
  obtain ⟨rfl, hsz, hP, hK, hD0, hG⟩ := hv
  have hx := B.exec
  have hb := B.bytes
  have hr := B.returns
  have ht : ∀ v9 ∈ wsA, v9.before ([.ref mo] : List Value).toArray s = true := fun v9 h9 => atoms_spec (ws := k_ws yX8_notes cX8_notes 2 none) B.pre v9 (List.mem_cons_of_mem _ h9)
  have hown : s.vm.findClass RX8 = some m.cls := findClass_of_methodNamed B.named
  have S0 : k_C p s m ([.ref mo] : List Value).toArray c cX8_notes 2 RX8 := ⟨hx, hb, hml, hown, ht⟩
  have hlocks := B.notSynchronized
  subst hsz
  have hD := hD0.self (sz := s.heap.size)
  generalize hAe : va_A [(mo, .inr (8, [.ref ms, .int sv, .ref mb, .int ty, .int th, .ref mk, .int ml, .ref mfd, .int (nI n), .int sp, .int on, .int tw])), (ms, .inl (K, 889, .inl sf)), (mfd, .inl (K, 9, .inl fd))] s.heap.size = A at hD hG ⊢
  have hA : ∀ q : Nat, s.heap.size ≤ q → A q := fun q h => by rw [← hAe]; exact Or.inr h
  have hS : va_S A s.heap s.heap [] := va_S.rf
  have hl := lv_entry ([.ref mo]) (n := 2) (Nat.le_of_ble_eq_true rfl)
  rw [lg_entry_eq]
  generalize (lg_sl ([.ref mo]) ++ List.replicate (2 - (lg_sl ([.ref mo])).length) Slot.unset).toArray = ls at hl ⊢
  have hl : lv_has ls 2 [(0, .ref mo)] := hl
  have hP : va_P D vwCl [(mo, .inr (8, [.ref ms, .int sv, .ref mb, .int ty, .int th, .ref mk, .int ml, .ref mfd, .int (nI n), .int sp, .int on, .int tw])), (ms, .inl (K, 889, .inl sf)), (mfd, .inl (K, 9, .inl fd))] s.heap := hP
  refine lv_iconst (v := 0) hx hb dX8_notes_0 (by decide) ?_
  refine lv_istore_n (lv' := [(1, .int 0), (0, .ref mo)]) hx hb dX8_notes_1 rfl hl (by decide) rfl (fun ls hl => ?_)
  have hl : lv_has ls 2 [(1, .int (nI 0)), (0, .ref mo)] := hl
  refine k_loop (ι := Nat) (fun (i : Nat) H9 locs9 ls9 => (i ≤ k) ∧ (∀ m, m < i → ¬ (sf (95 + m) = (numF fd n) ∧ sf (105 + m) = (nI n))) ∧ va_P D vwCl [(mo, .inr (8, [.ref ms, .int sv, .ref mb, .int ty, .int th, .ref mk, .int ml, .ref mfd, .int (nI n), .int sp, .int on, .int tw])), (ms, .inl (K, 889, .inl sf)), (mfd, .inl (K, 9, .inl fd))] H9 ∧ va_D A [(mo, .inr (8, [.ref ms, .int sv, .ref mb, .int ty, .int th, .ref mk, .int ml, .ref mfd, .int (nI n), .int sp, .int on, .int tw])), (ms, .inl (K, 889, .inl sf)), (mfd, .inl (K, 9, .inl fd))] ∧ va_S A s.heap H9 locs9 ∧ lv_has ls9 2 [(1, .int (nI i)), (0, .ref mo)]) (fun (i : Nat) => k - i) ?_ (0) ⟨(Nat.zero_le _), (fun m9 h9 => absurd h9 (Nat.not_lt_zero m9)), hP.sub [0, 1, 2] rfl, hD.sub [0, 1, 2] (by decide) rfl, hS, lv_sub hl [0, 1] rfl⟩
  intro x9 H locs ls hF9 ih9
  obtain ⟨i, hv9⟩ : ∃ z, z = x9 := ⟨_, rfl⟩
  subst hv9
  obtain ⟨hi, hno, hP, hD, hS, hl⟩ := hF9
  try dsimp only at ih9
  have hP : va_P D vwCl [(mo, .inr (8, [.ref ms, .int sv, .ref mb, .int ty, .int th, .ref mk, .int ml, .ref mfd, .int (nI n), .int sp, .int on, .int tw])), (ms, .inl (K, 889, .inl sf)), (mfd, .inl (K, 9, .inl fd))] H := hP
  have hD : va_D A [(mo, .inr (8, [.ref ms, .int sv, .ref mb, .int ty, .int th, .ref mk, .int ml, .ref mfd, .int (nI n), .int sp, .int on, .int tw])), (ms, .inl (K, 889, .inl sf)), (mfd, .inl (K, 9, .inl fd))] := hD
  have hl : lv_has ls 2 [(1, .int (nI i)), (0, .ref mo)] := hl
  refine lv_iload_n hx hb dX8_notes_2 rfl (lv_at hl 0 rfl) ?_
  refine lv_aload_n hx hb dX8_notes_3 rfl (lv_at hl 1 rfl) ?_
  refine va_get (D := D) (ci := 8) (v := .ref ms) (C := RX8) (T := TX8) (N := 12) hx hb ht inA_X8 hown hK hP 0 rfl rfl 0 (by decide) (ht _ lf_X8_7) (fun _ h9 => h9) rfl dX8_notes_4 ?_
  refine lv_bipush (v := 94) hx hb dX8_notes_7 (by decide) ?_
  refine va_iald hx hb hK hP 1 0 rfl rfl (by unfold vp_in; decide) dX8_notes_9 ?_
  refine k_nrm (y := (nI k)) (show sf (94 : Int32).toNatClampNeg = (nI k) from h94) ?_
  refine lv_icmp_ge (tgt := 65) hx hb dX8_notes_10 (by decide) (fun c_1 => ?_) (fun c_1 => ?_)
  · have hc9 := c_1
    obtain rfl : k = i := by rcases Nat.lt_or_ge i k with q9 | q9; exact absurd c_1 (nI_ge q9 (by omega)); omega
    refine lv_aload_n hx hb dX8_notes_65 rfl (lv_at hl 1 rfl) ?_
    refine va_get (D := D) (ci := 8) (v := .ref ms) (C := RX8) (T := TX8) (N := 12) hx hb ht inA_X8 hown hK hP 0 rfl rfl 0 (by decide) (ht _ lf_X8_7) (fun _ h9 => h9) rfl dX8_notes_66 ?_
    refine lv_bipush (v := 94) hx hb dX8_notes_69 (by decide) ?_
    refine va_iald hx hb hK hP 1 0 rfl rfl (by unfold vp_in; decide) dX8_notes_71 ?_
    refine k_nrm (y := (nI k)) (show sf (94 : Int32).toNatClampNeg = (nI k) from h94) ?_
    refine lv_bipush (v := 10) hx hb dX8_notes_72 (by decide) ?_
    refine lv_icmp_ne (tgt := 162) hx hb dX8_notes_74 (by decide) (fun c_2 => ?_) (fun c_2 => ?_)
    · have hc9 := c_2
      have hk9 : k ≤ 9 := by rcases Nat.lt_or_ge k 10 with q9 | q9; omega; exact absurd (by rw [show k = 10 by omega]; rfl) c_2
      refine lv_aload_n hx hb dX8_notes_162 rfl (lv_at hl 1 rfl) ?_
      refine va_get (D := D) (ci := 8) (v := .ref ms) (C := RX8) (T := TX8) (N := 12) hx hb ht inA_X8 hown hK hP 0 rfl rfl 0 (by decide) (ht _ lf_X8_7) (fun _ h9 => h9) rfl dX8_notes_163 ?_
      refine lv_bipush (v := 95) hx hb dX8_notes_166 (by decide) ?_
      refine lv_aload_n hx hb dX8_notes_168 rfl (lv_at hl 1 rfl) ?_
      refine va_get (D := D) (ci := 8) (v := .ref ms) (C := RX8) (T := TX8) (N := 12) hx hb ht inA_X8 hown hK hP 0 rfl rfl 0 (by decide) (ht _ lf_X8_7) (fun _ h9 => h9) rfl dX8_notes_169 ?_
      refine lv_bipush (v := 94) hx hb dX8_notes_172 (by decide) ?_
      refine va_iald hx hb hK hP 1 0 rfl rfl (by unfold vp_in; decide) dX8_notes_174 ?_
      refine k_nrm (y := (nI k)) ((show sf 94 = nI k by exact h94)) ?_
      refine lv_iadd hx hb dX8_notes_175 ?_
      refine k_nrm (y := (nI (95 + k))) (nI_add 95 k) ?_
      refine lv_aload_n hx hb dX8_notes_176 rfl (lv_at hl 1 rfl) ?_
      have ct := k_cut_of (wc := [(mo, .inr (8, [.ref ms, .int sv, .ref mb, .int ty, .int th, .ref mk, .int ml, .ref mfd, .int (nI n), .int sp, .int on, .int tw])), (mfd, .inl (K, 9, .inl fd))]) (wr := [(ms, .inl (K, 889, .inl sf))]) (tc := [(K, .int)]) hG hS hA hK hP hD [0, 2] [1] [0] rfl rfl (by decide) (by decide) (by decide) rfl
      refine k_endi (As := [.ref mo]) ct (k_runV (As := []) (rest := [.int (nI (95 + k)), .ref ms]) S0 Lv_X8_116 rfl (ci := 8) (q0 := 0) rfl rfl ct (c_M_number l D mo ms sv mb ty th mk ml mfd n sp on tw K fd (by first | assumption | omega) H.size) hl.1 rfl (Nat.le_of_ble_eq_true rfl) rfl dX8_notes_177 ⟨⟨Nat.le_of_ble_eq_true rfl, Nat.le_of_ble_eq_true rfl⟩, Nat.le_of_ble_eq_true rfl, Nat.le_of_ble_eq_true rfl⟩) rfl rfl (fun r_3 _ H locs hw_4 hP hD hK hS => ?_)
      have hK : va_K D vwCl [(K, .int)] s := hK
      have hP : va_P D vwCl [(ms, .inl (K, 889, .inl sf)), (mo, .inr (8, [.ref ms, .int sv, .ref mb, .int ty, .int th, .ref mk, .int ml, .ref mfd, .int (nI n), .int sp, .int on, .int tw])), (mfd, .inl (K, 9, .inl fd))] H := hP
      have hD : va_D A [(ms, .inl (K, 889, .inl sf)), (mo, .inr (8, [.ref ms, .int sv, .ref mb, .int ty, .int th, .ref mk, .int ml, .ref mfd, .int (nI n), .int sp, .int on, .int tw])), (mfd, .inl (K, 9, .inl fd))] := hD
      have hw_4 : r_3 = (numF fd n) := hw_4
      have hw_4 := hw_4.symm
      subst hw_4
      refine k_nrm (y := (numF fd n)) rfl ?_
      refine va_iast hx hb hK hP hD hS 0 0 rfl rfl (vp_in_nI (by omega) (by decide)) dX8_notes_180 (fun H locs hP hD hS => ?_)
      have hP : va_P D vwCl [(ms, .inl (K, 889, .inl (upd sf ((nI (95 + k)).toNatClampNeg) (numF fd n)))), (mo, .inr (8, [.ref ms, .int sv, .ref mb, .int ty, .int th, .ref mk, .int ml, .ref mfd, .int (nI n), .int sp, .int on, .int tw])), (mfd, .inl (K, 9, .inl fd))] H := hP
      have hD : va_D A [(ms, .inl (K, 889, .inl (upd sf ((nI (95 + k)).toNatClampNeg) (numF fd n)))), (mo, .inr (8, [.ref ms, .int sv, .ref mb, .int ty, .int th, .ref mk, .int ml, .ref mfd, .int (nI n), .int sp, .int on, .int tw])), (mfd, .inl (K, 9, .inl fd))] := hD
      have hf9 : upd sf ((nI (95 + k)).toNatClampNeg) (numF fd n) = (upd sf (95 + k) (numF fd n)) := by rw [nI_clamp (by omega)]
      rw [hf9] at hP hD
      have hP : va_P D vwCl [(ms, .inl (K, 889, .inl (upd sf (95 + k) (numF fd n)))), (mo, .inr (8, [.ref ms, .int sv, .ref mb, .int ty, .int th, .ref mk, .int ml, .ref mfd, .int (nI n), .int sp, .int on, .int tw])), (mfd, .inl (K, 9, .inl fd))] H := hP
      have hD : va_D A [(ms, .inl (K, 889, .inl (upd sf (95 + k) (numF fd n)))), (mo, .inr (8, [.ref ms, .int sv, .ref mb, .int ty, .int th, .ref mk, .int ml, .ref mfd, .int (nI n), .int sp, .int on, .int tw])), (mfd, .inl (K, 9, .inl fd))] := hD
      refine lv_aload_n hx hb dX8_notes_181 rfl (lv_at hl 1 rfl) ?_
      refine va_get (D := D) (ci := 8) (v := .ref ms) (C := RX8) (T := TX8) (N := 12) hx hb ht inA_X8 hown hK hP 1 rfl rfl 0 (by decide) (ht _ lf_X8_7) (fun _ h9 => h9) rfl dX8_notes_182 ?_
      refine lv_bipush (v := 105) hx hb dX8_notes_185 (by decide) ?_
      refine lv_aload_n hx hb dX8_notes_187 rfl (lv_at hl 1 rfl) ?_
      refine va_get (D := D) (ci := 8) (v := .ref ms) (C := RX8) (T := TX8) (N := 12) hx hb ht inA_X8 hown hK hP 1 rfl rfl 0 (by decide) (ht _ lf_X8_7) (fun _ h9 => h9) rfl dX8_notes_188 ?_
      refine lv_bipush (v := 94) hx hb dX8_notes_191 (by decide) ?_
      refine va_iald hx hb hK hP 0 0 rfl rfl (by unfold vp_in; decide) dX8_notes_193 ?_
      refine k_nrm (y := (nI k)) ((show (upd sf (95 + k) (numF fd n)) 94 = nI k by rw [pk_un (by omega)]; exact h94)) ?_
      refine lv_iadd hx hb dX8_notes_194 ?_
      refine k_nrm (y := (nI (105 + k))) (nI_add 105 k) ?_
      refine lv_aload_n hx hb dX8_notes_195 rfl (lv_at hl 1 rfl) ?_
      refine va_get (D := D) (ci := 8) (v := .int (nI n)) (C := RX8) (T := TX8) (N := 12) hx hb ht inA_X8 hown hK hP 1 rfl rfl 8 (by decide) (ht _ lf_X8_98) (fun _ h9 => h9) rfl dX8_notes_196 ?_
      refine va_iast hx hb hK hP hD hS 0 0 rfl rfl (vp_in_nI (by omega) (by decide)) dX8_notes_199 (fun H locs hP hD hS => ?_)
      have hP : va_P D vwCl [(ms, .inl (K, 889, .inl (upd (upd sf (95 + k) (numF fd n)) ((nI (105 + k)).toNatClampNeg) (nI n)))), (mo, .inr (8, [.ref ms, .int sv, .ref mb, .int ty, .int th, .ref mk, .int ml, .ref mfd, .int (nI n), .int sp, .int on, .int tw])), (mfd, .inl (K, 9, .inl fd))] H := hP
      have hD : va_D A [(ms, .inl (K, 889, .inl (upd (upd sf (95 + k) (numF fd n)) ((nI (105 + k)).toNatClampNeg) (nI n)))), (mo, .inr (8, [.ref ms, .int sv, .ref mb, .int ty, .int th, .ref mk, .int ml, .ref mfd, .int (nI n), .int sp, .int on, .int tw])), (mfd, .inl (K, 9, .inl fd))] := hD
      have hf9 : upd (upd sf (95 + k) (numF fd n)) ((nI (105 + k)).toNatClampNeg) (nI n) = (upd (upd sf (95 + k) (numF fd n)) (105 + k) (nI n)) := by rw [nI_clamp (by omega)]
      rw [hf9] at hP hD
      have hP : va_P D vwCl [(ms, .inl (K, 889, .inl (upd (upd sf (95 + k) (numF fd n)) (105 + k) (nI n)))), (mo, .inr (8, [.ref ms, .int sv, .ref mb, .int ty, .int th, .ref mk, .int ml, .ref mfd, .int (nI n), .int sp, .int on, .int tw])), (mfd, .inl (K, 9, .inl fd))] H := hP
      have hD : va_D A [(ms, .inl (K, 889, .inl (upd (upd sf (95 + k) (numF fd n)) (105 + k) (nI n)))), (mo, .inr (8, [.ref ms, .int sv, .ref mb, .int ty, .int th, .ref mk, .int ml, .ref mfd, .int (nI n), .int sp, .int on, .int tw])), (mfd, .inl (K, 9, .inl fd))] := hD
      refine lv_aload_n hx hb dX8_notes_200 rfl (lv_at hl 1 rfl) ?_
      refine va_get (D := D) (ci := 8) (v := .ref ms) (C := RX8) (T := TX8) (N := 12) hx hb ht inA_X8 hown hK hP 1 rfl rfl 0 (by decide) (ht _ lf_X8_7) (fun _ h9 => h9) rfl dX8_notes_201 ?_
      refine lv_bipush (v := 115) hx hb dX8_notes_204 (by decide) ?_
      refine lv_aload_n hx hb dX8_notes_206 rfl (lv_at hl 1 rfl) ?_
      refine va_get (D := D) (ci := 8) (v := .ref ms) (C := RX8) (T := TX8) (N := 12) hx hb ht inA_X8 hown hK hP 1 rfl rfl 0 (by decide) (ht _ lf_X8_7) (fun _ h9 => h9) rfl dX8_notes_207 ?_
      refine lv_bipush (v := 94) hx hb dX8_notes_210 (by decide) ?_
      refine va_iald hx hb hK hP 0 0 rfl rfl (by unfold vp_in; decide) dX8_notes_212 ?_
      refine k_nrm (y := (nI k)) ((show (upd (upd sf (95 + k) (numF fd n)) (105 + k) (nI n)) 94 = nI k by rw [pk_un (by omega), pk_un (by omega)]; exact h94)) ?_
      refine lv_iadd hx hb dX8_notes_213 ?_
      refine k_nrm (y := (nI (115 + k))) (nI_add 115 k) ?_
      refine lv_iconst (v := 1) hx hb dX8_notes_214 (by decide) ?_
      refine va_iast hx hb hK hP hD hS 0 0 rfl rfl (vp_in_nI (by omega) (by decide)) dX8_notes_215 (fun H locs hP hD hS => ?_)
      have hP : va_P D vwCl [(ms, .inl (K, 889, .inl (upd (upd (upd sf (95 + k) (numF fd n)) (105 + k) (nI n)) ((nI (115 + k)).toNatClampNeg) 1))), (mo, .inr (8, [.ref ms, .int sv, .ref mb, .int ty, .int th, .ref mk, .int ml, .ref mfd, .int (nI n), .int sp, .int on, .int tw])), (mfd, .inl (K, 9, .inl fd))] H := hP
      have hD : va_D A [(ms, .inl (K, 889, .inl (upd (upd (upd sf (95 + k) (numF fd n)) (105 + k) (nI n)) ((nI (115 + k)).toNatClampNeg) 1))), (mo, .inr (8, [.ref ms, .int sv, .ref mb, .int ty, .int th, .ref mk, .int ml, .ref mfd, .int (nI n), .int sp, .int on, .int tw])), (mfd, .inl (K, 9, .inl fd))] := hD
      have hf9 : upd (upd (upd sf (95 + k) (numF fd n)) (105 + k) (nI n)) ((nI (115 + k)).toNatClampNeg) 1 = (upd (upd (upd sf (95 + k) (numF fd n)) (105 + k) (nI n)) (115 + k) 1) := by rw [nI_clamp (by omega)]
      rw [hf9] at hP hD
      have hP : va_P D vwCl [(ms, .inl (K, 889, .inl (upd (upd (upd sf (95 + k) (numF fd n)) (105 + k) (nI n)) (115 + k) 1))), (mo, .inr (8, [.ref ms, .int sv, .ref mb, .int ty, .int th, .ref mk, .int ml, .ref mfd, .int (nI n), .int sp, .int on, .int tw])), (mfd, .inl (K, 9, .inl fd))] H := hP
      have hD : va_D A [(ms, .inl (K, 889, .inl (upd (upd (upd sf (95 + k) (numF fd n)) (105 + k) (nI n)) (115 + k) 1))), (mo, .inr (8, [.ref ms, .int sv, .ref mb, .int ty, .int th, .ref mk, .int ml, .ref mfd, .int (nI n), .int sp, .int on, .int tw])), (mfd, .inl (K, 9, .inl fd))] := hD
      refine lv_aload_n hx hb dX8_notes_216 rfl (lv_at hl 1 rfl) ?_
      refine va_get (D := D) (ci := 8) (v := .ref ms) (C := RX8) (T := TX8) (N := 12) hx hb ht inA_X8 hown hK hP 1 rfl rfl 0 (by decide) (ht _ lf_X8_7) (fun _ h9 => h9) rfl dX8_notes_217 ?_
      refine lv_bipush (v := 94) hx hb dX8_notes_220 (by decide) ?_
      refine lv_dup2_11 hx hb dX8_notes_222 rfl rfl ?_
      refine va_iald hx hb hK hP 0 0 rfl rfl (by unfold vp_in; decide) dX8_notes_223 ?_
      refine k_nrm (y := (nI k)) ((show (upd (upd (upd sf (95 + k) (numF fd n)) (105 + k) (nI n)) (115 + k) 1) 94 = nI k by rw [pk_un (by omega), pk_un (by omega), pk_un (by omega)]; exact h94)) ?_
      refine lv_iconst (v := 1) hx hb dX8_notes_224 (by decide) ?_
      refine lv_iadd hx hb dX8_notes_225 ?_
      refine k_nrm (y := (nI (k + 1))) (nI_1 _) ?_
      refine va_iast hx hb hK hP hD hS 0 0 rfl rfl (by unfold vp_in; decide) dX8_notes_226 (fun H locs hP hD hS => ?_)
      have hP : va_P D vwCl [(ms, .inl (K, 889, .inl (upd (upd (upd (upd sf (95 + k) (numF fd n)) (105 + k) (nI n)) (115 + k) 1) ((94 : Int32).toNatClampNeg) (nI (k + 1))))), (mo, .inr (8, [.ref ms, .int sv, .ref mb, .int ty, .int th, .ref mk, .int ml, .ref mfd, .int (nI n), .int sp, .int on, .int tw])), (mfd, .inl (K, 9, .inl fd))] H := hP
      have hD : va_D A [(ms, .inl (K, 889, .inl (upd (upd (upd (upd sf (95 + k) (numF fd n)) (105 + k) (nI n)) (115 + k) 1) ((94 : Int32).toNatClampNeg) (nI (k + 1))))), (mo, .inr (8, [.ref ms, .int sv, .ref mb, .int ty, .int th, .ref mk, .int ml, .ref mfd, .int (nI n), .int sp, .int on, .int tw])), (mfd, .inl (K, 9, .inl fd))] := hD
      have hf9 : upd (upd (upd (upd sf (95 + k) (numF fd n)) (105 + k) (nI n)) (115 + k) 1) ((94 : Int32).toNatClampNeg) (nI (k + 1)) = (upd (upd (upd (upd sf (95 + k) (numF fd n)) (105 + k) (nI n)) (115 + k) 1) 94 (nI (k + 1))) := rfl
      rw [hf9] at hP hD
      have hP : va_P D vwCl [(ms, .inl (K, 889, .inl (upd (upd (upd (upd sf (95 + k) (numF fd n)) (105 + k) (nI n)) (115 + k) 1) 94 (nI (k + 1))))), (mo, .inr (8, [.ref ms, .int sv, .ref mb, .int ty, .int th, .ref mk, .int ml, .ref mfd, .int (nI n), .int sp, .int on, .int tw])), (mfd, .inl (K, 9, .inl fd))] H := hP
      have hD : va_D A [(ms, .inl (K, 889, .inl (upd (upd (upd (upd sf (95 + k) (numF fd n)) (105 + k) (nI n)) (115 + k) 1) 94 (nI (k + 1))))), (mo, .inr (8, [.ref ms, .int sv, .ref mb, .int ty, .int th, .ref mk, .int ml, .ref mfd, .int (nI n), .int sp, .int on, .int tw])), (mfd, .inl (K, 9, .inl fd))] := hD
      have hP9 : va_P D vwCl [(mo, .inr (8, [.ref ms, .int sv, .ref mb, .int ty, .int th, .ref mk, .int ml, .ref mfd, .int (nI n), .int sp, .int on, .int tw])), (ms, .inl (K, 889, .inl (upd (upd (upd (upd sf (95 + k) (numF fd n)) (105 + k) (nI n)) (115 + k) 1) 94 (nI (k + 1))))), (mfd, .inl (K, 9, .inl fd))] H := hP.sub [1, 0, 2] rfl
      have hD9 : va_D A [(mo, .inr (8, [.ref ms, .int sv, .ref mb, .int ty, .int th, .ref mk, .int ml, .ref mfd, .int (nI n), .int sp, .int on, .int tw])), (ms, .inl (K, 889, .inl (upd (upd (upd (upd sf (95 + k) (numF fd n)) (105 + k) (nI n)) (115 + k) 1) 94 (nI (k + 1))))), (mfd, .inl (K, 9, .inl fd))] := hD.sub [1, 0, 2] (by decide) rfl
      have hK9 : va_K D vwCl [] s := hK.sub [] rfl
      exact W.vret hx hb hr (fun t ht9 hW9 => ⟨⟨(upd (upd (upd (upd sf (95 + k) (numF fd n)) (105 + k) (nI n)) (115 + k) 1) 94 (nI (k + 1))), rfl, by (exact Or.inr (Or.inl ⟨hno, by omega, rfl⟩)), ⟨by rw [ht9]; exact hP9, va_K.moved hW9.alike hK9, hD9⟩⟩, hS.F ht9⟩) hS.2.2 dX8_notes_227
    · have hc9 := c_2
      have hk10 : k = 10 := (nI_eq (a := k) (b := 10) (by omega) (by decide)).mp c_2
      refine lv_aload_n hx hb dX8_notes_77 rfl (lv_at hl 1 rfl) ?_
      refine va_get (D := D) (ci := 8) (v := .ref ms) (C := RX8) (T := TX8) (N := 12) hx hb ht inA_X8 hown hK hP 0 rfl rfl 0 (by decide) (ht _ lf_X8_7) (fun _ h9 => h9) rfl dX8_notes_78 ?_
      refine lv_bipush (v := 94) hx hb dX8_notes_81 (by decide) ?_
      refine lv_dup2_11 hx hb dX8_notes_83 rfl rfl ?_
      refine va_iald hx hb hK hP 1 0 rfl rfl (by unfold vp_in; decide) dX8_notes_84 ?_
      refine k_nrm (y := (nI k)) (show sf (94 : Int32).toNatClampNeg = (nI k) from h94) ?_
      refine lv_iconst (v := 1) hx hb dX8_notes_85 (by decide) ?_
      refine lv_isub hx hb dX8_notes_86 ?_
      refine k_nrm (y := (nI 9)) (by rw [hk10]; decide) ?_
      refine va_iast hx hb hK hP hD hS 1 0 rfl rfl (by unfold vp_in; decide) dX8_notes_87 (fun H locs hP hD hS => ?_)
      have hP : va_P D vwCl [(mo, .inr (8, [.ref ms, .int sv, .ref mb, .int ty, .int th, .ref mk, .int ml, .ref mfd, .int (nI n), .int sp, .int on, .int tw])), (ms, .inl (K, 889, .inl (upd sf ((94 : Int32).toNatClampNeg) (nI 9)))), (mfd, .inl (K, 9, .inl fd))] H := hP
      have hD : va_D A [(mo, .inr (8, [.ref ms, .int sv, .ref mb, .int ty, .int th, .ref mk, .int ml, .ref mfd, .int (nI n), .int sp, .int on, .int tw])), (ms, .inl (K, 889, .inl (upd sf ((94 : Int32).toNatClampNeg) (nI 9)))), (mfd, .inl (K, 9, .inl fd))] := hD
      have hf9 : upd sf ((94 : Int32).toNatClampNeg) (nI 9) = (upd sf 94 (nI 9)) := rfl
      rw [hf9] at hP hD
      have hP : va_P D vwCl [(mo, .inr (8, [.ref ms, .int sv, .ref mb, .int ty, .int th, .ref mk, .int ml, .ref mfd, .int (nI n), .int sp, .int on, .int tw])), (ms, .inl (K, 889, .inl (upd sf 94 (nI 9)))), (mfd, .inl (K, 9, .inl fd))] H := hP
      have hD : va_D A [(mo, .inr (8, [.ref ms, .int sv, .ref mb, .int ty, .int th, .ref mk, .int ml, .ref mfd, .int (nI n), .int sp, .int on, .int tw])), (ms, .inl (K, 889, .inl (upd sf 94 (nI 9)))), (mfd, .inl (K, 9, .inl fd))] := hD
      refine lv_iconst (v := 0) hx hb dX8_notes_88 (by decide) ?_
      refine lv_istore_n (lv' := [(1, .int 0), (0, .ref mo)]) hx hb dX8_notes_89 rfl hl (by decide) rfl (fun ls hl => ?_)
      have hf_5 : ((upd sf 94 (nI 9)) : Nat → Int32) = (sh3 (upd sf 94 (nI 9)) 0) := (sh3_0 _).symm
      have hP : va_P D vwCl [(mo, .inr (8, [.ref ms, .int sv, .ref mb, .int ty, .int th, .ref mk, .int ml, .ref mfd, .int (nI n), .int sp, .int on, .int tw])), (ms, .inl (K, 889, .inl (sh3 (upd sf 94 (nI 9)) 0))), (mfd, .inl (K, 9, .inl fd))] H := (congrArg (fun z9 : Nat → Int32 => va_P D vwCl [(mo, .inr (8, [.ref ms, .int sv, .ref mb, .int ty, .int th, .ref mk, .int ml, .ref mfd, .int (nI n), .int sp, .int on, .int tw])), (ms, .inl (K, 889, .inl z9)), (mfd, .inl (K, 9, .inl fd))] H) hf_5).mp hP
      have hD : va_D A [(mo, .inr (8, [.ref ms, .int sv, .ref mb, .int ty, .int th, .ref mk, .int ml, .ref mfd, .int (nI n), .int sp, .int on, .int tw])), (ms, .inl (K, 889, .inl (sh3 (upd sf 94 (nI 9)) 0))), (mfd, .inl (K, 9, .inl fd))] := (congrArg (fun z9 : Nat → Int32 => va_D A [(mo, .inr (8, [.ref ms, .int sv, .ref mb, .int ty, .int th, .ref mk, .int ml, .ref mfd, .int (nI n), .int sp, .int on, .int tw])), (ms, .inl (K, 889, .inl z9)), (mfd, .inl (K, 9, .inl fd))]) hf_5).mp hD
      have hl : lv_has ls 2 [(1, .int (nI 0)), (0, .ref mo)] := hl
      refine k_loop (ι := Nat) (fun (jj : Nat) H9 locs9 ls9 => (jj ≤ 9) ∧ va_P D vwCl [(mo, .inr (8, [.ref ms, .int sv, .ref mb, .int ty, .int th, .ref mk, .int ml, .ref mfd, .int (nI n), .int sp, .int on, .int tw])), (ms, .inl (K, 889, .inl (sh3 (upd sf 94 (nI 9)) jj))), (mfd, .inl (K, 9, .inl fd))] H9 ∧ va_D A [(mo, .inr (8, [.ref ms, .int sv, .ref mb, .int ty, .int th, .ref mk, .int ml, .ref mfd, .int (nI n), .int sp, .int on, .int tw])), (ms, .inl (K, 889, .inl (sh3 (upd sf 94 (nI 9)) jj))), (mfd, .inl (K, 9, .inl fd))] ∧ va_S A s.heap H9 locs9 ∧ lv_has ls9 2 [(1, .int (nI jj)), (0, .ref mo)]) (fun (jj : Nat) => 9 - jj) ?_ (0) ⟨(Nat.zero_le _), hP.sub [0, 1, 2] rfl, hD.sub [0, 1, 2] (by decide) rfl, hS, lv_sub hl [0, 1] rfl⟩
      intro x9 H locs ls hF9 ih9
      obtain ⟨jj, hv9⟩ : ∃ z, z = x9 := ⟨_, rfl⟩
      subst hv9
      obtain ⟨hp, hP, hD, hS, hl⟩ := hF9
      try dsimp only at ih9
      have hP : va_P D vwCl [(mo, .inr (8, [.ref ms, .int sv, .ref mb, .int ty, .int th, .ref mk, .int ml, .ref mfd, .int (nI n), .int sp, .int on, .int tw])), (ms, .inl (K, 889, .inl (sh3 (upd sf 94 (nI 9)) jj))), (mfd, .inl (K, 9, .inl fd))] H := hP
      have hD : va_D A [(mo, .inr (8, [.ref ms, .int sv, .ref mb, .int ty, .int th, .ref mk, .int ml, .ref mfd, .int (nI n), .int sp, .int on, .int tw])), (ms, .inl (K, 889, .inl (sh3 (upd sf 94 (nI 9)) jj))), (mfd, .inl (K, 9, .inl fd))] := hD
      have hl : lv_has ls 2 [(1, .int (nI jj)), (0, .ref mo)] := hl
      refine lv_iload_n hx hb dX8_notes_90 rfl (lv_at hl 0 rfl) ?_
      refine lv_bipush (v := 9) hx hb dX8_notes_91 (by decide) ?_
      refine lv_icmp_ge (tgt := 162) hx hb dX8_notes_93 (by decide) (fun c_6 => ?_) (fun c_6 => ?_)
      · have hc9 := c_6
        obtain rfl : 9 = jj := by rcases Nat.lt_or_ge jj 9 with q9 | q9; exact absurd c_6 (nI_ge (b := 9) q9 (by decide)); omega
        refine lv_aload_n hx hb dX8_notes_162 rfl (lv_at hl 1 rfl) ?_
        refine va_get (D := D) (ci := 8) (v := .ref ms) (C := RX8) (T := TX8) (N := 12) hx hb ht inA_X8 hown hK hP 0 rfl rfl 0 (by decide) (ht _ lf_X8_7) (fun _ h9 => h9) rfl dX8_notes_163 ?_
        refine lv_bipush (v := 95) hx hb dX8_notes_166 (by decide) ?_
        refine lv_aload_n hx hb dX8_notes_168 rfl (lv_at hl 1 rfl) ?_
        refine va_get (D := D) (ci := 8) (v := .ref ms) (C := RX8) (T := TX8) (N := 12) hx hb ht inA_X8 hown hK hP 0 rfl rfl 0 (by decide) (ht _ lf_X8_7) (fun _ h9 => h9) rfl dX8_notes_169 ?_
        refine lv_bipush (v := 94) hx hb dX8_notes_172 (by decide) ?_
        refine va_iald hx hb hK hP 1 0 rfl rfl (by unfold vp_in; decide) dX8_notes_174 ?_
        refine k_nrm (y := (nI 9)) ((show (sh3 (upd sf 94 (nI 9)) 9) 94 = nI 9 by exact (sh3_no (by omega)).trans pk_us)) ?_
        refine lv_iadd hx hb dX8_notes_175 ?_
        refine k_nrm (y := (nI (95 + 9))) (nI_add 95 9) ?_
        refine lv_aload_n hx hb dX8_notes_176 rfl (lv_at hl 1 rfl) ?_
        have ct := k_cut_of (wc := [(mo, .inr (8, [.ref ms, .int sv, .ref mb, .int ty, .int th, .ref mk, .int ml, .ref mfd, .int (nI n), .int sp, .int on, .int tw])), (mfd, .inl (K, 9, .inl fd))]) (wr := [(ms, .inl (K, 889, .inl (sh3 (upd sf 94 (nI 9)) 9)))]) (tc := [(K, .int)]) hG hS hA hK hP hD [0, 2] [1] [0] rfl rfl (by decide) (by decide) (by decide) rfl
        refine k_endi (As := [.ref mo]) ct (k_runV (As := []) (rest := [.int (nI (95 + 9)), .ref ms]) S0 Lv_X8_116 rfl (ci := 8) (q0 := 0) rfl rfl ct (c_M_number l D mo ms sv mb ty th mk ml mfd n sp on tw K fd (by first | assumption | omega) H.size) hl.1 rfl (Nat.le_of_ble_eq_true rfl) rfl dX8_notes_177 ⟨⟨Nat.le_of_ble_eq_true rfl, Nat.le_of_ble_eq_true rfl⟩, Nat.le_of_ble_eq_true rfl, Nat.le_of_ble_eq_true rfl⟩) rfl rfl (fun r_7 _ H locs hw_8 hP hD hK hS => ?_)
        have hK : va_K D vwCl [(K, .int)] s := hK
        have hP : va_P D vwCl [(ms, .inl (K, 889, .inl (sh3 (upd sf 94 (nI 9)) 9))), (mo, .inr (8, [.ref ms, .int sv, .ref mb, .int ty, .int th, .ref mk, .int ml, .ref mfd, .int (nI n), .int sp, .int on, .int tw])), (mfd, .inl (K, 9, .inl fd))] H := hP
        have hD : va_D A [(ms, .inl (K, 889, .inl (sh3 (upd sf 94 (nI 9)) 9))), (mo, .inr (8, [.ref ms, .int sv, .ref mb, .int ty, .int th, .ref mk, .int ml, .ref mfd, .int (nI n), .int sp, .int on, .int tw])), (mfd, .inl (K, 9, .inl fd))] := hD
        have hw_8 : r_7 = (numF fd n) := hw_8
        have hw_8 := hw_8.symm
        subst hw_8
        refine k_nrm (y := (numF fd n)) rfl ?_
        refine va_iast hx hb hK hP hD hS 0 0 rfl rfl (vp_in_nI (by omega) (by decide)) dX8_notes_180 (fun H locs hP hD hS => ?_)
        have hP : va_P D vwCl [(ms, .inl (K, 889, .inl (upd (sh3 (upd sf 94 (nI 9)) 9) ((nI (95 + 9)).toNatClampNeg) (numF fd n)))), (mo, .inr (8, [.ref ms, .int sv, .ref mb, .int ty, .int th, .ref mk, .int ml, .ref mfd, .int (nI n), .int sp, .int on, .int tw])), (mfd, .inl (K, 9, .inl fd))] H := hP
        have hD : va_D A [(ms, .inl (K, 889, .inl (upd (sh3 (upd sf 94 (nI 9)) 9) ((nI (95 + 9)).toNatClampNeg) (numF fd n)))), (mo, .inr (8, [.ref ms, .int sv, .ref mb, .int ty, .int th, .ref mk, .int ml, .ref mfd, .int (nI n), .int sp, .int on, .int tw])), (mfd, .inl (K, 9, .inl fd))] := hD
        have hf9 : upd (sh3 (upd sf 94 (nI 9)) 9) ((nI (95 + 9)).toNatClampNeg) (numF fd n) = (upd (sh3 (upd sf 94 (nI 9)) 9) (95 + 9) (numF fd n)) := by rw [nI_clamp (by omega)]
        rw [hf9] at hP hD
        have hP : va_P D vwCl [(ms, .inl (K, 889, .inl (upd (sh3 (upd sf 94 (nI 9)) 9) (95 + 9) (numF fd n)))), (mo, .inr (8, [.ref ms, .int sv, .ref mb, .int ty, .int th, .ref mk, .int ml, .ref mfd, .int (nI n), .int sp, .int on, .int tw])), (mfd, .inl (K, 9, .inl fd))] H := hP
        have hD : va_D A [(ms, .inl (K, 889, .inl (upd (sh3 (upd sf 94 (nI 9)) 9) (95 + 9) (numF fd n)))), (mo, .inr (8, [.ref ms, .int sv, .ref mb, .int ty, .int th, .ref mk, .int ml, .ref mfd, .int (nI n), .int sp, .int on, .int tw])), (mfd, .inl (K, 9, .inl fd))] := hD
        refine lv_aload_n hx hb dX8_notes_181 rfl (lv_at hl 1 rfl) ?_
        refine va_get (D := D) (ci := 8) (v := .ref ms) (C := RX8) (T := TX8) (N := 12) hx hb ht inA_X8 hown hK hP 1 rfl rfl 0 (by decide) (ht _ lf_X8_7) (fun _ h9 => h9) rfl dX8_notes_182 ?_
        refine lv_bipush (v := 105) hx hb dX8_notes_185 (by decide) ?_
        refine lv_aload_n hx hb dX8_notes_187 rfl (lv_at hl 1 rfl) ?_
        refine va_get (D := D) (ci := 8) (v := .ref ms) (C := RX8) (T := TX8) (N := 12) hx hb ht inA_X8 hown hK hP 1 rfl rfl 0 (by decide) (ht _ lf_X8_7) (fun _ h9 => h9) rfl dX8_notes_188 ?_
        refine lv_bipush (v := 94) hx hb dX8_notes_191 (by decide) ?_
        refine va_iald hx hb hK hP 0 0 rfl rfl (by unfold vp_in; decide) dX8_notes_193 ?_
        refine k_nrm (y := (nI 9)) ((show (upd (sh3 (upd sf 94 (nI 9)) 9) (95 + 9) (numF fd n)) 94 = nI 9 by rw [pk_un (by decide)]; exact (sh3_no (by omega)).trans pk_us)) ?_
        refine lv_iadd hx hb dX8_notes_194 ?_
        refine k_nrm (y := (nI (105 + 9))) (nI_add 105 9) ?_
        refine lv_aload_n hx hb dX8_notes_195 rfl (lv_at hl 1 rfl) ?_
        refine va_get (D := D) (ci := 8) (v := .int (nI n)) (C := RX8) (T := TX8) (N := 12) hx hb ht inA_X8 hown hK hP 1 rfl rfl 8 (by decide) (ht _ lf_X8_98) (fun _ h9 => h9) rfl dX8_notes_196 ?_
        refine va_iast hx hb hK hP hD hS 0 0 rfl rfl (vp_in_nI (by omega) (by decide)) dX8_notes_199 (fun H locs hP hD hS => ?_)
        have hP : va_P D vwCl [(ms, .inl (K, 889, .inl (upd (upd (sh3 (upd sf 94 (nI 9)) 9) (95 + 9) (numF fd n)) ((nI (105 + 9)).toNatClampNeg) (nI n)))), (mo, .inr (8, [.ref ms, .int sv, .ref mb, .int ty, .int th, .ref mk, .int ml, .ref mfd, .int (nI n), .int sp, .int on, .int tw])), (mfd, .inl (K, 9, .inl fd))] H := hP
        have hD : va_D A [(ms, .inl (K, 889, .inl (upd (upd (sh3 (upd sf 94 (nI 9)) 9) (95 + 9) (numF fd n)) ((nI (105 + 9)).toNatClampNeg) (nI n)))), (mo, .inr (8, [.ref ms, .int sv, .ref mb, .int ty, .int th, .ref mk, .int ml, .ref mfd, .int (nI n), .int sp, .int on, .int tw])), (mfd, .inl (K, 9, .inl fd))] := hD
        have hf9 : upd (upd (sh3 (upd sf 94 (nI 9)) 9) (95 + 9) (numF fd n)) ((nI (105 + 9)).toNatClampNeg) (nI n) = (upd (upd (sh3 (upd sf 94 (nI 9)) 9) (95 + 9) (numF fd n)) (105 + 9) (nI n)) := by rw [nI_clamp (by omega)]
        rw [hf9] at hP hD
        have hP : va_P D vwCl [(ms, .inl (K, 889, .inl (upd (upd (sh3 (upd sf 94 (nI 9)) 9) (95 + 9) (numF fd n)) (105 + 9) (nI n)))), (mo, .inr (8, [.ref ms, .int sv, .ref mb, .int ty, .int th, .ref mk, .int ml, .ref mfd, .int (nI n), .int sp, .int on, .int tw])), (mfd, .inl (K, 9, .inl fd))] H := hP
        have hD : va_D A [(ms, .inl (K, 889, .inl (upd (upd (sh3 (upd sf 94 (nI 9)) 9) (95 + 9) (numF fd n)) (105 + 9) (nI n)))), (mo, .inr (8, [.ref ms, .int sv, .ref mb, .int ty, .int th, .ref mk, .int ml, .ref mfd, .int (nI n), .int sp, .int on, .int tw])), (mfd, .inl (K, 9, .inl fd))] := hD
        refine lv_aload_n hx hb dX8_notes_200 rfl (lv_at hl 1 rfl) ?_
        refine va_get (D := D) (ci := 8) (v := .ref ms) (C := RX8) (T := TX8) (N := 12) hx hb ht inA_X8 hown hK hP 1 rfl rfl 0 (by decide) (ht _ lf_X8_7) (fun _ h9 => h9) rfl dX8_notes_201 ?_
        refine lv_bipush (v := 115) hx hb dX8_notes_204 (by decide) ?_
        refine lv_aload_n hx hb dX8_notes_206 rfl (lv_at hl 1 rfl) ?_
        refine va_get (D := D) (ci := 8) (v := .ref ms) (C := RX8) (T := TX8) (N := 12) hx hb ht inA_X8 hown hK hP 1 rfl rfl 0 (by decide) (ht _ lf_X8_7) (fun _ h9 => h9) rfl dX8_notes_207 ?_
        refine lv_bipush (v := 94) hx hb dX8_notes_210 (by decide) ?_
        refine va_iald hx hb hK hP 0 0 rfl rfl (by unfold vp_in; decide) dX8_notes_212 ?_
        refine k_nrm (y := (nI 9)) ((show (upd (upd (sh3 (upd sf 94 (nI 9)) 9) (95 + 9) (numF fd n)) (105 + 9) (nI n)) 94 = nI 9 by rw [pk_un (by decide), pk_un (by decide)]; exact (sh3_no (by omega)).trans pk_us)) ?_
        refine lv_iadd hx hb dX8_notes_213 ?_
        refine k_nrm (y := (nI (115 + 9))) (nI_add 115 9) ?_
        refine lv_iconst (v := 1) hx hb dX8_notes_214 (by decide) ?_
        refine va_iast hx hb hK hP hD hS 0 0 rfl rfl (vp_in_nI (by omega) (by decide)) dX8_notes_215 (fun H locs hP hD hS => ?_)
        have hP : va_P D vwCl [(ms, .inl (K, 889, .inl (upd (upd (upd (sh3 (upd sf 94 (nI 9)) 9) (95 + 9) (numF fd n)) (105 + 9) (nI n)) ((nI (115 + 9)).toNatClampNeg) 1))), (mo, .inr (8, [.ref ms, .int sv, .ref mb, .int ty, .int th, .ref mk, .int ml, .ref mfd, .int (nI n), .int sp, .int on, .int tw])), (mfd, .inl (K, 9, .inl fd))] H := hP
        have hD : va_D A [(ms, .inl (K, 889, .inl (upd (upd (upd (sh3 (upd sf 94 (nI 9)) 9) (95 + 9) (numF fd n)) (105 + 9) (nI n)) ((nI (115 + 9)).toNatClampNeg) 1))), (mo, .inr (8, [.ref ms, .int sv, .ref mb, .int ty, .int th, .ref mk, .int ml, .ref mfd, .int (nI n), .int sp, .int on, .int tw])), (mfd, .inl (K, 9, .inl fd))] := hD
        have hf9 : upd (upd (upd (sh3 (upd sf 94 (nI 9)) 9) (95 + 9) (numF fd n)) (105 + 9) (nI n)) ((nI (115 + 9)).toNatClampNeg) 1 = (upd (upd (upd (sh3 (upd sf 94 (nI 9)) 9) (95 + 9) (numF fd n)) (105 + 9) (nI n)) (115 + 9) 1) := by rw [nI_clamp (by omega)]
        rw [hf9] at hP hD
        have hP : va_P D vwCl [(ms, .inl (K, 889, .inl (upd (upd (upd (sh3 (upd sf 94 (nI 9)) 9) (95 + 9) (numF fd n)) (105 + 9) (nI n)) (115 + 9) 1))), (mo, .inr (8, [.ref ms, .int sv, .ref mb, .int ty, .int th, .ref mk, .int ml, .ref mfd, .int (nI n), .int sp, .int on, .int tw])), (mfd, .inl (K, 9, .inl fd))] H := hP
        have hD : va_D A [(ms, .inl (K, 889, .inl (upd (upd (upd (sh3 (upd sf 94 (nI 9)) 9) (95 + 9) (numF fd n)) (105 + 9) (nI n)) (115 + 9) 1))), (mo, .inr (8, [.ref ms, .int sv, .ref mb, .int ty, .int th, .ref mk, .int ml, .ref mfd, .int (nI n), .int sp, .int on, .int tw])), (mfd, .inl (K, 9, .inl fd))] := hD
        refine lv_aload_n hx hb dX8_notes_216 rfl (lv_at hl 1 rfl) ?_
        refine va_get (D := D) (ci := 8) (v := .ref ms) (C := RX8) (T := TX8) (N := 12) hx hb ht inA_X8 hown hK hP 1 rfl rfl 0 (by decide) (ht _ lf_X8_7) (fun _ h9 => h9) rfl dX8_notes_217 ?_
        refine lv_bipush (v := 94) hx hb dX8_notes_220 (by decide) ?_
        refine lv_dup2_11 hx hb dX8_notes_222 rfl rfl ?_
        refine va_iald hx hb hK hP 0 0 rfl rfl (by unfold vp_in; decide) dX8_notes_223 ?_
        refine k_nrm (y := (nI 9)) ((show (upd (upd (upd (sh3 (upd sf 94 (nI 9)) 9) (95 + 9) (numF fd n)) (105 + 9) (nI n)) (115 + 9) 1) 94 = nI 9 by rw [pk_un (by decide), pk_un (by decide), pk_un (by decide)]; exact (sh3_no (by omega)).trans pk_us)) ?_
        refine lv_iconst (v := 1) hx hb dX8_notes_224 (by decide) ?_
        refine lv_iadd hx hb dX8_notes_225 ?_
        refine k_nrm (y := (nI (9 + 1))) (nI_1 _) ?_
        refine va_iast hx hb hK hP hD hS 0 0 rfl rfl (by unfold vp_in; decide) dX8_notes_226 (fun H locs hP hD hS => ?_)
        have hP : va_P D vwCl [(ms, .inl (K, 889, .inl (upd (upd (upd (upd (sh3 (upd sf 94 (nI 9)) 9) (95 + 9) (numF fd n)) (105 + 9) (nI n)) (115 + 9) 1) ((94 : Int32).toNatClampNeg) (nI (9 + 1))))), (mo, .inr (8, [.ref ms, .int sv, .ref mb, .int ty, .int th, .ref mk, .int ml, .ref mfd, .int (nI n), .int sp, .int on, .int tw])), (mfd, .inl (K, 9, .inl fd))] H := hP
        have hD : va_D A [(ms, .inl (K, 889, .inl (upd (upd (upd (upd (sh3 (upd sf 94 (nI 9)) 9) (95 + 9) (numF fd n)) (105 + 9) (nI n)) (115 + 9) 1) ((94 : Int32).toNatClampNeg) (nI (9 + 1))))), (mo, .inr (8, [.ref ms, .int sv, .ref mb, .int ty, .int th, .ref mk, .int ml, .ref mfd, .int (nI n), .int sp, .int on, .int tw])), (mfd, .inl (K, 9, .inl fd))] := hD
        have hf9 : upd (upd (upd (upd (sh3 (upd sf 94 (nI 9)) 9) (95 + 9) (numF fd n)) (105 + 9) (nI n)) (115 + 9) 1) ((94 : Int32).toNatClampNeg) (nI (9 + 1)) = (upd (upd (upd (upd (sh3 (upd sf 94 (nI 9)) 9) (95 + 9) (numF fd n)) (105 + 9) (nI n)) (115 + 9) 1) 94 (nI (9 + 1))) := rfl
        rw [hf9] at hP hD
        have hP : va_P D vwCl [(ms, .inl (K, 889, .inl (upd (upd (upd (upd (sh3 (upd sf 94 (nI 9)) 9) (95 + 9) (numF fd n)) (105 + 9) (nI n)) (115 + 9) 1) 94 (nI (9 + 1))))), (mo, .inr (8, [.ref ms, .int sv, .ref mb, .int ty, .int th, .ref mk, .int ml, .ref mfd, .int (nI n), .int sp, .int on, .int tw])), (mfd, .inl (K, 9, .inl fd))] H := hP
        have hD : va_D A [(ms, .inl (K, 889, .inl (upd (upd (upd (upd (sh3 (upd sf 94 (nI 9)) 9) (95 + 9) (numF fd n)) (105 + 9) (nI n)) (115 + 9) 1) 94 (nI (9 + 1))))), (mo, .inr (8, [.ref ms, .int sv, .ref mb, .int ty, .int th, .ref mk, .int ml, .ref mfd, .int (nI n), .int sp, .int on, .int tw])), (mfd, .inl (K, 9, .inl fd))] := hD
        have hP9 : va_P D vwCl [(mo, .inr (8, [.ref ms, .int sv, .ref mb, .int ty, .int th, .ref mk, .int ml, .ref mfd, .int (nI n), .int sp, .int on, .int tw])), (ms, .inl (K, 889, .inl (upd (upd (upd (upd (sh3 (upd sf 94 (nI 9)) 9) (95 + 9) (numF fd n)) (105 + 9) (nI n)) (115 + 9) 1) 94 (nI (9 + 1))))), (mfd, .inl (K, 9, .inl fd))] H := hP.sub [1, 0, 2] rfl
        have hD9 : va_D A [(mo, .inr (8, [.ref ms, .int sv, .ref mb, .int ty, .int th, .ref mk, .int ml, .ref mfd, .int (nI n), .int sp, .int on, .int tw])), (ms, .inl (K, 889, .inl (upd (upd (upd (upd (sh3 (upd sf 94 (nI 9)) 9) (95 + 9) (numF fd n)) (105 + 9) (nI n)) (115 + 9) 1) 94 (nI (9 + 1))))), (mfd, .inl (K, 9, .inl fd))] := hD.sub [1, 0, 2] (by decide) rfl
        have hK9 : va_K D vwCl [] s := hK.sub [] rfl
        exact W.vret hx hb hr (fun t ht9 hW9 => ⟨⟨(upd (upd (upd (upd (sh3 (upd sf 94 (nI 9)) 9) (95 + 9) (numF fd n)) (105 + 9) (nI n)) (115 + 9) 1) 94 (nI (9 + 1))), rfl, by (exact Or.inr (Or.inr ⟨hno, hk10, rfl⟩)), ⟨by rw [ht9]; exact hP9, va_K.moved hW9.alike hK9, hD9⟩⟩, hS.F ht9⟩) hS.2.2 dX8_notes_227
      · have hc9 := c_6
        have hpk : jj + 1 ≤ 9 := by rcases Nat.lt_or_ge jj 9 with q9 | q9; exact q9; exact absurd (nI_le (a := 9) q9 (by omega)) c_6
        refine lv_aload_n hx hb dX8_notes_96 rfl (lv_at hl 1 rfl) ?_
        refine va_get (D := D) (ci := 8) (v := .ref ms) (C := RX8) (T := TX8) (N := 12) hx hb ht inA_X8 hown hK hP 0 rfl rfl 0 (by decide) (ht _ lf_X8_7) (fun _ h9 => h9) rfl dX8_notes_97 ?_
        refine lv_bipush (v := 95) hx hb dX8_notes_100 (by decide) ?_
        refine lv_iload_n hx hb dX8_notes_102 rfl (lv_at hl 0 rfl) ?_
        refine lv_iadd hx hb dX8_notes_103 ?_
        refine k_nrm (y := (nI (95 + jj))) (nI_add 95 jj) ?_
        refine lv_aload_n hx hb dX8_notes_104 rfl (lv_at hl 1 rfl) ?_
        refine va_get (D := D) (ci := 8) (v := .ref ms) (C := RX8) (T := TX8) (N := 12) hx hb ht inA_X8 hown hK hP 0 rfl rfl 0 (by decide) (ht _ lf_X8_7) (fun _ h9 => h9) rfl dX8_notes_105 ?_
        refine lv_bipush (v := 95) hx hb dX8_notes_108 (by decide) ?_
        refine lv_iload_n hx hb dX8_notes_110 rfl (lv_at hl 0 rfl) ?_
        refine lv_iadd hx hb dX8_notes_111 ?_
        refine k_nrm (y := (nI (95 + jj))) (nI_add 95 jj) ?_
        refine lv_iconst (v := 1) hx hb dX8_notes_112 (by decide) ?_
        refine lv_iadd hx hb dX8_notes_113 ?_
        refine k_nrm (y := (nI (95 + jj + 1))) (nI_1 _) ?_
        refine va_iald hx hb hK hP 1 0 rfl rfl (vp_in_nI (by omega) (by decide)) dX8_notes_114 ?_
        refine k_nrm (y := ((upd sf 94 (nI 9)) (95 + jj + 1))) (by rw [nI_clamp (by omega)]; exact sh3_no (by omega)) ?_
        refine va_iast hx hb hK hP hD hS 1 0 rfl rfl (vp_in_nI (by omega) (by decide)) dX8_notes_115 (fun H locs hP hD hS => ?_)
        have hP : va_P D vwCl [(mo, .inr (8, [.ref ms, .int sv, .ref mb, .int ty, .int th, .ref mk, .int ml, .ref mfd, .int (nI n), .int sp, .int on, .int tw])), (ms, .inl (K, 889, .inl (upd (sh3 (upd sf 94 (nI 9)) jj) ((nI (95 + jj)).toNatClampNeg) ((upd sf 94 (nI 9)) (95 + jj + 1))))), (mfd, .inl (K, 9, .inl fd))] H := hP
        have hD : va_D A [(mo, .inr (8, [.ref ms, .int sv, .ref mb, .int ty, .int th, .ref mk, .int ml, .ref mfd, .int (nI n), .int sp, .int on, .int tw])), (ms, .inl (K, 889, .inl (upd (sh3 (upd sf 94 (nI 9)) jj) ((nI (95 + jj)).toNatClampNeg) ((upd sf 94 (nI 9)) (95 + jj + 1))))), (mfd, .inl (K, 9, .inl fd))] := hD
        have hf9 : upd (sh3 (upd sf 94 (nI 9)) jj) ((nI (95 + jj)).toNatClampNeg) ((upd sf 94 (nI 9)) (95 + jj + 1)) = (upd (sh3 (upd sf 94 (nI 9)) jj) (95 + jj) ((upd sf 94 (nI 9)) (95 + jj + 1))) := by rw [nI_clamp (by omega)]
        rw [hf9] at hP hD
        have hP : va_P D vwCl [(mo, .inr (8, [.ref ms, .int sv, .ref mb, .int ty, .int th, .ref mk, .int ml, .ref mfd, .int (nI n), .int sp, .int on, .int tw])), (ms, .inl (K, 889, .inl (upd (sh3 (upd sf 94 (nI 9)) jj) (95 + jj) ((upd sf 94 (nI 9)) (95 + jj + 1))))), (mfd, .inl (K, 9, .inl fd))] H := hP
        have hD : va_D A [(mo, .inr (8, [.ref ms, .int sv, .ref mb, .int ty, .int th, .ref mk, .int ml, .ref mfd, .int (nI n), .int sp, .int on, .int tw])), (ms, .inl (K, 889, .inl (upd (sh3 (upd sf 94 (nI 9)) jj) (95 + jj) ((upd sf 94 (nI 9)) (95 + jj + 1))))), (mfd, .inl (K, 9, .inl fd))] := hD
        refine lv_aload_n hx hb dX8_notes_116 rfl (lv_at hl 1 rfl) ?_
        refine va_get (D := D) (ci := 8) (v := .ref ms) (C := RX8) (T := TX8) (N := 12) hx hb ht inA_X8 hown hK hP 0 rfl rfl 0 (by decide) (ht _ lf_X8_7) (fun _ h9 => h9) rfl dX8_notes_117 ?_
        refine lv_bipush (v := 105) hx hb dX8_notes_120 (by decide) ?_
        refine lv_iload_n hx hb dX8_notes_122 rfl (lv_at hl 0 rfl) ?_
        refine lv_iadd hx hb dX8_notes_123 ?_
        refine k_nrm (y := (nI (105 + jj))) (nI_add 105 jj) ?_
        refine lv_aload_n hx hb dX8_notes_124 rfl (lv_at hl 1 rfl) ?_
        refine va_get (D := D) (ci := 8) (v := .ref ms) (C := RX8) (T := TX8) (N := 12) hx hb ht inA_X8 hown hK hP 0 rfl rfl 0 (by decide) (ht _ lf_X8_7) (fun _ h9 => h9) rfl dX8_notes_125 ?_
        refine lv_bipush (v := 105) hx hb dX8_notes_128 (by decide) ?_
        refine lv_iload_n hx hb dX8_notes_130 rfl (lv_at hl 0 rfl) ?_
        refine lv_iadd hx hb dX8_notes_131 ?_
        refine k_nrm (y := (nI (105 + jj))) (nI_add 105 jj) ?_
        refine lv_iconst (v := 1) hx hb dX8_notes_132 (by decide) ?_
        refine lv_iadd hx hb dX8_notes_133 ?_
        refine k_nrm (y := (nI (105 + jj + 1))) (nI_1 _) ?_
        refine va_iald hx hb hK hP 1 0 rfl rfl (vp_in_nI (by omega) (by decide)) dX8_notes_134 ?_
        refine k_nrm (y := ((upd sf 94 (nI 9)) (105 + jj + 1))) (by rw [nI_clamp (by omega), pk_un (by omega)]; exact sh3_no (by omega)) ?_
        refine va_iast hx hb hK hP hD hS 1 0 rfl rfl (vp_in_nI (by omega) (by decide)) dX8_notes_135 (fun H locs hP hD hS => ?_)
        have hP : va_P D vwCl [(mo, .inr (8, [.ref ms, .int sv, .ref mb, .int ty, .int th, .ref mk, .int ml, .ref mfd, .int (nI n), .int sp, .int on, .int tw])), (ms, .inl (K, 889, .inl (upd (upd (sh3 (upd sf 94 (nI 9)) jj) (95 + jj) ((upd sf 94 (nI 9)) (95 + jj + 1))) ((nI (105 + jj)).toNatClampNeg) ((upd sf 94 (nI 9)) (105 + jj + 1))))), (mfd, .inl (K, 9, .inl fd))] H := hP
        have hD : va_D A [(mo, .inr (8, [.ref ms, .int sv, .ref mb, .int ty, .int th, .ref mk, .int ml, .ref mfd, .int (nI n), .int sp, .int on, .int tw])), (ms, .inl (K, 889, .inl (upd (upd (sh3 (upd sf 94 (nI 9)) jj) (95 + jj) ((upd sf 94 (nI 9)) (95 + jj + 1))) ((nI (105 + jj)).toNatClampNeg) ((upd sf 94 (nI 9)) (105 + jj + 1))))), (mfd, .inl (K, 9, .inl fd))] := hD
        have hf9 : upd (upd (sh3 (upd sf 94 (nI 9)) jj) (95 + jj) ((upd sf 94 (nI 9)) (95 + jj + 1))) ((nI (105 + jj)).toNatClampNeg) ((upd sf 94 (nI 9)) (105 + jj + 1)) = (upd (upd (sh3 (upd sf 94 (nI 9)) jj) (95 + jj) ((upd sf 94 (nI 9)) (95 + jj + 1))) (105 + jj) ((upd sf 94 (nI 9)) (105 + jj + 1))) := by rw [nI_clamp (by omega)]
        rw [hf9] at hP hD
        have hP : va_P D vwCl [(mo, .inr (8, [.ref ms, .int sv, .ref mb, .int ty, .int th, .ref mk, .int ml, .ref mfd, .int (nI n), .int sp, .int on, .int tw])), (ms, .inl (K, 889, .inl (upd (upd (sh3 (upd sf 94 (nI 9)) jj) (95 + jj) ((upd sf 94 (nI 9)) (95 + jj + 1))) (105 + jj) ((upd sf 94 (nI 9)) (105 + jj + 1))))), (mfd, .inl (K, 9, .inl fd))] H := hP
        have hD : va_D A [(mo, .inr (8, [.ref ms, .int sv, .ref mb, .int ty, .int th, .ref mk, .int ml, .ref mfd, .int (nI n), .int sp, .int on, .int tw])), (ms, .inl (K, 889, .inl (upd (upd (sh3 (upd sf 94 (nI 9)) jj) (95 + jj) ((upd sf 94 (nI 9)) (95 + jj + 1))) (105 + jj) ((upd sf 94 (nI 9)) (105 + jj + 1))))), (mfd, .inl (K, 9, .inl fd))] := hD
        refine lv_aload_n hx hb dX8_notes_136 rfl (lv_at hl 1 rfl) ?_
        refine va_get (D := D) (ci := 8) (v := .ref ms) (C := RX8) (T := TX8) (N := 12) hx hb ht inA_X8 hown hK hP 0 rfl rfl 0 (by decide) (ht _ lf_X8_7) (fun _ h9 => h9) rfl dX8_notes_137 ?_
        refine lv_bipush (v := 115) hx hb dX8_notes_140 (by decide) ?_
        refine lv_iload_n hx hb dX8_notes_142 rfl (lv_at hl 0 rfl) ?_
        refine lv_iadd hx hb dX8_notes_143 ?_
        refine k_nrm (y := (nI (115 + jj))) (nI_add 115 jj) ?_
        refine lv_aload_n hx hb dX8_notes_144 rfl (lv_at hl 1 rfl) ?_
        refine va_get (D := D) (ci := 8) (v := .ref ms) (C := RX8) (T := TX8) (N := 12) hx hb ht inA_X8 hown hK hP 0 rfl rfl 0 (by decide) (ht _ lf_X8_7) (fun _ h9 => h9) rfl dX8_notes_145 ?_
        refine lv_bipush (v := 115) hx hb dX8_notes_148 (by decide) ?_
        refine lv_iload_n hx hb dX8_notes_150 rfl (lv_at hl 0 rfl) ?_
        refine lv_iadd hx hb dX8_notes_151 ?_
        refine k_nrm (y := (nI (115 + jj))) (nI_add 115 jj) ?_
        refine lv_iconst (v := 1) hx hb dX8_notes_152 (by decide) ?_
        refine lv_iadd hx hb dX8_notes_153 ?_
        refine k_nrm (y := (nI (115 + jj + 1))) (nI_1 _) ?_
        refine va_iald hx hb hK hP 1 0 rfl rfl (vp_in_nI (by omega) (by decide)) dX8_notes_154 ?_
        refine k_nrm (y := ((upd sf 94 (nI 9)) (115 + jj + 1))) (by rw [nI_clamp (by omega), pk_un (by omega), pk_un (by omega)]; exact sh3_no (by omega)) ?_
        refine va_iast hx hb hK hP hD hS 1 0 rfl rfl (vp_in_nI (by omega) (by decide)) dX8_notes_155 (fun H locs hP hD hS => ?_)
        have hP : va_P D vwCl [(mo, .inr (8, [.ref ms, .int sv, .ref mb, .int ty, .int th, .ref mk, .int ml, .ref mfd, .int (nI n), .int sp, .int on, .int tw])), (ms, .inl (K, 889, .inl (upd (upd (upd (sh3 (upd sf 94 (nI 9)) jj) (95 + jj) ((upd sf 94 (nI 9)) (95 + jj + 1))) (105 + jj) ((upd sf 94 (nI 9)) (105 + jj + 1))) ((nI (115 + jj)).toNatClampNeg) ((upd sf 94 (nI 9)) (115 + jj + 1))))), (mfd, .inl (K, 9, .inl fd))] H := hP
        have hD : va_D A [(mo, .inr (8, [.ref ms, .int sv, .ref mb, .int ty, .int th, .ref mk, .int ml, .ref mfd, .int (nI n), .int sp, .int on, .int tw])), (ms, .inl (K, 889, .inl (upd (upd (upd (sh3 (upd sf 94 (nI 9)) jj) (95 + jj) ((upd sf 94 (nI 9)) (95 + jj + 1))) (105 + jj) ((upd sf 94 (nI 9)) (105 + jj + 1))) ((nI (115 + jj)).toNatClampNeg) ((upd sf 94 (nI 9)) (115 + jj + 1))))), (mfd, .inl (K, 9, .inl fd))] := hD
        have hf9 : upd (upd (upd (sh3 (upd sf 94 (nI 9)) jj) (95 + jj) ((upd sf 94 (nI 9)) (95 + jj + 1))) (105 + jj) ((upd sf 94 (nI 9)) (105 + jj + 1))) ((nI (115 + jj)).toNatClampNeg) ((upd sf 94 (nI 9)) (115 + jj + 1)) = (upd (upd (upd (sh3 (upd sf 94 (nI 9)) jj) (95 + jj) ((upd sf 94 (nI 9)) (95 + jj + 1))) (105 + jj) ((upd sf 94 (nI 9)) (105 + jj + 1))) (115 + jj) ((upd sf 94 (nI 9)) (115 + jj + 1))) := by rw [nI_clamp (by omega)]
        rw [hf9] at hP hD
        have hP : va_P D vwCl [(mo, .inr (8, [.ref ms, .int sv, .ref mb, .int ty, .int th, .ref mk, .int ml, .ref mfd, .int (nI n), .int sp, .int on, .int tw])), (ms, .inl (K, 889, .inl (upd (upd (upd (sh3 (upd sf 94 (nI 9)) jj) (95 + jj) ((upd sf 94 (nI 9)) (95 + jj + 1))) (105 + jj) ((upd sf 94 (nI 9)) (105 + jj + 1))) (115 + jj) ((upd sf 94 (nI 9)) (115 + jj + 1))))), (mfd, .inl (K, 9, .inl fd))] H := hP
        have hD : va_D A [(mo, .inr (8, [.ref ms, .int sv, .ref mb, .int ty, .int th, .ref mk, .int ml, .ref mfd, .int (nI n), .int sp, .int on, .int tw])), (ms, .inl (K, 889, .inl (upd (upd (upd (sh3 (upd sf 94 (nI 9)) jj) (95 + jj) ((upd sf 94 (nI 9)) (95 + jj + 1))) (105 + jj) ((upd sf 94 (nI 9)) (105 + jj + 1))) (115 + jj) ((upd sf 94 (nI 9)) (115 + jj + 1))))), (mfd, .inl (K, 9, .inl fd))] := hD
        obtain ⟨x_9, ex_9⟩ : ∃ z : Int32, z = (nI jj) + 1 := ⟨_, rfl⟩
        refine lv_iinc (v := x_9) (lv' := [(1, .int x_9), (0, .ref mo)]) hx hb dX8_notes_156 hl (k := 0) rfl (by rw [ex_9]; rfl) (by decide) rfl (fun ls hl => ?_)
        refine lv_goto (tgt := 90) hx hb dX8_notes_159 (by decide) ?_
        have he9 : x_9 = (nI (jj + 1)) := by rw [ex_9]; exact nI_1 jj
        rw [he9] at hl
        have hl : lv_has ls 2 [(1, .int (nI (jj + 1))), (0, .ref mo)] := hl
        have hf_10 : ((upd (upd (upd (sh3 (upd sf 94 (nI 9)) jj) (95 + jj) ((upd sf 94 (nI 9)) (95 + jj + 1))) (105 + jj) ((upd sf 94 (nI 9)) (105 + jj + 1))) (115 + jj) ((upd sf 94 (nI 9)) (115 + jj + 1))) : Nat → Int32) = (sh3 (upd sf 94 (nI 9)) (jj + 1)) := sh3_s (by omega)
        have hP : va_P D vwCl [(mo, .inr (8, [.ref ms, .int sv, .ref mb, .int ty, .int th, .ref mk, .int ml, .ref mfd, .int (nI n), .int sp, .int on, .int tw])), (ms, .inl (K, 889, .inl (sh3 (upd sf 94 (nI 9)) (jj + 1)))), (mfd, .inl (K, 9, .inl fd))] H := (congrArg (fun z9 : Nat → Int32 => va_P D vwCl [(mo, .inr (8, [.ref ms, .int sv, .ref mb, .int ty, .int th, .ref mk, .int ml, .ref mfd, .int (nI n), .int sp, .int on, .int tw])), (ms, .inl (K, 889, .inl z9)), (mfd, .inl (K, 9, .inl fd))] H) hf_10).mp hP
        have hD : va_D A [(mo, .inr (8, [.ref ms, .int sv, .ref mb, .int ty, .int th, .ref mk, .int ml, .ref mfd, .int (nI n), .int sp, .int on, .int tw])), (ms, .inl (K, 889, .inl (sh3 (upd sf 94 (nI 9)) (jj + 1)))), (mfd, .inl (K, 9, .inl fd))] := (congrArg (fun z9 : Nat → Int32 => va_D A [(mo, .inr (8, [.ref ms, .int sv, .ref mb, .int ty, .int th, .ref mk, .int ml, .ref mfd, .int (nI n), .int sp, .int on, .int tw])), (ms, .inl (K, 889, .inl z9)), (mfd, .inl (K, 9, .inl fd))]) hf_10).mp hD
        exact ih9 (jj + 1) H locs ls (by omega) ⟨hpk, hP.sub [0, 1, 2] rfl, hD.sub [0, 1, 2] (by decide) rfl, hS, lv_sub hl [0, 1] rfl⟩
  · have hc9 := c_1
    have hik : i + 1 ≤ k := by rcases Nat.lt_or_ge i k with q9 | q9; exact q9; exact absurd (nI_le q9 (by omega)) c_1
    refine lv_aload_n hx hb dX8_notes_13 rfl (lv_at hl 1 rfl) ?_
    refine va_get (D := D) (ci := 8) (v := .ref ms) (C := RX8) (T := TX8) (N := 12) hx hb ht inA_X8 hown hK hP 0 rfl rfl 0 (by decide) (ht _ lf_X8_7) (fun _ h9 => h9) rfl dX8_notes_14 ?_
    refine lv_bipush (v := 95) hx hb dX8_notes_17 (by decide) ?_
    refine lv_iload_n hx hb dX8_notes_19 rfl (lv_at hl 0 rfl) ?_
    refine lv_iadd hx hb dX8_notes_20 ?_
    refine k_nrm (y := (nI (95 + i))) (nI_add 95 i) ?_
    refine va_iald hx hb hK hP 1 0 rfl rfl (vp_in_nI (by omega) (by decide)) dX8_notes_21 ?_
    refine k_nrm (y := (sf (95 + i))) (by rw [nI_clamp (by omega)]) ?_
    refine lv_aload_n hx hb dX8_notes_22 rfl (lv_at hl 1 rfl) ?_
    have ct := k_cut_of (wc := [(mo, .inr (8, [.ref ms, .int sv, .ref mb, .int ty, .int th, .ref mk, .int ml, .ref mfd, .int (nI n), .int sp, .int on, .int tw])), (mfd, .inl (K, 9, .inl fd))]) (wr := [(ms, .inl (K, 889, .inl sf))]) (tc := [(K, .int)]) hG hS hA hK hP hD [0, 2] [1] [0] rfl rfl (by decide) (by decide) (by decide) rfl
    refine k_endi (As := [.ref mo]) ct (k_runV (As := []) (rest := [.int (sf (95 + i))]) S0 Lv_X8_116 rfl (ci := 8) (q0 := 0) rfl rfl ct (c_M_number l D mo ms sv mb ty th mk ml mfd n sp on tw K fd (by first | assumption | omega) H.size) hl.1 rfl (Nat.le_of_ble_eq_true rfl) rfl dX8_notes_23 ⟨⟨Nat.le_of_ble_eq_true rfl, Nat.le_of_ble_eq_true rfl⟩, Nat.le_of_ble_eq_true rfl, Nat.le_of_ble_eq_true rfl⟩) rfl rfl (fun r_11 _ H locs hw_12 hP hD hK hS => ?_)
    have hK : va_K D vwCl [(K, .int)] s := hK
    have hP : va_P D vwCl [(ms, .inl (K, 889, .inl sf)), (mo, .inr (8, [.ref ms, .int sv, .ref mb, .int ty, .int th, .ref mk, .int ml, .ref mfd, .int (nI n), .int sp, .int on, .int tw])), (mfd, .inl (K, 9, .inl fd))] H := hP
    have hD : va_D A [(ms, .inl (K, 889, .inl sf)), (mo, .inr (8, [.ref ms, .int sv, .ref mb, .int ty, .int th, .ref mk, .int ml, .ref mfd, .int (nI n), .int sp, .int on, .int tw])), (mfd, .inl (K, 9, .inl fd))] := hD
    have hw_12 : r_11 = (numF fd n) := hw_12
    have hw_12 := hw_12.symm
    subst hw_12
    refine k_nrm (y := (numF fd n)) rfl ?_
    refine lv_icmp_ne (tgt := 59) hx hb dX8_notes_26 (by decide) (fun c_13 => ?_) (fun c_13 => ?_)
    · have hc9 := c_13
      obtain ⟨x_14, ex_14⟩ : ∃ z : Int32, z = (nI i) + 1 := ⟨_, rfl⟩
      refine lv_iinc (v := x_14) (lv' := [(1, .int x_14), (0, .ref mo)]) hx hb dX8_notes_59 hl (k := 0) rfl (by rw [ex_14]; rfl) (by decide) rfl (fun ls hl => ?_)
      refine lv_goto (tgt := 2) hx hb dX8_notes_62 (by decide) ?_
      have he9 : x_14 = (nI (i + 1)) := by rw [ex_14]; exact nI_1 i
      rw [he9] at hl
      have hl : lv_has ls 2 [(1, .int (nI (i + 1))), (0, .ref mo)] := hl
      exact ih9 (i + 1) H locs ls (by omega) ⟨hik, (lt_s hno (fun q9 => c_13 q9.1)), hP.sub [1, 0, 2] rfl, hD.sub [1, 0, 2] (by decide) rfl, hS, lv_sub hl [0, 1] rfl⟩
    · have hc9 := c_13
      refine lv_aload_n hx hb dX8_notes_29 rfl (lv_at hl 1 rfl) ?_
      refine va_get (D := D) (ci := 8) (v := .ref ms) (C := RX8) (T := TX8) (N := 12) hx hb ht inA_X8 hown hK hP 1 rfl rfl 0 (by decide) (ht _ lf_X8_7) (fun _ h9 => h9) rfl dX8_notes_30 ?_
      refine lv_bipush (v := 105) hx hb dX8_notes_33 (by decide) ?_
      refine lv_iload_n hx hb dX8_notes_35 rfl (lv_at hl 0 rfl) ?_
      refine lv_iadd hx hb dX8_notes_36 ?_
      refine k_nrm (y := (nI (105 + i))) (nI_add 105 i) ?_
      refine va_iald hx hb hK hP 0 0 rfl rfl (vp_in_nI (by omega) (by decide)) dX8_notes_37 ?_
      refine k_nrm (y := (sf (105 + i))) (by rw [nI_clamp (by omega)]) ?_
      refine lv_aload_n hx hb dX8_notes_38 rfl (lv_at hl 1 rfl) ?_
      refine va_get (D := D) (ci := 8) (v := .int (nI n)) (C := RX8) (T := TX8) (N := 12) hx hb ht inA_X8 hown hK hP 1 rfl rfl 8 (by decide) (ht _ lf_X8_98) (fun _ h9 => h9) rfl dX8_notes_39 ?_
      refine lv_icmp_ne (tgt := 59) hx hb dX8_notes_42 (by decide) (fun c_15 => ?_) (fun c_15 => ?_)
      · have hc9 := c_15
        obtain ⟨x_16, ex_16⟩ : ∃ z : Int32, z = (nI i) + 1 := ⟨_, rfl⟩
        refine lv_iinc (v := x_16) (lv' := [(1, .int x_16), (0, .ref mo)]) hx hb dX8_notes_59 hl (k := 0) rfl (by rw [ex_16]; rfl) (by decide) rfl (fun ls hl => ?_)
        refine lv_goto (tgt := 2) hx hb dX8_notes_62 (by decide) ?_
        have he9 : x_16 = (nI (i + 1)) := by rw [ex_16]; exact nI_1 i
        rw [he9] at hl
        have hl : lv_has ls 2 [(1, .int (nI (i + 1))), (0, .ref mo)] := hl
        exact ih9 (i + 1) H locs ls (by omega) ⟨hik, (lt_s hno (fun q9 => c_15 q9.2)), hP.sub [1, 0, 2] rfl, hD.sub [1, 0, 2] (by decide) rfl, hS, lv_sub hl [0, 1] rfl⟩
      · have hc9 := c_15
        refine lv_aload_n hx hb dX8_notes_45 rfl (lv_at hl 1 rfl) ?_
        refine va_get (D := D) (ci := 8) (v := .ref ms) (C := RX8) (T := TX8) (N := 12) hx hb ht inA_X8 hown hK hP 1 rfl rfl 0 (by decide) (ht _ lf_X8_7) (fun _ h9 => h9) rfl dX8_notes_46 ?_
        refine lv_bipush (v := 115) hx hb dX8_notes_49 (by decide) ?_
        refine lv_iload_n hx hb dX8_notes_51 rfl (lv_at hl 0 rfl) ?_
        refine lv_iadd hx hb dX8_notes_52 ?_
        refine k_nrm (y := (nI (115 + i))) (nI_add 115 i) ?_
        refine lv_dup2_11 hx hb dX8_notes_53 rfl rfl ?_
        refine va_iald hx hb hK hP 0 0 rfl rfl (vp_in_nI (by omega) (by decide)) dX8_notes_54 ?_
        refine k_nrm (y := (sf (115 + i))) (by rw [nI_clamp (by omega)]) ?_
        refine lv_iconst (v := 1) hx hb dX8_notes_55 (by decide) ?_
        refine lv_iadd hx hb dX8_notes_56 ?_
        refine k_nrm (y := (sf (115 + i) + 1)) (rfl) ?_
        refine va_iast hx hb hK hP hD hS 0 0 rfl rfl (vp_in_nI (by omega) (by decide)) dX8_notes_57 (fun H locs hP hD hS => ?_)
        have hP : va_P D vwCl [(ms, .inl (K, 889, .inl (upd sf ((nI (115 + i)).toNatClampNeg) (sf (115 + i) + 1)))), (mo, .inr (8, [.ref ms, .int sv, .ref mb, .int ty, .int th, .ref mk, .int ml, .ref mfd, .int (nI n), .int sp, .int on, .int tw])), (mfd, .inl (K, 9, .inl fd))] H := hP
        have hD : va_D A [(ms, .inl (K, 889, .inl (upd sf ((nI (115 + i)).toNatClampNeg) (sf (115 + i) + 1)))), (mo, .inr (8, [.ref ms, .int sv, .ref mb, .int ty, .int th, .ref mk, .int ml, .ref mfd, .int (nI n), .int sp, .int on, .int tw])), (mfd, .inl (K, 9, .inl fd))] := hD
        have hf9 : upd sf ((nI (115 + i)).toNatClampNeg) (sf (115 + i) + 1) = (upd sf (115 + i) (sf (115 + i) + 1)) := by rw [nI_clamp (by omega)]
        rw [hf9] at hP hD
        have hP : va_P D vwCl [(ms, .inl (K, 889, .inl (upd sf (115 + i) (sf (115 + i) + 1)))), (mo, .inr (8, [.ref ms, .int sv, .ref mb, .int ty, .int th, .ref mk, .int ml, .ref mfd, .int (nI n), .int sp, .int on, .int tw])), (mfd, .inl (K, 9, .inl fd))] H := hP
        have hD : va_D A [(ms, .inl (K, 889, .inl (upd sf (115 + i) (sf (115 + i) + 1)))), (mo, .inr (8, [.ref ms, .int sv, .ref mb, .int ty, .int th, .ref mk, .int ml, .ref mfd, .int (nI n), .int sp, .int on, .int tw])), (mfd, .inl (K, 9, .inl fd))] := hD
        have hP9 : va_P D vwCl [(mo, .inr (8, [.ref ms, .int sv, .ref mb, .int ty, .int th, .ref mk, .int ml, .ref mfd, .int (nI n), .int sp, .int on, .int tw])), (ms, .inl (K, 889, .inl (upd sf (115 + i) (sf (115 + i) + 1)))), (mfd, .inl (K, 9, .inl fd))] H := hP.sub [1, 0, 2] rfl
        have hD9 : va_D A [(mo, .inr (8, [.ref ms, .int sv, .ref mb, .int ty, .int th, .ref mk, .int ml, .ref mfd, .int (nI n), .int sp, .int on, .int tw])), (ms, .inl (K, 889, .inl (upd sf (115 + i) (sf (115 + i) + 1)))), (mfd, .inl (K, 9, .inl fd))] := hD.sub [1, 0, 2] (by decide) rfl
        have hK9 : va_K D vwCl [] s := hK.sub [] rfl
        exact W.vret hx hb hr (fun t ht9 hW9 => ⟨⟨(upd sf (115 + i) (sf (115 + i) + 1)), rfl, by (exact Or.inl ⟨i, hik, hno, c_13, c_15, rfl⟩), ⟨by rw [ht9]; exact hP9, va_K.moved hW9.alike hK9, hD9⟩⟩, hS.F ht9⟩) hS.2.2 dX8_notes_58
