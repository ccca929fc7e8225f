set_option maxRecDepth 20000 in
theorem lk_X8_greatest : Cond.code yX8_greatest cX8_greatest 5 (some .int) ∈ wsA := mA 1045 rfl rfl
theorem ly_X8_greatest : k_y yX8_greatest 1 := ⟨by decide +kernel, by decide +kernel, by decide +kernel⟩
set_option maxRecDepth 20000 in
theorem lm_X8_greatest : Cond.instanceMethod yX8_greatest ∈ wsA := mA 1044 rfl rfl
theorem le_X8_greatest : Cond.selects (yX8_greatest).cls yX8_greatest yX8_greatest ∈ wsA := mS 45 rfl rfl
set_option maxRecDepth 20000 in
theorem Lv_X8_144 : k_LV RX8 144 yX8_greatest cX8_greatest 5 (some .int) 1 := ⟨mA 1042 rfl rfl, lm_X8_greatest, le_X8_greatest, li_BarcodeWandModel, lk_X8_greatest, ly_X8_greatest⟩
theorem dX8_greatest_0 : decode cX8_greatest 0 = .ok (.aload_n 0, 1) := by decide +kernel
theorem dX8_greatest_1 : decode cX8_greatest 1 = .ok (.getfield 7, 3) := by decide +kernel
theorem dX8_greatest_4 : decode cX8_greatest 4 = .ok (.bipush 10, 2) := by decide +kernel
theorem dX8_greatest_6 : decode cX8_greatest 6 = .ok (.iload_n 1, 1) := by decide +kernel
theorem dX8_greatest_7 : decode cX8_greatest 7 = .ok (.iadd, 1) := by decide +kernel
theorem dX8_greatest_8 : decode cX8_greatest 8 = .ok (.iaload, 1) := by decide +kernel
theorem dX8_greatest_9 : decode cX8_greatest 9 = .ok (.istore_n 2, 1) := by decide +kernel
theorem dX8_greatest_10 : decode cX8_greatest 10 = .ok (.iconst (-1), 1) := by decide +kernel
theorem dX8_greatest_11 : decode cX8_greatest 11 = .ok (.istore_n 3, 1) := by decide +kernel
theorem dX8_greatest_12 : decode cX8_greatest 12 = .ok (.bipush (-9), 2) := by decide +kernel
theorem dX8_greatest_14 : decode cX8_greatest 14 = .ok (.istore 4, 2) := by decide +kernel
theorem dX8_greatest_16 : decode cX8_greatest 16 = .ok (.iload 4, 2) := by decide +kernel
theorem dX8_greatest_18 : decode cX8_greatest 18 = .ok (.bipush 9, 2) := by decide +kernel
theorem dX8_greatest_20 : decode cX8_greatest 20 = .ok (.if_icmp .gt 53, 3) := by decide +kernel
theorem dX8_greatest_23 : decode cX8_greatest 23 = .ok (.aload_n 0, 1) := by decide +kernel
theorem dX8_greatest_24 : decode cX8_greatest 24 = .ok (.getfield 7, 3) := by decide +kernel
theorem dX8_greatest_27 : decode cX8_greatest 27 = .ok (.bipush 10, 2) := by decide +kernel
theorem dX8_greatest_29 : decode cX8_greatest 29 = .ok (.iload_n 1, 1) := by decide +kernel
theorem dX8_greatest_30 : decode cX8_greatest 30 = .ok (.iadd, 1) := by decide +kernel
theorem dX8_greatest_31 : decode cX8_greatest 31 = .ok (.iload 4, 2) := by decide +kernel
theorem dX8_greatest_33 : decode cX8_greatest 33 = .ok (.iastore, 1) := by decide +kernel
theorem dX8_greatest_34 : decode cX8_greatest 34 = .ok (.aload_n 0, 1) := by decide +kernel
theorem dX8_greatest_35 : decode cX8_greatest 35 = .ok (.bipush 20, 2) := by decide +kernel
theorem dX8_greatest_37 : decode cX8_greatest 37 = .ok (.bipush 20, 2) := by decide +kernel
theorem dX8_greatest_39 : decode cX8_greatest 39 = .ok (.iconst 0, 1) := by decide +kernel
theorem dX8_greatest_40 : decode cX8_greatest 40 = .ok (.invokevirtual 128, 3) := by decide +kernel
theorem dX8_greatest_43 : decode cX8_greatest 43 = .ok (.aload_n 0, 1) := by decide +kernel
theorem dX8_greatest_44 : decode cX8_greatest 44 = .ok (.aload_n 0, 1) := by decide +kernel
theorem dX8_greatest_45 : decode cX8_greatest 45 = .ok (.getfield 7, 3) := by decide +kernel
theorem dX8_greatest_48 : decode cX8_greatest 48 = .ok (.bipush 93, 2) := by decide +kernel
theorem dX8_greatest_50 : decode cX8_greatest 50 = .ok (.iaload, 1) := by decide +kernel
theorem dX8_greatest_51 : decode cX8_greatest 51 = .ok (.invokevirtual 122, 3) := by decide +kernel
theorem dX8_greatest_54 : decode cX8_greatest 54 = .ok (.ifCond .ne 11, 3) := by decide +kernel
theorem dX8_greatest_57 : decode cX8_greatest 57 = .ok (.iload 4, 2) := by decide +kernel
theorem dX8_greatest_59 : decode cX8_greatest 59 = .ok (.bipush 100, 2) := by decide +kernel
theorem dX8_greatest_61 : decode cX8_greatest 61 = .ok (.iadd, 1) := by decide +kernel
theorem dX8_greatest_62 : decode cX8_greatest 62 = .ok (.goto 4, 3) := by decide +kernel
theorem dX8_greatest_65 : decode cX8_greatest 65 = .ok (.iload_n 3, 1) := by decide +kernel
theorem dX8_greatest_66 : decode cX8_greatest 66 = .ok (.istore_n 3, 1) := by decide +kernel
theorem dX8_greatest_67 : decode cX8_greatest 67 = .ok (.iinc 4 1, 3) := by decide +kernel
theorem dX8_greatest_70 : decode cX8_greatest 70 = .ok (.goto (-54), 3) := by decide +kernel
theorem dX8_greatest_73 : decode cX8_greatest 73 = .ok (.aload_n 0, 1) := by decide +kernel
theorem dX8_greatest_74 : decode cX8_greatest 74 = .ok (.getfield 7, 3) := by decide +kernel
theorem dX8_greatest_77 : decode cX8_greatest 77 = .ok (.bipush 10, 2) := by decide +kernel
theorem dX8_greatest_79 : decode cX8_greatest 79 = .ok (.iload_n 1, 1) := by decide +kernel
theorem dX8_greatest_80 : decode cX8_greatest 80 = .ok (.iadd, 1) := by decide +kernel
theorem dX8_greatest_81 : decode cX8_greatest 81 = .ok (.iload_n 2, 1) := by decide +kernel
theorem dX8_greatest_82 : decode cX8_greatest 82 = .ok (.iastore, 1) := by decide +kernel
theorem dX8_greatest_83 : decode cX8_greatest 83 = .ok (.iload_n 3, 1) := by decide +kernel
theorem dX8_greatest_84 : decode cX8_greatest 84 = .ok (.ireturn, 1) := by decide +kernel
theorem dX8_greatestSmudge_0 : decode cX8_greatestSmudge 0 = .ok (.aload_n 0, 1) := by decide +kernel
theorem dX8_greatestSmudge_1 : decode cX8_greatestSmudge 1 = .ok (.aload_n 0, 1) := by decide +kernel
theorem dX8_greatestSmudge_2 : decode cX8_greatestSmudge 2 = .ok (.iload_n 1, 1) := by decide +kernel
theorem dX8_greatestSmudge_3 : decode cX8_greatestSmudge 3 = .ok (.invokevirtual 68, 3) := by decide +kernel
theorem dX8_greatestSmudge_6 : decode cX8_greatestSmudge 6 = .ok (.iconst 1, 1) := by decide +kernel
theorem dX8_greatestSmudge_7 : decode cX8_greatestSmudge 7 = .ok (.invokevirtual 58, 3) := by decide +kernel
theorem dX8_greatestSmudge_10 : decode cX8_greatestSmudge 10 = .ok (.ifCond .eq 11, 3) := by decide +kernel
theorem dX8_greatestSmudge_13 : decode cX8_greatestSmudge 13 = .ok (.aload_n 0, 1) := by decide +kernel
theorem dX8_greatestSmudge_14 : decode cX8_greatestSmudge 14 = .ok (.iload_n 1, 1) := by decide +kernel
theorem dX8_greatestSmudge_15 : decode cX8_greatestSmudge 15 = .ok (.invokevirtual 144, 3) := by decide +kernel
theorem dX8_greatestSmudge_18 : decode cX8_greatestSmudge 18 = .ok (.goto 4, 3) := by decide +kernel
theorem dX8_greatestSmudge_21 : decode cX8_greatestSmudge 21 = .ok (.iconst 0, 1) := by decide +kernel
theorem dX8_greatestSmudge_22 : decode cX8_greatestSmudge 22 = .ok (.ireturn, 1) := by decide +kernel
theorem dX8_undo_0 : decode cX8_undo 0 = .ok (.aload_n 0, 1) := by decide +kernel
theorem dX8_undo_1 : decode cX8_undo 1 = .ok (.aload_n 0, 1) := by decide +kernel
theorem dX8_undo_2 : decode cX8_undo 2 = .ok (.getfield 27, 3) := by decide +kernel
theorem dX8_undo_5 : decode cX8_undo 5 = .ok (.ifCond .le 7, 3) := by decide +kernel
theorem dX8_undo_8 : decode cX8_undo 8 = .ok (.iconst 1, 1) := by decide +kernel
theorem dX8_undo_9 : decode cX8_undo 9 = .ok (.goto 4, 3) := by decide +kernel
theorem dX8_undo_12 : decode cX8_undo 12 = .ok (.iconst 0, 1) := by decide +kernel
theorem dX8_undo_13 : decode cX8_undo 13 = .ok (.iconst 1, 1) := by decide +kernel
theorem dX8_undo_14 : decode cX8_undo 14 = .ok (.invokevirtual 58, 3) := by decide +kernel
theorem dX8_undo_17 : decode cX8_undo 17 = .ok (.ifCond .ne 5, 3) := by decide +kernel
theorem dX8_undo_20 : decode cX8_undo 20 = .ok (.iconst 0, 1) := by decide +kernel
theorem dX8_undo_21 : decode cX8_undo 21 = .ok (.ireturn, 1) := by decide +kernel
theorem dX8_undo_22 : decode cX8_undo 22 = .ok (.aload_n 0, 1) := by decide +kernel
theorem dX8_undo_23 : decode cX8_undo 23 = .ok (.aload_n 0, 1) := by decide +kernel
theorem dX8_undo_24 : decode cX8_undo 24 = .ok (.getfield 27, 3) := by decide +kernel
theorem dX8_undo_27 : decode cX8_undo 27 = .ok (.iconst 0, 1) := by decide +kernel
theorem dX8_undo_28 : decode cX8_undo 28 = .ok (.invokevirtual 30, 3) := by decide +kernel
theorem dX8_undo_31 : decode cX8_undo 31 = .ok (.aload_n 0, 1) := by decide +kernel
theorem dX8_undo_32 : decode cX8_undo 32 = .ok (.dup, 1) := by decide +kernel
theorem dX8_undo_33 : decode cX8_undo 33 = .ok (.getfield 27, 3) := by decide +kernel
theorem dX8_undo_36 : decode cX8_undo 36 = .ok (.iconst 1, 1) := by decide +kernel
theorem dX8_undo_37 : decode cX8_undo 37 = .ok (.isub, 1) := by decide +kernel
theorem dX8_undo_38 : decode cX8_undo 38 = .ok (.putfield 27, 3) := by decide +kernel
theorem dX8_undo_41 : decode cX8_undo 41 = .ok (.aload_n 0, 1) := by decide +kernel
theorem dX8_undo_42 : decode cX8_undo 42 = .ok (.getfield 27, 3) := by decide +kernel
theorem dX8_undo_45 : decode cX8_undo 45 = .ok (.ireturn, 1) := by decide +kernel
set_option maxHeartbeats 4000000 in
set_option maxRecDepth 100000 in
theorem c_M_greatest (l : Launch) (D : va_G) (mo : Nat) (ms : Nat) (sv : Int32) (mb : Nat) (ty : Int32) (th : Int32) (mk : Nat) (ml : Int32) (mfd : Nat) (mf : Int32) (sp : Int32) (on : Int32) (tw : Int32) (K : ClassId) (sf : Nat → Int32) (lk : Nat → Int32) (fd : Nat → Int32) (x : ST) (en : Nat) (hR : RS x sf) (hbx : bST x) (hlx : labW x) (hen : en < s_ns x) (sz : Nat) : k_Mi (S := Int32 × Int32 × (Nat → Int32) × (Nat → Int32)) l D yX8_greatest cX8_greatest 5 (some .int) 7 0 0 169 [.ref mo, .int (nI en)] [(mo, .inr (8, [.ref ms, .int sv, .ref mb, .int ty, .int th, .ref mk, .int ml, .ref mfd, .int mf, .int sp, .int on, .int tw])), (ms, .inl (K, 889, .inl sf)), (mk, .inl (K, 41, .inl lk)), (mfd, .inl (K, 9, .inl fd))] [(K, .int)] (fun (r : Int32) (u : Int32 × Int32 × (Nat → Int32) × (Nat → Int32)) => match u with | (ml1, mf1, lk1, fd1) => r = (gsB x en 19)) (fun u => match u with | (ml1, mf1, lk1, fd1) => [(mo, .inr (8, [.ref ms, .int sv, .ref mb, .int ty, .int th, .ref mk, .int ml1, .ref mfd, .int mf1, .int sp, .int on, .int tw])), (ms, .inl (K, 889, .inl sf)), (mk, .inl (K, 41, .inl lk1)), (mfd, .inl (K, 9, .inl fd1))]) (fun u => match u with | (ml1, mf1, lk1, fd1) => []) sz := by
  refine Met.ofW (cc := cX8_greatest) (maxL := 5) (ret := (some .int)) (by decide) rfl ?_
  intro p e s m args below meth c s₁ B hml hv
  obtain ⟨rfl, hsz, hP, hK, hD0, hG⟩ := hv
  have hx := B.exec
  have hb := B.bytes
  have hr := B.returns
  have ht : ∀ v9 ∈ wsA, v9.before ([.ref mo, .int (nI en)] : List Value).toArray s = true := fun v9 h9 => atoms_spec (ws := k_ws yX8_greatest cX8_greatest 5 (some .int)) B.pre v9 (List.mem_cons_of_mem _ h9)
  have hown : s.vm.findClass RX8 = some m.cls := findClass_of_methodNamed B.named
  have S0 : k_C p s m ([.ref mo, .int (nI en)] : List Value).toArray c cX8_greatest 5 RX8 := ⟨hx, hb, hml, hown, ht⟩
  have hlocks := B.notSynchronized
  subst hsz
  have hD := hD0.self (sz := s.heap.size)
  generalize hAe : va_A [(mo, .inr (8, [.ref ms, .int sv, .ref mb, .int ty, .int th, .ref mk, .int ml, .ref mfd, .int mf, .int sp, .int on, .int tw])), (ms, .inl (K, 889, .inl sf)), (mk, .inl (K, 41, .inl lk)), (mfd, .inl (K, 9, .inl fd))] s.heap.size = A at hD hG ⊢
  have hA : ∀ q : Nat, s.heap.size ≤ q → A q := fun q h => by rw [← hAe]; exact Or.inr h
  have hS : va_S A s.heap s.heap [] := va_S.rf
  have hl := lv_entry ([.ref mo, .int (nI en)]) (n := 5) (Nat.le_of_ble_eq_true rfl)
  rw [lg_entry_eq]
  generalize (lg_sl ([.ref mo, .int (nI en)]) ++ List.replicate (5 - (lg_sl ([.ref mo, .int (nI en)])).length) Slot.unset).toArray = ls at hl ⊢
  have hl : lv_has ls 5 [(0, .ref mo), (1, .int (nI en))] := hl
  have hP : va_P D vwCl [(mo, .inr (8, [.ref ms, .int sv, .ref mb, .int ty, .int th, .ref mk, .int ml, .ref mfd, .int mf, .int sp, .int on, .int tw])), (ms, .inl (K, 889, .inl sf)), (mk, .inl (K, 41, .inl lk)), (mfd, .inl (K, 9, .inl fd))] s.heap := hP
  have hR9 := hR
  have hlx9 : labW x := hlx
  obtain ⟨q0, q1, q2, h51, q4, h93, ⟨h94, q7⟩, h125, h126⟩ := hR
  obtain ⟨b1, b2, b3, b4⟩ := bST_le hbx
  obtain ⟨hl1, hl2⟩ := hlx
  refine lv_aload_n hx hb dX8_greatest_0 rfl (lv_at hl 0 rfl) ?_
  refine va_get (D := D) (ci := 8) (v := .ref ms) (C := RX8) (T := TX8) (N := 12) hx hb ht inA_X8 hown hK hP 0 rfl rfl 0 (by decide) (ht _ lf_X8_7) (fun _ h9 => h9) rfl dX8_greatest_1 ?_
  refine lv_bipush (v := 10) hx hb dX8_greatest_4 (by decide) ?_
  refine lv_iload_n hx hb dX8_greatest_6 rfl (lv_at hl 1 rfl) ?_
  refine lv_iadd hx hb dX8_greatest_7 ?_
  refine k_nrm (y := (nI (10 + en))) (nI_add 10 en) ?_
  refine va_iald hx hb hK hP 1 0 rfl rfl (vp_in_nI (by omega) (by decide)) dX8_greatest_8 ?_
  refine k_nrm (y := (s_zf x en)) (by rw [nI_clamp (by omega)]; exact q2 en hen) ?_
  refine lv_istore_n (lv' := [(2, .int (s_zf x en)), (0, .ref mo), (1, .int (nI en))]) hx hb dX8_greatest_9 rfl hl (by decide) rfl (fun ls hl => ?_)
  refine lv_iconst (v := (-1)) hx hb dX8_greatest_10 (by decide) ?_
  refine lv_istore_n (lv' := [(3, .int (-1)), (2, .int (s_zf x en)), (0, .ref mo), (1, .int (nI en))]) hx hb dX8_greatest_11 rfl hl (by decide) rfl (fun ls hl => ?_)
  refine lv_bipush (v := (-9)) hx hb dX8_greatest_12 (by decide) ?_
  refine lv_istore (lv' := [(4, .int (-9)), (3, .int (-1)), (2, .int (s_zf x en)), (0, .ref mo), (1, .int (nI en))]) hx hb dX8_greatest_14 hl (by decide) rfl (fun ls hl => ?_)
  have hf_1 : (sf : Nat → Int32) = (upd sf (10 + en) (s_zf x en)) := (fa_upd_same (q2 en hen)).symm
  have hP : va_P D vwCl [(mo, .inr (8, [.ref ms, .int sv, .ref mb, .int ty, .int th, .ref mk, .int ml, .ref mfd, .int mf, .int sp, .int on, .int tw])), (ms, .inl (K, 889, .inl (upd sf (10 + en) (s_zf x en)))), (mk, .inl (K, 41, .inl lk)), (mfd, .inl (K, 9, .inl fd))] s.heap := (congrArg (fun z9 : Nat → Int32 => va_P D vwCl [(mo, .inr (8, [.ref ms, .int sv, .ref mb, .int ty, .int th, .ref mk, .int ml, .ref mfd, .int mf, .int sp, .int on, .int tw])), (ms, .inl (K, 889, .inl z9)), (mk, .inl (K, 41, .inl lk)), (mfd, .inl (K, 9, .inl fd))] s.heap) hf_1).mp hP
  have hD : va_D A [(mo, .inr (8, [.ref ms, .int sv, .ref mb, .int ty, .int th, .ref mk, .int ml, .ref mfd, .int mf, .int sp, .int on, .int tw])), (ms, .inl (K, 889, .inl (upd sf (10 + en) (s_zf x en)))), (mk, .inl (K, 41, .inl lk)), (mfd, .inl (K, 9, .inl fd))] := (congrArg (fun z9 : Nat → Int32 => va_D A [(mo, .inr (8, [.ref ms, .int sv, .ref mb, .int ty, .int th, .ref mk, .int ml, .ref mfd, .int mf, .int sp, .int on, .int tw])), (ms, .inl (K, 889, .inl z9)), (mk, .inl (K, 41, .inl lk)), (mfd, .inl (K, 9, .inl fd))]) hf_1).mp hD
  have he9 : (-9) = (nI 0 - 9) := by decide
  rw [he9] at hl
  have hl : lv_has ls 5 [(4, .int (nI 0 - 9)), (3, .int (-1)), (2, .int (s_zf x en)), (0, .ref mo), (1, .int (nI en))] := hl
  have hl : lv_has ls 5 [(4, .int (nI 0 - 9)), (3, .int (gsB x en 0)), (2, .int (s_zf x en)), (0, .ref mo), (1, .int (nI en))] := hl
  refine k_loop (ι := Nat × Int32 × Int32 × Int32 × (Nat → Int32) × (Nat → Int32)) (fun (x9 : Nat × Int32 × Int32 × Int32 × (Nat → Int32) × (Nat → Int32)) H9 locs9 ls9 => match x9 with | (i, vq, mlq, mfq, lq, fq) => (i ≤ 19) ∧ va_P D vwCl [(mo, .inr (8, [.ref ms, .int sv, .ref mb, .int ty, .int th, .ref mk, .int mlq, .ref mfd, .int mfq, .int sp, .int on, .int tw])), (ms, .inl (K, 889, .inl (upd sf (10 + en) vq))), (mk, .inl (K, 41, .inl lq)), (mfd, .inl (K, 9, .inl fq))] H9 ∧ va_D A [(mo, .inr (8, [.ref ms, .int sv, .ref mb, .int ty, .int th, .ref mk, .int mlq, .ref mfd, .int mfq, .int sp, .int on, .int tw])), (ms, .inl (K, 889, .inl (upd sf (10 + en) vq))), (mk, .inl (K, 41, .inl lq)), (mfd, .inl (K, 9, .inl fq))] ∧ va_S A s.heap H9 locs9 ∧ lv_has ls9 5 [(4, .int (nI i - 9)), (3, .int (gsB x en i)), (2, .int (s_zf x en)), (0, .ref mo), (1, .int (nI en))]) (fun (x9 : Nat × Int32 × Int32 × Int32 × (Nat → Int32) × (Nat → Int32)) => match x9 with | (i, vq, mlq, mfq, lq, fq) => 19 - i) ?_ ((0, s_zf x en, ml, mf, lk, fd)) ⟨(Nat.zero_le _), hP.sub [0, 1, 2, 3] rfl, hD.sub [0, 1, 2, 3] (by decide) rfl, hS, lv_sub hl [0, 1, 2, 3, 4] rfl⟩
  intro x9 H locs ls hF9 ih9
  obtain ⟨i, vq, mlq, mfq, lq, fq⟩ := x9
  obtain ⟨hi, hP, hD, hS, hl⟩ := hF9
  try dsimp only at ih9
  have hP : va_P D vwCl [(mo, .inr (8, [.ref ms, .int sv, .ref mb, .int ty, .int th, .ref mk, .int mlq, .ref mfd, .int mfq, .int sp, .int on, .int tw])), (ms, .inl (K, 889, .inl (upd sf (10 + en) vq))), (mk, .inl (K, 41, .inl lq)), (mfd, .inl (K, 9, .inl fq))] H := hP
  have hD : va_D A [(mo, .inr (8, [.ref ms, .int sv, .ref mb, .int ty, .int th, .ref mk, .int mlq, .ref mfd, .int mfq, .int sp, .int on, .int tw])), (ms, .inl (K, 889, .inl (upd sf (10 + en) vq))), (mk, .inl (K, 41, .inl lq)), (mfd, .inl (K, 9, .inl fq))] := hD
  have hl : lv_has ls 5 [(4, .int (nI i - 9)), (3, .int (gsB x en i)), (2, .int (s_zf x en)), (0, .ref mo), (1, .int (nI en))] := hl
  refine lv_iload hx hb dX8_greatest_16 (lv_at hl 0 rfl) ?_
  refine lv_bipush (v := 9) hx hb dX8_greatest_18 (by decide) ?_
  refine lv_icmp_gt (tgt := 73) hx hb dX8_greatest_20 (by decide) (fun c_2 => ?_) (fun c_2 => ?_)
  · have hc9 := c_2
    obtain rfl : 19 = i := by have h9 := (t19m i hi).1.mp c_2; omega
    refine lv_aload_n hx hb dX8_greatest_73 rfl (lv_at hl 3 rfl) ?_
    refine va_get (D := D) (ci := 8) (v := .ref ms) (C := RX8) (T := TX8) (N := 12) hx hb ht inA_X8 hown hK hP 0 rfl rfl 0 (by decide) (ht _ lf_X8_7) (fun _ h9 => h9) rfl dX8_greatest_74 ?_
    refine lv_bipush (v := 10) hx hb dX8_greatest_77 (by decide) ?_
    refine lv_iload_n hx hb dX8_greatest_79 rfl (lv_at hl 4 rfl) ?_
    refine lv_iadd hx hb dX8_greatest_80 ?_
    refine k_nrm (y := (nI (10 + en))) (nI_add 10 en) ?_
    refine lv_iload_n hx hb dX8_greatest_81 rfl (lv_at hl 2 rfl) ?_
    refine va_iast hx hb hK hP hD hS 1 0 rfl rfl (vp_in_nI (by omega) (by decide)) dX8_greatest_82 (fun H locs hP hD hS => ?_)
    have hP : va_P D vwCl [(mo, .inr (8, [.ref ms, .int sv, .ref mb, .int ty, .int th, .ref mk, .int mlq, .ref mfd, .int mfq, .int sp, .int on, .int tw])), (ms, .inl (K, 889, .inl (upd (upd sf (10 + en) vq) ((nI (10 + en)).toNatClampNeg) (s_zf x en)))), (mk, .inl (K, 41, .inl lq)), (mfd, .inl (K, 9, .inl fq))] H := hP
    have hD : va_D A [(mo, .inr (8, [.ref ms, .int sv, .ref mb, .int ty, .int th, .ref mk, .int mlq, .ref mfd, .int mfq, .int sp, .int on, .int tw])), (ms, .inl (K, 889, .inl (upd (upd sf (10 + en) vq) ((nI (10 + en)).toNatClampNeg) (s_zf x en)))), (mk, .inl (K, 41, .inl lq)), (mfd, .inl (K, 9, .inl fq))] := hD
    have hf9 : upd (upd sf (10 + en) vq) ((nI (10 + en)).toNatClampNeg) (s_zf x en) = sf := by rw [nI_clamp (by omega), upd_2]; exact fa_upd_same (q2 en hen)
    rw [hf9] at hP hD
    have hP : va_P D vwCl [(mo, .inr (8, [.ref ms, .int sv, .ref mb, .int ty, .int th, .ref mk, .int mlq, .ref mfd, .int mfq, .int sp, .int on, .int tw])), (ms, .inl (K, 889, .inl sf)), (mk, .inl (K, 41, .inl lq)), (mfd, .inl (K, 9, .inl fq))] H := hP
    have hD : va_D A [(mo, .inr (8, [.ref ms, .int sv, .ref mb, .int ty, .int th, .ref mk, .int mlq, .ref mfd, .int mfq, .int sp, .int on, .int tw])), (ms, .inl (K, 889, .inl sf)), (mk, .inl (K, 41, .inl lq)), (mfd, .inl (K, 9, .inl fq))] := hD
    refine lv_iload_n hx hb dX8_greatest_83 rfl (lv_at hl 1 rfl) ?_
    have hP9 : va_P D vwCl [(mo, .inr (8, [.ref ms, .int sv, .ref mb, .int ty, .int th, .ref mk, .int mlq, .ref mfd, .int mfq, .int sp, .int on, .int tw])), (ms, .inl (K, 889, .inl sf)), (mk, .inl (K, 41, .inl lq)), (mfd, .inl (K, 9, .inl fq))] H := hP.sub [0, 1, 2, 3] rfl
    have hD9 : va_D A [(mo, .inr (8, [.ref ms, .int sv, .ref mb, .int ty, .int th, .ref mk, .int mlq, .ref mfd, .int mfq, .int sp, .int on, .int tw])), (ms, .inl (K, 889, .inl sf)), (mk, .inl (K, 41, .inl lq)), (mfd, .inl (K, 9, .inl fq))] := hD.sub [0, 1, 2, 3] (by decide) rfl
    have hK9 : va_K D vwCl [] s := hK.sub [] rfl
    exact W.iret (v := (gsB x en 19)) hx hb hr (fun t ht9 hW9 => ⟨⟨(gsB x en 19), (mlq, mfq, lq, fq), rfl, by first | rfl | trivial | (simp only [hi, c_2, if_true, if_false, reduceIte, and_self]; done) | simp_all, ⟨by rw [ht9]; exact hP9, va_K.moved hW9.alike hK9, hD9⟩⟩, hS.F ht9⟩) hS.2.2 dX8_greatest_84
  · have hc9 := c_2
    have hik : i + 1 ≤ 19 := by rcases Nat.lt_or_ge i 19 with q9 | q9; exact q9; exact absurd ((t19m i hi).1.mpr q9) c_2
    refine lv_aload_n hx hb dX8_greatest_23 rfl (lv_at hl 3 rfl) ?_
    refine va_get (D := D) (ci := 8) (v := .ref ms) (C := RX8) (T := TX8) (N := 12) hx hb ht inA_X8 hown hK hP 0 rfl rfl 0 (by decide) (ht _ lf_X8_7) (fun _ h9 => h9) rfl dX8_greatest_24 ?_
    refine lv_bipush (v := 10) hx hb dX8_greatest_27 (by decide) ?_
    refine lv_iload_n hx hb dX8_greatest_29 rfl (lv_at hl 4 rfl) ?_
    refine lv_iadd hx hb dX8_greatest_30 ?_
    refine k_nrm (y := (nI (10 + en))) (nI_add 10 en) ?_
    refine lv_iload hx hb dX8_greatest_31 (lv_at hl 0 rfl) ?_
    refine va_iast hx hb hK hP hD hS 1 0 rfl rfl (vp_in_nI (by omega) (by decide)) dX8_greatest_33 (fun H locs hP hD hS => ?_)
    have hP : va_P D vwCl [(mo, .inr (8, [.ref ms, .int sv, .ref mb, .int ty, .int th, .ref mk, .int mlq, .ref mfd, .int mfq, .int sp, .int on, .int tw])), (ms, .inl (K, 889, .inl (upd (upd sf (10 + en) vq) ((nI (10 + en)).toNatClampNeg) (nI i - 9)))), (mk, .inl (K, 41, .inl lq)), (mfd, .inl (K, 9, .inl fq))] H := hP
    have hD : va_D A [(mo, .inr (8, [.ref ms, .int sv, .ref mb, .int ty, .int th, .ref mk, .int mlq, .ref mfd, .int mfq, .int sp, .int on, .int tw])), (ms, .inl (K, 889, .inl (upd (upd sf (10 + en) vq) ((nI (10 + en)).toNatClampNeg) (nI i - 9)))), (mk, .inl (K, 41, .inl lq)), (mfd, .inl (K, 9, .inl fq))] := hD
    have hf9 : upd (upd sf (10 + en) vq) ((nI (10 + en)).toNatClampNeg) (nI i - 9) = (upd sf (10 + en) (nI i - 9)) := by rw [nI_clamp (by omega)]; exact upd_2
    rw [hf9] at hP hD
    have hP : va_P D vwCl [(mo, .inr (8, [.ref ms, .int sv, .ref mb, .int ty, .int th, .ref mk, .int mlq, .ref mfd, .int mfq, .int sp, .int on, .int tw])), (ms, .inl (K, 889, .inl (upd sf (10 + en) (nI i - 9)))), (mk, .inl (K, 41, .inl lq)), (mfd, .inl (K, 9, .inl fq))] H := hP
    have hD : va_D A [(mo, .inr (8, [.ref ms, .int sv, .ref mb, .int ty, .int th, .ref mk, .int mlq, .ref mfd, .int mfq, .int sp, .int on, .int tw])), (ms, .inl (K, 889, .inl (upd sf (10 + en) (nI i - 9)))), (mk, .inl (K, 41, .inl lq)), (mfd, .inl (K, 9, .inl fq))] := hD
    refine lv_aload_n hx hb dX8_greatest_34 rfl (lv_at hl 3 rfl) ?_
    refine lv_bipush (v := 20) hx hb dX8_greatest_35 (by decide) ?_
    refine lv_bipush (v := 20) hx hb dX8_greatest_37 (by decide) ?_
    refine lv_iconst (v := 0) hx hb dX8_greatest_39 (by decide) ?_
    have ct := k_cut_of (wc := [(mo, .inr (8, [.ref ms, .int sv, .ref mb, .int ty, .int th, .ref mk, .int mlq, .ref mfd, .int mfq, .int sp, .int on, .int tw])), (ms, .inl (K, 889, .inl (upd sf (10 + en) (nI i - 9)))), (mk, .inl (K, 41, .inl lq))]) (wr := [(mfd, .inl (K, 9, .inl fq))]) (tc := [(K, .int)]) hG hS hA hK hP hD [0, 1, 2] [3] [0] rfl rfl (by decide) (by decide) (by decide) rfl
    refine k_endv (As := [.ref mo, .int 20, .int 20, .int 0]) ct (k_runV (As := [.int 20, .int 20, .int 0]) (rest := []) S0 Lv_X8_128 rfl (ci := 8) (q0 := 0) rfl rfl ct (c_M_looksL l D mo ms sv mb ty th mk mlq mfd mfq sp on tw K (upd sf (10 + en) (nI i - 9)) lq (s_nd x) (s_df x) (s_ns x) (upd (s_zf x) en (nI i - 9)) 20 20 0 hl1 ((pk_un (by omega)).trans q0) (by first | assumption | omega) (fun j9 h9 => (pk_un (by omega)).trans (q1 j9 h9)) (by assumption) (upd_z q2) H.size) hl.1 rfl (Nat.le_of_ble_eq_true rfl) rfl dX8_greatest_40 ⟨⟨Nat.le_of_ble_eq_true rfl, Nat.le_of_ble_eq_true rfl⟩, Nat.le_of_ble_eq_true rfl, Nat.le_of_ble_eq_true rfl⟩) rfl rfl (fun _ lg_4 H locs hw_5 hP hD hK hS => ?_)
    have hK : va_K D vwCl [(K, .int)] s := hK
    have hP : va_P D vwCl [(mfd, .inl (K, 9, .inl fq)), (mo, .inr (8, [.ref ms, .int sv, .ref mb, .int ty, .int th, .ref mk, .int (nI (s_ns x)), .ref mfd, .int mfq, .int sp, .int on, .int tw])), (ms, .inl (K, 889, .inl (upd sf (10 + en) (nI i - 9)))), (mk, .inl (K, 41, .inl lg_4))] H := hP
    have hD : va_D A [(mfd, .inl (K, 9, .inl fq)), (mo, .inr (8, [.ref ms, .int sv, .ref mb, .int ty, .int th, .ref mk, .int (nI (s_ns x)), .ref mfd, .int mfq, .int sp, .int on, .int tw])), (ms, .inl (K, 889, .inl (upd sf (10 + en) (nI i - 9)))), (mk, .inl (K, 41, .inl lg_4))] := hD
    have hw_5 : ∀ j, j < (s_ns x) → lg_4 j = drwF (s_nd x) (s_df x) (s_ns x) (upd (s_zf x) en (nI i - 9)) 20 20 0 j := hw_5
    have hlg := hw_5
    refine lv_aload_n hx hb dX8_greatest_43 rfl (lv_at hl 3 rfl) ?_
    refine lv_aload_n hx hb dX8_greatest_44 rfl (lv_at hl 3 rfl) ?_
    refine va_get (D := D) (ci := 8) (v := .ref ms) (C := RX8) (T := TX8) (N := 12) hx hb ht inA_X8 hown hK hP 1 rfl rfl 0 (by decide) (ht _ lf_X8_7) (fun _ h9 => h9) rfl dX8_greatest_45 ?_
    refine lv_bipush (v := 93) hx hb dX8_greatest_48 (by decide) ?_
    refine va_iald hx hb hK hP 2 0 rfl rfl (by unfold vp_in; decide) dX8_greatest_50 ?_
    refine k_nrm (y := (s_tol x)) ((show (upd sf (10 + en) (nI i - 9)) 93 = s_tol x from (pk_un (by omega)).trans h93)) ?_
    have ct := k_cut_of (wc := [(mo, .inr (8, [.ref ms, .int sv, .ref mb, .int ty, .int th, .ref mk, .int (nI (s_ns x)), .ref mfd, .int mfq, .int sp, .int on, .int tw])), (mk, .inl (K, 41, .inl lg_4)), (mfd, .inl (K, 9, .inl fq))]) (wr := [(ms, .inl (K, 889, .inl (upd sf (10 + en) (nI i - 9))))]) (tc := [(K, .int)]) hG hS hA hK hP hD [1, 3, 0] [2] [0] rfl rfl (by decide) (by decide) (by decide) rfl
    refine k_endi (As := [.ref mo, .int (s_tol x)]) ct (k_runV (As := [.int (s_tol x)]) (rest := []) S0 Lv_X8_122 rfl (ci := 8) (q0 := 0) rfl rfl ct (c_M_reads l D mo ms sv mb ty th mk (s_ns x) mfd mfq sp on tw K lg_4 fq (s_tol x) (by first | assumption | omega) H.size) hl.1 rfl (Nat.le_of_ble_eq_true rfl) rfl dX8_greatest_51 ⟨⟨Nat.le_of_ble_eq_true rfl, Nat.le_of_ble_eq_true rfl⟩, Nat.le_of_ble_eq_true rfl, Nat.le_of_ble_eq_true rfl⟩) rfl rfl (fun r_6 u H locs hw_9 hP hD hK hS => ?_)
    obtain ⟨mf1v_7, fd1v_8⟩ := u
    have hK : va_K D vwCl [(K, .int)] s := hK
    have hP : va_P D vwCl [(ms, .inl (K, 889, .inl (upd sf (10 + en) (nI i - 9)))), (mo, .inr (8, [.ref ms, .int sv, .ref mb, .int ty, .int th, .ref mk, .int (nI (s_ns x)), .ref mfd, .int mf1v_7, .int sp, .int on, .int tw])), (mk, .inl (K, 41, .inl lg_4)), (mfd, .inl (K, 9, .inl fd1v_8))] H := hP
    have hD : va_D A [(ms, .inl (K, 889, .inl (upd sf (10 + en) (nI i - 9)))), (mo, .inr (8, [.ref ms, .int sv, .ref mb, .int ty, .int th, .ref mk, .int (nI (s_ns x)), .ref mfd, .int mf1v_7, .int sp, .int on, .int tw])), (mk, .inl (K, 41, .inl lg_4)), (mfd, .inl (K, 9, .inl fd1v_8))] := hD
    have hw_9 : r_6 = resF (s_ns x) lg_4 (s_tol x) ∧ RFD (s_ns x) lg_4 r_6 mf1v_7 fd1v_8 := hw_9
    have htry := gs_try b2 hen hlg hw_9.1
    refine lv_if_ne (tgt := 65) hx hb dX8_greatest_54 (by decide) (fun c_10 => ?_) (fun c_10 => ?_)
    · have hc9 := c_10
      refine lv_iload_n hx hb dX8_greatest_65 rfl (lv_at hl 1 rfl) ?_
      refine k_nrm (y := (gsB x en (i + 1))) (by rw [gsB_n (fun q9 => c_10 (htry.mpr q9))]) ?_
      refine lv_istore_n (lv' := [(3, .int (gsB x en (i + 1))), (4, .int (nI i - 9)), (2, .int (s_zf x en)), (0, .ref mo), (1, .int (nI en))]) hx hb dX8_greatest_66 rfl hl (by decide) rfl (fun ls hl => ?_)
      obtain ⟨x_11, ex_11⟩ : ∃ z : Int32, z = (nI i - 9) + 1 := ⟨_, rfl⟩
      refine lv_iinc (v := x_11) (lv' := [(4, .int x_11), (3, .int (gsB x en (i + 1))), (2, .int (s_zf x en)), (0, .ref mo), (1, .int (nI en))]) hx hb dX8_greatest_67 hl (k := 1) rfl (by rw [ex_11]; rfl) (by decide) rfl (fun ls hl => ?_)
      refine lv_goto (tgt := 16) hx hb dX8_greatest_70 (by decide) ?_
      have he9 : x_11 = (nI (i + 1) - 9) := by rw [ex_11]; exact (t19m i hi).2
      rw [he9] at hl
      have hl : lv_has ls 5 [(4, .int (nI (i + 1) - 9)), (3, .int (gsB x en (i + 1))), (2, .int (s_zf x en)), (0, .ref mo), (1, .int (nI en))] := hl
      exact ih9 ((i + 1, (nI i - 9), (nI (s_ns x)), mf1v_7, lg_4, fd1v_8)) H locs ls (by omega) ⟨hik, hP.sub [1, 0, 2, 3] rfl, hD.sub [1, 0, 2, 3] (by decide) rfl, hS, lv_sub hl [0, 1, 2, 3, 4] rfl⟩
    · have hc9 := c_10
      refine lv_iload hx hb dX8_greatest_57 (lv_at hl 0 rfl) ?_
      refine lv_bipush (v := 100) hx hb dX8_greatest_59 (by decide) ?_
      refine lv_iadd hx hb dX8_greatest_61 ?_
      refine k_nrm (y := ((nI i - 9) + 100)) (rfl) ?_
      refine lv_goto (tgt := 66) hx hb dX8_greatest_62 (by decide) ?_
      refine k_nrm (y := (gsB x en (i + 1))) (by rw [gsB_y (htry.mp c_10)]) ?_
      refine lv_istore_n (lv' := [(3, .int (gsB x en (i + 1))), (4, .int (nI i - 9)), (2, .int (s_zf x en)), (0, .ref mo), (1, .int (nI en))]) hx hb dX8_greatest_66 rfl hl (by decide) rfl (fun ls hl => ?_)
      obtain ⟨x_12, ex_12⟩ : ∃ z : Int32, z = (nI i - 9) + 1 := ⟨_, rfl⟩
      refine lv_iinc (v := x_12) (lv' := [(4, .int x_12), (3, .int (gsB x en (i + 1))), (2, .int (s_zf x en)), (0, .ref mo), (1, .int (nI en))]) hx hb dX8_greatest_67 hl (k := 1) rfl (by rw [ex_12]; rfl) (by decide) rfl (fun ls hl => ?_)
      refine lv_goto (tgt := 16) hx hb dX8_greatest_70 (by decide) ?_
      have he9 : x_12 = (nI (i + 1) - 9) := by rw [ex_12]; exact (t19m i hi).2
      rw [he9] at hl
      have hl : lv_has ls 5 [(4, .int (nI (i + 1) - 9)), (3, .int (gsB x en (i + 1))), (2, .int (s_zf x en)), (0, .ref mo), (1, .int (nI en))] := hl
      exact ih9 ((i + 1, (nI i - 9), (nI (s_ns x)), mf1v_7, lg_4, fd1v_8)) H locs ls (by omega) ⟨hik, hP.sub [1, 0, 2, 3] rfl, hD.sub [1, 0, 2, 3] (by decide) rfl, hS, lv_sub hl [0, 1, 2, 3, 4] rfl⟩
set_option maxHeartbeats 4000000 in
set_option maxRecDepth 100000 in
theorem c_M_greatestS (l : Launch) (D : va_G) (mo : Nat) (ms : Nat) (sv : Int32) (mb : Nat) (ty : Int32) (th : Int32) (mk : Nat) (ml : Int32) (mfd : Nat) (mf : Int32) (sp : Int32) (on : Int32) (tw : Int32) (K : ClassId) (sf : Nat → Int32) (lk : Nat → Int32) (fd : Nat → Int32) (x : ST) (en : Nat) (hR : RS x sf) (hbx : bST x) (hlx : labW x) (hen : en < s_ns x) (sz : Nat) : k_Mi (S := Int32 × Int32 × (Nat → Int32) × (Nat → Int32)) l D yX8_greatestSmudge cX8_greatestSmudge 2 (some .int) 8 0 0 193 [.ref mo, .int (nI en)] [(mo, .inr (8, [.ref ms, .int sv, .ref mb, .int ty, .int th, .ref mk, .int ml, .ref mfd, .int mf, .int sp, .int on, .int tw])), (ms, .inl (K, 889, .inl sf)), (mk, .inl (K, 41, .inl lk)), (mfd, .inl (K, 9, .inl fd))] [(K, .int)] (fun (r : Int32) (u : Int32 × Int32 × (Nat → Int32) × (Nat → Int32)) => match u with | (ml1, mf1, lk1, fd1) => r = (gsB x en 19)) (fun u => match u with | (ml1, mf1, lk1, fd1) => [(mo, .inr (8, [.ref ms, .int sv, .ref mb, .int ty, .int 0, .ref mk, .int ml1, .ref mfd, .int mf1, .int sp, .int on, .int tw])), (ms, .inl (K, 889, .inl sf)), (mk, .inl (K, 41, .inl lk1)), (mfd, .inl (K, 9, .inl fd1))]) (fun u => match u with | (ml1, mf1, lk1, fd1) => []) sz := by
  refine Met.ofW (cc := cX8_greatestSmudge) (maxL := 2) (ret := (some .int)) (by decide) rfl ?_
  intro p e s m args below meth c s₁ B hml hv
  obtain ⟨rfl, hsz, hP, hK, hD0, hG⟩ := hv
  have hx := B.exec
  have hb := B.bytes
  have hr := B.returns
  have ht : ∀ v9 ∈ wsA, v9.before ([.ref mo, .int (nI en)] : List Value).toArray s = true := fun v9 h9 => atoms_spec (ws := k_ws yX8_greatestSmudge cX8_greatestSmudge 2 (some .int)) B.pre v9 (List.mem_cons_of_mem _ h9)
  have hown : s.vm.findClass RX8 = some m.cls := findClass_of_methodNamed B.named
  have S0 : k_C p s m ([.ref mo, .int (nI en)] : List Value).toArray c cX8_greatestSmudge 2 RX8 := ⟨hx, hb, hml, hown, ht⟩
  have hlocks := B.notSynchronized
  subst hsz
  have hD := hD0.self (sz := s.heap.size)
  generalize hAe : va_A [(mo, .inr (8, [.ref ms, .int sv, .ref mb, .int ty, .int th, .ref mk, .int ml, .ref mfd, .int mf, .int sp, .int on, .int tw])), (ms, .inl (K, 889, .inl sf)), (mk, .inl (K, 41, .inl lk)), (mfd, .inl (K, 9, .inl fd))] s.heap.size = A at hD hG ⊢
  have hA : ∀ q : Nat, s.heap.size ≤ q → A q := fun q h => by rw [← hAe]; exact Or.inr h
  have hS : va_S A s.heap s.heap [] := va_S.rf
  have hl := lv_entry ([.ref mo, .int (nI en)]) (n := 2) (Nat.le_of_ble_eq_true rfl)
  rw [lg_entry_eq]
  generalize (lg_sl ([.ref mo, .int (nI en)]) ++ List.replicate (2 - (lg_sl ([.ref mo, .int (nI en)])).length) Slot.unset).toArray = ls at hl ⊢
  have hl : lv_has ls 2 [(0, .ref mo), (1, .int (nI en))] := hl
  have hP : va_P D vwCl [(mo, .inr (8, [.ref ms, .int sv, .ref mb, .int ty, .int th, .ref mk, .int ml, .ref mfd, .int mf, .int sp, .int on, .int tw])), (ms, .inl (K, 889, .inl sf)), (mk, .inl (K, 41, .inl lk)), (mfd, .inl (K, 9, .inl fd))] s.heap := hP
  have hR9 := hR
  have hlx9 : labW x := hlx
  obtain ⟨q0, q1, q2, h51, q4, h93, ⟨h94, q7⟩, h125, h126⟩ := hR
  obtain ⟨b1, b2, b3, b4⟩ := bST_le hbx
  obtain ⟨hl1, hl2⟩ := hlx
  refine lv_aload_n hx hb dX8_greatestSmudge_0 rfl (lv_at hl 0 rfl) ?_
  refine lv_aload_n hx hb dX8_greatestSmudge_1 rfl (lv_at hl 0 rfl) ?_
  refine lv_iload_n hx hb dX8_greatestSmudge_2 rfl (lv_at hl 1 rfl) ?_
  have ct := k_cut_of (wc := [(mo, .inr (8, [.ref ms, .int sv, .ref mb, .int ty, .int th, .ref mk, .int ml, .ref mfd, .int mf, .int sp, .int on, .int tw])), (ms, .inl (K, 889, .inl sf))]) (wr := [(mk, .inl (K, 41, .inl lk)), (mfd, .inl (K, 9, .inl fd))]) (tc := [(K, .int)]) hG hS hA hK hP hD [0, 1] [2, 3] [0] rfl rfl (by decide) (by decide) (by decide) rfl
  refine k_endi (As := [.ref mo, .int (nI en)]) ct (k_runV (As := [.int (nI en)]) (rest := [.ref mo]) S0 Lv_X8_68 rfl (ci := 8) (q0 := 0) rfl rfl ct (c_M_isEl1 l D mo ms sv mb ty th mk ml mfd mf sp on tw K sf (nI en) (s_nd x) (by rw [← hl1]; exact inR_in hen (by omega)) (by assumption) (by first | assumption | omega) s.heap.size) hl.1 rfl (Nat.le_of_ble_eq_true rfl) rfl dX8_greatestSmudge_3 ⟨⟨Nat.le_of_ble_eq_true rfl, Nat.le_of_ble_eq_true rfl⟩, Nat.le_of_ble_eq_true rfl, Nat.le_of_ble_eq_true rfl⟩) rfl rfl (fun r_1 _ H locs hw_2 hP hD hK hS => ?_)
  have hK : va_K D vwCl [(K, .int)] s := hK
  have hP : va_P D vwCl [(mk, .inl (K, 41, .inl lk)), (mfd, .inl (K, 9, .inl fd)), (mo, .inr (8, [.ref ms, .int sv, .ref mb, .int ty, .int th, .ref mk, .int ml, .ref mfd, .int mf, .int sp, .int on, .int tw])), (ms, .inl (K, 889, .inl sf))] H := hP
  have hD : va_D A [(mk, .inl (K, 41, .inl lk)), (mfd, .inl (K, 9, .inl fd)), (mo, .inr (8, [.ref ms, .int sv, .ref mb, .int ty, .int th, .ref mk, .int ml, .ref mfd, .int mf, .int sp, .int on, .int tw])), (ms, .inl (K, 889, .inl sf))] := hD
  have hw_2 : r_1 = (1) := hw_2
  have hw_2 := hw_2.symm
  subst hw_2
  refine k_nrm (y := 1) rfl ?_
  refine lv_iconst (v := 1) hx hb dX8_greatestSmudge_6 (by decide) ?_
  have ct := k_cut_of (wc := [(mo, .inr (8, [.ref ms, .int sv, .ref mb, .int ty, .int th, .ref mk, .int ml, .ref mfd, .int mf, .int sp, .int on, .int tw]))]) (wr := [(mk, .inl (K, 41, .inl lk)), (mfd, .inl (K, 9, .inl fd)), (ms, .inl (K, 889, .inl sf))]) (tc := []) hG hS hA hK hP hD [2] [0, 1, 3] [] rfl rfl (by decide) (by decide) (by decide) rfl
  refine k_endi (As := [.ref mo, .int 1, .int 1]) ct (k_runV (As := [.int 1, .int 1]) (rest := []) S0 Lv_X8_58 rfl (ci := 8) (q0 := 0) rfl rfl ct (c_M_goes11 l D mo ms sv mb ty th mk ml mfd mf sp on tw H.size) hl.1 rfl (Nat.le_of_ble_eq_true rfl) rfl dX8_greatestSmudge_7 ⟨⟨Nat.le_of_ble_eq_true rfl, Nat.le_of_ble_eq_true rfl⟩, Nat.le_of_ble_eq_true rfl, Nat.le_of_ble_eq_true rfl⟩) rfl rfl (fun r_3 _ H locs hw_4 hP hD hK hS => ?_)
  have hK : va_K D vwCl [(K, .int)] s := hK
  have hP : va_P D vwCl [(mk, .inl (K, 41, .inl lk)), (mfd, .inl (K, 9, .inl fd)), (ms, .inl (K, 889, .inl sf)), (mo, .inr (8, [.ref ms, .int sv, .ref mb, .int ty, .int 0, .ref mk, .int ml, .ref mfd, .int mf, .int sp, .int on, .int tw]))] H := hP
  have hD : va_D A [(mk, .inl (K, 41, .inl lk)), (mfd, .inl (K, 9, .inl fd)), (ms, .inl (K, 889, .inl sf)), (mo, .inr (8, [.ref ms, .int sv, .ref mb, .int ty, .int 0, .ref mk, .int ml, .ref mfd, .int mf, .int sp, .int on, .int tw]))] := hD
  have hw_4 : r_3 = (1) := hw_4
  have hw_4 := hw_4.symm
  subst hw_4
  refine k_nrm (y := 1) rfl ?_
  refine lv_if_eq (tgt := 21) hx hb dX8_greatestSmudge_10 (by decide) (fun c9 => absurd c9 (by decide)) (fun _ => ?_)
  refine lv_aload_n hx hb dX8_greatestSmudge_13 rfl (lv_at hl 0 rfl) ?_
  refine lv_iload_n hx hb dX8_greatestSmudge_14 rfl (lv_at hl 1 rfl) ?_
  have ct := k_cut_of (wc := [(mo, .inr (8, [.ref ms, .int sv, .ref mb, .int ty, .int 0, .ref mk, .int ml, .ref mfd, .int mf, .int sp, .int on, .int tw])), (ms, .inl (K, 889, .inl sf)), (mk, .inl (K, 41, .inl lk)), (mfd, .inl (K, 9, .inl fd))]) (wr := []) (tc := [(K, .int)]) hG hS hA hK hP hD [3, 2, 0, 1] [] [0] rfl rfl (by decide) (by decide) (by decide) rfl
  refine k_endi (As := [.ref mo, .int (nI en)]) ct (k_runV (As := [.int (nI en)]) (rest := []) S0 Lv_X8_144 rfl (ci := 8) (q0 := 0) rfl rfl ct (c_M_greatest l D mo ms sv mb ty 0 mk ml mfd mf sp on tw K sf lk fd x en hR9 (by assumption) hlx9 (by assumption) H.size) hl.1 rfl (Nat.le_of_ble_eq_true rfl) rfl dX8_greatestSmudge_15 ⟨⟨Nat.le_of_ble_eq_true rfl, Nat.le_of_ble_eq_true rfl⟩, Nat.le_of_ble_eq_true rfl, Nat.le_of_ble_eq_true rfl⟩) rfl rfl (fun r_5 u H locs hw_10 hP hD hK hS => ?_)
  obtain ⟨ml1v_6, mf1v_7, lk1v_8, fd1v_9⟩ := u
  have hK : va_K D vwCl [(K, .int)] s := hK
  have hP : va_P D vwCl [(mo, .inr (8, [.ref ms, .int sv, .ref mb, .int ty, .int 0, .ref mk, .int ml1v_6, .ref mfd, .int mf1v_7, .int sp, .int on, .int tw])), (ms, .inl (K, 889, .inl sf)), (mk, .inl (K, 41, .inl lk1v_8)), (mfd, .inl (K, 9, .inl fd1v_9))] H := hP
  have hD : va_D A [(mo, .inr (8, [.ref ms, .int sv, .ref mb, .int ty, .int 0, .ref mk, .int ml1v_6, .ref mfd, .int mf1v_7, .int sp, .int on, .int tw])), (ms, .inl (K, 889, .inl sf)), (mk, .inl (K, 41, .inl lk1v_8)), (mfd, .inl (K, 9, .inl fd1v_9))] := hD
  have hw_10 : r_5 = (gsB x en 19) := hw_10
  have hw_10 := hw_10.symm
  subst hw_10
  refine k_nrm (y := (gsB x en 19)) rfl ?_
  refine lv_goto (tgt := 22) hx hb dX8_greatestSmudge_18 (by decide) ?_
  have hP9 : va_P D vwCl [(mo, .inr (8, [.ref ms, .int sv, .ref mb, .int ty, .int 0, .ref mk, .int ml1v_6, .ref mfd, .int mf1v_7, .int sp, .int on, .int tw])), (ms, .inl (K, 889, .inl sf)), (mk, .inl (K, 41, .inl lk1v_8)), (mfd, .inl (K, 9, .inl fd1v_9))] H := hP.sub [0, 1, 2, 3] rfl
  have hD9 : va_D A [(mo, .inr (8, [.ref ms, .int sv, .ref mb, .int ty, .int 0, .ref mk, .int ml1v_6, .ref mfd, .int mf1v_7, .int sp, .int on, .int tw])), (ms, .inl (K, 889, .inl sf)), (mk, .inl (K, 41, .inl lk1v_8)), (mfd, .inl (K, 9, .inl fd1v_9))] := hD.sub [0, 1, 2, 3] (by decide) rfl
  have hK9 : va_K D vwCl [] s := hK.sub [] rfl
  exact W.iret (v := (gsB x en 19)) hx hb hr (fun t ht9 hW9 => ⟨⟨(gsB x en 19), (ml1v_6, mf1v_7, lk1v_8, fd1v_9), rfl, by first | rfl | trivial | (simp only [if_true, if_false, reduceIte, and_self]; done) | simp_all, ⟨by rw [ht9]; exact hP9, va_K.moved hW9.alike hK9, hD9⟩⟩, hS.F ht9⟩) hS.2.2 dX8_greatestSmudge_22
set_option maxHeartbeats 4000000 in
set_option maxRecDepth 100000 in
theorem c_M_greatestSX (l : Launch) (D : va_G) (mo : Nat) (ms : Nat) (sv : Int32) (mb : Nat) (ty : Int32) (th : Int32) (mk : Nat) (ml : Int32) (mfd : Nat) (mf : Int32) (sp : Int32) (on : Int32) (tw : Int32) (K : ClassId) (sf : Nat → Int32) (x : ST) (v : Int32) (hR : RS x sf) (hbx : bST x) (hlx : labW x) (hxi : inR v (nI (s_ns x)) = 0) (sz : Nat) : k_Mi (S := Unit) l D yX8_greatestSmudge cX8_greatestSmudge 2 (some .int) 2 0 0 43 [.ref mo, .int v] [(mo, .inr (8, [.ref ms, .int sv, .ref mb, .int ty, .int th, .ref mk, .int ml, .ref mfd, .int mf, .int sp, .int on, .int tw])), (ms, .inl (K, 889, .inl sf))] [(K, .int)] (fun (r : Int32) (_ : Unit) => r = (0)) (fun _ => [(mo, .inr (8, [.ref ms, .int sv, .ref mb, .int ty, .int 1, .ref mk, .int ml, .ref mfd, .int mf, .int sp, .int on, .int tw])), (ms, .inl (K, 889, .inl sf))]) (fun _ => []) sz := by
  refine Met.ofW (cc := cX8_greatestSmudge) (maxL := 2) (ret := (some .int)) (by decide) rfl ?_
  intro p e s m args below meth c s₁ B hml hv
  obtain ⟨rfl, hsz, hP, hK, hD0, hG⟩ := hv
  have hx := B.exec
  have hb := B.bytes
  have hr := B.returns
  have ht : ∀ v9 ∈ wsA, v9.before ([.ref mo, .int v] : List Value).toArray s = true := fun v9 h9 => atoms_spec (ws := k_ws yX8_greatestSmudge cX8_greatestSmudge 2 (some .int)) B.pre v9 (List.mem_cons_of_mem _ h9)
  have hown : s.vm.findClass RX8 = some m.cls := findClass_of_methodNamed B.named
  have S0 : k_C p s m ([.ref mo, .int v] : List Value).toArray c cX8_greatestSmudge 2 RX8 := ⟨hx, hb, hml, hown, ht⟩
  have hlocks := B.notSynchronized
  subst hsz
  have hD := hD0.self (sz := s.heap.size)
  generalize hAe : va_A [(mo, .inr (8, [.ref ms, .int sv, .ref mb, .int ty, .int th, .ref mk, .int ml, .ref mfd, .int mf, .int sp, .int on, .int tw])), (ms, .inl (K, 889, .inl sf))] s.heap.size = A at hD hG ⊢
  have hA : ∀ q : Nat, s.heap.size ≤ q → A q := fun q h => by rw [← hAe]; exact Or.inr h
  have hS : va_S A s.heap s.heap [] := va_S.rf
  have hl := lv_entry ([.ref mo, .int v]) (n := 2) (Nat.le_of_ble_eq_true rfl)
  rw [lg_entry_eq]
  generalize (lg_sl ([.ref mo, .int v]) ++ List.replicate (2 - (lg_sl ([.ref mo, .int v])).length) Slot.unset).toArray = ls at hl ⊢
  have hl : lv_has ls 2 [(0, .ref mo), (1, .int v)] := hl
  have hP : va_P D vwCl [(mo, .inr (8, [.ref ms, .int sv, .ref mb, .int ty, .int th, .ref mk, .int ml, .ref mfd, .int mf, .int sp, .int on, .int tw])), (ms, .inl (K, 889, .inl sf))] s.heap := hP
  have hR9 := hR
  have hlx9 : labW x := hlx
  obtain ⟨q0, q1, q2, h51, q4, h93, ⟨h94, q7⟩, h125, h126⟩ := hR
  obtain ⟨b1, b2, b3, b4⟩ := bST_le hbx
  obtain ⟨hl1, hl2⟩ := hlx
  refine lv_aload_n hx hb dX8_greatestSmudge_0 rfl (lv_at hl 0 rfl) ?_
  refine lv_aload_n hx hb dX8_greatestSmudge_1 rfl (lv_at hl 0 rfl) ?_
  refine lv_iload_n hx hb dX8_greatestSmudge_2 rfl (lv_at hl 1 rfl) ?_
  have ct := k_cut_of (wc := [(mo, .inr (8, [.ref ms, .int sv, .ref mb, .int ty, .int th, .ref mk, .int ml, .ref mfd, .int mf, .int sp, .int on, .int tw])), (ms, .inl (K, 889, .inl sf))]) (wr := []) (tc := [(K, .int)]) hG hS hA hK hP hD [0, 1] [] [0] rfl rfl (by decide) (by decide) (by decide) rfl
  refine k_endi (As := [.ref mo, .int v]) ct (k_runV (As := [.int v]) (rest := [.ref mo]) S0 Lv_X8_68 rfl (ci := 8) (q0 := 0) rfl rfl ct (c_M_isEl0 l D mo ms sv mb ty th mk ml mfd mf sp on tw K sf v (s_nd x) (by rw [← hl1]; exact hxi) (by assumption) (by first | assumption | omega) s.heap.size) hl.1 rfl (Nat.le_of_ble_eq_true rfl) rfl dX8_greatestSmudge_3 ⟨⟨Nat.le_of_ble_eq_true rfl, Nat.le_of_ble_eq_true rfl⟩, Nat.le_of_ble_eq_true rfl, Nat.le_of_ble_eq_true rfl⟩) rfl rfl (fun r_1 _ H locs hw_2 hP hD hK hS => ?_)
  have hK : va_K D vwCl [(K, .int)] s := hK
  have hP : va_P D vwCl [(mo, .inr (8, [.ref ms, .int sv, .ref mb, .int ty, .int th, .ref mk, .int ml, .ref mfd, .int mf, .int sp, .int on, .int tw])), (ms, .inl (K, 889, .inl sf))] H := hP
  have hD : va_D A [(mo, .inr (8, [.ref ms, .int sv, .ref mb, .int ty, .int th, .ref mk, .int ml, .ref mfd, .int mf, .int sp, .int on, .int tw])), (ms, .inl (K, 889, .inl sf))] := hD
  have hw_2 : r_1 = (0) := hw_2
  have hw_2 := hw_2.symm
  subst hw_2
  refine k_nrm (y := 0) rfl ?_
  refine lv_iconst (v := 1) hx hb dX8_greatestSmudge_6 (by decide) ?_
  have ct := k_cut_of (wc := [(mo, .inr (8, [.ref ms, .int sv, .ref mb, .int ty, .int th, .ref mk, .int ml, .ref mfd, .int mf, .int sp, .int on, .int tw]))]) (wr := [(ms, .inl (K, 889, .inl sf))]) (tc := []) hG hS hA hK hP hD [0] [1] [] rfl rfl (by decide) (by decide) (by decide) rfl
  refine k_endi (As := [.ref mo, .int 0, .int 1]) ct (k_runV (As := [.int 0, .int 1]) (rest := []) S0 Lv_X8_58 rfl (ci := 8) (q0 := 0) rfl rfl ct (c_M_goes0 l D mo ms sv mb ty th mk ml mfd mf sp on tw 1 H.size) hl.1 rfl (Nat.le_of_ble_eq_true rfl) rfl dX8_greatestSmudge_7 ⟨⟨Nat.le_of_ble_eq_true rfl, Nat.le_of_ble_eq_true rfl⟩, Nat.le_of_ble_eq_true rfl, Nat.le_of_ble_eq_true rfl⟩) rfl rfl (fun r_3 _ H locs hw_4 hP hD hK hS => ?_)
  have hK : va_K D vwCl [(K, .int)] s := hK
  have hP : va_P D vwCl [(ms, .inl (K, 889, .inl sf)), (mo, .inr (8, [.ref ms, .int sv, .ref mb, .int ty, .int 1, .ref mk, .int ml, .ref mfd, .int mf, .int sp, .int on, .int tw]))] H := hP
  have hD : va_D A [(ms, .inl (K, 889, .inl sf)), (mo, .inr (8, [.ref ms, .int sv, .ref mb, .int ty, .int 1, .ref mk, .int ml, .ref mfd, .int mf, .int sp, .int on, .int tw]))] := hD
  have hw_4 : r_3 = (0) := hw_4
  have hw_4 := hw_4.symm
  subst hw_4
  refine k_nrm (y := 0) rfl ?_
  refine lv_if_eq (tgt := 21) hx hb dX8_greatestSmudge_10 (by decide) (fun _ => ?_) (fun c9 => absurd (by decide) c9)
  refine lv_iconst (v := 0) hx hb dX8_greatestSmudge_21 (by decide) ?_
  have hP9 : va_P D vwCl [(mo, .inr (8, [.ref ms, .int sv, .ref mb, .int ty, .int 1, .ref mk, .int ml, .ref mfd, .int mf, .int sp, .int on, .int tw])), (ms, .inl (K, 889, .inl sf))] H := hP.sub [1, 0] rfl
  have hD9 : va_D A [(mo, .inr (8, [.ref ms, .int sv, .ref mb, .int ty, .int 1, .ref mk, .int ml, .ref mfd, .int mf, .int sp, .int on, .int tw])), (ms, .inl (K, 889, .inl sf))] := hD.sub [1, 0] (by decide) rfl
  have hK9 : va_K D vwCl [] s := hK.sub [] rfl
  exact W.iret (v := 0) hx hb hr (fun t ht9 hW9 => ⟨⟨0, (), rfl, by first | rfl | trivial | (simp only [if_true, if_false, reduceIte, and_self]; done) | simp_all, ⟨by rw [ht9]; exact hP9, va_K.moved hW9.alike hK9, hD9⟩⟩, hS.F ht9⟩) hS.2.2 dX8_greatestSmudge_22
theorem RS_undo {x1 : ST} {sf : Nat → Int32} {kp : Nat} (hb : bST x1) (h : RS x1 (fun j9 => sf (127 * kp + j9))) : RS x1 (cpB sf kp 0 127) ∧ hiEq (cpB sf kp 0 127) sf := ⟨RS_lo hb (fun j hj => by
  have h9 := cpB_in (f := sf) (a := kp) (b := 0) (i := 127) hj
  rw [show 127 * 0 + j = j from by omega] at h9
  exact h9) h, fun j hj => cpB_no (by omega)⟩
set_option maxHeartbeats 4000000 in
set_option maxRecDepth 100000 in
theorem c_M_undo (l : Launch) (D : va_G) (mo : Nat) (ms : Nat) (kp : Nat) (mb : Nat) (ty : Int32) (th : Int32) (mk : Nat) (ml : Int32) (mfd : Nat) (mf : Int32) (sp : Int32) (on : Int32) (tw : Int32) (K : ClassId) (sf : Nat → Int32) (x1 : ST) (hkp : kp ≤ 6) (h1k : 1 ≤ kp) (hb1 : bST x1) (hR1 : RS x1 (fun j9 => sf (127 * kp + j9))) (sz : Nat) : k_Mi (S := Nat → Int32) l D yX8_undo cX8_undo 1 (some .int) 1 0 0 23 [.ref mo] [(mo, .inr (8, [.ref ms, .int (nI kp), .ref mb, .int ty, .int th, .ref mk, .int ml, .ref mfd, .int mf, .int sp, .int on, .int tw])), (ms, .inl (K, 889, .inl sf))] [(K, .int)] (fun (r : Int32) (sg : Nat → Int32) => r = (nI (kp - 1)) ∧ RS x1 sg ∧ hiEq sg sf) (fun sg => [(mo, .inr (8, [.ref ms, .int (nI (kp - 1)), .ref mb, .int ty, .int 0, .ref mk, .int ml, .ref mfd, .int mf, .int sp, .int on, .int tw])), (ms, .inl (K, 889, .inl sg))]) (fun sg => []) sz := by
  refine Met.ofW (cc := cX8_undo) (maxL := 1) (ret := (some .int)) (by decide) rfl ?_
  intro p e s m args below meth c s₁ B hml hv
  obtain ⟨rfl, hsz, hP, hK, hD0, hG⟩ := hv
  have hx := B.exec
  have hb := B.bytes
  have hr := B.returns
  have ht : ∀ v9 ∈ wsA, v9.before ([.ref mo] : List Value).toArray s = true := fun v9 h9 => atoms_spec (ws := k_ws yX8_undo cX8_undo 1 (some .int)) B.pre v9 (List.mem_cons_of_mem _ h9)
  have hown : s.vm.findClass RX8 = some m.cls := findClass_of_methodNamed B.named
  have S0 : k_C p s m ([.ref mo] : List Value).toArray c cX8_undo 1 RX8 := ⟨hx, hb, hml, hown, ht⟩
  have hlocks := B.notSynchronized
  subst hsz
  have hD := hD0.self (sz := s.heap.size)
  generalize hAe : va_A [(mo, .inr (8, [.ref ms, .int (nI kp), .ref mb, .int ty, .int th, .ref mk, .int ml, .ref mfd, .int mf, .int sp, .int on, .int tw])), (ms, .inl (K, 889, .inl sf))] s.heap.size = A at hD hG ⊢
  have hA : ∀ q : Nat, s.heap.size ≤ q → A q := fun q h => by rw [← hAe]; exact Or.inr h
  have hS : va_S A s.heap s.heap [] := va_S.rf
  have hl := lv_entry ([.ref mo]) (n := 1) (Nat.le_of_ble_eq_true rfl)
  rw [lg_entry_eq]
  generalize (lg_sl ([.ref mo]) ++ List.replicate (1 - (lg_sl ([.ref mo])).length) Slot.unset).toArray = ls at hl ⊢
  have hl : lv_has ls 1 [(0, .ref mo)] := hl
  have hP : va_P D vwCl [(mo, .inr (8, [.ref ms, .int (nI kp), .ref mb, .int ty, .int th, .ref mk, .int ml, .ref mfd, .int mf, .int sp, .int on, .int tw])), (ms, .inl (K, 889, .inl sf))] s.heap := hP
  refine lv_aload_n hx hb dX8_undo_0 rfl (lv_at hl 0 rfl) ?_
  refine lv_aload_n hx hb dX8_undo_1 rfl (lv_at hl 0 rfl) ?_
  refine va_get (D := D) (ci := 8) (v := .int (nI kp)) (C := RX8) (T := TX8) (N := 12) hx hb ht inA_X8 hown hK hP 0 rfl rfl 1 (by decide) (ht _ lf_X8_27) (fun _ h9 => h9) rfl dX8_undo_2 ?_
  refine lv_if_le (tgt := 12) hx hb dX8_undo_5 (by decide) (fun c9 => absurd c9 (nI_nle (by omega) (by omega))) (fun c_1 => ?_)
  refine lv_iconst (v := 1) hx hb dX8_undo_8 (by decide) ?_
  refine lv_goto (tgt := 13) hx hb dX8_undo_9 (by decide) ?_
  refine lv_iconst (v := 1) hx hb dX8_undo_13 (by decide) ?_
  have ct := k_cut_of (wc := [(mo, .inr (8, [.ref ms, .int (nI kp), .ref mb, .int ty, .int th, .ref mk, .int ml, .ref mfd, .int mf, .int sp, .int on, .int tw]))]) (wr := [(ms, .inl (K, 889, .inl sf))]) (tc := []) hG hS hA hK hP hD [0] [1] [] rfl rfl (by decide) (by decide) (by decide) rfl
  refine k_endi (As := [.ref mo, .int 1, .int 1]) ct (k_runV (As := [.int 1, .int 1]) (rest := []) S0 Lv_X8_58 rfl (ci := 8) (q0 := 0) rfl rfl ct (c_M_goes11 l D mo ms (nI kp) mb ty th mk ml mfd mf sp on tw s.heap.size) hl.1 rfl (Nat.le_of_ble_eq_true rfl) rfl dX8_undo_14 ⟨⟨Nat.le_of_ble_eq_true rfl, Nat.le_of_ble_eq_true rfl⟩, Nat.le_of_ble_eq_true rfl, Nat.le_of_ble_eq_true rfl⟩) rfl rfl (fun r_2 _ H locs hw_3 hP hD hK hS => ?_)
  have hK : va_K D vwCl [(K, .int)] s := hK
  have hP : va_P D vwCl [(ms, .inl (K, 889, .inl sf)), (mo, .inr (8, [.ref ms, .int (nI kp), .ref mb, .int ty, .int 0, .ref mk, .int ml, .ref mfd, .int mf, .int sp, .int on, .int tw]))] H := hP
  have hD : va_D A [(ms, .inl (K, 889, .inl sf)), (mo, .inr (8, [.ref ms, .int (nI kp), .ref mb, .int ty, .int 0, .ref mk, .int ml, .ref mfd, .int mf, .int sp, .int on, .int tw]))] := hD
  have hw_3 : r_2 = (1) := hw_3
  have hw_3 := hw_3.symm
  subst hw_3
  refine k_nrm (y := 1) rfl ?_
  refine lv_if_ne (tgt := 22) hx hb dX8_undo_17 (by decide) (fun _ => ?_) (fun c9 => absurd c9 (by decide))
  refine lv_aload_n hx hb dX8_undo_22 rfl (lv_at hl 0 rfl) ?_
  refine lv_aload_n hx hb dX8_undo_23 rfl (lv_at hl 0 rfl) ?_
  refine va_get (D := D) (ci := 8) (v := .int (nI kp)) (C := RX8) (T := TX8) (N := 12) hx hb ht inA_X8 hown hK hP 1 rfl rfl 1 (by decide) (ht _ lf_X8_27) (fun _ h9 => h9) rfl dX8_undo_24 ?_
  refine lv_iconst (v := 0) hx hb dX8_undo_27 (by decide) ?_
  have ct := k_cut_of (wc := [(mo, .inr (8, [.ref ms, .int (nI kp), .ref mb, .int ty, .int 0, .ref mk, .int ml, .ref mfd, .int mf, .int sp, .int on, .int tw])), (ms, .inl (K, 889, .inl sf))]) (wr := []) (tc := [(K, .int)]) hG hS hA hK hP hD [1, 0] [] [0] rfl rfl (by decide) (by decide) (by decide) rfl
  refine k_endv (As := [.ref mo, .int (nI kp), .int 0]) ct (k_runV (As := [.int (nI kp), .int 0]) (rest := []) S0 Lv_X8_30 rfl (ci := 8) (q0 := 0) rfl rfl ct (c_M_copies_un l D mo ms (nI kp) mb ty 0 mk ml mfd mf sp on tw K sf kp (by first | assumption | omega) H.size) hl.1 rfl (Nat.le_of_ble_eq_true rfl) rfl dX8_undo_28 ⟨⟨Nat.le_of_ble_eq_true rfl, Nat.le_of_ble_eq_true rfl⟩, Nat.le_of_ble_eq_true rfl, Nat.le_of_ble_eq_true rfl⟩) rfl rfl (fun _ _ H locs hw_5 hP hD hK hS => ?_)
  have hK : va_K D vwCl [(K, .int)] s := hK
  have hP : va_P D vwCl [(mo, .inr (8, [.ref ms, .int (nI kp), .ref mb, .int ty, .int 0, .ref mk, .int ml, .ref mfd, .int mf, .int sp, .int on, .int tw])), (ms, .inl (K, 889, .inl (cpB sf kp 0 127)))] H := hP
  have hD : va_D A [(mo, .inr (8, [.ref ms, .int (nI kp), .ref mb, .int ty, .int 0, .ref mk, .int ml, .ref mfd, .int mf, .int sp, .int on, .int tw])), (ms, .inl (K, 889, .inl (cpB sf kp 0 127)))] := hD
  refine lv_aload_n hx hb dX8_undo_31 rfl (lv_at hl 0 rfl) ?_
  refine lv_dup hx hb dX8_undo_32 rfl ?_
  refine va_get (D := D) (ci := 8) (v := .int (nI kp)) (C := RX8) (T := TX8) (N := 12) hx hb ht inA_X8 hown hK hP 0 rfl rfl 1 (by decide) (ht _ lf_X8_27) (fun _ h9 => h9) rfl dX8_undo_33 ?_
  refine lv_iconst (v := 1) hx hb dX8_undo_36 (by decide) ?_
  refine lv_isub hx hb dX8_undo_37 ?_
  refine k_nrm (y := (nI (kp - 1))) (pk_sub (b := 1) h1k) ?_
  refine va_put (D := D) (ci := 8) (v := .int (nI (kp - 1))) (ty := .int) (C := RX8) (T := TX8) (N := 12) hx hb ht inA_X8 tyX8 tyX8_ok nmX8 hown hK hP hD hS 0 rfl rfl 1 (by decide) (ht _ lf_X8_27) (fun _ h9 => h9) rfl (tyX8_ok 1 (by decide)) rfl rfl (Nat.le_of_ble_eq_true rfl) dX8_undo_38 (fun H locs hP hD hS => ?_)
  have hP : va_P D vwCl [(mo, .inr (8, [.ref ms, .int (nI (kp - 1)), .ref mb, .int ty, .int 0, .ref mk, .int ml, .ref mfd, .int mf, .int sp, .int on, .int tw])), (ms, .inl (K, 889, .inl (cpB sf kp 0 127)))] H := hP
  have hD : va_D A [(mo, .inr (8, [.ref ms, .int (nI (kp - 1)), .ref mb, .int ty, .int 0, .ref mk, .int ml, .ref mfd, .int mf, .int sp, .int on, .int tw])), (ms, .inl (K, 889, .inl (cpB sf kp 0 127)))] := hD
  refine lv_aload_n hx hb dX8_undo_41 rfl (lv_at hl 0 rfl) ?_
  refine va_get (D := D) (ci := 8) (v := .int (nI (kp - 1))) (C := RX8) (T := TX8) (N := 12) hx hb ht inA_X8 hown hK hP 0 rfl rfl 1 (by decide) (ht _ lf_X8_27) (fun _ h9 => h9) rfl dX8_undo_42 ?_
  have hP9 : va_P D vwCl [(mo, .inr (8, [.ref ms, .int (nI (kp - 1)), .ref mb, .int ty, .int 0, .ref mk, .int ml, .ref mfd, .int mf, .int sp, .int on, .int tw])), (ms, .inl (K, 889, .inl (cpB sf kp 0 127)))] H := hP.sub [0, 1] rfl
  have hD9 : va_D A [(mo, .inr (8, [.ref ms, .int (nI (kp - 1)), .ref mb, .int ty, .int 0, .ref mk, .int ml, .ref mfd, .int mf, .int sp, .int on, .int tw])), (ms, .inl (K, 889, .inl (cpB sf kp 0 127)))] := hD.sub [0, 1] (by decide) rfl
  have hK9 : va_K D vwCl [] s := hK.sub [] rfl
  exact W.iret (v := (nI (kp - 1))) hx hb hr (fun t ht9 hW9 => ⟨⟨(nI (kp - 1)), (cpB sf kp 0 127), rfl, by exact ⟨rfl, RS_undo hb1 hR1⟩, ⟨by rw [ht9]; exact hP9, va_K.moved hW9.alike hK9, hD9⟩⟩, hS.F ht9⟩) hS.2.2 dX8_undo_45
set_option maxHeartbeats 4000000 in
set_option maxRecDepth 100000 in
theorem c_M_undoX (l : Launch) (D : va_G) (mo : Nat) (ms : Nat) (mb : Nat) (ty : Int32) (th : Int32) (mk : Nat) (ml : Int32) (mfd : Nat) (mf : Int32) (sp : Int32) (on : Int32) (tw : Int32) (K : ClassId) (sf : Nat → Int32) (sz : Nat) : k_Mi (S := Unit) l D yX8_undo cX8_undo 1 (some .int) 1 0 0 22 [.ref mo] [(mo, .inr (8, [.ref ms, .int (nI 0), .ref mb, .int ty, .int th, .ref mk, .int ml, .ref mfd, .int mf, .int sp, .int on, .int tw])), (ms, .inl (K, 889, .inl sf))] [(K, .int)] (fun (r : Int32) (_ : Unit) => r = (0)) (fun _ => [(mo, .inr (8, [.ref ms, .int (nI 0), .ref mb, .int ty, .int 1, .ref mk, .int ml, .ref mfd, .int mf, .int sp, .int on, .int tw])), (ms, .inl (K, 889, .inl sf))]) (fun _ => []) sz := by
  refine Met.ofW (cc := cX8_undo) (maxL := 1) (ret := (some .int)) (by decide) rfl ?_
  intro p e s m args below meth c s₁ B hml hv
  obtain ⟨rfl, hsz, hP, hK, hD0, hG⟩ := hv
  have hx := B.exec
  have hb := B.bytes
  have hr := B.returns
  have ht : ∀ v9 ∈ wsA, v9.before ([.ref mo] : List Value).toArray s = true := fun v9 h9 => atoms_spec (ws := k_ws yX8_undo cX8_undo 1 (some .int)) B.pre v9 (List.mem_cons_of_mem _ h9)
  have hown : s.vm.findClass RX8 = some m.cls := findClass_of_methodNamed B.named
  have S0 : k_C p s m ([.ref mo] : List Value).toArray c cX8_undo 1 RX8 := ⟨hx, hb, hml, hown, ht⟩
  have hlocks := B.notSynchronized
  subst hsz
  have hD := hD0.self (sz := s.heap.size)
  generalize hAe : va_A [(mo, .inr (8, [.ref ms, .int (nI 0), .ref mb, .int ty, .int th, .ref mk, .int ml, .ref mfd, .int mf, .int sp, .int on, .int tw])), (ms, .inl (K, 889, .inl sf))] s.heap.size = A at hD hG ⊢
  have hA : ∀ q : Nat, s.heap.size ≤ q → A q := fun q h => by rw [← hAe]; exact Or.inr h
  have hS : va_S A s.heap s.heap [] := va_S.rf
  have hl := lv_entry ([.ref mo]) (n := 1) (Nat.le_of_ble_eq_true rfl)
  rw [lg_entry_eq]
  generalize (lg_sl ([.ref mo]) ++ List.replicate (1 - (lg_sl ([.ref mo])).length) Slot.unset).toArray = ls at hl ⊢
  have hl : lv_has ls 1 [(0, .ref mo)] := hl
  have hP : va_P D vwCl [(mo, .inr (8, [.ref ms, .int (nI 0), .ref mb, .int ty, .int th, .ref mk, .int ml, .ref mfd, .int mf, .int sp, .int on, .int tw])), (ms, .inl (K, 889, .inl sf))] s.heap := hP
  refine lv_aload_n hx hb dX8_undo_0 rfl (lv_at hl 0 rfl) ?_
  refine lv_aload_n hx hb dX8_undo_1 rfl (lv_at hl 0 rfl) ?_
  refine va_get (D := D) (ci := 8) (v := .int (nI 0)) (C := RX8) (T := TX8) (N := 12) hx hb ht inA_X8 hown hK hP 0 rfl rfl 1 (by decide) (ht _ lf_X8_27) (fun _ h9 => h9) rfl dX8_undo_2 ?_
  refine lv_if_le (tgt := 12) hx hb dX8_undo_5 (by decide) (fun c_1 => ?_) (fun c9 => absurd (by decide) c9)
  refine lv_iconst (v := 0) hx hb dX8_undo_12 (by decide) ?_
  refine lv_iconst (v := 1) hx hb dX8_undo_13 (by decide) ?_
  have ct := k_cut_of (wc := [(mo, .inr (8, [.ref ms, .int (nI 0), .ref mb, .int ty, .int th, .ref mk, .int ml, .ref mfd, .int mf, .int sp, .int on, .int tw]))]) (wr := [(ms, .inl (K, 889, .inl sf))]) (tc := []) hG hS hA hK hP hD [0] [1] [] rfl rfl (by decide) (by decide) (by decide) rfl
  refine k_endi (As := [.ref mo, .int 0, .int 1]) ct (k_runV (As := [.int 0, .int 1]) (rest := []) S0 Lv_X8_58 rfl (ci := 8) (q0 := 0) rfl rfl ct (c_M_goes0 l D mo ms (nI 0) mb ty th mk ml mfd mf sp on tw 1 s.heap.size) hl.1 rfl (Nat.le_of_ble_eq_true rfl) rfl dX8_undo_14 ⟨⟨Nat.le_of_ble_eq_true rfl, Nat.le_of_ble_eq_true rfl⟩, Nat.le_of_ble_eq_true rfl, Nat.le_of_ble_eq_true rfl⟩) rfl rfl (fun r_2 _ H locs hw_3 hP hD hK hS => ?_)
  have hK : va_K D vwCl [(K, .int)] s := hK
  have hP : va_P D vwCl [(ms, .inl (K, 889, .inl sf)), (mo, .inr (8, [.ref ms, .int (nI 0), .ref mb, .int ty, .int 1, .ref mk, .int ml, .ref mfd, .int mf, .int sp, .int on, .int tw]))] H := hP
  have hD : va_D A [(ms, .inl (K, 889, .inl sf)), (mo, .inr (8, [.ref ms, .int (nI 0), .ref mb, .int ty, .int 1, .ref mk, .int ml, .ref mfd, .int mf, .int sp, .int on, .int tw]))] := hD
  have hw_3 : r_2 = (0) := hw_3
  have hw_3 := hw_3.symm
  subst hw_3
  refine k_nrm (y := 0) rfl ?_
  refine lv_if_ne (tgt := 22) hx hb dX8_undo_17 (by decide) (fun c9 => absurd (by decide) c9) (fun _ => ?_)
  refine lv_iconst (v := 0) hx hb dX8_undo_20 (by decide) ?_
  have hP9 : va_P D vwCl [(mo, .inr (8, [.ref ms, .int (nI 0), .ref mb, .int ty, .int 1, .ref mk, .int ml, .ref mfd, .int mf, .int sp, .int on, .int tw])), (ms, .inl (K, 889, .inl sf))] H := hP.sub [1, 0] rfl
  have hD9 : va_D A [(mo, .inr (8, [.ref ms, .int (nI 0), .ref mb, .int ty, .int 1, .ref mk, .int ml, .ref mfd, .int mf, .int sp, .int on, .int tw])), (ms, .inl (K, 889, .inl sf))] := hD.sub [1, 0] (by decide) rfl
  have hK9 : va_K D vwCl [] s := hK.sub [] rfl
  exact W.iret (v := 0) hx hb hr (fun t ht9 hW9 => ⟨⟨0, (), rfl, by first | rfl | trivial | (simp only [c_1, if_true, if_false, reduceIte, and_self]; done) | simp_all, ⟨by rw [ht9]; exact hP9, va_K.moved hW9.alike hK9, hD9⟩⟩, hS.F ht9⟩) hS.2.2 dX8_undo_21
