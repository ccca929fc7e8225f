
theorem k_text {args : Array Value} {s : State} {k : Nat} {tx : String} (h1 : (Cond.stringRef RX7 k tx).before args s = true) (h2 : (Cond.exactly (.string "BarcodeWand" k) "java/lang/String").before args s = true) : ∃ a : Nat, vk_R RX7 k tx a s := by
  obtain ⟨a, c9, cell, k9, h3, -⟩ := Cond.exactly_spec h2
  exact ⟨a, vk_R.of h1 h3⟩
set_option maxHeartbeats 4000000 in
set_option maxRecDepth 100000 in
theorem law_W {s : State} {b : Nat} {args : Array Value} (hts : ∀ w ∈ lw_tbl, w.before args s = true) (hgv : (Jvm.Cond.and given_1 narrow_1).before args s = true) : ∃ t : Nat, va_Z "BarcodeWand" "WIDTHS" "[I" (.ref t) (fun q : Nat => s.heap.size ≤ q) s s.heap ∧ va_T .int t 40 (fun j => .int (wdt j)) (fun q : Nat => s.heap.size ≤ q) s s.heap := by
  have hs := flat_of_before _ hgv
  have hA : ∀ a : Nat, a < s.heap.size → ¬ (fun q : Nat => s.heap.size ≤ q) a := fun a h => Nat.not_le.mpr h
  have hw0 : (Term.elem (.static "BarcodeWand" "WIDTHS" "[I") (.int (Int32.ofNat 0))).eval args s none [] s = some (.int (wdt 0)) := va_eqt (z := 3) (hs _ (by decide +kernel))
  have hw1 : (Term.elem (.static "BarcodeWand" "WIDTHS" "[I") (.int (Int32.ofNat 1))).eval args s none [] s = some (.int (wdt 1)) := va_eqt (z := 2) (hs _ (by decide +kernel))
  have hw2 : (Term.elem (.static "BarcodeWand" "WIDTHS" "[I") (.int (Int32.ofNat 2))).eval args s none [] s = some (.int (wdt 2)) := va_eqt (z := 1) (hs _ (by decide +kernel))
  have hw3 : (Term.elem (.static "BarcodeWand" "WIDTHS" "[I") (.int (Int32.ofNat 3))).eval args s none [] s = some (.int (wdt 3)) := va_eqt (z := 1) (hs _ (by decide +kernel))
  have hw4 : (Term.elem (.static "BarcodeWand" "WIDTHS" "[I") (.int (Int32.ofNat 4))).eval args s none [] s = some (.int (wdt 4)) := va_eqt (z := 2) (hs _ (by decide +kernel))
  have hw5 : (Term.elem (.static "BarcodeWand" "WIDTHS" "[I") (.int (Int32.ofNat 5))).eval args s none [] s = some (.int (wdt 5)) := va_eqt (z := 2) (hs _ (by decide +kernel))
  have hw6 : (Term.elem (.static "BarcodeWand" "WIDTHS" "[I") (.int (Int32.ofNat 6))).eval args s none [] s = some (.int (wdt 6)) := va_eqt (z := 2) (hs _ (by decide +kernel))
  have hw7 : (Term.elem (.static "BarcodeWand" "WIDTHS" "[I") (.int (Int32.ofNat 7))).eval args s none [] s = some (.int (wdt 7)) := va_eqt (z := 1) (hs _ (by decide +kernel))
  have hw8 : (Term.elem (.static "BarcodeWand" "WIDTHS" "[I") (.int (Int32.ofNat 8))).eval args s none [] s = some (.int (wdt 8)) := va_eqt (z := 2) (hs _ (by decide +kernel))
  have hw9 : (Term.elem (.static "BarcodeWand" "WIDTHS" "[I") (.int (Int32.ofNat 9))).eval args s none [] s = some (.int (wdt 9)) := va_eqt (z := 1) (hs _ (by decide +kernel))
  have hw10 : (Term.elem (.static "BarcodeWand" "WIDTHS" "[I") (.int (Int32.ofNat 10))).eval args s none [] s = some (.int (wdt 10)) := va_eqt (z := 2) (hs _ (by decide +kernel))
  have hw11 : (Term.elem (.static "BarcodeWand" "WIDTHS" "[I") (.int (Int32.ofNat 11))).eval args s none [] s = some (.int (wdt 11)) := va_eqt (z := 2) (hs _ (by decide +kernel))
  have hw12 : (Term.elem (.static "BarcodeWand" "WIDTHS" "[I") (.int (Int32.ofNat 12))).eval args s none [] s = some (.int (wdt 12)) := va_eqt (z := 1) (hs _ (by decide +kernel))
  have hw13 : (Term.elem (.static "BarcodeWand" "WIDTHS" "[I") (.int (Int32.ofNat 13))).eval args s none [] s = some (.int (wdt 13)) := va_eqt (z := 4) (hs _ (by decide +kernel))
  have hw14 : (Term.elem (.static "BarcodeWand" "WIDTHS" "[I") (.int (Int32.ofNat 14))).eval args s none [] s = some (.int (wdt 14)) := va_eqt (z := 1) (hs _ (by decide +kernel))
  have hw15 : (Term.elem (.static "BarcodeWand" "WIDTHS" "[I") (.int (Int32.ofNat 15))).eval args s none [] s = some (.int (wdt 15)) := va_eqt (z := 1) (hs _ (by decide +kernel))
  have hw16 : (Term.elem (.static "BarcodeWand" "WIDTHS" "[I") (.int (Int32.ofNat 16))).eval args s none [] s = some (.int (wdt 16)) := va_eqt (z := 1) (hs _ (by decide +kernel))
  have hw17 : (Term.elem (.static "BarcodeWand" "WIDTHS" "[I") (.int (Int32.ofNat 17))).eval args s none [] s = some (.int (wdt 17)) := va_eqt (z := 1) (hs _ (by decide +kernel))
  have hw18 : (Term.elem (.static "BarcodeWand" "WIDTHS" "[I") (.int (Int32.ofNat 18))).eval args s none [] s = some (.int (wdt 18)) := va_eqt (z := 3) (hs _ (by decide +kernel))
  have hw19 : (Term.elem (.static "BarcodeWand" "WIDTHS" "[I") (.int (Int32.ofNat 19))).eval args s none [] s = some (.int (wdt 19)) := va_eqt (z := 2) (hs _ (by decide +kernel))
  have hw20 : (Term.elem (.static "BarcodeWand" "WIDTHS" "[I") (.int (Int32.ofNat 20))).eval args s none [] s = some (.int (wdt 20)) := va_eqt (z := 1) (hs _ (by decide +kernel))
  have hw21 : (Term.elem (.static "BarcodeWand" "WIDTHS" "[I") (.int (Int32.ofNat 21))).eval args s none [] s = some (.int (wdt 21)) := va_eqt (z := 2) (hs _ (by decide +kernel))
  have hw22 : (Term.elem (.static "BarcodeWand" "WIDTHS" "[I") (.int (Int32.ofNat 22))).eval args s none [] s = some (.int (wdt 22)) := va_eqt (z := 3) (hs _ (by decide +kernel))
  have hw23 : (Term.elem (.static "BarcodeWand" "WIDTHS" "[I") (.int (Int32.ofNat 23))).eval args s none [] s = some (.int (wdt 23)) := va_eqt (z := 1) (hs _ (by decide +kernel))
  have hw24 : (Term.elem (.static "BarcodeWand" "WIDTHS" "[I") (.int (Int32.ofNat 24))).eval args s none [] s = some (.int (wdt 24)) := va_eqt (z := 1) (hs _ (by decide +kernel))
  have hw25 : (Term.elem (.static "BarcodeWand" "WIDTHS" "[I") (.int (Int32.ofNat 25))).eval args s none [] s = some (.int (wdt 25)) := va_eqt (z := 1) (hs _ (by decide +kernel))
  have hw26 : (Term.elem (.static "BarcodeWand" "WIDTHS" "[I") (.int (Int32.ofNat 26))).eval args s none [] s = some (.int (wdt 26)) := va_eqt (z := 1) (hs _ (by decide +kernel))
  have hw27 : (Term.elem (.static "BarcodeWand" "WIDTHS" "[I") (.int (Int32.ofNat 27))).eval args s none [] s = some (.int (wdt 27)) := va_eqt (z := 4) (hs _ (by decide +kernel))
  have hw28 : (Term.elem (.static "BarcodeWand" "WIDTHS" "[I") (.int (Int32.ofNat 28))).eval args s none [] s = some (.int (wdt 28)) := va_eqt (z := 1) (hs _ (by decide +kernel))
  have hw29 : (Term.elem (.static "BarcodeWand" "WIDTHS" "[I") (.int (Int32.ofNat 29))).eval args s none [] s = some (.int (wdt 29)) := va_eqt (z := 3) (hs _ (by decide +kernel))
  have hw30 : (Term.elem (.static "BarcodeWand" "WIDTHS" "[I") (.int (Int32.ofNat 30))).eval args s none [] s = some (.int (wdt 30)) := va_eqt (z := 1) (hs _ (by decide +kernel))
  have hw31 : (Term.elem (.static "BarcodeWand" "WIDTHS" "[I") (.int (Int32.ofNat 31))).eval args s none [] s = some (.int (wdt 31)) := va_eqt (z := 2) (hs _ (by decide +kernel))
  have hw32 : (Term.elem (.static "BarcodeWand" "WIDTHS" "[I") (.int (Int32.ofNat 32))).eval args s none [] s = some (.int (wdt 32)) := va_eqt (z := 1) (hs _ (by decide +kernel))
  have hw33 : (Term.elem (.static "BarcodeWand" "WIDTHS" "[I") (.int (Int32.ofNat 33))).eval args s none [] s = some (.int (wdt 33)) := va_eqt (z := 2) (hs _ (by decide +kernel))
  have hw34 : (Term.elem (.static "BarcodeWand" "WIDTHS" "[I") (.int (Int32.ofNat 34))).eval args s none [] s = some (.int (wdt 34)) := va_eqt (z := 1) (hs _ (by decide +kernel))
  have hw35 : (Term.elem (.static "BarcodeWand" "WIDTHS" "[I") (.int (Int32.ofNat 35))).eval args s none [] s = some (.int (wdt 35)) := va_eqt (z := 3) (hs _ (by decide +kernel))
  have hw36 : (Term.elem (.static "BarcodeWand" "WIDTHS" "[I") (.int (Int32.ofNat 36))).eval args s none [] s = some (.int (wdt 36)) := va_eqt (z := 3) (hs _ (by decide +kernel))
  have hw37 : (Term.elem (.static "BarcodeWand" "WIDTHS" "[I") (.int (Int32.ofNat 37))).eval args s none [] s = some (.int (wdt 37)) := va_eqt (z := 1) (hs _ (by decide +kernel))
  have hw38 : (Term.elem (.static "BarcodeWand" "WIDTHS" "[I") (.int (Int32.ofNat 38))).eval args s none [] s = some (.int (wdt 38)) := va_eqt (z := 1) (hs _ (by decide +kernel))
  have hw39 : (Term.elem (.static "BarcodeWand" "WIDTHS" "[I") (.int (Int32.ofNat 39))).eval args s none [] s = some (.int (wdt 39)) := va_eqt (z := 2) (hs _ (by decide +kernel))
  have hel : ∀ j : Nat, j < 40 → (Term.elem (.static "BarcodeWand" "WIDTHS" "[I") (.int (Int32.ofNat j))).eval args s none [] s = some (.int (wdt j)) := fun j hj => by
    match j, hj with
    | 0, _ => exact hw0
    | 1, _ => exact hw1
    | 2, _ => exact hw2
    | 3, _ => exact hw3
    | 4, _ => exact hw4
    | 5, _ => exact hw5
    | 6, _ => exact hw6
    | 7, _ => exact hw7
    | 8, _ => exact hw8
    | 9, _ => exact hw9
    | 10, _ => exact hw10
    | 11, _ => exact hw11
    | 12, _ => exact hw12
    | 13, _ => exact hw13
    | 14, _ => exact hw14
    | 15, _ => exact hw15
    | 16, _ => exact hw16
    | 17, _ => exact hw17
    | 18, _ => exact hw18
    | 19, _ => exact hw19
    | 20, _ => exact hw20
    | 21, _ => exact hw21
    | 22, _ => exact hw22
    | 23, _ => exact hw23
    | 24, _ => exact hw24
    | 25, _ => exact hw25
    | 26, _ => exact hw26
    | 27, _ => exact hw27
    | 28, _ => exact hw28
    | 29, _ => exact hw29
    | 30, _ => exact hw30
    | 31, _ => exact hw31
    | 32, _ => exact hw32
    | 33, _ => exact hw33
    | 34, _ => exact hw34
    | 35, _ => exact hw35
    | 36, _ => exact hw36
    | 37, _ => exact hw37
    | 38, _ => exact hw38
    | 39, _ => exact hw39
    | n + 40, h => exact absurd h (by omega)
  obtain ⟨t, ht9, hT9⟩ := va_Tof (args := args) (tm := (.static "BarcodeWand" "WIDTHS" "[I")) (ty := .int) (N := 40) (f := fun j => .int (wdt j)) (A := (fun q : Nat => s.heap.size ≤ q)) (by decide) (hs _ (by decide +kernel)) (va_eqt (z := 40) (hs _ (by decide +kernel))) hel hA
  exact ⟨t, va_Zof (hts _ (List.mem_append_right _ (List.mem_of_getElem? (i := 319) rfl))) (hts _ (List.mem_append_right _ (List.mem_of_getElem? (i := 1) rfl))) ht9 hA, hT9⟩
set_option maxHeartbeats 4000000 in
set_option maxRecDepth 100000 in
theorem law_G {p : Program} {s : State} {m : MethodId} {meth : Method} {c : Code} {b L : Nat} {xs : Nat → Int32} (C0 : lw_At p s m meth c b L xs) : k_G (fun q : Nat => s.heap.size ≤ q) s s.heap := by
  obtain ⟨hx, hb, hr, hml, hown, hts, hX, hbl, hlocks, hgv⟩ := C0
  have hs := flat_of_before _ hgv
  have hA : ∀ a : Nat, a < s.heap.size → ¬ (fun q : Nat => s.heap.size ≤ q) a := fun a h => Nat.not_le.mpr h
  refine ⟨fun w hw hn => va_Nw.of (k_NX_on hn) (hts w (List.mem_append_right _ hw)), vx_Zqof (hts _ (List.mem_append_right _ (List.mem_of_getElem? (i := 511) rfl))) (hts _ (List.mem_append_right _ (List.mem_of_getElem? (i := 11) rfl))) (hs _ (by decide +kernel)) hA, vx_Zqof (hts _ (List.mem_append_right _ (List.mem_of_getElem? (i := 513) rfl))) (hts _ (List.mem_append_right _ (List.mem_of_getElem? (i := 11) rfl))) (hs _ (by decide +kernel)) hA, ?_, ⟨va_Nc.of (args := #[Value.ref b]) (hs _ (by decide +kernel)), va_Nc.of (args := #[Value.ref b]) (hs _ (by decide +kernel))⟩, (hts _ (List.mem_append_right _ (List.mem_of_getElem? (i := 118) rfl))), law_W (b := b) hts hgv⟩
  unfold k_TX
  refine List.forall_mem_cons.mpr ⟨k_text (hts _ (List.mem_append_right _ (List.mem_of_getElem? (i := 525) rfl))) (hs _ (by decide +kernel)), ?_⟩
  refine List.forall_mem_cons.mpr ⟨k_text (hts _ (List.mem_append_right _ (List.mem_of_getElem? (i := 587) rfl))) (hs _ (by decide +kernel)), ?_⟩
  refine List.forall_mem_cons.mpr ⟨k_text (hts _ (List.mem_append_right _ (List.mem_of_getElem? (i := 597) rfl))) (hs _ (by decide +kernel)), ?_⟩
  refine List.forall_mem_cons.mpr ⟨k_text (hts _ (List.mem_append_right _ (List.mem_of_getElem? (i := 616) rfl))) (hs _ (by decide +kernel)), ?_⟩
  refine List.forall_mem_cons.mpr ⟨k_text (hts _ (List.mem_append_right _ (List.mem_of_getElem? (i := 631) rfl))) (hs _ (by decide +kernel)), ?_⟩
  refine List.forall_mem_cons.mpr ⟨k_text (hts _ (List.mem_append_right _ (List.mem_of_getElem? (i := 644) rfl))) (hs _ (by decide +kernel)), ?_⟩
  refine List.forall_mem_cons.mpr ⟨k_text (hts _ (List.mem_append_right _ (List.mem_of_getElem? (i := 654) rfl))) (hs _ (by decide +kernel)), ?_⟩
  refine List.forall_mem_cons.mpr ⟨k_text (hts _ (List.mem_append_right _ (List.mem_of_getElem? (i := 668) rfl))) (hs _ (by decide +kernel)), ?_⟩
  refine List.forall_mem_cons.mpr ⟨k_text (hts _ (List.mem_append_right _ (List.mem_of_getElem? (i := 670) rfl))) (hs _ (by decide +kernel)), ?_⟩
  refine List.forall_mem_cons.mpr ⟨k_text (hts _ (List.mem_append_right _ (List.mem_of_getElem? (i := 679) rfl))) (hs _ (by decide +kernel)), ?_⟩
  refine List.forall_mem_cons.mpr ⟨k_text (hts _ (List.mem_append_right _ (List.mem_of_getElem? (i := 687) rfl))) (hs _ (by decide +kernel)), ?_⟩
  refine List.forall_mem_cons.mpr ⟨k_text (hts _ (List.mem_append_right _ (List.mem_of_getElem? (i := 695) rfl))) (hs _ (by decide +kernel)), ?_⟩
  refine List.forall_mem_cons.mpr ⟨k_text (hts _ (List.mem_append_right _ (List.mem_of_getElem? (i := 703) rfl))) (hs _ (by decide +kernel)), ?_⟩
  refine List.forall_mem_cons.mpr ⟨k_text (hts _ (List.mem_append_right _ (List.mem_of_getElem? (i := 716) rfl))) (hs _ (by decide +kernel)), ?_⟩
  refine List.forall_mem_cons.mpr ⟨k_text (hts _ (List.mem_append_right _ (List.mem_of_getElem? (i := 749) rfl))) (hs _ (by decide +kernel)), ?_⟩
  refine List.forall_mem_cons.mpr ⟨k_text (hts _ (List.mem_append_right _ (List.mem_of_getElem? (i := 750) rfl))) (hs _ (by decide +kernel)), ?_⟩
  refine List.forall_mem_cons.mpr ⟨k_text (hts _ (List.mem_append_right _ (List.mem_of_getElem? (i := 759) rfl))) (hs _ (by decide +kernel)), ?_⟩
  refine List.forall_mem_cons.mpr ⟨k_text (hts _ (List.mem_append_right _ (List.mem_of_getElem? (i := 775) rfl))) (hs _ (by decide +kernel)), ?_⟩
  exact fun _ h => absurd h List.not_mem_nil
