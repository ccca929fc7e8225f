
theorem k_text {args : Array Value} {s : State} {k : Nat} {tx : String} (h1 : (Cond.stringRef RX7 k tx).before args s = true) (h2 : (Cond.exactly (.string "BarcodeWand" k) "java/lang/String").before args s = true) : ∃ a : Nat, vk_R RX7 k tx a s := by
  obtain ⟨a, c9, cell, k9, h3, -⟩ := Cond.exactly_spec h2
  exact ⟨a, vk_R.of h1 h3⟩
set_option maxHeartbeats 4000000 in
set_option maxRecDepth 100000 in
theorem law_G {p : Program} {s : State} {m : MethodId} {meth : Method} {c : Code} {b L : Nat} {xs : Nat → Int32} (C0 : lw_At p s m meth c b L xs) : k_G (fun q : Nat => s.heap.size ≤ q) s s.heap := by
  obtain ⟨hx, hb, hr, hml, hown, hts, hX, hbl, hlocks, hgv⟩ := C0
  have hs := flat_of_before _ hgv
  have hA : ∀ a : Nat, a < s.heap.size → ¬ (fun q : Nat => s.heap.size ≤ q) a := fun a h => Nat.not_le.mpr h
  refine ⟨fun w hw hn => va_Nw.of (k_NX_on hn) (hts w (List.mem_append_right _ hw)), vx_Zqof (hts _ (List.mem_append_right _ (List.mem_of_getElem? (i := 511) rfl))) (hts _ (List.mem_append_right _ (List.mem_of_getElem? (i := 11) rfl))) (hs _ (by decide +kernel)) hA, vx_Zqof (hts _ (List.mem_append_right _ (List.mem_of_getElem? (i := 513) rfl))) (hts _ (List.mem_append_right _ (List.mem_of_getElem? (i := 11) rfl))) (hs _ (by decide +kernel)) hA, ?_, va_Nc.of (args := #[Value.ref b]) (hs _ (by decide +kernel)), (hts _ (List.mem_append_right _ (List.mem_of_getElem? (i := 118) rfl)))⟩
  unfold k_TX
  refine List.forall_mem_cons.mpr ⟨k_text (hts _ (List.mem_append_right _ (List.mem_of_getElem? (i := 525) rfl))) (hs _ (by decide +kernel)), ?_⟩
  refine List.forall_mem_cons.mpr ⟨k_text (hts _ (List.mem_append_right _ (List.mem_of_getElem? (i := 587) rfl))) (hs _ (by decide +kernel)), ?_⟩
  refine List.forall_mem_cons.mpr ⟨k_text (hts _ (List.mem_append_right _ (List.mem_of_getElem? (i := 597) rfl))) (hs _ (by decide +kernel)), ?_⟩
  refine List.forall_mem_cons.mpr ⟨k_text (hts _ (List.mem_append_right _ (List.mem_of_getElem? (i := 616) rfl))) (hs _ (by decide +kernel)), ?_⟩
  refine List.forall_mem_cons.mpr ⟨k_text (hts _ (List.mem_append_right _ (List.mem_of_getElem? (i := 631) rfl))) (hs _ (by decide +kernel)), ?_⟩
  refine List.forall_mem_cons.mpr ⟨k_text (hts _ (List.mem_append_right _ (List.mem_of_getElem? (i := 644) rfl))) (hs _ (by decide +kernel)), ?_⟩
  refine List.forall_mem_cons.mpr ⟨k_text (hts _ (List.mem_append_right _ (List.mem_of_getElem? (i := 654) rfl))) (hs _ (by decide +kernel)), ?_⟩
  refine List.forall_mem_cons.mpr ⟨k_text (hts _ (List.mem_append_right _ (List.mem_of_getElem? (i := 668) rfl))) (hs _ (by decide +kernel)), ?_⟩
  refine List.forall_mem_cons.mpr ⟨k_text (hts _ (List.mem_append_right _ (List.mem_of_getElem? (i := 670) rfl))) (hs _ (by decide +kernel)), ?_⟩
  refine List.forall_mem_cons.mpr ⟨k_text (hts _ (List.mem_append_right _ (List.mem_of_getElem? (i := 679) rfl))) (hs _ (by decide +kernel)), ?_⟩
  refine List.forall_mem_cons.mpr ⟨k_text (hts _ (List.mem_append_right _ (List.mem_of_getElem? (i := 687) rfl))) (hs _ (by decide +kernel)), ?_⟩
  refine List.forall_mem_cons.mpr ⟨k_text (hts _ (List.mem_append_right _ (List.mem_of_getElem? (i := 695) rfl))) (hs _ (by decide +kernel)), ?_⟩
  refine List.forall_mem_cons.mpr ⟨k_text (hts _ (List.mem_append_right _ (List.mem_of_getElem? (i := 703) rfl))) (hs _ (by decide +kernel)), ?_⟩
  refine List.forall_mem_cons.mpr ⟨k_text (hts _ (List.mem_append_right _ (List.mem_of_getElem? (i := 716) rfl))) (hs _ (by decide +kernel)), ?_⟩
  refine List.forall_mem_cons.mpr ⟨k_text (hts _ (List.mem_append_right _ (List.mem_of_getElem? (i := 749) rfl))) (hs _ (by decide +kernel)), ?_⟩
  refine List.forall_mem_cons.mpr ⟨k_text (hts _ (List.mem_append_right _ (List.mem_of_getElem? (i := 750) rfl))) (hs _ (by decide +kernel)), ?_⟩
  refine List.forall_mem_cons.mpr ⟨k_text (hts _ (List.mem_append_right _ (List.mem_of_getElem? (i := 759) rfl))) (hs _ (by decide +kernel)), ?_⟩
  refine List.forall_mem_cons.mpr ⟨k_text (hts _ (List.mem_append_right _ (List.mem_of_getElem? (i := 775) rfl))) (hs _ (by decide +kernel)), ?_⟩
  exact fun _ h => absurd h List.not_mem_nil
