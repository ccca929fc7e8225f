
/-! ===== open cells, and a closed part behind them ===== -/
theorem k_subP {D : va_G} {cl : List vw_C} {H : Heap} {wp wp' T : va_W} (h : va_P D cl (wp ++ T) H) (is : List Nat) (hs : is.map (fun i => wp[i]?) = wp'.map some) : va_P D cl (wp' ++ T) H := h.part is hs
theorem k_subD {A : Nat → Prop} {wp wp' T : va_W} (h : va_D A (wp ++ T)) (is : List Nat) (hn : va_nd is = true) (hs : is.map (fun i => wp[i]?) = wp'.map some) : va_D A (wp' ++ T) := h.part is hn hs
theorem k_swapP {D : va_G} {cl : List vw_C} {H : Heap} {a b c : va_W} (h : va_P D cl ((a ++ b) ++ c) H) : va_P D cl ((a ++ c) ++ b) H := h.swap
theorem k_ndof : ∀ {l : List Nat}, l.Nodup → va_nd l = true
  | [], _ => rfl
  | a :: l, h => by
    rw [List.nodup_cons] at h
    simp only [va_nd, Bool.and_eq_true, decide_eq_true_eq]
    exact ⟨h.1, k_ndof h.2⟩
theorem k_nd_nodup : ∀ {l : List Nat}, va_nd l = true → l.Nodup
  | [], _ => List.nodup_nil
  | a :: l, h => by
    simp only [va_nd, Bool.and_eq_true, decide_eq_true_eq] at h
    rw [List.nodup_cons]
    exact ⟨h.1, k_nd_nodup h.2⟩
def k_tl (n m : Nat) : List Nat := (List.range m).map (fun i => n + i)
theorem k_tl_ge {n m i : Nat} (h : i ∈ k_tl n m) : n ≤ i := by
  unfold k_tl at h
  obtain ⟨j, _, rfl⟩ := List.mem_map.mp h
  exact Nat.le_add_right n j
theorem k_tl_nd (n m : Nat) : (k_tl n m).Nodup := List.Pairwise.map _ (fun a b h h2 => h (Nat.add_left_cancel h2)) List.nodup_range
theorem k_tl_map (wp T : va_W) : (k_tl wp.length T.length).map (fun i => (wp ++ T)[i]?) = T.map some := by
  unfold k_tl
  refine List.ext_getElem (by simp) (fun i h1 h2 => ?_)
  have h3 : i < T.length := by simpa using h2
  rw [List.getElem_map, List.getElem_map, List.getElem_map, List.getElem_range, List.getElem?_append_right (Nat.le_add_right _ _), Nat.add_sub_cancel_left, List.getElem?_eq_getElem h3]
theorem k_hd_lt {wp wc : va_W} {is : List Nat} (h : is.map (fun i => wp[i]?) = wc.map some) : ∀ i ∈ is, i < wp.length := fun i hi => by
  have h1 : wp[i]? ∈ is.map (fun i => wp[i]?) := List.mem_map.mpr ⟨i, hi, rfl⟩
  rw [h] at h1
  obtain ⟨q, _, hq⟩ := List.mem_map.mp h1
  exact (List.getElem?_eq_some_iff.mp hq.symm).1
theorem k_hd_map {wp wc : va_W} {is : List Nat} (T : va_W) (h : is.map (fun i => wp[i]?) = wc.map some) : is.map (fun i => (wp ++ T)[i]?) = wc.map some := by
  rw [← h]
  exact List.map_congr_left (fun i hi => List.getElem?_append_left (k_hd_lt h i hi))
theorem k_both_nd {wp wc : va_W} {is : List Nat} (h : is.map (fun i => wp[i]?) = wc.map some) (hn : va_nd is = true) (m : Nat) : va_nd (is ++ k_tl wp.length m) = true := by
  refine k_ndof (List.nodup_append.mpr ⟨k_nd_nodup hn, k_tl_nd _ _, fun a ha b hb hab => ?_⟩)
  have h1 := k_hd_lt h a ha
  have h2 := k_tl_ge hb
  omega
section KT
variable {s : State} {H : Heap} {locs : List Loc} {A0 : Nat → Prop} {D : va_G} {wp T wc wr : va_W} {tys tc : k_T}
/-- the callee's cells out of the open ones -/
theorem k_cut_T (hG : k_G A0 s s.heap) (hS : va_S A0 s.heap H locs) (hA : ∀ q, s.heap.size ≤ q → A0 q) (hK : va_K D vwCl tys s) (hP : va_P D vwCl (wp ++ T) H) (hD : va_D A0 (wp ++ T)) (isC isR isT : List Nat)
    (hC : isC.map (fun i => wp[i]?) = wc.map some) (hR : isR.map (fun i => wp[i]?) = wr.map some) (hn : va_nd isC = true) (hnR : va_nd isR = true) (hdis : ∀ i ∈ isR, i ∉ isC) (hT : isT.filterMap (fun i => tys[i]?) = tc) : k_cut D A0 s H locs (wp ++ T) wc (wr ++ T) tys tc := by
  refine k_cut_of hG hS hA hK hP hD isC (isR ++ k_tl wp.length T.length) isT (k_hd_map T hC) ?_ hn (k_both_nd hR hnR _) (fun i hi hc => ?_) hT
  · rw [List.map_append, List.map_append, k_hd_map T hR, k_tl_map]
  · rcases List.mem_append.mp hi with h | h
    · exact hdis i h hc
    · have h1 := k_hd_lt hC i hc
      have h2 := k_tl_ge h
      omega
/-- the callee's cells: some of the open ones, and the closed part -/
theorem k_cut_TT (hG : k_G A0 s s.heap) (hS : va_S A0 s.heap H locs) (hA : ∀ q, s.heap.size ≤ q → A0 q) (hK : va_K D vwCl tys s) (hP : va_P D vwCl (wp ++ T) H) (hD : va_D A0 (wp ++ T)) (isC isR isT : List Nat)
    (hC : isC.map (fun i => wp[i]?) = wc.map some) (hR : isR.map (fun i => wp[i]?) = wr.map some) (hn : va_nd isC = true) (hnR : va_nd isR = true) (hdis : ∀ i ∈ isR, i ∉ isC) (hT : isT.filterMap (fun i => tys[i]?) = tc) : k_cut D A0 s H locs (wp ++ T) (wc ++ T) wr tys tc := by
  refine k_cut_of hG hS hA hK hP hD (isC ++ k_tl wp.length T.length) isR isT ?_ (k_hd_map T hR) (k_both_nd hC hn _) hnR (fun i hi hc => ?_) hT
  · rw [List.map_append, List.map_append, k_hd_map T hC, k_tl_map]
  · rcases List.mem_append.mp hc with h | h
    · exact hdis i hi h
    · have h1 := k_hd_lt hR i hi
      have h2 := k_tl_ge h
      omega
end KT
/-- a part of a world under another order, or with a part closed -/
theorem k_permP {D : va_G} {cl : List vw_C} {H : Heap} {ws ws' : va_W} (h : va_P D cl ws H) (hp : ∀ q ∈ ws', q ∈ ws) : va_P D cl ws' H := fun k q hk => by
  obtain ⟨j, hj⟩ := List.getElem?_of_mem (hp q (List.mem_of_getElem? hk))
  exact h j q hj
theorem k_nodD {A : Nat → Prop} {ws : va_W} : va_D A ws ↔ (ws.map (fun q => q.1)).Nodup ∧ ∀ q ∈ ws, A q.1 := by
  constructor
  · intro h
    refine ⟨List.pairwise_iff_getElem.mpr (fun i j hi hj hij e => ?_), fun q hq => ?_⟩
    · have hi' : i < ws.length := by simpa using hi
      have hj' : j < ws.length := by simpa using hj
      rw [List.getElem_map, List.getElem_map] at e
      have := h.1 i j ws[i] ws[j] (List.getElem?_eq_getElem hi') (List.getElem?_eq_getElem hj') e
      omega
    · obtain ⟨j, hj⟩ := List.getElem?_of_mem hq
      exact h.2 j q hj
  · intro h
    refine ⟨fun i j p q hi hj e => ?_, fun k q hk => h.2 q (List.mem_of_getElem? hk)⟩
    obtain ⟨hi', rfl⟩ := List.getElem?_eq_some_iff.mp hi
    obtain ⟨hj', rfl⟩ := List.getElem?_eq_some_iff.mp hj
    have hp := List.pairwise_iff_getElem.mp h.1
    rcases Nat.lt_trichotomy i j with q | q | q
    · exact absurd (by rw [List.getElem_map, List.getElem_map]; exact e) (hp i j (by simpa using hi') (by simpa using hj') q)
    · exact q
    · exact absurd (by rw [List.getElem_map, List.getElem_map]; exact e.symm) (hp j i (by simpa using hj') (by simpa using hi') q)
theorem k_permD {A : Nat → Prop} {ws ws' : va_W} (h : va_D A ws) (hp : ws.Perm ws') : va_D A ws' := by
  rw [k_nodD] at h ⊢
  exact ⟨(hp.map (fun q => q.1)).nodup_iff.mp h.1, fun q hq => h.2 q (hp.mem_iff.mpr hq)⟩
theorem k_permP2 {D : va_G} {cl : List vw_C} {H : Heap} {ws ws' : va_W} (h : va_P D cl ws H) (hp : ws.Perm ws') : va_P D cl ws' H := k_permP h (fun _ hq => hp.mem_iff.mpr hq)

