
theorem drw_rev2 {x : ST} {l r : Int32} {j : Nat} (hn : s_ns x ≤ 41) (hj : j < s_ns x) : s_drw x l r 0 j = s_drw x l r 1 (s_ns x - 1 - j) := by
  rw [drw_rev hn (by omega), show s_ns x - 1 - (s_ns x - 1 - j) = j from by omega]
theorem lab_13 {x : ST} (h : labOk x) (h0 : ¬ s_ns x = 0) : 13 ≤ s_ns x := by
  rcases h with ⟨_, q⟩ | ⟨q1, _, q2, _⟩
  · exact absurd q h0
  · omega
theorem lab_z {x : ST} {en : Nat} (h : labOk x) (he : en < s_ns x) : ¬ s_zf x en < (-9) ∧ s_zf x en ≤ 9 := by
  rcases h with ⟨_, q⟩ | ⟨_, _, _, _, q, _⟩
  · omega
  · exact q en he

