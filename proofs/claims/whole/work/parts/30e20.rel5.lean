theorem q_lim {x : Int32} (h : rg x 2) (P : Prop) [Decidable P] : rg (if P then 0 else x + 1) 3 := by
  split
  · exact ⟨0, by omega, rfl⟩
  · obtain ⟨n, hn, rfl⟩ := h
    rw [nI_1]
    exact rg_nI (by omega)
