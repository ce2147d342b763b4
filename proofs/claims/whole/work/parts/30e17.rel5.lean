theorem et_22 (u : cM) : ms22 (ms21 u (mg21 u)) (mg22 u) = u := by
  obtain ⟨a0, a1, a2, a3, a4, a5, a6, a7, a8, a9, a10, a11, a12, a13, a14, a15, a16, a17, a18, a19, a20, a21, a22, a23, a24, a25⟩ := u
  rfl
theorem et_23 (u : cM) : ms23 (ms21 u (mg21 u)) (mg23 u) = u := by
  obtain ⟨a0, a1, a2, a3, a4, a5, a6, a7, a8, a9, a10, a11, a12, a13, a14, a15, a16, a17, a18, a19, a20, a21, a22, a23, a24, a25⟩ := u
  rfl
