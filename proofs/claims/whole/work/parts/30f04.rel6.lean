/-! state -/
