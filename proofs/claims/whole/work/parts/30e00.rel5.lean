/-! REL5: loads, bulbs, keys, state -/
theorem upd_sh (f : Nat → Int32) (n : Nat) (x : Int32) : (fun j => upd f (n + 1) x (j + 1)) = upd (fun j => f (j + 1)) n x := by
  funext j
  unfold upd
  by_cases h : j = n
  · rw [if_pos h, if_pos (by omega)]
  · rw [if_neg h, if_neg (by omega)]
theorem upd_s0 (f : Nat → Int32) (x : Int32) : (fun j => upd f 0 x (j + 1)) = fun j => f (j + 1) := by
  funext j
  unfold upd
  rw [if_neg (by omega)]
