theorem q_shedn (v : cM) : ∀ n : Nat, n ≤ 12 → same (li_Loads_findNextToShed_4 (Lp v) n) (li_M_putOff_4 v n) n
  | 0, _ => Or.inl ⟨rfl, rfl⟩
  | n + 1, hn => by
    have ih := q_shedn v n (by omega)
    have e1 : li_Loads_findNextToShed_4 (Lp v) (n + 1) = if mg21 v (n + 1) = 0 then (if mg20 v (n + 1) = 0 then (if li_Loads_findNextToShed_4 (Lp v) n = -1 then nI n else (if mg19 v (n + 1) < mg19 v ((li_Loads_findNextToShed_4 (Lp v) n).toNatClampNeg + 1) then li_Loads_findNextToShed_4 (Lp v) n else nI n)) else li_Loads_findNextToShed_4 (Lp v) n) else li_Loads_findNextToShed_4 (Lp v) n := rfl
    have e2 : li_M_putOff_4 v (n + 1) = if mg21 v (n + 1) = 0 then (if mg20 v (n + 1) = 0 then (if li_M_putOff_4 v n = 0 then nI (n + 1) else (if mg19 v (n + 1) < mg19 v (li_M_putOff_4 v n).toNatClampNeg then li_M_putOff_4 v n else nI (n + 1))) else li_M_putOff_4 v n) else li_M_putOff_4 v n := rfl
    rw [e1, e2]
    have new : same (nI n) (nI (n + 1)) (n + 1) := Or.inr ⟨n, by omega, rfl, rfl⟩
    by_cases a : mg21 v (n + 1) = 0
    · rw [if_pos a, if_pos a]
      by_cases b : mg20 v (n + 1) = 0
      · rw [if_pos b, if_pos b]
        rcases ih with ⟨h1, h2⟩ | ⟨j, hj, h1, h2⟩
        · rw [if_pos h1, if_pos h2]
          exact new
        · rw [h1, h2, if_neg (nI_nm1 (by omega)), if_neg (nI_ne0 (by omega) (by omega)), nI_clamp (by omega), nI_clamp (by omega)]
          by_cases c : mg19 v (n + 1) < mg19 v (j + 1)
          · rw [if_pos c, if_pos c]
            exact Or.inr ⟨j, by omega, rfl, rfl⟩
          · rw [if_neg c, if_neg c]
            exact new
      · rw [if_neg b, if_neg b]
        exact ih.up
    · rw [if_neg a, if_neg a]
      exact ih.up
