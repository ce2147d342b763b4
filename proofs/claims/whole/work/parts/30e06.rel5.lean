theorem q_resn (v : cM) : ∀ n : Nat, n ≤ 12 → same (li_Loads_findNextToRestore_4 (Lp v) n) (li_M_putOn_4 v n) n
  | 0, _ => Or.inl ⟨rfl, rfl⟩
  | n + 1, hn => by
    have ih := q_resn v n (by omega)
    have e1 : li_Loads_findNextToRestore_4 (Lp v) (n + 1) = if mg21 v (n + 1) = 0 then li_Loads_findNextToRestore_4 (Lp v) n else (if li_Loads_findNextToRestore_4 (Lp v) n = -1 then nI n else (if mg19 v ((li_Loads_findNextToRestore_4 (Lp v) n).toNatClampNeg + 1) ≤ mg19 v (n + 1) then li_Loads_findNextToRestore_4 (Lp v) n else nI n)) := rfl
    have e2 : li_M_putOn_4 v (n + 1) = if mg21 v (n + 1) = 0 then li_M_putOn_4 v n else (if li_M_putOn_4 v n = 0 then nI (n + 1) else (if mg19 v (li_M_putOn_4 v n).toNatClampNeg ≤ mg19 v (n + 1) then li_M_putOn_4 v n else nI (n + 1))) := rfl
    rw [e1, e2]
    have new : same (nI n) (nI (n + 1)) (n + 1) := Or.inr ⟨n, by omega, rfl, rfl⟩
    by_cases a : mg21 v (n + 1) = 0
    · rw [if_pos a, if_pos a]
      exact ih.up
    · rw [if_neg a, if_neg a]
      rcases ih with ⟨h1, h2⟩ | ⟨j, hj, h1, h2⟩
      · rw [if_pos h1, if_pos h2]
        exact new
      · rw [h1, h2, if_neg (nI_nm1 (by omega)), if_neg (nI_ne0 (by omega) (by omega)), nI_clamp (by omega), nI_clamp (by omega)]
        by_cases c : mg19 v (j + 1) ≤ mg19 v (n + 1)
        · rw [if_pos c, if_pos c]
          exact Or.inr ⟨j, by omega, rfl, rfl⟩
        · rw [if_neg c, if_neg c]
          exact new
