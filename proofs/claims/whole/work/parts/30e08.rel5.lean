theorem q_set {v : cM} {a b : Int32} {n : Nat} (hn : n ≤ 12) (h : same a b n) (x y : Int32) (hx : ¬ b = 0 → y = x) : m_Loads_setOff a x (Lp v) = Lp (ms21 v (upd (mg21 v) b.toNatClampNeg y)) := by
  rw [set_def]
  rcases h with ⟨rfl, rfl⟩ | ⟨j, hj, rfl, rfl⟩
  · rw [if_pos rfl]
    have e : Lp (ms21 v (upd (mg21 v) (0 : Int32).toNatClampNeg y)) = (fun j => mg19 v (j + 1), fun j => mg20 v (j + 1), fun j => upd (mg21 v) 0 y (j + 1), mg18 v, mg22 v, mg23 v) := rfl
    rw [e, upd_s0]
    rfl
  · have hy := hx (nI_ne0 (by omega) (by omega))
    subst hy
    rw [if_neg (nI_nm1 (by omega)), nI_clamp (by omega), nI_clamp (by omega)]
    have e : Lp (ms21 v (upd (mg21 v) (j + 1) y)) = (fun j => mg19 v (j + 1), fun j => mg20 v (j + 1), fun i => upd (mg21 v) (j + 1) y (i + 1), mg18 v, mg22 v, mg23 v) := rfl
    rw [e, upd_sh]
    rfl
