theorem sh_nf (v : cM) (X Y x y : Int32) (f g : Nat → Int32) : ms23 (ms21 (ms22 (ms21 (ms23 (ms22 (ms0 v 0) X) Y) f) x) g) y = ms23 (ms22 (ms21 (ms0 v 0) g) x) y := by rw [sn_a, sn_b, sn_d, sn_a, sn_c, sn_f, sn_g]
theorem sh_2 {v : cM} (h18 : rg (mg18 v) 12) (X Y : Int32) (hX : rg X 3) (hY : rg Y 3) : ∃ f x y, rg x 2 ∧ rg y 2 ∧ mm4 (mm3 (ms23 (ms22 (ms0 v 0) X) Y)) = ms23 (ms22 (ms21 (ms0 v 0) f) x) y ∧ ml4 (ml3 (Lp (ms23 (ms22 (ms0 v 0) X) Y))) = Lp (ms23 (ms22 (ms21 (ms0 v 0) f) x) y) := by
  obtain ⟨f, x, hx, d1, d2⟩ := q_m3 (v := ms23 (ms22 (ms0 v 0) X) Y) (by rw [g18_23, g18_22, g18_0]; exact h18) (by rw [g22_23, g22_22]; exact hX)
  obtain ⟨g, y, hy, d3, d4⟩ := q_m4 (v := ms22 (ms21 (ms23 (ms22 (ms0 v 0) X) Y) f) x) (by rw [g18_22, g18_21, g18_23, g18_22, g18_0]; exact h18) (by rw [g23_22, g23_21, g23_23]; exact hY)
  refine ⟨g, x, y, hx, hy, ?_, ?_⟩
  · rw [d1, d3, sh_nf]
  · rw [d2, d4, sh_nf]
theorem sh_3 {v : cM} (hI : Inv v) (k : Nat → Nat → Int32) (hk : KK k v) (g : Nat → Int32) (x y : Int32) (hx : rg x 2) (hy : rg y 2) : RV (s6 (ph v k (mg6 v)) (Lp (ms23 (ms22 (ms21 (ms0 v 0) g) x) y))) (ms23 (ms22 (ms21 (ms0 v 0) g) x) y) := by
  have e : s6 (ph v k (mg6 v)) (Lp (ms23 (ms22 (ms21 (ms0 v 0) g) x) y)) = ph (ms23 (ms22 (ms21 (ms0 v 0) g) x) y) k (mg6 v) :=
    (p6_0 v 0 k (mg6 v) _).symm.trans ((p6_21 (ms0 v 0) g k (mg6 v) _).symm.trans ((p6_22 (ms21 (ms0 v 0) g) x k (mg6 v) _).symm.trans (p6_L (ms22 (ms21 (ms0 v 0) g) x) y k (mg6 v))))
  have e6 : mg6 (ms23 (ms22 (ms21 (ms0 v 0) g) x) y) = mg6 v := by rw [g6_23, g6_22, g6_21, g6_0]
  have e24 : mg24 (ms23 (ms22 (ms21 (ms0 v 0) g) x) y) = mg24 v := by rw [g24_23, g24_22, g24_21, g24_0]
  have hk2 : KK k (ms23 (ms22 (ms21 (ms0 v 0) g) x) y) := by
    unfold KK
    rw [e24]
    exact hk
  exact ⟨iv_23 (iv_22 (iv_21 (iv_0 hI 0) g) x hx) y hy, k, by rw [e, e6], hk2⟩
theorem sh_4 (p : Int32) (z : cM) : m_Loads_countOff (Lp z) = (g_M_shed_95 p z).1 := q_cofn p z _
theorem sh_5 (p : Int32) (z : cM) : (g_M_shed_95 p z).2 = z := rfl
theorem sh_6 (X Y : Int32) (v : cM) : t5 (t4 (Lp v) X) Y = Lp (ms23 (ms22 (ms0 v 0) X) Y) := by rw [lp_23, lp_22, lp_0]
theorem sh_7 (p : Int32) (v : cM) : ml2 p (ml1 p (Lp v)) = t5 (t4 (Lp v) (if 11500 ≤ p then 0 else mg22 v + 1)) (if p ≤ 12500 then 0 else mg23 v + 1) := rfl
