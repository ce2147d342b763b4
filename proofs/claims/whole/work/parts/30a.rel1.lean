/-! REL: the class's state as a picture of the reference's, but for the keys' rows k and the ticks t -/
def ph (v : cM) (k : Nat → Nat → Int32) (t : Int32) : cB :=
  (mg1 v, mg25 v, mg10 v, fun j => (mg7 v j, mg8 v j, mg9 v j), (mg11 v, mg12 v, mg13 v), fun j => (mg15 v j, mg16 v j, mg17 v j), (fun j => mg19 v (j + 1), fun j => mg20 v (j + 1), fun j => mg21 v (j + 1), mg18 v, mg22 v, mg23 v), k, mg5 v, mg14 v, t, mg2 v, mg3 v, mg4 v)
def rg (x : Int32) (n : Nat) : Prop := ∃ j : Nat, j ≤ n ∧ x = nI j
def z01 (x : Int32) : Prop := x = 0 ∨ x = 1
theorem rg_nI {j n : Nat} (h : j ≤ n) : rg (nI j) n := ⟨j, h, rfl⟩
theorem rg_i {x : Int32} {n : Nat} (hn : n < 2 ^ 31) (h : rg x n) : 0 ≤ x.toInt ∧ x.toInt ≤ (n : Int) := by
  obtain ⟨j, hj, rfl⟩ := h
  rw [nI_toInt (by omega)]
  omega
theorem rg_of {x : Int32} {n : Nat} (h0 : 0 ≤ x.toInt) (h1 : x.toInt ≤ (n : Int)) : rg x n := by
  obtain ⟨j, hj, rfl⟩ := nI_of (x := x) (by rw [Int32.lt_iff_toInt_lt]; show ¬ x.toInt < 0; omega)
  rw [nI_toInt hj] at h1
  exact ⟨j, by omega, rfl⟩
theorem upd_id (f : Nat → Int32) (i : Nat) : upd f i (f i) = f := by
  funext j
  unfold upd
  split
  · next h => rw [h]
  · rfl
theorem upd_uu (f : Nat → Int32) (i : Nat) (x y : Int32) : upd (upd f i x) i y = upd f i y := by
  funext j
  unfold upd
  split <;> rfl
theorem upd_at (f : Nat → Int32) (i : Nat) (x : Int32) : upd f i x i = x := if_pos rfl
theorem upd_ne (f : Nat → Int32) {i j : Nat} (x : Int32) (h : ¬ j = i) : upd f i x j = f j := if_neg h
theorem up3 (f g h : Nat → Int32) (i : Nat) (a b c : Int32) : va_up (fun j => (f j, g j, h j)) i (a, b, c) = fun j => (upd f i a j, upd g i b j, upd h i c j) := by
  funext j
  unfold va_up upd
  split <;> rfl
theorem w3 (v : cM) (k : Nat → Nat → Int32) (t : Int32) (i : Nat) (a b c : Int32) : s3 (ph v k t) (va_up (b3 (ph v k t)) i (a, b, c)) = ph (ms9 (ms8 (ms7 v (upd (mg7 v) i a)) (upd (mg8 v) i b)) (upd (mg9 v) i c)) k t := by
  rw [show va_up (b3 (ph v k t)) i (a, b, c) = fun j => (upd (mg7 v) i a j, upd (mg8 v) i b j, upd (mg9 v) i c j) from up3 (mg7 v) (mg8 v) (mg9 v) i a b c]
  rfl
theorem w5 (v : cM) (k : Nat → Nat → Int32) (t : Int32) (i : Nat) (a b c : Int32) : s5 (ph v k t) (va_up (b5 (ph v k t)) i (a, b, c)) = ph (ms17 (ms16 (ms15 v (upd (mg15 v) i a)) (upd (mg16 v) i b)) (upd (mg17 v) i c)) k t := by
  rw [show va_up (b5 (ph v k t)) i (a, b, c) = fun j => (upd (mg15 v) i a j, upd (mg16 v) i b j, upd (mg17 v) i c j) from up3 (mg15 v) (mg16 v) (mg17 v) i a b c]
  rfl
theorem ab_up (p M : Int32) : m_B_isUpTo p M = m_M_within p 0 M := rfl
theorem ab_be {p : Int32} (n : Nat) (hn : n + 1 < 2 ^ 31) : m_B_isBelow p (nI (n + 1)) = m_M_within p 0 (nI n) := by
  unfold m_B_isBelow m_M_within
  by_cases h : p < 0
  · rw [if_pos h, if_pos h]
  · rw [if_neg h, if_neg h]
    obtain ⟨j, hj, rfl⟩ := nI_of h
    by_cases h2 : n + 1 ≤ j
    · rw [if_pos (nI_le h2 hj), if_pos (nI_lt (by omega) hj)]
    · rw [if_neg (by rw [nI_leI (by omega) hj]; exact h2), if_neg (by rw [nI_ltI (by omega) hj]; omega)]
theorem q_isWanted (p : Int32) (v : cM) (k : Nat → Nat → Int32) (t : Int32) : m_B_isWanted p (ph v k t) = m_M_isWanted p v := by
  have e1 : m_B_isWanted p (ph v k t) = if mg3 v = 0 then (if mg1 v 3 = 1 then 1 else (if mg1 v 2 = p + 1 then 1 else 0)) else 1 := rfl
  have e2 : m_M_isWanted p v = if mg1 v 3 = 1 then 1 else (if mg3 v = 0 then (if mg1 v 2 = p + 1 then 1 else 0) else 1) := rfl
  rw [e1, e2]
  by_cases h1 : mg3 v = 0 <;> by_cases h2 : mg1 v 3 = 1 <;> simp [h1, h2]
theorem q_half {P a : Nat} (hP : P = 80 ∨ P = 40) (ha : a ≤ 79) : (nI P / 2 ≤ nI a) ↔ (nI P ≤ 2 * nI a) := by
  have e2 : (2 : Int32) * nI a = nI (2 * a) := by rw [show (2 : Int32) = nI 2 from rfl, pk_mul]
  have e1 : nI P / 2 = nI (P / 2) := by rw [show (2 : Int32) = nI 2 from rfl, pk_div (by omega) (by decide) (by decide)]
  rw [e1, e2, nI_leI (by omega) (by omega), nI_leI (by omega) (by omega)]
  omega
theorem q_per (p : Int32) (v : cM) : ∃ P : Nat, (P = 80 ∨ P = 40) ∧ m_M_period p v = nI P := by
  unfold m_M_period
  split
  · exact ⟨80, Or.inl rfl, rfl⟩
  · exact ⟨40, Or.inr rfl, rfl⟩
theorem q_lit (p : Int32) (v : cM) (k : Nat → Nat → Int32) (t : Int32) (ha : rg (mg8 v p.toNatClampNeg) 79) : m_B_isSideLit p (ph v k t) = m_M_lit p v := by
  have e1 : m_B_isSideLit p (ph v k t) = if mg7 v p.toNatClampNeg = 0 then 0 else (if m_M_period p v / 2 ≤ mg8 v p.toNatClampNeg then 0 else 1) := rfl
  have e2 : m_M_lit p v = if mg7 v p.toNatClampNeg = 0 then 0 else (if m_M_period p v ≤ 2 * mg8 v p.toNatClampNeg then 0 else 1) := rfl
  obtain ⟨a, ha, hae⟩ := ha
  obtain ⟨P, hP, hPe⟩ := q_per p v
  rw [e1, e2, hae, hPe]
  by_cases h : mg7 v p.toNatClampNeg = 0
  · rw [if_pos h, if_pos h]
  · rw [if_neg h, if_neg h]
    by_cases h2 : nI P / 2 ≤ nI a
    · rw [if_pos h2, if_pos ((q_half hP ha).mp h2)]
    · rw [if_neg h2, if_neg (fun q => h2 ((q_half hP ha).mpr q))]
theorem q_lit01 (p : Int32) (v : cM) : z01 (m_M_lit p v) := by
  unfold m_M_lit
  split
  · exact Or.inl rfl
  · split
    · exact Or.inl rfl
    · exact Or.inr rfl
theorem q_bit {x : Int32} (h : z01 x) : m_B_bit x = x := by rcases h with rfl | rfl <;> rfl
theorem q_low (v : cM) (k : Nat → Nat → Int32) (t : Int32) : m_B_wantsLow (ph v k t) = if mg1 v 0 = 2 then 1 else (if mg1 v 0 = 3 then (if mg2 v = 0 then 0 else 1) else 0) := rfl
theorem q_park (v : cM) (k : Nat → Nat → Int32) (t : Int32) : m_B_isParkingLit (ph v k t) = if mg3 v = 0 then (if mg1 v 0 = 1 then 1 else (if m_B_wantsLow (ph v k t) = 0 then 0 else 1)) else 1 := rfl
theorem q_llit (v : cM) (k : Nat → Nat → Int32) (t : Int32) : m_B_isLowLit (ph v k t) = if mg1 v 5 = 1 then (if m_B_wantsLow (ph v k t) = 0 then 0 else 1) else 0 := rfl
theorem bit0 : m_B_bit 0 = 0 := rfl
theorem bit1 : m_B_bit 1 = 1 := rfl
theorem v_0_0_0 (v : cM) : g_M_value_53_0_0 (nI 0) v = (if mg1 v 0 = 1 then 1 else (if mg3 v = 0 then 0 else 1) : Int32) := (if_pos (by decide)).trans rfl
theorem v_0_0_1 (v : cM) : g_M_value_53_0_0 (nI 1) v = (0 : Int32) := (if_neg (by decide)).trans ((if_pos (by decide)).trans rfl)
theorem v_0_0_2 (v : cM) : g_M_value_53_0_0 (nI 2) v = (0 : Int32) := (if_neg (by decide)).trans ((if_neg (by decide)).trans ((if_pos (by decide)).trans rfl))
theorem v_0_0_3 (v : cM) : g_M_value_53_0_0 (nI 3) v = (m_M_lit (nI 3 - 3) v : Int32) := (if_neg (by decide)).trans ((if_neg (by decide)).trans ((if_neg (by decide)).trans ((if_pos (by decide)).trans rfl)))
theorem v_0_0_4 (v : cM) : g_M_value_53_0_0 (nI 4) v = (m_M_lit (nI 4 - 3) v : Int32) := (if_neg (by decide)).trans ((if_neg (by decide)).trans ((if_neg (by decide)).trans ((if_neg (by decide)).trans ((if_pos (by decide)).trans rfl))))
theorem v_0_0_5 (v : cM) : g_M_value_53_0_0 (nI 5) v = (mg13 v : Int32) := (if_neg (by decide)).trans ((if_neg (by decide)).trans ((if_neg (by decide)).trans ((if_neg (by decide)).trans ((if_neg (by decide)).trans ((if_pos (by decide)).trans rfl)))))
theorem v_0_0_6 (v : cM) : g_M_value_53_0_0 (nI 6) v = (mg1 v 7 : Int32) := (if_neg (by decide)).trans ((if_neg (by decide)).trans ((if_neg (by decide)).trans ((if_neg (by decide)).trans ((if_neg (by decide)).trans ((if_neg (by decide)).trans ((if_pos (by decide)).trans rfl))))))
theorem v_0_0_7 (v : cM) : g_M_value_53_0_0 (nI 7) v = (mg14 v : Int32) := (if_neg (by decide)).trans ((if_neg (by decide)).trans ((if_neg (by decide)).trans ((if_neg (by decide)).trans ((if_neg (by decide)).trans ((if_neg (by decide)).trans ((if_neg (by decide)).trans ((if_pos (by decide)).trans rfl)))))))
theorem v_0_0_8 (v : cM) : g_M_value_53_0_0 (nI 8) v = (if mg4 v = 0 then 0 else m_M_lit (nI 8 - 8) v : Int32) := (if_neg (by decide)).trans ((if_neg (by decide)).trans ((if_neg (by decide)).trans ((if_neg (by decide)).trans ((if_neg (by decide)).trans ((if_neg (by decide)).trans ((if_neg (by decide)).trans ((if_neg (by decide)).trans (rfl))))))))
theorem v_0_0_9 (v : cM) : g_M_value_53_0_0 (nI 9) v = (if mg4 v = 0 then 0 else m_M_lit (nI 9 - 8) v : Int32) := (if_neg (by decide)).trans ((if_neg (by decide)).trans ((if_neg (by decide)).trans ((if_neg (by decide)).trans ((if_neg (by decide)).trans ((if_neg (by decide)).trans ((if_neg (by decide)).trans ((if_neg (by decide)).trans (rfl))))))))
theorem v_1_0_0 (v : cM) : g_M_value_53_1_0 (nI 0) v = (1 : Int32) := (if_pos (by decide)).trans rfl
theorem v_1_0_1 (v : cM) : g_M_value_53_1_0 (nI 1) v = (0 : Int32) := (if_neg (by decide)).trans ((if_pos (by decide)).trans rfl)
theorem v_1_0_2 (v : cM) : g_M_value_53_1_0 (nI 2) v = (0 : Int32) := (if_neg (by decide)).trans ((if_neg (by decide)).trans ((if_pos (by decide)).trans rfl))
theorem v_1_0_3 (v : cM) : g_M_value_53_1_0 (nI 3) v = (m_M_lit (nI 3 - 3) v : Int32) := (if_neg (by decide)).trans ((if_neg (by decide)).trans ((if_neg (by decide)).trans ((if_pos (by decide)).trans rfl)))
theorem v_1_0_4 (v : cM) : g_M_value_53_1_0 (nI 4) v = (m_M_lit (nI 4 - 3) v : Int32) := (if_neg (by decide)).trans ((if_neg (by decide)).trans ((if_neg (by decide)).trans ((if_neg (by decide)).trans ((if_pos (by decide)).trans rfl))))
theorem v_1_0_5 (v : cM) : g_M_value_53_1_0 (nI 5) v = (mg13 v : Int32) := (if_neg (by decide)).trans ((if_neg (by decide)).trans ((if_neg (by decide)).trans ((if_neg (by decide)).trans ((if_neg (by decide)).trans ((if_pos (by decide)).trans rfl)))))
theorem v_1_0_6 (v : cM) : g_M_value_53_1_0 (nI 6) v = (mg1 v 7 : Int32) := (if_neg (by decide)).trans ((if_neg (by decide)).trans ((if_neg (by decide)).trans ((if_neg (by decide)).trans ((if_neg (by decide)).trans ((if_neg (by decide)).trans ((if_pos (by decide)).trans rfl))))))
theorem v_1_0_7 (v : cM) : g_M_value_53_1_0 (nI 7) v = (mg14 v : Int32) := (if_neg (by decide)).trans ((if_neg (by decide)).trans ((if_neg (by decide)).trans ((if_neg (by decide)).trans ((if_neg (by decide)).trans ((if_neg (by decide)).trans ((if_neg (by decide)).trans ((if_pos (by decide)).trans rfl)))))))
theorem v_1_0_8 (v : cM) : g_M_value_53_1_0 (nI 8) v = (if mg4 v = 0 then 0 else m_M_lit (nI 8 - 8) v : Int32) := (if_neg (by decide)).trans ((if_neg (by decide)).trans ((if_neg (by decide)).trans ((if_neg (by decide)).trans ((if_neg (by decide)).trans ((if_neg (by decide)).trans ((if_neg (by decide)).trans ((if_neg (by decide)).trans (rfl))))))))
theorem v_1_0_9 (v : cM) : g_M_value_53_1_0 (nI 9) v = (if mg4 v = 0 then 0 else m_M_lit (nI 9 - 8) v : Int32) := (if_neg (by decide)).trans ((if_neg (by decide)).trans ((if_neg (by decide)).trans ((if_neg (by decide)).trans ((if_neg (by decide)).trans ((if_neg (by decide)).trans ((if_neg (by decide)).trans ((if_neg (by decide)).trans (rfl))))))))
theorem v_1_1_0 (v : cM) : g_M_value_53_1_1 (nI 0) v = (1 : Int32) := (if_pos (by decide)).trans rfl
theorem v_1_1_1 (v : cM) : g_M_value_53_1_1 (nI 1) v = (1 : Int32) := (if_neg (by decide)).trans ((if_pos (by decide)).trans rfl)
theorem v_1_1_2 (v : cM) : g_M_value_53_1_1 (nI 2) v = (if mg1 v 6 = 1 then 1 else 0 : Int32) := (if_neg (by decide)).trans ((if_neg (by decide)).trans ((if_pos (by decide)).trans rfl))
theorem v_1_1_3 (v : cM) : g_M_value_53_1_1 (nI 3) v = (m_M_lit (nI 3 - 3) v : Int32) := (if_neg (by decide)).trans ((if_neg (by decide)).trans ((if_neg (by decide)).trans ((if_pos (by decide)).trans rfl)))
theorem v_1_1_4 (v : cM) : g_M_value_53_1_1 (nI 4) v = (m_M_lit (nI 4 - 3) v : Int32) := (if_neg (by decide)).trans ((if_neg (by decide)).trans ((if_neg (by decide)).trans ((if_neg (by decide)).trans ((if_pos (by decide)).trans rfl))))
theorem v_1_1_5 (v : cM) : g_M_value_53_1_1 (nI 5) v = (mg13 v : Int32) := (if_neg (by decide)).trans ((if_neg (by decide)).trans ((if_neg (by decide)).trans ((if_neg (by decide)).trans ((if_neg (by decide)).trans ((if_pos (by decide)).trans rfl)))))
theorem v_1_1_6 (v : cM) : g_M_value_53_1_1 (nI 6) v = (mg1 v 7 : Int32) := (if_neg (by decide)).trans ((if_neg (by decide)).trans ((if_neg (by decide)).trans ((if_neg (by decide)).trans ((if_neg (by decide)).trans ((if_neg (by decide)).trans ((if_pos (by decide)).trans rfl))))))
theorem v_1_1_7 (v : cM) : g_M_value_53_1_1 (nI 7) v = (mg14 v : Int32) := (if_neg (by decide)).trans ((if_neg (by decide)).trans ((if_neg (by decide)).trans ((if_neg (by decide)).trans ((if_neg (by decide)).trans ((if_neg (by decide)).trans ((if_neg (by decide)).trans ((if_pos (by decide)).trans rfl)))))))
theorem v_1_1_8 (v : cM) : g_M_value_53_1_1 (nI 8) v = (if mg4 v = 0 then 0 else m_M_lit (nI 8 - 8) v : Int32) := (if_neg (by decide)).trans ((if_neg (by decide)).trans ((if_neg (by decide)).trans ((if_neg (by decide)).trans ((if_neg (by decide)).trans ((if_neg (by decide)).trans ((if_neg (by decide)).trans ((if_neg (by decide)).trans (rfl))))))))
theorem v_1_1_9 (v : cM) : g_M_value_53_1_1 (nI 9) v = (if mg4 v = 0 then 0 else m_M_lit (nI 9 - 8) v : Int32) := (if_neg (by decide)).trans ((if_neg (by decide)).trans ((if_neg (by decide)).trans ((if_neg (by decide)).trans ((if_neg (by decide)).trans ((if_neg (by decide)).trans ((if_neg (by decide)).trans ((if_neg (by decide)).trans (rfl))))))))
theorem v_def (p : Int32) (v : cM) : m_M_value p v = if mg1 v 0 = 2 then (if mg1 v 5 = 1 then g_M_value_53_1_1 p v else g_M_value_53_1_0 p v) else (if mg1 v 0 = 3 then (if mg2 v = 0 then g_M_value_53_0_0 p v else (if mg1 v 5 = 1 then g_M_value_53_1_1 p v else g_M_value_53_1_0 p v)) else g_M_value_53_0_0 p v) := rfl
theorem u_out_0 (v : cM) (k : Nat → Nat → Int32) (t : Int32) : m_B_outputNow (nI 0) (ph v k t) = m_B_bit (m_B_isParkingLit (ph v k t)) := (if_pos (by decide)).trans rfl
theorem u_out_1 (v : cM) (k : Nat → Nat → Int32) (t : Int32) : m_B_outputNow (nI 1) (ph v k t) = m_B_bit (m_B_isLowLit (ph v k t)) := (if_neg (by decide)).trans ((if_pos (by decide)).trans rfl)
theorem u_out_2 (v : cM) (k : Nat → Nat → Int32) (t : Int32) : m_B_outputNow (nI 2) (ph v k t) = if m_B_isLowLit (ph v k t) = 0 then m_B_bit 0 else (if mg1 v 6 = 1 then m_B_bit 1 else m_B_bit 0) := (if_neg (by decide)).trans ((if_neg (by decide)).trans ((if_pos (by decide)).trans rfl))
theorem u_out_3 (v : cM) (k : Nat → Nat → Int32) (t : Int32) : m_B_outputNow (nI 3) (ph v k t) = m_B_bit (m_B_isSideLit (nI 3 - 3) (ph v k t)) := (if_neg (by decide)).trans ((if_neg (by decide)).trans ((if_neg (by decide)).trans ((if_pos (by decide)).trans rfl)))
theorem u_out_4 (v : cM) (k : Nat → Nat → Int32) (t : Int32) : m_B_outputNow (nI 4) (ph v k t) = m_B_bit (m_B_isSideLit (nI 4 - 3) (ph v k t)) := (if_neg (by decide)).trans ((if_neg (by decide)).trans ((if_neg (by decide)).trans ((if_neg (by decide)).trans ((if_pos (by decide)).trans rfl))))
theorem u_out_5 (v : cM) (k : Nat → Nat → Int32) (t : Int32) : m_B_outputNow (nI 5) (ph v k t) = mg13 v := (if_neg (by decide)).trans ((if_neg (by decide)).trans ((if_neg (by decide)).trans ((if_neg (by decide)).trans ((if_neg (by decide)).trans ((if_pos (by decide)).trans rfl)))))
theorem u_out_6 (v : cM) (k : Nat → Nat → Int32) (t : Int32) : m_B_outputNow (nI 6) (ph v k t) = mg1 v 7 := (if_neg (by decide)).trans ((if_neg (by decide)).trans ((if_neg (by decide)).trans ((if_neg (by decide)).trans ((if_neg (by decide)).trans ((if_neg (by decide)).trans ((if_pos (by decide)).trans rfl))))))
theorem u_out_7 (v : cM) (k : Nat → Nat → Int32) (t : Int32) : m_B_outputNow (nI 7) (ph v k t) = mg14 v := (if_neg (by decide)).trans ((if_neg (by decide)).trans ((if_neg (by decide)).trans ((if_neg (by decide)).trans ((if_neg (by decide)).trans ((if_neg (by decide)).trans ((if_neg (by decide)).trans ((if_pos (by decide)).trans rfl)))))))
theorem u_out_8 (v : cM) (k : Nat → Nat → Int32) (t : Int32) : m_B_outputNow (nI 8) (ph v k t) = if mg4 v = 0 then m_B_bit 0 else (if m_B_isSideLit (nI 8 - 8) (ph v k t) = 0 then m_B_bit 0 else m_B_bit 1) := (if_neg (by decide)).trans ((if_neg (by decide)).trans ((if_neg (by decide)).trans ((if_neg (by decide)).trans ((if_neg (by decide)).trans ((if_neg (by decide)).trans ((if_neg (by decide)).trans ((if_neg (by decide)).trans ((if_pos (by decide)).trans rfl))))))))
theorem u_out_9 (v : cM) (k : Nat → Nat → Int32) (t : Int32) : m_B_outputNow (nI 9) (ph v k t) = if mg4 v = 0 then m_B_bit 0 else (if m_B_isSideLit (nI 9 - 8) (ph v k t) = 0 then m_B_bit 0 else m_B_bit 1) := (if_neg (by decide)).trans ((if_neg (by decide)).trans ((if_neg (by decide)).trans ((if_neg (by decide)).trans ((if_neg (by decide)).trans ((if_neg (by decide)).trans ((if_neg (by decide)).trans ((if_neg (by decide)).trans ((if_neg (by decide)).trans ((if_pos (by decide)).trans rfl)))))))))
theorem q_out8 {x : Int32} (h : z01 x) : (if x = 0 then m_B_bit 0 else m_B_bit 1) = x := by rcases h with rfl | rfl <;> rfl
theorem q_out (v : cM) (k : Nat → Nat → Int32) (t : Int32) (h0 : rg (mg8 v 0) 79) (h1 : rg (mg8 v 1) 79) : ∀ j : Nat, j < 10 → m_B_outputNow (nI j) (ph v k t) = m_M_value (nI j) v := by
  intro j hj
  have l0 := q_lit 0 v k t h0
  have l1 := q_lit 1 v k t h1
  have b0 := q_bit (q_lit01 0 v)
  have b1 := q_bit (q_lit01 1 v)
  have c0 := q_out8 (q_lit01 0 v)
  have c1 := q_out8 (q_lit01 1 v)
  have e33 : nI 3 - 3 = 0 := by decide
  have e43 : nI 4 - 3 = 1 := by decide
  have e88 : nI 8 - 8 = 0 := by decide
  have e98 : nI 9 - 8 = 1 := by decide
  have hj : j = 0 ∨ j = 1 ∨ j = 2 ∨ j = 3 ∨ j = 4 ∨ j = 5 ∨ j = 6 ∨ j = 7 ∨ j = 8 ∨ j = 9 := by omega
  rcases hj with rfl | rfl | rfl | rfl | rfl | rfl | rfl | rfl | rfl | rfl
  · rw [u_out_0, v_def, v_0_0_0, v_1_0_0, v_1_1_0, q_park, q_low]
    by_cases a : mg1 v 0 = 2 <;> by_cases b : mg1 v 0 = 3 <;> by_cases c : mg2 v = 0 <;> by_cases d : mg1 v 5 = 1 <;> by_cases f : mg3 v = 0 <;> by_cases g : mg1 v 0 = 1 <;> simp [a, b, c, d, f, g, bit0, bit1]
  · rw [u_out_1, v_def, v_0_0_1, v_1_0_1, v_1_1_1, q_llit, q_low]
    by_cases a : mg1 v 0 = 2 <;> by_cases b : mg1 v 0 = 3 <;> by_cases c : mg2 v = 0 <;> by_cases d : mg1 v 5 = 1 <;> simp [a, b, c, d, bit0, bit1]
  · rw [u_out_2, v_def, v_0_0_2, v_1_0_2, v_1_1_2, q_llit, q_low]
    by_cases a : mg1 v 0 = 2 <;> by_cases b : mg1 v 0 = 3 <;> by_cases c : mg2 v = 0 <;> by_cases d : mg1 v 5 = 1 <;> by_cases f : mg1 v 6 = 1 <;> simp [a, b, c, d, f, bit0, bit1]
  · rw [u_out_3, v_def, v_0_0_3, v_1_0_3, v_1_1_3, e33, l0, b0]
    simp only [ite_self]
  · rw [u_out_4, v_def, v_0_0_4, v_1_0_4, v_1_1_4, e43, l1, b1]
    simp only [ite_self]
  · rw [u_out_5, v_def, v_0_0_5, v_1_0_5, v_1_1_5]
    simp only [ite_self]
  · rw [u_out_6, v_def, v_0_0_6, v_1_0_6, v_1_1_6]
    simp only [ite_self]
  · rw [u_out_7, v_def, v_0_0_7, v_1_0_7, v_1_1_7]
    simp only [ite_self]
  · rw [u_out_8, v_def, v_0_0_8, v_1_0_8, v_1_1_8, e88, l0, c0]
    simp only [ite_self, bit0]
  · rw [u_out_9, v_def, v_0_0_9, v_1_0_9, v_1_1_9, e98, l1, c1]
    simp only [ite_self, bit0]
/-! what the reference keeps -/
def I1 (v : cM) : Prop := (rg (mg8 v 0) 79 ∧ rg (mg8 v 1) 79) ∧ z01 (mg7 v 0) ∧ z01 (mg7 v 1)
def I2 (v : cM) : Prop := z01 (mg2 v)
def I3 (v : cM) : Prop := rg (mg1 v 4) 3
def I4 (v : cM) : Prop := ¬ mg12 v < 0 ∧ (mg11 v = 0 ∨ mg12 v = 0)
def I5 (v : cM) : Prop := rg (mg14 v) 100
def I6 (v : cM) : Prop := ∀ j : Nat, j < 4 → rg (mg15 v j) 200 ∧ rg (mg16 v j) 200
def I7 (v : cM) : Prop := ∀ j : Nat, z01 (mg10 v j)
def I8 (v : cM) : Prop := rg (mg18 v) 12 ∧ rg (mg22 v) 2 ∧ rg (mg23 v) 2
def I9 (v : cM) : Prop := ∀ i j : Nat, i < 4 → j < 5 → mg24 v (5 * i + j) = -1 ∨ rg (mg24 v (5 * i + j)) (if j = 4 then 100 else 200)
def Inv (v : cM) : Prop := I1 v ∧ I2 v ∧ I3 v ∧ I4 v ∧ I5 v ∧ I6 v ∧ I7 v ∧ I8 v ∧ I9 v
def KK (k : Nat → Nat → Int32) (v : cM) : Prop := ∀ i j : Nat, i < 4 → j < 5 → k i j = mg24 v (5 * i + j)
def RV (u : cB) (v : cM) : Prop := Inv v ∧ ∃ k : Nat → Nat → Int32, u = ph v k (mg6 v) ∧ KK k v
theorem RV.iv {u : cB} {v : cM} (h : RV u v) : Iv u := by
  obtain ⟨⟨-, -, -, -, -, -, h7, ⟨⟨n, hn, he⟩, -⟩, -⟩, k, rfl, -⟩ := h
  refine ⟨fun j => h7 j, ?_⟩
  show (mg18 v).toNatClampNeg ≤ 12 ∧ mg18 v = nI (mg18 v).toNatClampNeg
  rw [he, nI_clamp (by omega)]
  exact ⟨hn, rfl⟩
theorem RV.im {u : cB} {v : cM} (h : RV u v) : IM v := by
  obtain ⟨⟨-, -, -, -, -, -, h7, ⟨⟨n, hn, he⟩, -⟩, -⟩, k, rfl, -⟩ := h
  show (mg18 v).toNatClampNeg ≤ 12 ∧ mg18 v = nI (mg18 v).toNatClampNeg
  rw [he, nI_clamp (by omega)]
  exact ⟨hn, rfl⟩
/-! the outputs laid by, and counted -/
theorem inv_by {v : cM} (h : Inv v) (x : Nat → Int32) : Inv (ms25 v x) := h
theorem q_byn (v : cM) (k : Nat → Nat → Int32) (t : Int32) (h : Inv v) : ∀ n : Nat, n ≤ 10 → li_B_noteOutputs_2 (ph v k t) n = ph (li_M_layBy_2 v n) k t ∧ ∃ x, li_M_layBy_2 v n = ms25 v x
  | 0, _ => ⟨rfl, mg25 v, rfl⟩
  | n + 1, hn => by
    obtain ⟨e, x, hx⟩ := q_byn v k t h n (by omega)
    have e1 : li_B_noteOutputs_2 (ph v k t) (n + 1) = f_B_noteOutputs_18 n (li_B_noteOutputs_2 (ph v k t) n) := rfl
    have e2 : li_M_layBy_2 v (n + 1) = f_M_layBy_18 n (li_M_layBy_2 v n) := rfl
    rw [e1, e2, e, hx]
    have o := q_out (ms25 v x) k t h.1.1.1 h.1.1.2 n (by omega)
    have e3 : f_B_noteOutputs_18 n (ph (ms25 v x) k t) = s1 (ph (ms25 v x) k t) (upd (mg25 (ms25 v x)) n (m_B_outputNow (nI n) (ph (ms25 v x) k t))) := rfl
    refine ⟨?_, upd x n (m_M_value (nI n) (ms25 v x)), rfl⟩
    rw [e3, o]
    rfl
theorem q_by {v : cM} (k : Nat → Nat → Int32) (t : Int32) (h : Inv v) : m_B_noteOutputs (ph v k t) = ph (m_M_layBy v) k t ∧ ∃ x, m_M_layBy v = ms25 v x := q_byn v k t h 10 (Nat.le_refl _)
theorem q_cntn (v : cM) (k : Nat → Nat → Int32) (t : Int32) (h : I1 v) : ∀ n : Nat, n ≤ 10 → li_B_countChangedOutputs_4 (ph v k t) n = li_M_others_4 v n
  | 0, _ => rfl
  | n + 1, hn => by
    have e := q_cntn v k t h n (by omega)
    have e1 : li_B_countChangedOutputs_4 (ph v k t) (n + 1) = if m_B_outputNow (nI n) (ph v k t) = mg25 v n then li_B_countChangedOutputs_4 (ph v k t) n else li_B_countChangedOutputs_4 (ph v k t) n + 1 := rfl
    have e2 : li_M_others_4 v (n + 1) = if mg25 v n = m_M_value (nI n) v then li_M_others_4 v n + 0 else li_M_others_4 v n + 1 := rfl
    rw [e1, e2, e, q_out v k t h.1.1 h.1.2 n (by omega), Int32.add_zero]
    by_cases c : mg25 v n = m_M_value (nI n) v
    · rw [if_pos c.symm, if_pos c]
    · rw [if_neg (fun q => c q.symm), if_neg c]
theorem q_cnt (v : cM) (k : Nat → Nat → Int32) (t : Int32) (h : I1 v) : m_B_countChangedOutputs (ph v k t) = m_M_others v := q_cntn v k t h 10 (Nat.le_refl _)
