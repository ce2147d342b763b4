theorem b_pause_def (v : cM) (k : Nat → Nat → Int32) (t : Int32) : m_B_pauseAfterWiping (ph v k t) = if mg1 v 4 = 1 then (if mg5 v < 1 then 0 else (if 4 < mg5 v then 0 else 400 - 80 * mg5 v)) else 0 := rfl
theorem pau_pos {x : Int32} (h : ¬ m_M_within x 1 4 = 0) : ¬ 400 - 80 * x < 0 := by
  obtain ⟨h1, h2⟩ := hk_wb h
  rw [Int32.lt_iff_toInt_lt] at h1 h2
  have l1 : (1 : Int32).toInt = 1 := rfl
  have l4 : (4 : Int32).toInt = 4 := rfl
  have l80 : (80 : Int32).toInt = 80 := rfl
  have l400 : (400 : Int32).toInt = 400 := rfl
  have e1 : (80 * x).toInt = 80 * x.toInt := by rw [hi_mul (by rw [l80]; omega) (by rw [l80]; omega), l80]
  have e2 : (400 - 80 * x).toInt = 400 - 80 * x.toInt := by rw [hi_sub (by omega) (by omega), e1, l400]
  rw [Int32.lt_iff_toInt_lt, e2]
  show ¬ 400 - 80 * x.toInt < 0
  omega
theorem go1 (v : cM) (k : Nat → Nat → Int32) (t w : Int32) : s4 (ph v k t) (0, mg12 v, w) = ph (ms11 (ms13 v w) 0) k t := rfl
theorem go2 (v : cM) (k : Nat → Nat → Int32) (t w x : Int32) : s4 (ph v k t) (0, x, w) = ph (ms12 (ms11 (ms13 v w) 0) x) k t := rfl
theorem go3 (v : cM) (k : Nat → Nat → Int32) (t w x : Int32) : s4 (ph v k t) (x, mg12 v, w) = ph (ms11 (ms13 v w) x) k t := rfl
theorem go4 (v : cM) (k : Nat → Nat → Int32) (t w y : Int32) : s4 (ph v k t) (mg11 v, y, w) = ph (ms12 (ms13 v w) y) k t := rfl
theorem i4a (u : cM) (x : Int32) (h : ¬ x < 0) : I4 (ms12 (ms11 u 0) x) := ⟨h, Or.inl rfl⟩
theorem i4b (u : cM) (h : ¬ mg12 u < 0) : I4 (ms11 u 0) := ⟨h, Or.inl rfl⟩
theorem i4c (u : cM) (x : Int32) (h : mg12 u = 0) (h0 : ¬ mg12 u < 0) : I4 (ms11 u x) := ⟨h0, Or.inr h⟩
theorem i4d (v : cM) (y w : Int32) (hy : ¬ y < 0) (h : mg11 v = 0 ∨ y = 0) : I4 (ms12 (ms13 v w) y) := ⟨hy, h⟩
theorem g12 (v : cM) (w : Int32) : mg12 (ms13 v w) = mg12 v := rfl
theorem q_go {v : cM} (k : Nat → Nat → Int32) (t : Int32) (h3 : rg (mg1 v 4) 3) (hy : mg12 v = 0) :
    s4 (ph v k t) (gw (m_M_speed v) (m_B_pauseAfterWiping (ph v k t)) (mg11 v) (mg12 v)) = ph (gm v) k t ∧ I4 (gm v) := by
  unfold gw gm
  rw [q_mx h3, q_g65]
  obtain ⟨w, hw⟩ : ∃ w, w1 v = w := ⟨_, rfl⟩
  rw [hw]
  have e11 : mg11 (ms13 v w) = mg11 v := rfl
  have e13 : mg13 (ms13 v w) = w := rfl
  have e1 : mg1 (ms13 v w) 4 = mg1 v 4 := rfl
  have e5 : mg5 (ms13 v w) = mg5 v := rfl
  rw [e11, e13, e1, e5]
  have y1 : ¬ mg12 v < 0 := by
    rw [hy]
    decide
  have y0 : ¬ mg12 (ms13 v w) < 0 := y1
  by_cases c : mg11 v + w < 100
  · rw [if_pos c, if_neg (by rw [Int32.not_le]; exact c)]
    exact ⟨go3 v k t w _, i4c _ _ hy y0⟩
  · rw [if_neg c, if_pos (Int32.not_lt.mp c), b_pause_def]
    have z1 : s4 (ph v k t) (0, 0, w) = ph (ms11 (ms13 v w) 0) k t := by
      have g1 := go1 v k t w
      rw [hy] at g1
      exact g1
    by_cases d : mg1 v 4 = 1
    · rw [if_pos d, if_pos d]
      by_cases f : m_M_within (mg5 v) 1 4 = 0
      · rw [if_pos f]
        have g : (if mg5 v < 1 then (0 : Int32) else (if 4 < mg5 v then 0 else 400 - 80 * mg5 v)) = 0 := by
          by_cases a : mg5 v < 1
          · rw [if_pos a]
          · rw [if_neg a]
            by_cases b : 4 < mg5 v
            · rw [if_pos b]
            · have hw1 : m_M_within (mg5 v) 1 4 = 1 := (if_neg a).trans (if_neg b)
              exact absurd (f.symm.trans hw1) (by decide)
        rw [g]
        exact ⟨z1, i4b _ y0⟩
      · rw [if_neg f]
        obtain ⟨a, b⟩ := hk_wb f
        rw [if_neg a, if_neg b]
        exact ⟨go2 v k t w _, i4a _ _ (pau_pos f)⟩
    · rw [if_neg d, if_neg d]
      exact ⟨z1, i4b _ y0⟩
theorem gk1 (v : cM) (x w : Int32) : ms11 (ms13 v w) x = ms13 (ms12 (ms11 v x) (mg12 v)) w := rfl
theorem gk2 (v : cM) (x y w : Int32) : ms12 (ms11 (ms13 v w) x) y = ms13 (ms12 (ms11 v x) y) w := rfl
theorem gm_keep (v : cM) : ∃ a b c : Int32, gm v = ms13 (ms12 (ms11 v a) b) c := by
  unfold gm
  rw [q_g65]
  repeat' split
  · exact ⟨_, _, _, gk1 v _ _⟩
  · exact ⟨_, _, _, gk2 v _ _ _⟩
  · exact ⟨_, _, _, gk1 v _ _⟩
  · exact ⟨_, _, _, gk1 v _ _⟩
