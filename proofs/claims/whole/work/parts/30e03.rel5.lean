/-! shed -/
def Lp (v : cM) : cL := (fun j => mg19 v (j + 1), fun j => mg20 v (j + 1), fun j => mg21 v (j + 1), mg18 v, mg22 v, mg23 v)
theorem sn_a (u : cM) (y : Int32) (x : Nat → Int32) : ms21 (ms22 u y) x = ms22 (ms21 u x) y := by
  obtain ⟨a0, a1, a2, a3, a4, a5, a6, a7, a8, a9, a10, a11, a12, a13, a14, a15, a16, a17, a18, a19, a20, a21, a22, a23, a24, a25⟩ := u
  exact (show ms21 (ms22 (a0, a1, a2, a3, a4, a5, a6, a7, a8, a9, a10, a11, a12, a13, a14, a15, a16, a17, a18, a19, a20, a21, a22, a23, a24, a25) y) x = (a0, a1, a2, a3, a4, a5, a6, a7, a8, a9, a10, a11, a12, a13, a14, a15, a16, a17, a18, a19, a20, x, y, a23, a24, a25) from rfl).trans (show ms22 (ms21 (a0, a1, a2, a3, a4, a5, a6, a7, a8, a9, a10, a11, a12, a13, a14, a15, a16, a17, a18, a19, a20, a21, a22, a23, a24, a25) x) y = (a0, a1, a2, a3, a4, a5, a6, a7, a8, a9, a10, a11, a12, a13, a14, a15, a16, a17, a18, a19, a20, x, y, a23, a24, a25) from rfl).symm
theorem sn_d (u : cM) (y : Int32) (x : Nat → Int32) : ms21 (ms23 u y) x = ms23 (ms21 u x) y := by
  obtain ⟨a0, a1, a2, a3, a4, a5, a6, a7, a8, a9, a10, a11, a12, a13, a14, a15, a16, a17, a18, a19, a20, a21, a22, a23, a24, a25⟩ := u
  exact (show ms21 (ms23 (a0, a1, a2, a3, a4, a5, a6, a7, a8, a9, a10, a11, a12, a13, a14, a15, a16, a17, a18, a19, a20, a21, a22, a23, a24, a25) y) x = (a0, a1, a2, a3, a4, a5, a6, a7, a8, a9, a10, a11, a12, a13, a14, a15, a16, a17, a18, a19, a20, x, a22, y, a24, a25) from rfl).trans (show ms23 (ms21 (a0, a1, a2, a3, a4, a5, a6, a7, a8, a9, a10, a11, a12, a13, a14, a15, a16, a17, a18, a19, a20, a21, a22, a23, a24, a25) x) y = (a0, a1, a2, a3, a4, a5, a6, a7, a8, a9, a10, a11, a12, a13, a14, a15, a16, a17, a18, a19, a20, x, a22, y, a24, a25) from rfl).symm
theorem sn_c (u : cM) (y : Int32) (x : Int32) : ms22 (ms23 u y) x = ms23 (ms22 u x) y := by
  obtain ⟨a0, a1, a2, a3, a4, a5, a6, a7, a8, a9, a10, a11, a12, a13, a14, a15, a16, a17, a18, a19, a20, a21, a22, a23, a24, a25⟩ := u
  exact (show ms22 (ms23 (a0, a1, a2, a3, a4, a5, a6, a7, a8, a9, a10, a11, a12, a13, a14, a15, a16, a17, a18, a19, a20, a21, a22, a23, a24, a25) y) x = (a0, a1, a2, a3, a4, a5, a6, a7, a8, a9, a10, a11, a12, a13, a14, a15, a16, a17, a18, a19, a20, a21, x, y, a24, a25) from rfl).trans (show ms23 (ms22 (a0, a1, a2, a3, a4, a5, a6, a7, a8, a9, a10, a11, a12, a13, a14, a15, a16, a17, a18, a19, a20, a21, a22, a23, a24, a25) x) y = (a0, a1, a2, a3, a4, a5, a6, a7, a8, a9, a10, a11, a12, a13, a14, a15, a16, a17, a18, a19, a20, a21, x, y, a24, a25) from rfl).symm
theorem sn_b (u : cM) (x y : Nat → Int32) : ms21 (ms21 u x) y = ms21 u y := by
  obtain ⟨a0, a1, a2, a3, a4, a5, a6, a7, a8, a9, a10, a11, a12, a13, a14, a15, a16, a17, a18, a19, a20, a21, a22, a23, a24, a25⟩ := u
  exact (show ms21 (ms21 (a0, a1, a2, a3, a4, a5, a6, a7, a8, a9, a10, a11, a12, a13, a14, a15, a16, a17, a18, a19, a20, a21, a22, a23, a24, a25) x) y = (a0, a1, a2, a3, a4, a5, a6, a7, a8, a9, a10, a11, a12, a13, a14, a15, a16, a17, a18, a19, a20, y, a22, a23, a24, a25) from rfl).trans (show ms21 (a0, a1, a2, a3, a4, a5, a6, a7, a8, a9, a10, a11, a12, a13, a14, a15, a16, a17, a18, a19, a20, a21, a22, a23, a24, a25) y = (a0, a1, a2, a3, a4, a5, a6, a7, a8, a9, a10, a11, a12, a13, a14, a15, a16, a17, a18, a19, a20, y, a22, a23, a24, a25) from rfl).symm
theorem sn_f (u : cM) (x y : Int32) : ms23 (ms23 u x) y = ms23 u y := by
  obtain ⟨a0, a1, a2, a3, a4, a5, a6, a7, a8, a9, a10, a11, a12, a13, a14, a15, a16, a17, a18, a19, a20, a21, a22, a23, a24, a25⟩ := u
  exact (show ms23 (ms23 (a0, a1, a2, a3, a4, a5, a6, a7, a8, a9, a10, a11, a12, a13, a14, a15, a16, a17, a18, a19, a20, a21, a22, a23, a24, a25) x) y = (a0, a1, a2, a3, a4, a5, a6, a7, a8, a9, a10, a11, a12, a13, a14, a15, a16, a17, a18, a19, a20, a21, a22, y, a24, a25) from rfl).trans (show ms23 (a0, a1, a2, a3, a4, a5, a6, a7, a8, a9, a10, a11, a12, a13, a14, a15, a16, a17, a18, a19, a20, a21, a22, a23, a24, a25) y = (a0, a1, a2, a3, a4, a5, a6, a7, a8, a9, a10, a11, a12, a13, a14, a15, a16, a17, a18, a19, a20, a21, a22, y, a24, a25) from rfl).symm
theorem sn_g (u : cM) (x y : Int32) : ms22 (ms22 u x) y = ms22 u y := by
  obtain ⟨a0, a1, a2, a3, a4, a5, a6, a7, a8, a9, a10, a11, a12, a13, a14, a15, a16, a17, a18, a19, a20, a21, a22, a23, a24, a25⟩ := u
  exact (show ms22 (ms22 (a0, a1, a2, a3, a4, a5, a6, a7, a8, a9, a10, a11, a12, a13, a14, a15, a16, a17, a18, a19, a20, a21, a22, a23, a24, a25) x) y = (a0, a1, a2, a3, a4, a5, a6, a7, a8, a9, a10, a11, a12, a13, a14, a15, a16, a17, a18, a19, a20, a21, y, a23, a24, a25) from rfl).trans (show ms22 (a0, a1, a2, a3, a4, a5, a6, a7, a8, a9, a10, a11, a12, a13, a14, a15, a16, a17, a18, a19, a20, a21, a22, a23, a24, a25) y = (a0, a1, a2, a3, a4, a5, a6, a7, a8, a9, a10, a11, a12, a13, a14, a15, a16, a17, a18, a19, a20, a21, y, a23, a24, a25) from rfl).symm
theorem g6_0 (u : cM) (x : Int32) : mg6 (ms0 u x) = mg6 u := rfl
theorem g18_0 (u : cM) (x : Int32) : mg18 (ms0 u x) = mg18 u := rfl
theorem g24_0 (u : cM) (x : Int32) : mg24 (ms0 u x) = mg24 u := rfl
theorem g6_21 (u : cM) (x : Nat → Int32) : mg6 (ms21 u x) = mg6 u := rfl
theorem g18_21 (u : cM) (x : Nat → Int32) : mg18 (ms21 u x) = mg18 u := rfl
theorem g24_21 (u : cM) (x : Nat → Int32) : mg24 (ms21 u x) = mg24 u := rfl
theorem g6_22 (u : cM) (x : Int32) : mg6 (ms22 u x) = mg6 u := rfl
theorem g18_22 (u : cM) (x : Int32) : mg18 (ms22 u x) = mg18 u := rfl
theorem g24_22 (u : cM) (x : Int32) : mg24 (ms22 u x) = mg24 u := rfl
theorem g6_23 (u : cM) (x : Int32) : mg6 (ms23 u x) = mg6 u := rfl
theorem g18_23 (u : cM) (x : Int32) : mg18 (ms23 u x) = mg18 u := rfl
theorem g24_23 (u : cM) (x : Int32) : mg24 (ms23 u x) = mg24 u := rfl
theorem g22_22 (u : cM) (x : Int32) : mg22 (ms22 u x) = x := rfl
theorem g22_23 (u : cM) (x : Int32) : mg22 (ms23 u x) = mg22 u := rfl
theorem g23_22 (u : cM) (x : Int32) : mg23 (ms22 u x) = mg23 u := rfl
theorem g23_21 (u : cM) (x : Nat → Int32) : mg23 (ms21 u x) = mg23 u := rfl
theorem g23_23 (u : cM) (x : Int32) : mg23 (ms23 u x) = x := rfl
theorem p6_0 (u : cM) (x : Int32) (k : Nat → Nat → Int32) (t : Int32) (w : cL) : s6 (ph (ms0 u x) k t) w = s6 (ph u k t) w := rfl
theorem p6_21 (u : cM) (x : Nat → Int32) (k : Nat → Nat → Int32) (t : Int32) (w : cL) : s6 (ph (ms21 u x) k t) w = s6 (ph u k t) w := rfl
theorem p6_22 (u : cM) (x : Int32) (k : Nat → Nat → Int32) (t : Int32) (w : cL) : s6 (ph (ms22 u x) k t) w = s6 (ph u k t) w := rfl
theorem p6_L (u : cM) (y : Int32) (k : Nat → Nat → Int32) (t : Int32) : s6 (ph u k t) (Lp (ms23 u y)) = ph (ms23 u y) k t := rfl
theorem lp_0 (u : cM) (x : Int32) : Lp (ms0 u x) = Lp u := rfl
theorem lp_22 (u : cM) (x : Int32) : Lp (ms22 u x) = t4 (Lp u) x := rfl
theorem lp_23 (u : cM) (x : Int32) : Lp (ms23 u x) = t5 (Lp u) x := rfl
theorem iv_0 {u : cM} (h : Inv u) (x : Int32) : Inv (ms0 u x) := h
theorem iv_21 {u : cM} (h : Inv u) (x : Nat → Int32) : Inv (ms21 u x) := h
theorem iv_22 {u : cM} (h : Inv u) (x : Int32) (hx : rg x 2) : Inv (ms22 u x) := by
  obtain ⟨h1, h2, h3, h4, h5, h6, h7, ⟨h18, -, h23⟩, h9⟩ := h
  exact ⟨h1, h2, h3, h4, h5, h6, h7, ⟨h18, hx, h23⟩, h9⟩
theorem iv_23 {u : cM} (h : Inv u) (x : Int32) (hx : rg x 2) : Inv (ms23 u x) := by
  obtain ⟨h1, h2, h3, h4, h5, h6, h7, ⟨h18, h22, -⟩, h9⟩ := h
  exact ⟨h1, h2, h3, h4, h5, h6, h7, ⟨h18, h22, hx⟩, h9⟩
