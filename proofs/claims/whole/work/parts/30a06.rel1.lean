theorem hi_bm {n : Int} (h1 : -2147483648 ≤ n) (h2 : n < 2147483648) : n.bmod (2 ^ 32) = n := by
  rw [Int.bmod_def]
  omega
theorem hi_add {x y : Int32} (h1 : -2147483648 ≤ x.toInt + y.toInt) (h2 : x.toInt + y.toInt < 2147483648) : (x + y).toInt = x.toInt + y.toInt := (Int32.toInt_add x y).trans (hi_bm h1 h2)
theorem hi_sub {x y : Int32} (h1 : -2147483648 ≤ x.toInt - y.toInt) (h2 : x.toInt - y.toInt < 2147483648) : (x - y).toInt = x.toInt - y.toInt := (Int32.toInt_sub x y).trans (hi_bm h1 h2)
theorem hi_mul {x y : Int32} (h1 : -2147483648 ≤ x.toInt * y.toInt) (h2 : x.toInt * y.toInt < 2147483648) : (x * y).toInt = x.toInt * y.toInt := (Int32.toInt_mul x y).trans (hi_bm h1 h2)
theorem hi_mask (x : Int32) : 0 ≤ (x &&& 15).toInt ∧ (x &&& 15).toInt ≤ 15 := by
  have e : (x &&& 15).toInt = (x.toBitVec &&& (15 : Int32).toBitVec).toInt := rfl
  have n : (x.toBitVec &&& (15 : Int32).toBitVec).toNat ≤ 15 := by
    rw [BitVec.toNat_and]
    exact Nat.and_le_right
  rw [e, BitVec.toInt_eq_toNat_cond, if_pos (by omega)]
  omega
theorem hk_tp {α : Type} {c : Prop} [Decidable c] {a b a' b' : α} (h : c) (e : a = a') : (if c then a else b) = (if c then a' else b') := (if_pos h).trans (e.trans (if_pos h).symm)
theorem hk_tn {α : Type} {c : Prop} [Decidable c] {a b a' b' : α} (h : ¬ c) (e : b = b') : (if c then a else b) = (if c then a' else b') := (if_neg h).trans (e.trans (if_neg h).symm)
