/-! the reference: figures are digits -/
theorem v_fg_dig {x : Int32} {lo hi : Nat} (hh : hi ≤ 9) (hl : lo ≤ 9) : v_fg x (nI lo) (nI hi) = v_dig x (nI lo) (nI hi) := by
  have e1 : (48 : Int32) + nI lo = nI (48 + lo) := nI_add 48 lo
  have e2 : (48 : Int32) + nI hi = nI (48 + hi) := nI_add 48 hi
  have b1 := x.toInt_lt
  have b2 := x.le_toInt
  have e3 : (x - 48).toInt = (x.toInt - 48).bmod (2 ^ 32) := by rw [Int32.toInt_sub]; rfl
  rw [Bool.eq_iff_iff]
  simp only [v_fg, v_dig, s_rng, e1, e2, Bool.and_eq_true, Bool.not_eq_true', decide_eq_true_eq, decide_eq_false_iff_not, Int32.lt_iff_toInt_lt, nI_toInt (show lo < 2 ^ 31 by omega), nI_toInt (show hi < 2 ^ 31 by omega), nI_toInt (show 48 + lo < 2 ^ 31 by omega), nI_toInt (show 48 + hi < 2 ^ 31 by omega)]
  rw [e3]
  by_cases h : -2147483648 + 48 ≤ x.toInt
  · rw [Int.bmod_eq_of_le (by omega) (by omega)]
    omega
  · have e4 : (x.toInt - 48).bmod (2 ^ 32) = x.toInt - 48 + 2 ^ 32 := by
      have e5 := Int.add_bmod_right (x.toInt - 48) (2 ^ 32)
      rw [← e5]
      exact Int.bmod_eq_of_le (by omega) (by omega)
    rw [e4]
    omega
