set_option maxRecDepth 16384
/-! long numbers -/
def nL (n : Nat) : Int64 := Int64.ofNat n
theorem l_ti {k : Nat} (h : k < 9223372036854775808) : (nL k).toInt = k := by
  unfold nL
  rw [Int64.toInt_ofNat_of_lt (by omega)]
theorem l_eq {x : Int64} {k : Nat} (h : k < 9223372036854775808) (e : x.toInt = k) : x = nL k := Int64.toInt_inj.1 (by rw [l_ti h]; exact e)
theorem l_mul {a b : Nat} (h : a * b < 9223372036854775808) (ha : a < 9223372036854775808) (hb : b < 9223372036854775808) : nL a * nL b = nL (a * b) := by
  apply l_eq h
  rw [Int64.toInt_mul, l_ti ha, l_ti hb, ← Int.natCast_mul]
  exact Int.bmod_eq_of_le (by omega) (by omega)
theorem l_div {a b : Nat} (ha : a < 9223372036854775808) (hb : b < 9223372036854775808) : nL a / nL b = nL (a / b) := by
  have h : a / b < 9223372036854775808 := Nat.lt_of_le_of_lt (Nat.div_le_self a b) ha
  apply l_eq h
  rw [Int64.toInt_div, l_ti ha, l_ti hb, Int.tdiv_eq_ediv_of_nonneg (by omega), ← Int.natCast_ediv]
  generalize a / b = q at h ⊢
  exact Int.bmod_eq_of_le (by omega) (by omega)
theorem l_sub {a b : Nat} (h : b ≤ a) (ha : a < 9223372036854775808) : nL a - nL b = nL (a - b) := by
  apply l_eq (by omega)
  rw [Int64.toInt_sub, l_ti ha, l_ti (by omega)]
  rw [Int.bmod_eq_of_le (by omega) (by omega)]
  omega
theorem l_of {a : Nat} (h : a < 2147483648) : Int32.toInt64 (nI a) = nL a := by
  apply l_eq (by omega)
  rw [Int32.toInt_toInt64, n_ti h]
