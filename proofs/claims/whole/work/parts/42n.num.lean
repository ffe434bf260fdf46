/-! numbers -/
theorem p_toI (n' : Nat) (h' : n' < 2147483648) : (Int32.ofNat n').toInt = (n' : Int) := Int32.toInt_ofNat_of_lt (by omega)
theorem p_tsub (a' b' : Int32) (h' : -2147483648 ≤ a'.toInt - b'.toInt) (h'' : a'.toInt - b'.toInt < 2147483648) : (a' - b').toInt = a'.toInt - b'.toInt := by
  rw [Int32.toInt_sub, Int.bmod_eq_of_le (by omega) (by omega)]
theorem p_tadd (a' b' : Int32) (h' : -2147483648 ≤ a'.toInt + b'.toInt) (h'' : a'.toInt + b'.toInt < 2147483648) : (a' + b').toInt = a'.toInt + b'.toInt := by
  rw [Int32.toInt_add, Int.bmod_eq_of_le (by omega) (by omega)]
theorem p_osub (a' b' : Nat) (h' : b' ≤ a') : Int32.ofNat a' - Int32.ofNat b' = Int32.ofNat (a' - b') := by
  have e' : Int32.ofNat a' = Int32.ofNat (a' - b') + Int32.ofNat b' := by rw [← Int32.ofNat_add, Nat.sub_add_cancel h']
  rw [e']
  exact Int32.add_sub_cancel _ _
theorem p_neg (a' b' : Nat) (h' : a' < b') (hb' : b' < 2147483648) : Int32.ofNat a' - Int32.ofNat b' < 0 := by
  have h1' := p_toI a' (by omega)
  have h2' := p_toI b' (by omega)
  rw [Int32.lt_iff_toInt_lt, p_tsub _ _ (by omega) (by omega), h1', h2']
  show (a' : Int) - b' < 0
  omega
