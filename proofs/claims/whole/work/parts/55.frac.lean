/-! PURE: fractions told by both -/
theorem div_wide (x y : Int32) : (x.toInt64 / y.toInt64).toInt32 = x / y := by
  apply Int32.toInt_inj.mp
  rw [Int64.toInt_toInt32, Int64.toInt_div, Int32.toInt_div, Int32.toInt_toInt64, Int32.toInt_toInt64]
  exact Int.bmod_bmod_of_dvd (by decide)
