/-! ===== a step ===== -/
theorem z_lrem4 {x y : Int64} (e : y = x - x / 4 * 4) (h : 0 ≤ x.toInt) : y.toInt = x.toInt % 4 := by
  have q : (4 : Int64).toInt = 4 := by decide +kernel
  have u := x.toInt_lt
  have d : (x / 4).toInt = x.toInt / 4 := by
    rw [Int64.toInt_div, q, Int.tdiv_eq_ediv_of_nonneg h]
    exact Int.bmod_eq_of_le (by omega) (by omega)
  have m : (x / 4 * 4).toInt = x.toInt / 4 * 4 := by
    rw [Int64.toInt_mul, q, d]
    exact Int.bmod_eq_of_le (by omega) (by omega)
  rw [e, Int64.toInt_sub, m]
  rw [Int.bmod_eq_of_le (by omega) (by omega)]
  omega
