-- init@16 @16
theorem vJ6_stringSize_0f7a4_1 (k0 : Int32) (c1 : k0.toInt < 0) : (((1 : Int32).toInt = 1 ∧ (-10 : Int32).toInt = -10) ∨ ((1 : Int32).toInt = 2 ∧ (-10 : Int32).toInt = -100 ∧ k0.toInt ≤ -10) ∨ ((1 : Int32).toInt = 3 ∧ (-10 : Int32).toInt = -1000 ∧ k0.toInt ≤ -100) ∨ ((1 : Int32).toInt = 4 ∧ (-10 : Int32).toInt = -10000 ∧ k0.toInt ≤ -1000) ∨ ((1 : Int32).toInt = 5 ∧ (-10 : Int32).toInt = -100000 ∧ k0.toInt ≤ -10000) ∨ ((1 : Int32).toInt = 6 ∧ (-10 : Int32).toInt = -1000000 ∧ k0.toInt ≤ -100000) ∨ ((1 : Int32).toInt = 7 ∧ (-10 : Int32).toInt = -10000000 ∧ k0.toInt ≤ -1000000) ∨ ((1 : Int32).toInt = 8 ∧ (-10 : Int32).toInt = -100000000 ∧ k0.toInt ≤ -10000000) ∨ ((1 : Int32).toInt = 9 ∧ (-10 : Int32).toInt = -1000000000 ∧ k0.toInt ≤ -100000000) ∨ ((1 : Int32).toInt = 10 ∧ k0.toInt ≤ -1000000000)) ∧ k0.toInt ≤ 0 ∧ (((1 : Int32).toInt = 0 ∧ 0 ≤ k0.toInt ∧ k0.toInt = -k0.toInt) ∨ ((1 : Int32).toInt = 1 ∧ k0.toInt < 0 ∧ k0.toInt = k0.toInt)) := by
  have qm10 : (-10 : Int32).toInt = (-10) := by decide +kernel
  have q1 : (1 : Int32).toInt = 1 := by decide +kernel
  refine ⟨Or.inl ⟨by omega, by omega⟩, by omega, by omega⟩
-- nw@45 @45
theorem vJ6_stringSize_0f7a4_2 (k0 : Int32) (y2 : Int32) (y3 : Int32) (y4 : Int32) (y5 : Int32) (x7 : Int32) (c1 : k0.toInt < 0) (hi16_0 : (y5.toInt = 1 ∧ y4.toInt = -10) ∨ (y5.toInt = 2 ∧ y4.toInt = -100 ∧ y2.toInt ≤ -10) ∨ (y5.toInt = 3 ∧ y4.toInt = -1000 ∧ y2.toInt ≤ -100) ∨ (y5.toInt = 4 ∧ y4.toInt = -10000 ∧ y2.toInt ≤ -1000) ∨ (y5.toInt = 5 ∧ y4.toInt = -100000 ∧ y2.toInt ≤ -10000) ∨ (y5.toInt = 6 ∧ y4.toInt = -1000000 ∧ y2.toInt ≤ -100000) ∨ (y5.toInt = 7 ∧ y4.toInt = -10000000 ∧ y2.toInt ≤ -1000000) ∨ (y5.toInt = 8 ∧ y4.toInt = -100000000 ∧ y2.toInt ≤ -10000000) ∨ (y5.toInt = 9 ∧ y4.toInt = -1000000000 ∧ y2.toInt ≤ -100000000) ∨ (y5.toInt = 10 ∧ y2.toInt ≤ -1000000000)) (hi16_1 : y2.toInt ≤ 0) (hi16_2 : (y3.toInt = 0 ∧ 0 ≤ k0.toInt ∧ y2.toInt = -k0.toInt) ∨ (y3.toInt = 1 ∧ k0.toInt < 0 ∧ y2.toInt = k0.toInt)) (c6 : 10 ≤ y5.toInt) (ex7 : x7 = (10 : Int32) + y3) : x7.toInt = 10 + y3.toInt := by
  have q10 : (10 : Int32).toInt = 10 := by decide +kernel
  have w0 : (10 : Int32).toInt = 10 := by decide +kernel
  rw [ex7, z_add (by omega) (by omega)]; first | done | omega
-- post @46
theorem vJ6_stringSize_0f7a4_3 (k0 : Int32) (y2 : Int32) (y3 : Int32) (y4 : Int32) (y5 : Int32) (x7 : Int32) (c1 : k0.toInt < 0) (hi16_0 : (y5.toInt = 1 ∧ y4.toInt = -10) ∨ (y5.toInt = 2 ∧ y4.toInt = -100 ∧ y2.toInt ≤ -10) ∨ (y5.toInt = 3 ∧ y4.toInt = -1000 ∧ y2.toInt ≤ -100) ∨ (y5.toInt = 4 ∧ y4.toInt = -10000 ∧ y2.toInt ≤ -1000) ∨ (y5.toInt = 5 ∧ y4.toInt = -100000 ∧ y2.toInt ≤ -10000) ∨ (y5.toInt = 6 ∧ y4.toInt = -1000000 ∧ y2.toInt ≤ -100000) ∨ (y5.toInt = 7 ∧ y4.toInt = -10000000 ∧ y2.toInt ≤ -1000000) ∨ (y5.toInt = 8 ∧ y4.toInt = -100000000 ∧ y2.toInt ≤ -10000000) ∨ (y5.toInt = 9 ∧ y4.toInt = -1000000000 ∧ y2.toInt ≤ -100000000) ∨ (y5.toInt = 10 ∧ y2.toInt ≤ -1000000000)) (hi16_1 : y2.toInt ≤ 0) (hi16_2 : (y3.toInt = 0 ∧ 0 ≤ k0.toInt ∧ y2.toInt = -k0.toInt) ∨ (y3.toInt = 1 ∧ k0.toInt < 0 ∧ y2.toInt = k0.toInt)) (c6 : 10 ≤ y5.toInt) (ex7 : x7 = (10 : Int32) + y3) (tx7 : x7.toInt = 10 + y3.toInt) : x7.toInt = (((sb_dg (Int.natAbs k0.toInt) + ngd k0.toInt) : Nat) : Int) := by
  have q10 : (10 : Int32).toInt = 10 := by decide +kernel
  have zd0 := dg_spec (Int.natAbs k0.toInt)
  have zn0 := ngd_spec k0.toInt
  rcases hi16_0 with h9 | h9 | h9 | h9 | h9 | h9 | h9 | h9 | h9 | h9
  · rw [show sb_dg (Int.natAbs k0.toInt) = 1 from dg_1 (by omega) (by omega)]; omega
  · rw [show sb_dg (Int.natAbs k0.toInt) = 2 from dg_2 (by omega) (by omega)]; omega
  · rw [show sb_dg (Int.natAbs k0.toInt) = 3 from dg_3 (by omega) (by omega)]; omega
  · rw [show sb_dg (Int.natAbs k0.toInt) = 4 from dg_4 (by omega) (by omega)]; omega
  · rw [show sb_dg (Int.natAbs k0.toInt) = 5 from dg_5 (by omega) (by omega)]; omega
  · rw [show sb_dg (Int.natAbs k0.toInt) = 6 from dg_6 (by omega) (by omega)]; omega
  · rw [show sb_dg (Int.natAbs k0.toInt) = 7 from dg_7 (by omega) (by omega)]; omega
  · rw [show sb_dg (Int.natAbs k0.toInt) = 8 from dg_8 (by omega) (by omega)]; omega
  · rw [show sb_dg (Int.natAbs k0.toInt) = 9 from dg_9 (by omega) (by omega)]; omega
  · rw [show sb_dg (Int.natAbs k0.toInt) = 10 from dg_10 (by omega)]; omega
-- fact@34 @34
theorem vJ6_stringSize_0f7a4_4 (k0 : Int32) (y2 : Int32) (y3 : Int32) (y4 : Int32) (y5 : Int32) (x9 : Int32) (c1 : k0.toInt < 0) (hi16_0 : (y5.toInt = 1 ∧ y4.toInt = -10) ∨ (y5.toInt = 2 ∧ y4.toInt = -100 ∧ y2.toInt ≤ -10) ∨ (y5.toInt = 3 ∧ y4.toInt = -1000 ∧ y2.toInt ≤ -100) ∨ (y5.toInt = 4 ∧ y4.toInt = -10000 ∧ y2.toInt ≤ -1000) ∨ (y5.toInt = 5 ∧ y4.toInt = -100000 ∧ y2.toInt ≤ -10000) ∨ (y5.toInt = 6 ∧ y4.toInt = -1000000 ∧ y2.toInt ≤ -100000) ∨ (y5.toInt = 7 ∧ y4.toInt = -10000000 ∧ y2.toInt ≤ -1000000) ∨ (y5.toInt = 8 ∧ y4.toInt = -100000000 ∧ y2.toInt ≤ -10000000) ∨ (y5.toInt = 9 ∧ y4.toInt = -1000000000 ∧ y2.toInt ≤ -100000000) ∨ (y5.toInt = 10 ∧ y2.toInt ≤ -1000000000)) (hi16_1 : y2.toInt ≤ 0) (hi16_2 : (y3.toInt = 0 ∧ 0 ≤ k0.toInt ∧ y2.toInt = -k0.toInt) ∨ (y3.toInt = 1 ∧ k0.toInt < 0 ∧ y2.toInt = k0.toInt)) (c6 : y5.toInt < 10) (c8 : y2.toInt ≤ y4.toInt) (ex9 : x9 = (10 : Int32) * y4) : y5.toInt < 9 → x9.toInt = 10 * y4.toInt := by
  have q10 : (10 : Int32).toInt = 10 := by decide +kernel
  intro h9
  have w0 : (10 : Int32).toInt = 10 := by decide +kernel
  rw [ex9, z_mulc 10 w0 (by omega) (by omega)]
-- nw@36 @36
theorem vJ6_stringSize_0f7a4_5 (k0 : Int32) (y2 : Int32) (y3 : Int32) (y4 : Int32) (y5 : Int32) (x9 : Int32) (x10 : Int32) (c1 : k0.toInt < 0) (hi16_0 : (y5.toInt = 1 ∧ y4.toInt = -10) ∨ (y5.toInt = 2 ∧ y4.toInt = -100 ∧ y2.toInt ≤ -10) ∨ (y5.toInt = 3 ∧ y4.toInt = -1000 ∧ y2.toInt ≤ -100) ∨ (y5.toInt = 4 ∧ y4.toInt = -10000 ∧ y2.toInt ≤ -1000) ∨ (y5.toInt = 5 ∧ y4.toInt = -100000 ∧ y2.toInt ≤ -10000) ∨ (y5.toInt = 6 ∧ y4.toInt = -1000000 ∧ y2.toInt ≤ -100000) ∨ (y5.toInt = 7 ∧ y4.toInt = -10000000 ∧ y2.toInt ≤ -1000000) ∨ (y5.toInt = 8 ∧ y4.toInt = -100000000 ∧ y2.toInt ≤ -10000000) ∨ (y5.toInt = 9 ∧ y4.toInt = -1000000000 ∧ y2.toInt ≤ -100000000) ∨ (y5.toInt = 10 ∧ y2.toInt ≤ -1000000000)) (hi16_1 : y2.toInt ≤ 0) (hi16_2 : (y3.toInt = 0 ∧ 0 ≤ k0.toInt ∧ y2.toInt = -k0.toInt) ∨ (y3.toInt = 1 ∧ k0.toInt < 0 ∧ y2.toInt = k0.toInt)) (c6 : y5.toInt < 10) (c8 : y2.toInt ≤ y4.toInt) (ex9 : x9 = (10 : Int32) * y4) (fx9 : y5.toInt < 9 → x9.toInt = 10 * y4.toInt) (ex10 : x10 = y5 + (1 : Int32)) : x10.toInt = y5.toInt + 1 := by
  have q1 : (1 : Int32).toInt = 1 := by decide +kernel
  have q10 : (10 : Int32).toInt = 10 := by decide +kernel
  have z9 : (1 : Int32).toInt = 1 := by decide +kernel
  rw [ex10, z_add (by omega) (by omega)]; first | done | omega
-- inv@16 @16
theorem vJ6_stringSize_0f7a4_6 (k0 : Int32) (y2 : Int32) (y3 : Int32) (y4 : Int32) (y5 : Int32) (x9 : Int32) (x10 : Int32) (c1 : k0.toInt < 0) (hi16_0 : (y5.toInt = 1 ∧ y4.toInt = -10) ∨ (y5.toInt = 2 ∧ y4.toInt = -100 ∧ y2.toInt ≤ -10) ∨ (y5.toInt = 3 ∧ y4.toInt = -1000 ∧ y2.toInt ≤ -100) ∨ (y5.toInt = 4 ∧ y4.toInt = -10000 ∧ y2.toInt ≤ -1000) ∨ (y5.toInt = 5 ∧ y4.toInt = -100000 ∧ y2.toInt ≤ -10000) ∨ (y5.toInt = 6 ∧ y4.toInt = -1000000 ∧ y2.toInt ≤ -100000) ∨ (y5.toInt = 7 ∧ y4.toInt = -10000000 ∧ y2.toInt ≤ -1000000) ∨ (y5.toInt = 8 ∧ y4.toInt = -100000000 ∧ y2.toInt ≤ -10000000) ∨ (y5.toInt = 9 ∧ y4.toInt = -1000000000 ∧ y2.toInt ≤ -100000000) ∨ (y5.toInt = 10 ∧ y2.toInt ≤ -1000000000)) (hi16_1 : y2.toInt ≤ 0) (hi16_2 : (y3.toInt = 0 ∧ 0 ≤ k0.toInt ∧ y2.toInt = -k0.toInt) ∨ (y3.toInt = 1 ∧ k0.toInt < 0 ∧ y2.toInt = k0.toInt)) (c6 : y5.toInt < 10) (c8 : y2.toInt ≤ y4.toInt) (ex9 : x9 = (10 : Int32) * y4) (fx9 : y5.toInt < 9 → x9.toInt = 10 * y4.toInt) (ex10 : x10 = y5 + (1 : Int32)) (tx10 : x10.toInt = y5.toInt + 1) : ((x10.toInt = 1 ∧ x9.toInt = -10) ∨ (x10.toInt = 2 ∧ x9.toInt = -100 ∧ y2.toInt ≤ -10) ∨ (x10.toInt = 3 ∧ x9.toInt = -1000 ∧ y2.toInt ≤ -100) ∨ (x10.toInt = 4 ∧ x9.toInt = -10000 ∧ y2.toInt ≤ -1000) ∨ (x10.toInt = 5 ∧ x9.toInt = -100000 ∧ y2.toInt ≤ -10000) ∨ (x10.toInt = 6 ∧ x9.toInt = -1000000 ∧ y2.toInt ≤ -100000) ∨ (x10.toInt = 7 ∧ x9.toInt = -10000000 ∧ y2.toInt ≤ -1000000) ∨ (x10.toInt = 8 ∧ x9.toInt = -100000000 ∧ y2.toInt ≤ -10000000) ∨ (x10.toInt = 9 ∧ x9.toInt = -1000000000 ∧ y2.toInt ≤ -100000000) ∨ (x10.toInt = 10 ∧ y2.toInt ≤ -1000000000)) ∧ y2.toInt ≤ 0 ∧ ((y3.toInt = 0 ∧ 0 ≤ k0.toInt ∧ y2.toInt = -k0.toInt) ∨ (y3.toInt = 1 ∧ k0.toInt < 0 ∧ y2.toInt = k0.toInt)) := by
  have q1 : (1 : Int32).toInt = 1 := by decide +kernel
  have q10 : (10 : Int32).toInt = 10 := by decide +kernel
  rcases hi16_0 with h9 | h9 | h9 | h9 | h9 | h9 | h9 | h9 | h9 | h9
  · exact ⟨(Or.inr (Or.inl ⟨by omega, by omega, by omega⟩)), by omega, by omega⟩
  · exact ⟨(Or.inr (Or.inr (Or.inl ⟨by omega, by omega, by omega⟩))), by omega, by omega⟩
  · exact ⟨(Or.inr (Or.inr (Or.inr (Or.inl ⟨by omega, by omega, by omega⟩)))), by omega, by omega⟩
  · exact ⟨(Or.inr (Or.inr (Or.inr (Or.inr (Or.inl ⟨by omega, by omega, by omega⟩))))), by omega, by omega⟩
  · exact ⟨(Or.inr (Or.inr (Or.inr (Or.inr (Or.inr (Or.inl ⟨by omega, by omega, by omega⟩)))))), by omega, by omega⟩
  · exact ⟨(Or.inr (Or.inr (Or.inr (Or.inr (Or.inr (Or.inr (Or.inl ⟨by omega, by omega, by omega⟩))))))), by omega, by omega⟩
  · exact ⟨(Or.inr (Or.inr (Or.inr (Or.inr (Or.inr (Or.inr (Or.inr (Or.inl ⟨by omega, by omega, by omega⟩)))))))), by omega, by omega⟩
  · exact ⟨(Or.inr (Or.inr (Or.inr (Or.inr (Or.inr (Or.inr (Or.inr (Or.inr (Or.inl ⟨by omega, by omega, by omega⟩))))))))), by omega, by omega⟩
  · exact ⟨(Or.inr (Or.inr (Or.inr (Or.inr (Or.inr (Or.inr (Or.inr (Or.inr (Or.inr ⟨by omega, by omega⟩))))))))), by omega, by omega⟩
  · exfalso; omega
-- meas@16 @16
theorem vJ6_stringSize_0f7a4_7 (k0 : Int32) (y2 : Int32) (y3 : Int32) (y4 : Int32) (y5 : Int32) (x9 : Int32) (x10 : Int32) (c1 : k0.toInt < 0) (hi16_0 : (y5.toInt = 1 ∧ y4.toInt = -10) ∨ (y5.toInt = 2 ∧ y4.toInt = -100 ∧ y2.toInt ≤ -10) ∨ (y5.toInt = 3 ∧ y4.toInt = -1000 ∧ y2.toInt ≤ -100) ∨ (y5.toInt = 4 ∧ y4.toInt = -10000 ∧ y2.toInt ≤ -1000) ∨ (y5.toInt = 5 ∧ y4.toInt = -100000 ∧ y2.toInt ≤ -10000) ∨ (y5.toInt = 6 ∧ y4.toInt = -1000000 ∧ y2.toInt ≤ -100000) ∨ (y5.toInt = 7 ∧ y4.toInt = -10000000 ∧ y2.toInt ≤ -1000000) ∨ (y5.toInt = 8 ∧ y4.toInt = -100000000 ∧ y2.toInt ≤ -10000000) ∨ (y5.toInt = 9 ∧ y4.toInt = -1000000000 ∧ y2.toInt ≤ -100000000) ∨ (y5.toInt = 10 ∧ y2.toInt ≤ -1000000000)) (hi16_1 : y2.toInt ≤ 0) (hi16_2 : (y3.toInt = 0 ∧ 0 ≤ k0.toInt ∧ y2.toInt = -k0.toInt) ∨ (y3.toInt = 1 ∧ k0.toInt < 0 ∧ y2.toInt = k0.toInt)) (c6 : y5.toInt < 10) (c8 : y2.toInt ≤ y4.toInt) (ex9 : x9 = (10 : Int32) * y4) (fx9 : y5.toInt < 9 → x9.toInt = 10 * y4.toInt) (ex10 : x10 = y5 + (1 : Int32)) (tx10 : x10.toInt = y5.toInt + 1) : (10 - x10.toInt.toNat) < (10 - y5.toInt.toNat) := by
  have q1 : (1 : Int32).toInt = 1 := by decide +kernel
  have q10 : (10 : Int32).toInt = 10 := by decide +kernel
  first | assumption | omega | (subst_vars; omega) | trivial
-- nw@29 @29
theorem vJ6_stringSize_0f7a4_8 (k0 : Int32) (y2 : Int32) (y3 : Int32) (y4 : Int32) (y5 : Int32) (x11 : Int32) (c1 : k0.toInt < 0) (hi16_0 : (y5.toInt = 1 ∧ y4.toInt = -10) ∨ (y5.toInt = 2 ∧ y4.toInt = -100 ∧ y2.toInt ≤ -10) ∨ (y5.toInt = 3 ∧ y4.toInt = -1000 ∧ y2.toInt ≤ -100) ∨ (y5.toInt = 4 ∧ y4.toInt = -10000 ∧ y2.toInt ≤ -1000) ∨ (y5.toInt = 5 ∧ y4.toInt = -100000 ∧ y2.toInt ≤ -10000) ∨ (y5.toInt = 6 ∧ y4.toInt = -1000000 ∧ y2.toInt ≤ -100000) ∨ (y5.toInt = 7 ∧ y4.toInt = -10000000 ∧ y2.toInt ≤ -1000000) ∨ (y5.toInt = 8 ∧ y4.toInt = -100000000 ∧ y2.toInt ≤ -10000000) ∨ (y5.toInt = 9 ∧ y4.toInt = -1000000000 ∧ y2.toInt ≤ -100000000) ∨ (y5.toInt = 10 ∧ y2.toInt ≤ -1000000000)) (hi16_1 : y2.toInt ≤ 0) (hi16_2 : (y3.toInt = 0 ∧ 0 ≤ k0.toInt ∧ y2.toInt = -k0.toInt) ∨ (y3.toInt = 1 ∧ k0.toInt < 0 ∧ y2.toInt = k0.toInt)) (c6 : y5.toInt < 10) (c8 : y4.toInt < y2.toInt) (ex11 : x11 = y5 + y3) : x11.toInt = y5.toInt + y3.toInt := by
  rw [ex11, z_add (by omega) (by omega)]; first | done | omega
-- post @30
theorem vJ6_stringSize_0f7a4_9 (k0 : Int32) (y2 : Int32) (y3 : Int32) (y4 : Int32) (y5 : Int32) (x11 : Int32) (c1 : k0.toInt < 0) (hi16_0 : (y5.toInt = 1 ∧ y4.toInt = -10) ∨ (y5.toInt = 2 ∧ y4.toInt = -100 ∧ y2.toInt ≤ -10) ∨ (y5.toInt = 3 ∧ y4.toInt = -1000 ∧ y2.toInt ≤ -100) ∨ (y5.toInt = 4 ∧ y4.toInt = -10000 ∧ y2.toInt ≤ -1000) ∨ (y5.toInt = 5 ∧ y4.toInt = -100000 ∧ y2.toInt ≤ -10000) ∨ (y5.toInt = 6 ∧ y4.toInt = -1000000 ∧ y2.toInt ≤ -100000) ∨ (y5.toInt = 7 ∧ y4.toInt = -10000000 ∧ y2.toInt ≤ -1000000) ∨ (y5.toInt = 8 ∧ y4.toInt = -100000000 ∧ y2.toInt ≤ -10000000) ∨ (y5.toInt = 9 ∧ y4.toInt = -1000000000 ∧ y2.toInt ≤ -100000000) ∨ (y5.toInt = 10 ∧ y2.toInt ≤ -1000000000)) (hi16_1 : y2.toInt ≤ 0) (hi16_2 : (y3.toInt = 0 ∧ 0 ≤ k0.toInt ∧ y2.toInt = -k0.toInt) ∨ (y3.toInt = 1 ∧ k0.toInt < 0 ∧ y2.toInt = k0.toInt)) (c6 : y5.toInt < 10) (c8 : y4.toInt < y2.toInt) (ex11 : x11 = y5 + y3) (tx11 : x11.toInt = y5.toInt + y3.toInt) : x11.toInt = (((sb_dg (Int.natAbs k0.toInt) + ngd k0.toInt) : Nat) : Int) := by
  have zd0 := dg_spec (Int.natAbs k0.toInt)
  have zn0 := ngd_spec k0.toInt
  rcases hi16_0 with h9 | h9 | h9 | h9 | h9 | h9 | h9 | h9 | h9 | h9
  · rw [show sb_dg (Int.natAbs k0.toInt) = 1 from dg_1 (by omega) (by omega)]; omega
  · rw [show sb_dg (Int.natAbs k0.toInt) = 2 from dg_2 (by omega) (by omega)]; omega
  · rw [show sb_dg (Int.natAbs k0.toInt) = 3 from dg_3 (by omega) (by omega)]; omega
  · rw [show sb_dg (Int.natAbs k0.toInt) = 4 from dg_4 (by omega) (by omega)]; omega
  · rw [show sb_dg (Int.natAbs k0.toInt) = 5 from dg_5 (by omega) (by omega)]; omega
  · rw [show sb_dg (Int.natAbs k0.toInt) = 6 from dg_6 (by omega) (by omega)]; omega
  · rw [show sb_dg (Int.natAbs k0.toInt) = 7 from dg_7 (by omega) (by omega)]; omega
  · rw [show sb_dg (Int.natAbs k0.toInt) = 8 from dg_8 (by omega) (by omega)]; omega
  · rw [show sb_dg (Int.natAbs k0.toInt) = 9 from dg_9 (by omega) (by omega)]; omega
  · rw [show sb_dg (Int.natAbs k0.toInt) = 10 from dg_10 (by omega)]; omega
-- fact@9 @9
theorem vJ6_stringSize_0f7a4_10 (k0 : Int32) (x12 : Int32) (c1 : 0 ≤ k0.toInt) (ex12 : x12 = -k0) : x12.toInt = -k0.toInt := by
  rw [ex12]; exact z_ng (by omega)
-- init@16 @16
theorem vJ6_stringSize_0f7a4_11 (k0 : Int32) (x12 : Int32) (c1 : 0 ≤ k0.toInt) (ex12 : x12 = -k0) (fx12 : x12.toInt = -k0.toInt) : (((1 : Int32).toInt = 1 ∧ (-10 : Int32).toInt = -10) ∨ ((1 : Int32).toInt = 2 ∧ (-10 : Int32).toInt = -100 ∧ x12.toInt ≤ -10) ∨ ((1 : Int32).toInt = 3 ∧ (-10 : Int32).toInt = -1000 ∧ x12.toInt ≤ -100) ∨ ((1 : Int32).toInt = 4 ∧ (-10 : Int32).toInt = -10000 ∧ x12.toInt ≤ -1000) ∨ ((1 : Int32).toInt = 5 ∧ (-10 : Int32).toInt = -100000 ∧ x12.toInt ≤ -10000) ∨ ((1 : Int32).toInt = 6 ∧ (-10 : Int32).toInt = -1000000 ∧ x12.toInt ≤ -100000) ∨ ((1 : Int32).toInt = 7 ∧ (-10 : Int32).toInt = -10000000 ∧ x12.toInt ≤ -1000000) ∨ ((1 : Int32).toInt = 8 ∧ (-10 : Int32).toInt = -100000000 ∧ x12.toInt ≤ -10000000) ∨ ((1 : Int32).toInt = 9 ∧ (-10 : Int32).toInt = -1000000000 ∧ x12.toInt ≤ -100000000) ∨ ((1 : Int32).toInt = 10 ∧ x12.toInt ≤ -1000000000)) ∧ x12.toInt ≤ 0 ∧ (((0 : Int32).toInt = 0 ∧ 0 ≤ k0.toInt ∧ x12.toInt = -k0.toInt) ∨ ((0 : Int32).toInt = 1 ∧ k0.toInt < 0 ∧ x12.toInt = k0.toInt)) := by
  have qm10 : (-10 : Int32).toInt = (-10) := by decide +kernel
  have q0 : (0 : Int32).toInt = 0 := by decide +kernel
  have q1 : (1 : Int32).toInt = 1 := by decide +kernel
  refine ⟨Or.inl ⟨by omega, by omega⟩, by omega, by omega⟩
-- nw@45 @45
theorem vJ6_stringSize_0f7a4_12 (k0 : Int32) (x12 : Int32) (y13 : Int32) (y14 : Int32) (y15 : Int32) (y16 : Int32) (x18 : Int32) (c1 : 0 ≤ k0.toInt) (ex12 : x12 = -k0) (fx12 : x12.toInt = -k0.toInt) (hi16_0 : (y16.toInt = 1 ∧ y15.toInt = -10) ∨ (y16.toInt = 2 ∧ y15.toInt = -100 ∧ y13.toInt ≤ -10) ∨ (y16.toInt = 3 ∧ y15.toInt = -1000 ∧ y13.toInt ≤ -100) ∨ (y16.toInt = 4 ∧ y15.toInt = -10000 ∧ y13.toInt ≤ -1000) ∨ (y16.toInt = 5 ∧ y15.toInt = -100000 ∧ y13.toInt ≤ -10000) ∨ (y16.toInt = 6 ∧ y15.toInt = -1000000 ∧ y13.toInt ≤ -100000) ∨ (y16.toInt = 7 ∧ y15.toInt = -10000000 ∧ y13.toInt ≤ -1000000) ∨ (y16.toInt = 8 ∧ y15.toInt = -100000000 ∧ y13.toInt ≤ -10000000) ∨ (y16.toInt = 9 ∧ y15.toInt = -1000000000 ∧ y13.toInt ≤ -100000000) ∨ (y16.toInt = 10 ∧ y13.toInt ≤ -1000000000)) (hi16_1 : y13.toInt ≤ 0) (hi16_2 : (y14.toInt = 0 ∧ 0 ≤ k0.toInt ∧ y13.toInt = -k0.toInt) ∨ (y14.toInt = 1 ∧ k0.toInt < 0 ∧ y13.toInt = k0.toInt)) (c17 : 10 ≤ y16.toInt) (ex18 : x18 = (10 : Int32) + y14) : x18.toInt = 10 + y14.toInt := by
  have q10 : (10 : Int32).toInt = 10 := by decide +kernel
  have w0 : (10 : Int32).toInt = 10 := by decide +kernel
  rw [ex18, z_add (by omega) (by omega)]; first | done | omega
-- post @46
theorem vJ6_stringSize_0f7a4_13 (k0 : Int32) (x12 : Int32) (y13 : Int32) (y14 : Int32) (y15 : Int32) (y16 : Int32) (x18 : Int32) (c1 : 0 ≤ k0.toInt) (ex12 : x12 = -k0) (fx12 : x12.toInt = -k0.toInt) (hi16_0 : (y16.toInt = 1 ∧ y15.toInt = -10) ∨ (y16.toInt = 2 ∧ y15.toInt = -100 ∧ y13.toInt ≤ -10) ∨ (y16.toInt = 3 ∧ y15.toInt = -1000 ∧ y13.toInt ≤ -100) ∨ (y16.toInt = 4 ∧ y15.toInt = -10000 ∧ y13.toInt ≤ -1000) ∨ (y16.toInt = 5 ∧ y15.toInt = -100000 ∧ y13.toInt ≤ -10000) ∨ (y16.toInt = 6 ∧ y15.toInt = -1000000 ∧ y13.toInt ≤ -100000) ∨ (y16.toInt = 7 ∧ y15.toInt = -10000000 ∧ y13.toInt ≤ -1000000) ∨ (y16.toInt = 8 ∧ y15.toInt = -100000000 ∧ y13.toInt ≤ -10000000) ∨ (y16.toInt = 9 ∧ y15.toInt = -1000000000 ∧ y13.toInt ≤ -100000000) ∨ (y16.toInt = 10 ∧ y13.toInt ≤ -1000000000)) (hi16_1 : y13.toInt ≤ 0) (hi16_2 : (y14.toInt = 0 ∧ 0 ≤ k0.toInt ∧ y13.toInt = -k0.toInt) ∨ (y14.toInt = 1 ∧ k0.toInt < 0 ∧ y13.toInt = k0.toInt)) (c17 : 10 ≤ y16.toInt) (ex18 : x18 = (10 : Int32) + y14) (tx18 : x18.toInt = 10 + y14.toInt) : x18.toInt = (((sb_dg (Int.natAbs k0.toInt) + ngd k0.toInt) : Nat) : Int) := by
  have q10 : (10 : Int32).toInt = 10 := by decide +kernel
  have zd0 := dg_spec (Int.natAbs k0.toInt)
  have zn0 := ngd_spec k0.toInt
  rcases hi16_0 with h9 | h9 | h9 | h9 | h9 | h9 | h9 | h9 | h9 | h9
  · rw [show sb_dg (Int.natAbs k0.toInt) = 1 from dg_1 (by omega) (by omega)]; omega
  · rw [show sb_dg (Int.natAbs k0.toInt) = 2 from dg_2 (by omega) (by omega)]; omega
  · rw [show sb_dg (Int.natAbs k0.toInt) = 3 from dg_3 (by omega) (by omega)]; omega
  · rw [show sb_dg (Int.natAbs k0.toInt) = 4 from dg_4 (by omega) (by omega)]; omega
  · rw [show sb_dg (Int.natAbs k0.toInt) = 5 from dg_5 (by omega) (by omega)]; omega
  · rw [show sb_dg (Int.natAbs k0.toInt) = 6 from dg_6 (by omega) (by omega)]; omega
  · rw [show sb_dg (Int.natAbs k0.toInt) = 7 from dg_7 (by omega) (by omega)]; omega
  · rw [show sb_dg (Int.natAbs k0.toInt) = 8 from dg_8 (by omega) (by omega)]; omega
  · rw [show sb_dg (Int.natAbs k0.toInt) = 9 from dg_9 (by omega) (by omega)]; omega
  · rw [show sb_dg (Int.natAbs k0.toInt) = 10 from dg_10 (by omega)]; omega
-- fact@34 @34
theorem vJ6_stringSize_0f7a4_14 (k0 : Int32) (x12 : Int32) (y13 : Int32) (y14 : Int32) (y15 : Int32) (y16 : Int32) (x20 : Int32) (c1 : 0 ≤ k0.toInt) (ex12 : x12 = -k0) (fx12 : x12.toInt = -k0.toInt) (hi16_0 : (y16.toInt = 1 ∧ y15.toInt = -10) ∨ (y16.toInt = 2 ∧ y15.toInt = -100 ∧ y13.toInt ≤ -10) ∨ (y16.toInt = 3 ∧ y15.toInt = -1000 ∧ y13.toInt ≤ -100) ∨ (y16.toInt = 4 ∧ y15.toInt = -10000 ∧ y13.toInt ≤ -1000) ∨ (y16.toInt = 5 ∧ y15.toInt = -100000 ∧ y13.toInt ≤ -10000) ∨ (y16.toInt = 6 ∧ y15.toInt = -1000000 ∧ y13.toInt ≤ -100000) ∨ (y16.toInt = 7 ∧ y15.toInt = -10000000 ∧ y13.toInt ≤ -1000000) ∨ (y16.toInt = 8 ∧ y15.toInt = -100000000 ∧ y13.toInt ≤ -10000000) ∨ (y16.toInt = 9 ∧ y15.toInt = -1000000000 ∧ y13.toInt ≤ -100000000) ∨ (y16.toInt = 10 ∧ y13.toInt ≤ -1000000000)) (hi16_1 : y13.toInt ≤ 0) (hi16_2 : (y14.toInt = 0 ∧ 0 ≤ k0.toInt ∧ y13.toInt = -k0.toInt) ∨ (y14.toInt = 1 ∧ k0.toInt < 0 ∧ y13.toInt = k0.toInt)) (c17 : y16.toInt < 10) (c19 : y13.toInt ≤ y15.toInt) (ex20 : x20 = (10 : Int32) * y15) : y16.toInt < 9 → x20.toInt = 10 * y15.toInt := by
  have q10 : (10 : Int32).toInt = 10 := by decide +kernel
  intro h9
  have w0 : (10 : Int32).toInt = 10 := by decide +kernel
  rw [ex20, z_mulc 10 w0 (by omega) (by omega)]
-- nw@36 @36
theorem vJ6_stringSize_0f7a4_15 (k0 : Int32) (x12 : Int32) (y13 : Int32) (y14 : Int32) (y15 : Int32) (y16 : Int32) (x20 : Int32) (x21 : Int32) (c1 : 0 ≤ k0.toInt) (ex12 : x12 = -k0) (fx12 : x12.toInt = -k0.toInt) (hi16_0 : (y16.toInt = 1 ∧ y15.toInt = -10) ∨ (y16.toInt = 2 ∧ y15.toInt = -100 ∧ y13.toInt ≤ -10) ∨ (y16.toInt = 3 ∧ y15.toInt = -1000 ∧ y13.toInt ≤ -100) ∨ (y16.toInt = 4 ∧ y15.toInt = -10000 ∧ y13.toInt ≤ -1000) ∨ (y16.toInt = 5 ∧ y15.toInt = -100000 ∧ y13.toInt ≤ -10000) ∨ (y16.toInt = 6 ∧ y15.toInt = -1000000 ∧ y13.toInt ≤ -100000) ∨ (y16.toInt = 7 ∧ y15.toInt = -10000000 ∧ y13.toInt ≤ -1000000) ∨ (y16.toInt = 8 ∧ y15.toInt = -100000000 ∧ y13.toInt ≤ -10000000) ∨ (y16.toInt = 9 ∧ y15.toInt = -1000000000 ∧ y13.toInt ≤ -100000000) ∨ (y16.toInt = 10 ∧ y13.toInt ≤ -1000000000)) (hi16_1 : y13.toInt ≤ 0) (hi16_2 : (y14.toInt = 0 ∧ 0 ≤ k0.toInt ∧ y13.toInt = -k0.toInt) ∨ (y14.toInt = 1 ∧ k0.toInt < 0 ∧ y13.toInt = k0.toInt)) (c17 : y16.toInt < 10) (c19 : y13.toInt ≤ y15.toInt) (ex20 : x20 = (10 : Int32) * y15) (fx20 : y16.toInt < 9 → x20.toInt = 10 * y15.toInt) (ex21 : x21 = y16 + (1 : Int32)) : x21.toInt = y16.toInt + 1 := by
  have q1 : (1 : Int32).toInt = 1 := by decide +kernel
  have q10 : (10 : Int32).toInt = 10 := by decide +kernel
  have z9 : (1 : Int32).toInt = 1 := by decide +kernel
  rw [ex21, z_add (by omega) (by omega)]; first | done | omega
-- inv@16 @16
theorem vJ6_stringSize_0f7a4_16 (k0 : Int32) (x12 : Int32) (y13 : Int32) (y14 : Int32) (y15 : Int32) (y16 : Int32) (x20 : Int32) (x21 : Int32) (c1 : 0 ≤ k0.toInt) (ex12 : x12 = -k0) (fx12 : x12.toInt = -k0.toInt) (hi16_0 : (y16.toInt = 1 ∧ y15.toInt = -10) ∨ (y16.toInt = 2 ∧ y15.toInt = -100 ∧ y13.toInt ≤ -10) ∨ (y16.toInt = 3 ∧ y15.toInt = -1000 ∧ y13.toInt ≤ -100) ∨ (y16.toInt = 4 ∧ y15.toInt = -10000 ∧ y13.toInt ≤ -1000) ∨ (y16.toInt = 5 ∧ y15.toInt = -100000 ∧ y13.toInt ≤ -10000) ∨ (y16.toInt = 6 ∧ y15.toInt = -1000000 ∧ y13.toInt ≤ -100000) ∨ (y16.toInt = 7 ∧ y15.toInt = -10000000 ∧ y13.toInt ≤ -1000000) ∨ (y16.toInt = 8 ∧ y15.toInt = -100000000 ∧ y13.toInt ≤ -10000000) ∨ (y16.toInt = 9 ∧ y15.toInt = -1000000000 ∧ y13.toInt ≤ -100000000) ∨ (y16.toInt = 10 ∧ y13.toInt ≤ -1000000000)) (hi16_1 : y13.toInt ≤ 0) (hi16_2 : (y14.toInt = 0 ∧ 0 ≤ k0.toInt ∧ y13.toInt = -k0.toInt) ∨ (y14.toInt = 1 ∧ k0.toInt < 0 ∧ y13.toInt = k0.toInt)) (c17 : y16.toInt < 10) (c19 : y13.toInt ≤ y15.toInt) (ex20 : x20 = (10 : Int32) * y15) (fx20 : y16.toInt < 9 → x20.toInt = 10 * y15.toInt) (ex21 : x21 = y16 + (1 : Int32)) (tx21 : x21.toInt = y16.toInt + 1) : ((x21.toInt = 1 ∧ x20.toInt = -10) ∨ (x21.toInt = 2 ∧ x20.toInt = -100 ∧ y13.toInt ≤ -10) ∨ (x21.toInt = 3 ∧ x20.toInt = -1000 ∧ y13.toInt ≤ -100) ∨ (x21.toInt = 4 ∧ x20.toInt = -10000 ∧ y13.toInt ≤ -1000) ∨ (x21.toInt = 5 ∧ x20.toInt = -100000 ∧ y13.toInt ≤ -10000) ∨ (x21.toInt = 6 ∧ x20.toInt = -1000000 ∧ y13.toInt ≤ -100000) ∨ (x21.toInt = 7 ∧ x20.toInt = -10000000 ∧ y13.toInt ≤ -1000000) ∨ (x21.toInt = 8 ∧ x20.toInt = -100000000 ∧ y13.toInt ≤ -10000000) ∨ (x21.toInt = 9 ∧ x20.toInt = -1000000000 ∧ y13.toInt ≤ -100000000) ∨ (x21.toInt = 10 ∧ y13.toInt ≤ -1000000000)) ∧ y13.toInt ≤ 0 ∧ ((y14.toInt = 0 ∧ 0 ≤ k0.toInt ∧ y13.toInt = -k0.toInt) ∨ (y14.toInt = 1 ∧ k0.toInt < 0 ∧ y13.toInt = k0.toInt)) := by
  have q1 : (1 : Int32).toInt = 1 := by decide +kernel
  have q10 : (10 : Int32).toInt = 10 := by decide +kernel
  rcases hi16_0 with h9 | h9 | h9 | h9 | h9 | h9 | h9 | h9 | h9 | h9
  · exact ⟨(Or.inr (Or.inl ⟨by omega, by omega, by omega⟩)), by omega, by omega⟩
  · exact ⟨(Or.inr (Or.inr (Or.inl ⟨by omega, by omega, by omega⟩))), by omega, by omega⟩
  · exact ⟨(Or.inr (Or.inr (Or.inr (Or.inl ⟨by omega, by omega, by omega⟩)))), by omega, by omega⟩
  · exact ⟨(Or.inr (Or.inr (Or.inr (Or.inr (Or.inl ⟨by omega, by omega, by omega⟩))))), by omega, by omega⟩
  · exact ⟨(Or.inr (Or.inr (Or.inr (Or.inr (Or.inr (Or.inl ⟨by omega, by omega, by omega⟩)))))), by omega, by omega⟩
  · exact ⟨(Or.inr (Or.inr (Or.inr (Or.inr (Or.inr (Or.inr (Or.inl ⟨by omega, by omega, by omega⟩))))))), by omega, by omega⟩
  · exact ⟨(Or.inr (Or.inr (Or.inr (Or.inr (Or.inr (Or.inr (Or.inr (Or.inl ⟨by omega, by omega, by omega⟩)))))))), by omega, by omega⟩
  · exact ⟨(Or.inr (Or.inr (Or.inr (Or.inr (Or.inr (Or.inr (Or.inr (Or.inr (Or.inl ⟨by omega, by omega, by omega⟩))))))))), by omega, by omega⟩
  · exact ⟨(Or.inr (Or.inr (Or.inr (Or.inr (Or.inr (Or.inr (Or.inr (Or.inr (Or.inr ⟨by omega, by omega⟩))))))))), by omega, by omega⟩
  · exfalso; omega
-- meas@16 @16
theorem vJ6_stringSize_0f7a4_17 (k0 : Int32) (x12 : Int32) (y13 : Int32) (y14 : Int32) (y15 : Int32) (y16 : Int32) (x20 : Int32) (x21 : Int32) (c1 : 0 ≤ k0.toInt) (ex12 : x12 = -k0) (fx12 : x12.toInt = -k0.toInt) (hi16_0 : (y16.toInt = 1 ∧ y15.toInt = -10) ∨ (y16.toInt = 2 ∧ y15.toInt = -100 ∧ y13.toInt ≤ -10) ∨ (y16.toInt = 3 ∧ y15.toInt = -1000 ∧ y13.toInt ≤ -100) ∨ (y16.toInt = 4 ∧ y15.toInt = -10000 ∧ y13.toInt ≤ -1000) ∨ (y16.toInt = 5 ∧ y15.toInt = -100000 ∧ y13.toInt ≤ -10000) ∨ (y16.toInt = 6 ∧ y15.toInt = -1000000 ∧ y13.toInt ≤ -100000) ∨ (y16.toInt = 7 ∧ y15.toInt = -10000000 ∧ y13.toInt ≤ -1000000) ∨ (y16.toInt = 8 ∧ y15.toInt = -100000000 ∧ y13.toInt ≤ -10000000) ∨ (y16.toInt = 9 ∧ y15.toInt = -1000000000 ∧ y13.toInt ≤ -100000000) ∨ (y16.toInt = 10 ∧ y13.toInt ≤ -1000000000)) (hi16_1 : y13.toInt ≤ 0) (hi16_2 : (y14.toInt = 0 ∧ 0 ≤ k0.toInt ∧ y13.toInt = -k0.toInt) ∨ (y14.toInt = 1 ∧ k0.toInt < 0 ∧ y13.toInt = k0.toInt)) (c17 : y16.toInt < 10) (c19 : y13.toInt ≤ y15.toInt) (ex20 : x20 = (10 : Int32) * y15) (fx20 : y16.toInt < 9 → x20.toInt = 10 * y15.toInt) (ex21 : x21 = y16 + (1 : Int32)) (tx21 : x21.toInt = y16.toInt + 1) : (10 - x21.toInt.toNat) < (10 - y16.toInt.toNat) := by
  have q1 : (1 : Int32).toInt = 1 := by decide +kernel
  have q10 : (10 : Int32).toInt = 10 := by decide +kernel
  first | assumption | omega | (subst_vars; omega) | trivial
-- nw@29 @29
theorem vJ6_stringSize_0f7a4_18 (k0 : Int32) (x12 : Int32) (y13 : Int32) (y14 : Int32) (y15 : Int32) (y16 : Int32) (x22 : Int32) (c1 : 0 ≤ k0.toInt) (ex12 : x12 = -k0) (fx12 : x12.toInt = -k0.toInt) (hi16_0 : (y16.toInt = 1 ∧ y15.toInt = -10) ∨ (y16.toInt = 2 ∧ y15.toInt = -100 ∧ y13.toInt ≤ -10) ∨ (y16.toInt = 3 ∧ y15.toInt = -1000 ∧ y13.toInt ≤ -100) ∨ (y16.toInt = 4 ∧ y15.toInt = -10000 ∧ y13.toInt ≤ -1000) ∨ (y16.toInt = 5 ∧ y15.toInt = -100000 ∧ y13.toInt ≤ -10000) ∨ (y16.toInt = 6 ∧ y15.toInt = -1000000 ∧ y13.toInt ≤ -100000) ∨ (y16.toInt = 7 ∧ y15.toInt = -10000000 ∧ y13.toInt ≤ -1000000) ∨ (y16.toInt = 8 ∧ y15.toInt = -100000000 ∧ y13.toInt ≤ -10000000) ∨ (y16.toInt = 9 ∧ y15.toInt = -1000000000 ∧ y13.toInt ≤ -100000000) ∨ (y16.toInt = 10 ∧ y13.toInt ≤ -1000000000)) (hi16_1 : y13.toInt ≤ 0) (hi16_2 : (y14.toInt = 0 ∧ 0 ≤ k0.toInt ∧ y13.toInt = -k0.toInt) ∨ (y14.toInt = 1 ∧ k0.toInt < 0 ∧ y13.toInt = k0.toInt)) (c17 : y16.toInt < 10) (c19 : y15.toInt < y13.toInt) (ex22 : x22 = y16 + y14) : x22.toInt = y16.toInt + y14.toInt := by
  rw [ex22, z_add (by omega) (by omega)]; first | done | omega
-- post @30
theorem vJ6_stringSize_0f7a4_19 (k0 : Int32) (x12 : Int32) (y13 : Int32) (y14 : Int32) (y15 : Int32) (y16 : Int32) (x22 : Int32) (c1 : 0 ≤ k0.toInt) (ex12 : x12 = -k0) (fx12 : x12.toInt = -k0.toInt) (hi16_0 : (y16.toInt = 1 ∧ y15.toInt = -10) ∨ (y16.toInt = 2 ∧ y15.toInt = -100 ∧ y13.toInt ≤ -10) ∨ (y16.toInt = 3 ∧ y15.toInt = -1000 ∧ y13.toInt ≤ -100) ∨ (y16.toInt = 4 ∧ y15.toInt = -10000 ∧ y13.toInt ≤ -1000) ∨ (y16.toInt = 5 ∧ y15.toInt = -100000 ∧ y13.toInt ≤ -10000) ∨ (y16.toInt = 6 ∧ y15.toInt = -1000000 ∧ y13.toInt ≤ -100000) ∨ (y16.toInt = 7 ∧ y15.toInt = -10000000 ∧ y13.toInt ≤ -1000000) ∨ (y16.toInt = 8 ∧ y15.toInt = -100000000 ∧ y13.toInt ≤ -10000000) ∨ (y16.toInt = 9 ∧ y15.toInt = -1000000000 ∧ y13.toInt ≤ -100000000) ∨ (y16.toInt = 10 ∧ y13.toInt ≤ -1000000000)) (hi16_1 : y13.toInt ≤ 0) (hi16_2 : (y14.toInt = 0 ∧ 0 ≤ k0.toInt ∧ y13.toInt = -k0.toInt) ∨ (y14.toInt = 1 ∧ k0.toInt < 0 ∧ y13.toInt = k0.toInt)) (c17 : y16.toInt < 10) (c19 : y15.toInt < y13.toInt) (ex22 : x22 = y16 + y14) (tx22 : x22.toInt = y16.toInt + y14.toInt) : x22.toInt = (((sb_dg (Int.natAbs k0.toInt) + ngd k0.toInt) : Nat) : Int) := by
  have zd0 := dg_spec (Int.natAbs k0.toInt)
  have zn0 := ngd_spec k0.toInt
  rcases hi16_0 with h9 | h9 | h9 | h9 | h9 | h9 | h9 | h9 | h9 | h9
  · rw [show sb_dg (Int.natAbs k0.toInt) = 1 from dg_1 (by omega) (by omega)]; omega
  · rw [show sb_dg (Int.natAbs k0.toInt) = 2 from dg_2 (by omega) (by omega)]; omega
  · rw [show sb_dg (Int.natAbs k0.toInt) = 3 from dg_3 (by omega) (by omega)]; omega
  · rw [show sb_dg (Int.natAbs k0.toInt) = 4 from dg_4 (by omega) (by omega)]; omega
  · rw [show sb_dg (Int.natAbs k0.toInt) = 5 from dg_5 (by omega) (by omega)]; omega
  · rw [show sb_dg (Int.natAbs k0.toInt) = 6 from dg_6 (by omega) (by omega)]; omega
  · rw [show sb_dg (Int.natAbs k0.toInt) = 7 from dg_7 (by omega) (by omega)]; omega
  · rw [show sb_dg (Int.natAbs k0.toInt) = 8 from dg_8 (by omega) (by omega)]; omega
  · rw [show sb_dg (Int.natAbs k0.toInt) = 9 from dg_9 (by omega) (by omega)]; omega
  · rw [show sb_dg (Int.natAbs k0.toInt) = 10 from dg_10 (by omega)]; omega
set_option maxHeartbeats 4000000 in
set_option maxRecDepth 100000 in
theorem NJ6_stringSize_0f7a4 (l : Launch) (D : va_G) (cy : Nat → ClassId) (ad : Nat → Nat) (A : Nat → Prop) (sz0 : Nat) (sa : Nat → Nat)  (κ : KS) (sz sl : Nat) (hAF : ∀ q, A q → Fr sz0 q) (hAn : ∀ q : Nat, sz ≤ q → A q) (k0 : Int32) (hPV : PV sa κ.2.2.2.2) : Met l yJ6_stringSize_0f7a4 (Cond.code yJ6_stringSize_0f7a4 cJ6_stringSize_0f7a4 4 (some .int) :: GWc) ({ frames := 0, cells := 0, slots := 0, locals := 0 }) (PcC D cy ad A sz0 sa [.int k0] κ sz sl) (va_Qi (fun (r : Int32) (u : Unit) => (r.toInt = (((sb_dg (Int.natAbs k0.toInt) + ngd k0.toInt) : Nat) : Int))) (fun (u : Unit) (t : State) => Bx D cy ad A sz sl κ (0) (0) t) A) (0) (0) A := by
  refine CM_of (loc0 := [(0, .int k0)]) (own := RJ6) (nm := "stringSize") (by decide) rfl rfl rfl (Nat.le_of_ble_eq_true rfl) hAF hAn ?_
  intro p e s m below meth c ls hsz hsl C hP hS hl
  refine lv_iconst (v := 1) C.x C.b dJ6_stringSize_0f7a4_0 (by decide +kernel) ?_
  refine lv_istore_n (lv' := [(1, .int 1), (0, .int k0)]) C.x C.b dJ6_stringSize_0f7a4_1 rfl hl (by decide) rfl (fun ls hl => ?_)
  refine lv_iload_n C.x C.b dJ6_stringSize_0f7a4_2 rfl (lv_at hl 1 rfl) ?_
  refine lv_if_lt (tgt := 11) C.x C.b dJ6_stringSize_0f7a4_3 (by decide) (fun c1 => ?_) (fun c1 => ?_)
  · have c1 : k0.toInt < 0 := by have h := z_lt c1; rw [show (0 : Int32).toInt = 0 from by decide +kernel] at h; exact h
    refine lv_bipush (v := (-10)) C.x C.b dJ6_stringSize_0f7a4_11 (by decide +kernel) ?_
    refine lv_istore_n (lv' := [(2, .int (-10)), (1, .int 1), (0, .int k0)]) C.x C.b dJ6_stringSize_0f7a4_13 rfl hl (by decide) rfl (fun ls hl => ?_)
    refine lv_iconst (v := 1) C.x C.b dJ6_stringSize_0f7a4_14 (by decide +kernel) ?_
    refine lv_istore_n (lv' := [(3, .int 1), (2, .int (-10)), (1, .int 1), (0, .int k0)]) C.x C.b dJ6_stringSize_0f7a4_15 rfl hl (by decide) rfl (fun ls hl => ?_)
    have lp16 : ∀ (n : Nat) (y2 : Int32) (y3 : Int32) (y4 : Int32) (y5 : Int32) (H : Heap) (locs : List Loc) (ls : Array Slot), (10 - y5.toInt.toNat) < n → (((y5.toInt = 1 ∧ y4.toInt = -10) ∨ (y5.toInt = 2 ∧ y4.toInt = -100 ∧ y2.toInt ≤ -10) ∨ (y5.toInt = 3 ∧ y4.toInt = -1000 ∧ y2.toInt ≤ -100) ∨ (y5.toInt = 4 ∧ y4.toInt = -10000 ∧ y2.toInt ≤ -1000) ∨ (y5.toInt = 5 ∧ y4.toInt = -100000 ∧ y2.toInt ≤ -10000) ∨ (y5.toInt = 6 ∧ y4.toInt = -1000000 ∧ y2.toInt ≤ -100000) ∨ (y5.toInt = 7 ∧ y4.toInt = -10000000 ∧ y2.toInt ≤ -1000000) ∨ (y5.toInt = 8 ∧ y4.toInt = -100000000 ∧ y2.toInt ≤ -10000000) ∨ (y5.toInt = 9 ∧ y4.toInt = -1000000000 ∧ y2.toInt ≤ -100000000) ∨ (y5.toInt = 10 ∧ y2.toInt ≤ -1000000000)) ∧ y2.toInt ≤ 0 ∧ ((y3.toInt = 0 ∧ 0 ≤ k0.toInt ∧ y2.toInt = -k0.toInt) ∨ (y3.toInt = 1 ∧ k0.toInt < 0 ∧ y2.toInt = k0.toInt))) → CH D cy ad A κ H → va_S A s.heap H locs → lv_has ls 4 [(3, .int y5), (2, .int y4), (1, .int y3), (0, .int y2)] → W p l e (headSpec (Cond.code yJ6_stringSize_0f7a4 cJ6_stringSize_0f7a4 4 (some .int) :: GWc) ({ frames := 0, cells := 0, slots := 0, locals := 0 })).room s m #[.int k0] below meth c H locs (0) (0) (MQ below (va_Qi (fun (r : Int32) (u : Unit) => (r.toInt = (((sb_dg (Int.natAbs k0.toInt) + ngd k0.toInt) : Nat) : Int))) (fun (u : Unit) (t : State) => Bx D cy ad A sz sl κ (0) (0) t) A) #[.int k0] s (0) (0) A) (F0 m 16 ls []) := by
      intro n
      induction n with
      | zero => intro y2 y3 y4 y5 H locs ls hn; exact absurd hn (Nat.not_lt_zero _)
      | succ n16 ih16 =>
        intro y2 y3 y4 y5 H locs ls hn16  hi16 hP hS hl
        obtain ⟨hi16_0, hi16_1, hi16_2⟩ := hi16
        refine lv_iload_n C.x C.b dJ6_stringSize_0f7a4_16 rfl (lv_at hl 0 rfl) ?_
        refine lv_bipush (v := 10) C.x C.b dJ6_stringSize_0f7a4_17 (by decide +kernel) ?_
        refine lv_icmp_ge (tgt := 42) C.x C.b dJ6_stringSize_0f7a4_19 (by decide) (fun c6 => ?_) (fun c6 => ?_)
        · have c6 : 10 ≤ y5.toInt := by have h := z_le c6; rw [show (10 : Int32).toInt = 10 from by decide +kernel] at h; exact h
          refine lv_bipush (v := 10) C.x C.b dJ6_stringSize_0f7a4_42 (by decide +kernel) ?_
          refine lv_iload_n C.x C.b dJ6_stringSize_0f7a4_44 rfl (lv_at hl 2 rfl) ?_
          refine lv_iadd C.x C.b dJ6_stringSize_0f7a4_45 ?_
          refine lv_topi (fun x7 ex7 => ?_)
          have tx7 : x7.toInt = 10 + y3.toInt := (vJ6_stringSize_0f7a4_2 k0 y2 y3 y4 y5 x7 c1 hi16_0 hi16_1 hi16_2 c6 ex7)
          exact c_reti C hsz hsl () (vJ6_stringSize_0f7a4_3 k0 y2 y3 y4 y5 x7 c1 hi16_0 hi16_1 hi16_2 c6 ex7 tx7) hP hS ⟨(Nat.le_of_ble_eq_true rfl), (Nat.le_of_ble_eq_true rfl)⟩ ⟨(Nat.le_of_ble_eq_true rfl), (Nat.le_of_ble_eq_true rfl)⟩ dJ6_stringSize_0f7a4_46
        · have c6 : y5.toInt < 10 := by have h := z_nle c6; rw [show (10 : Int32).toInt = 10 from by decide +kernel] at h; exact h
          refine lv_iload_n C.x C.b dJ6_stringSize_0f7a4_22 rfl (lv_at hl 3 rfl) ?_
          refine lv_iload_n C.x C.b dJ6_stringSize_0f7a4_23 rfl (lv_at hl 1 rfl) ?_
          refine lv_icmp_le (tgt := 31) C.x C.b dJ6_stringSize_0f7a4_24 (by decide) (fun c8 => ?_) (fun c8 => ?_)
          · have c8 : y2.toInt ≤ y4.toInt := by have h := z_le c8; exact h
            refine lv_bipush (v := 10) C.x C.b dJ6_stringSize_0f7a4_31 (by decide +kernel) ?_
            refine lv_iload_n C.x C.b dJ6_stringSize_0f7a4_33 rfl (lv_at hl 1 rfl) ?_
            refine lv_imul C.x C.b dJ6_stringSize_0f7a4_34 ?_
            refine lv_topi (fun x9 ex9 => ?_)
            have fx9 : y5.toInt < 9 → x9.toInt = 10 * y4.toInt := (vJ6_stringSize_0f7a4_4 k0 y2 y3 y4 y5 x9 c1 hi16_0 hi16_1 hi16_2 c6 c8 ex9)
            refine lv_istore_n (lv' := [(2, .int x9), (3, .int y5), (1, .int y3), (0, .int y2)]) C.x C.b dJ6_stringSize_0f7a4_35 rfl hl (by decide) rfl (fun ls hl => ?_)
            obtain ⟨x10, ex10⟩ : ∃ y : Int32, y = y5 + (1 : Int32) := ⟨_, rfl⟩
            have tx10 : x10.toInt = y5.toInt + 1 := (vJ6_stringSize_0f7a4_5 k0 y2 y3 y4 y5 x9 x10 c1 hi16_0 hi16_1 hi16_2 c6 c8 ex9 fx9 ex10)
            refine lv_iinc (v := x10) (lv' := [(3, .int x10), (2, .int x9), (1, .int y3), (0, .int y2)]) C.x C.b dJ6_stringSize_0f7a4_36 hl (k := 1) rfl (by rw [ex10]; rfl) (by decide) rfl (fun ls hl => ?_)
            refine lv_goto (tgt := 16) C.x C.b dJ6_stringSize_0f7a4_39 (by decide) ?_
            refine W.widen (k := 0) (n := 0) (Nat.le_of_ble_eq_true rfl) (Nat.le_of_ble_eq_true rfl) ?_
            exact ih16 y2 y3 x9 x10 _ _ _ (Nat.lt_of_lt_of_le (vJ6_stringSize_0f7a4_7 k0 y2 y3 y4 y5 x9 x10 c1 hi16_0 hi16_1 hi16_2 c6 c8 ex9 fx9 ex10 tx10) (Nat.le_of_lt_succ hn16))  (vJ6_stringSize_0f7a4_6 k0 y2 y3 y4 y5 x9 x10 c1 hi16_0 hi16_1 hi16_2 c6 c8 ex9 fx9 ex10 tx10) hP hS (lv_sub hl [0, 1, 2, 3] rfl)
          · have c8 : y4.toInt < y2.toInt := by have h := z_nle c8; exact h
            refine lv_iload_n C.x C.b dJ6_stringSize_0f7a4_27 rfl (lv_at hl 0 rfl) ?_
            refine lv_iload_n C.x C.b dJ6_stringSize_0f7a4_28 rfl (lv_at hl 2 rfl) ?_
            refine lv_iadd C.x C.b dJ6_stringSize_0f7a4_29 ?_
            refine lv_topi (fun x11 ex11 => ?_)
            have tx11 : x11.toInt = y5.toInt + y3.toInt := (vJ6_stringSize_0f7a4_8 k0 y2 y3 y4 y5 x11 c1 hi16_0 hi16_1 hi16_2 c6 c8 ex11)
            exact c_reti C hsz hsl () (vJ6_stringSize_0f7a4_9 k0 y2 y3 y4 y5 x11 c1 hi16_0 hi16_1 hi16_2 c6 c8 ex11 tx11) hP hS ⟨(Nat.le_of_ble_eq_true rfl), (Nat.le_of_ble_eq_true rfl)⟩ ⟨(Nat.le_of_ble_eq_true rfl), (Nat.le_of_ble_eq_true rfl)⟩ dJ6_stringSize_0f7a4_30
    refine W.widen (k := 0) (n := 0) (Nat.le_of_ble_eq_true rfl) (Nat.le_of_ble_eq_true rfl) ?_
    exact lp16 ((10 - (1 : Int32).toInt.toNat) + 1) k0 (1 : Int32) (-10 : Int32) (1 : Int32) _ _ _ (Nat.lt_succ_self _)  (vJ6_stringSize_0f7a4_1 k0 c1) hP hS (lv_sub hl [0, 1, 2, 3] rfl)
  · have c1 : 0 ≤ k0.toInt := by have h := z_nlt c1; rw [show (0 : Int32).toInt = 0 from by decide +kernel] at h; exact h
    refine lv_iconst (v := 0) C.x C.b dJ6_stringSize_0f7a4_6 (by decide +kernel) ?_
    refine lv_istore_n (lv' := [(1, .int 0), (0, .int k0)]) C.x C.b dJ6_stringSize_0f7a4_7 rfl hl (by decide) rfl (fun ls hl => ?_)
    refine lv_iload_n C.x C.b dJ6_stringSize_0f7a4_8 rfl (lv_at hl 1 rfl) ?_
    refine lv_ineg C.x C.b dJ6_stringSize_0f7a4_9 ?_
    refine lv_topi (fun x12 ex12 => ?_)
    have fx12 : x12.toInt = -k0.toInt := (vJ6_stringSize_0f7a4_10 k0 x12 c1 ex12)
    refine lv_istore_n (lv' := [(0, .int x12), (1, .int 0)]) C.x C.b dJ6_stringSize_0f7a4_10 rfl hl (by decide) rfl (fun ls hl => ?_)
    refine lv_bipush (v := (-10)) C.x C.b dJ6_stringSize_0f7a4_11 (by decide +kernel) ?_
    refine lv_istore_n (lv' := [(2, .int (-10)), (0, .int x12), (1, .int 0)]) C.x C.b dJ6_stringSize_0f7a4_13 rfl hl (by decide) rfl (fun ls hl => ?_)
    refine lv_iconst (v := 1) C.x C.b dJ6_stringSize_0f7a4_14 (by decide +kernel) ?_
    refine lv_istore_n (lv' := [(3, .int 1), (2, .int (-10)), (0, .int x12), (1, .int 0)]) C.x C.b dJ6_stringSize_0f7a4_15 rfl hl (by decide) rfl (fun ls hl => ?_)
    have lp16 : ∀ (n : Nat) (y13 : Int32) (y14 : Int32) (y15 : Int32) (y16 : Int32) (H : Heap) (locs : List Loc) (ls : Array Slot), (10 - y16.toInt.toNat) < n → (((y16.toInt = 1 ∧ y15.toInt = -10) ∨ (y16.toInt = 2 ∧ y15.toInt = -100 ∧ y13.toInt ≤ -10) ∨ (y16.toInt = 3 ∧ y15.toInt = -1000 ∧ y13.toInt ≤ -100) ∨ (y16.toInt = 4 ∧ y15.toInt = -10000 ∧ y13.toInt ≤ -1000) ∨ (y16.toInt = 5 ∧ y15.toInt = -100000 ∧ y13.toInt ≤ -10000) ∨ (y16.toInt = 6 ∧ y15.toInt = -1000000 ∧ y13.toInt ≤ -100000) ∨ (y16.toInt = 7 ∧ y15.toInt = -10000000 ∧ y13.toInt ≤ -1000000) ∨ (y16.toInt = 8 ∧ y15.toInt = -100000000 ∧ y13.toInt ≤ -10000000) ∨ (y16.toInt = 9 ∧ y15.toInt = -1000000000 ∧ y13.toInt ≤ -100000000) ∨ (y16.toInt = 10 ∧ y13.toInt ≤ -1000000000)) ∧ y13.toInt ≤ 0 ∧ ((y14.toInt = 0 ∧ 0 ≤ k0.toInt ∧ y13.toInt = -k0.toInt) ∨ (y14.toInt = 1 ∧ k0.toInt < 0 ∧ y13.toInt = k0.toInt))) → CH D cy ad A κ H → va_S A s.heap H locs → lv_has ls 4 [(3, .int y16), (2, .int y15), (0, .int y13), (1, .int y14)] → W p l e (headSpec (Cond.code yJ6_stringSize_0f7a4 cJ6_stringSize_0f7a4 4 (some .int) :: GWc) ({ frames := 0, cells := 0, slots := 0, locals := 0 })).room s m #[.int k0] below meth c H locs (0) (0) (MQ below (va_Qi (fun (r : Int32) (u : Unit) => (r.toInt = (((sb_dg (Int.natAbs k0.toInt) + ngd k0.toInt) : Nat) : Int))) (fun (u : Unit) (t : State) => Bx D cy ad A sz sl κ (0) (0) t) A) #[.int k0] s (0) (0) A) (F0 m 16 ls []) := by
      intro n
      induction n with
      | zero => intro y13 y14 y15 y16 H locs ls hn; exact absurd hn (Nat.not_lt_zero _)
      | succ n16 ih16 =>
        intro y13 y14 y15 y16 H locs ls hn16  hi16 hP hS hl
        obtain ⟨hi16_0, hi16_1, hi16_2⟩ := hi16
        refine lv_iload_n C.x C.b dJ6_stringSize_0f7a4_16 rfl (lv_at hl 0 rfl) ?_
        refine lv_bipush (v := 10) C.x C.b dJ6_stringSize_0f7a4_17 (by decide +kernel) ?_
        refine lv_icmp_ge (tgt := 42) C.x C.b dJ6_stringSize_0f7a4_19 (by decide) (fun c17 => ?_) (fun c17 => ?_)
        · have c17 : 10 ≤ y16.toInt := by have h := z_le c17; rw [show (10 : Int32).toInt = 10 from by decide +kernel] at h; exact h
          refine lv_bipush (v := 10) C.x C.b dJ6_stringSize_0f7a4_42 (by decide +kernel) ?_
          refine lv_iload_n C.x C.b dJ6_stringSize_0f7a4_44 rfl (lv_at hl 3 rfl) ?_
          refine lv_iadd C.x C.b dJ6_stringSize_0f7a4_45 ?_
          refine lv_topi (fun x18 ex18 => ?_)
          have tx18 : x18.toInt = 10 + y14.toInt := (vJ6_stringSize_0f7a4_12 k0 x12 y13 y14 y15 y16 x18 c1 ex12 fx12 hi16_0 hi16_1 hi16_2 c17 ex18)
          exact c_reti C hsz hsl () (vJ6_stringSize_0f7a4_13 k0 x12 y13 y14 y15 y16 x18 c1 ex12 fx12 hi16_0 hi16_1 hi16_2 c17 ex18 tx18) hP hS ⟨(Nat.le_of_ble_eq_true rfl), (Nat.le_of_ble_eq_true rfl)⟩ ⟨(Nat.le_of_ble_eq_true rfl), (Nat.le_of_ble_eq_true rfl)⟩ dJ6_stringSize_0f7a4_46
        · have c17 : y16.toInt < 10 := by have h := z_nle c17; rw [show (10 : Int32).toInt = 10 from by decide +kernel] at h; exact h
          refine lv_iload_n C.x C.b dJ6_stringSize_0f7a4_22 rfl (lv_at hl 2 rfl) ?_
          refine lv_iload_n C.x C.b dJ6_stringSize_0f7a4_23 rfl (lv_at hl 1 rfl) ?_
          refine lv_icmp_le (tgt := 31) C.x C.b dJ6_stringSize_0f7a4_24 (by decide) (fun c19 => ?_) (fun c19 => ?_)
          · have c19 : y13.toInt ≤ y15.toInt := by have h := z_le c19; exact h
            refine lv_bipush (v := 10) C.x C.b dJ6_stringSize_0f7a4_31 (by decide +kernel) ?_
            refine lv_iload_n C.x C.b dJ6_stringSize_0f7a4_33 rfl (lv_at hl 1 rfl) ?_
            refine lv_imul C.x C.b dJ6_stringSize_0f7a4_34 ?_
            refine lv_topi (fun x20 ex20 => ?_)
            have fx20 : y16.toInt < 9 → x20.toInt = 10 * y15.toInt := (vJ6_stringSize_0f7a4_14 k0 x12 y13 y14 y15 y16 x20 c1 ex12 fx12 hi16_0 hi16_1 hi16_2 c17 c19 ex20)
            refine lv_istore_n (lv' := [(2, .int x20), (3, .int y16), (0, .int y13), (1, .int y14)]) C.x C.b dJ6_stringSize_0f7a4_35 rfl hl (by decide) rfl (fun ls hl => ?_)
            obtain ⟨x21, ex21⟩ : ∃ y : Int32, y = y16 + (1 : Int32) := ⟨_, rfl⟩
            have tx21 : x21.toInt = y16.toInt + 1 := (vJ6_stringSize_0f7a4_15 k0 x12 y13 y14 y15 y16 x20 x21 c1 ex12 fx12 hi16_0 hi16_1 hi16_2 c17 c19 ex20 fx20 ex21)
            refine lv_iinc (v := x21) (lv' := [(3, .int x21), (2, .int x20), (0, .int y13), (1, .int y14)]) C.x C.b dJ6_stringSize_0f7a4_36 hl (k := 1) rfl (by rw [ex21]; rfl) (by decide) rfl (fun ls hl => ?_)
            refine lv_goto (tgt := 16) C.x C.b dJ6_stringSize_0f7a4_39 (by decide) ?_
            refine W.widen (k := 0) (n := 0) (Nat.le_of_ble_eq_true rfl) (Nat.le_of_ble_eq_true rfl) ?_
            exact ih16 y13 y14 x20 x21 _ _ _ (Nat.lt_of_lt_of_le (vJ6_stringSize_0f7a4_17 k0 x12 y13 y14 y15 y16 x20 x21 c1 ex12 fx12 hi16_0 hi16_1 hi16_2 c17 c19 ex20 fx20 ex21 tx21) (Nat.le_of_lt_succ hn16))  (vJ6_stringSize_0f7a4_16 k0 x12 y13 y14 y15 y16 x20 x21 c1 ex12 fx12 hi16_0 hi16_1 hi16_2 c17 c19 ex20 fx20 ex21 tx21) hP hS (lv_sub hl [0, 1, 2, 3] rfl)
          · have c19 : y15.toInt < y13.toInt := by have h := z_nle c19; exact h
            refine lv_iload_n C.x C.b dJ6_stringSize_0f7a4_27 rfl (lv_at hl 0 rfl) ?_
            refine lv_iload_n C.x C.b dJ6_stringSize_0f7a4_28 rfl (lv_at hl 3 rfl) ?_
            refine lv_iadd C.x C.b dJ6_stringSize_0f7a4_29 ?_
            refine lv_topi (fun x22 ex22 => ?_)
            have tx22 : x22.toInt = y16.toInt + y14.toInt := (vJ6_stringSize_0f7a4_18 k0 x12 y13 y14 y15 y16 x22 c1 ex12 fx12 hi16_0 hi16_1 hi16_2 c17 c19 ex22)
            exact c_reti C hsz hsl () (vJ6_stringSize_0f7a4_19 k0 x12 y13 y14 y15 y16 x22 c1 ex12 fx12 hi16_0 hi16_1 hi16_2 c17 c19 ex22 tx22) hP hS ⟨(Nat.le_of_ble_eq_true rfl), (Nat.le_of_ble_eq_true rfl)⟩ ⟨(Nat.le_of_ble_eq_true rfl), (Nat.le_of_ble_eq_true rfl)⟩ dJ6_stringSize_0f7a4_30
    refine W.widen (k := 0) (n := 0) (Nat.le_of_ble_eq_true rfl) (Nat.le_of_ble_eq_true rfl) ?_
    exact lp16 ((10 - (1 : Int32).toInt.toNat) + 1) x12 (0 : Int32) (-10 : Int32) (1 : Int32) _ _ _ (Nat.lt_succ_self _)  (vJ6_stringSize_0f7a4_11 k0 x12 c1 ex12 fx12) hP hS (lv_sub hl [0, 1, 2, 3] rfl)

-- fact@20 @20
theorem vJ6_getChars_ba4f3_1 (κ : KS) (k0 : Int32) (k1 : Int32) (k2 : Nat) (x3 : Int32) (hpre_0 : (((sb_dg (Int.natAbs k0.toInt) + ngd k0.toInt) : Nat) : Int) ≤ k1.toInt) (hpre_1 : k1.toInt ≤ ((oL κ.2.2.2.2 k2 : Nat) : Int)) (hpre_2 : NS κ.2.2.2.2 k2) (hk0_0 : -2147483648 ≤ k0.toInt) (hk0_1 : k0.toInt ≤ 2147483647) (hl8_2 : oL κ.2.2.2.2 k2 ≤ 100) (c1 : 0 ≤ k0.toInt) (ex3 : x3 = -k0) : x3.toInt = -k0.toInt ∧ sb_dg (Int.natAbs x3.toInt) = sb_dg (Int.natAbs k0.toInt) := by
  have zd0 := dg_spec (Int.natAbs x3.toInt)
  have zd1 := dg_spec (Int.natAbs k0.toInt)
  have zn0 := ngd_spec k0.toInt
  have e9 : x3.toInt = -k0.toInt := by rw [ex3]; exact z_ng (by omega)
  exact ⟨e9, by rw [e9, Int.natAbs_neg]⟩
-- init@22 @22
theorem vJ6_getChars_ba4f3_2 (κ : KS) (k0 : Int32) (k1 : Int32) (k2 : Nat) (x3 : Int32) (hpre_0 : (((sb_dg (Int.natAbs k0.toInt) + ngd k0.toInt) : Nat) : Int) ≤ k1.toInt) (hpre_1 : k1.toInt ≤ ((oL κ.2.2.2.2 k2 : Nat) : Int)) (hpre_2 : NS κ.2.2.2.2 k2) (hk0_0 : -2147483648 ≤ k0.toInt) (hk0_1 : k0.toInt ≤ 2147483647) (hl8_2 : oL κ.2.2.2.2 k2 ≤ 100) (c1 : 0 ≤ k0.toInt) (ex3 : x3 = -k0) (fx3_0 : x3.toInt = -k0.toInt) (fx3_1 : sb_dg (Int.natAbs x3.toInt) = sb_dg (Int.natAbs k0.toInt)) : x3.toInt ≤ 0 ∧ -2147483648 ≤ x3.toInt ∧ ((sb_dg (Int.natAbs x3.toInt) : Nat) : Int) + (0 : Int32).toInt ≤ k1.toInt ∧ k1.toInt ≤ ((oL κ.2.2.2.2 k2 : Nat) : Int) ∧ SBS κ.2.2.2.2 κ.2.2.2.2 := by
  have q0 : (0 : Int32).toInt = 0 := by decide +kernel
  have zd0 := dg_spec (Int.natAbs x3.toInt)
  have zd1 := dg_spec (Int.natAbs k0.toInt)
  have zn0 := ngd_spec k0.toInt
  refine ⟨?_, ?_, ?_, ?_, ?_⟩ <;> first | assumption | omega | (subst_vars; omega) | trivial | exact SBS.rf
-- init2@22 @22
theorem vJ6_getChars_ba4f3_3 (sa : Nat → Nat) (κ : KS) (k0 : Int32) (k1 : Int32) (k2 : Nat) (x3 : Int32) (ht2 : oT κ.2.2.2.2 k2 = 8) (hPV : PV sa κ.2.2.2.2) (hpre_0 : (((sb_dg (Int.natAbs k0.toInt) + ngd k0.toInt) : Nat) : Int) ≤ k1.toInt) (hpre_1 : k1.toInt ≤ ((oL κ.2.2.2.2 k2 : Nat) : Int)) (hpre_2 : NS κ.2.2.2.2 k2) (hk0_0 : -2147483648 ≤ k0.toInt) (hk0_1 : k0.toInt ≤ 2147483647) (hl8_2 : oL κ.2.2.2.2 k2 ≤ 100) (c1 : 0 ≤ k0.toInt) (ex3 : x3 = -k0) (fx3_0 : x3.toInt = -k0.toInt) (fx3_1 : sb_dg (Int.natAbs x3.toInt) = sb_dg (Int.natAbs k0.toInt)) : GCH κ.2.2.2.2 κ.2.2.2.2 k2 k0.toInt x3.toInt k1.toInt k1.toInt := by
  have zd0 := dg_spec (Int.natAbs k0.toInt)
  have zd1 := dg_spec (Int.natAbs x3.toInt)
  have zn0 := ngd_spec k0.toInt
  exact GCH.start9 (by omega) rfl
-- nw@73 @73
theorem vJ6_getChars_ba4f3_4 (κ : KS) (k0 : Int32) (k1 : Int32) (k2 : Nat) (x3 : Int32) (y4 : Int32) (y5 : Int32) (P6 : PL) (x9 : Int32) (hpre_0 : (((sb_dg (Int.natAbs k0.toInt) + ngd k0.toInt) : Nat) : Int) ≤ k1.toInt) (hpre_1 : k1.toInt ≤ ((oL κ.2.2.2.2 k2 : Nat) : Int)) (hpre_2 : NS κ.2.2.2.2 k2) (hk0_0 : -2147483648 ≤ k0.toInt) (hk0_1 : k0.toInt ≤ 2147483647) (hl8_2 : oL κ.2.2.2.2 k2 ≤ 100) (c1 : 0 ≤ k0.toInt) (ex3 : x3 = -k0) (fx3_0 : x3.toInt = -k0.toInt) (fx3_1 : sb_dg (Int.natAbs x3.toInt) = sb_dg (Int.natAbs k0.toInt)) (hi22_0 : y4.toInt ≤ 0) (hi22_1 : -2147483648 ≤ y4.toInt) (hi22_2 : ((sb_dg (Int.natAbs y4.toInt) : Nat) : Int) + (0 : Int32).toInt ≤ y5.toInt) (hi22_3 : y5.toInt ≤ ((oL P6 k2 : Nat) : Int)) (hi22_4 : SBS κ.2.2.2.2 P6) (hi22_5 : NS P6 k2) (kl7 : oL P6 k2 = oL κ.2.2.2.2 k2) (c8 : (-100) < y4.toInt) (ex9 : x9 = y5 + (-1 : Int32)) : x9.toInt = y5.toInt + (-1) := by
  have qm1 : (-1 : Int32).toInt = (-1) := by decide +kernel
  have q0 : (0 : Int32).toInt = 0 := by decide +kernel
  have zd0 := dg_spec (Int.natAbs k0.toInt)
  have zd1 := dg_spec (Int.natAbs x3.toInt)
  have zd2 := dg_spec (Int.natAbs y4.toInt)
  have zn0 := ngd_spec k0.toInt
  have z9 : ((-1) : Int32).toInt = -1 := by decide +kernel
  rw [ex9, z_add (by omega) (by omega)]; first | done | omega
-- fact@82 @82
theorem vJ6_getChars_ba4f3_5 (κ : KS) (k0 : Int32) (k1 : Int32) (k2 : Nat) (x3 : Int32) (y4 : Int32) (y5 : Int32) (P6 : PL) (x9 : Int32) (x10 : Int32) (hpre_0 : (((sb_dg (Int.natAbs k0.toInt) + ngd k0.toInt) : Nat) : Int) ≤ k1.toInt) (hpre_1 : k1.toInt ≤ ((oL κ.2.2.2.2 k2 : Nat) : Int)) (hpre_2 : NS κ.2.2.2.2 k2) (hk0_0 : -2147483648 ≤ k0.toInt) (hk0_1 : k0.toInt ≤ 2147483647) (hl8_2 : oL κ.2.2.2.2 k2 ≤ 100) (c1 : 0 ≤ k0.toInt) (ex3 : x3 = -k0) (fx3_0 : x3.toInt = -k0.toInt) (fx3_1 : sb_dg (Int.natAbs x3.toInt) = sb_dg (Int.natAbs k0.toInt)) (hi22_0 : y4.toInt ≤ 0) (hi22_1 : -2147483648 ≤ y4.toInt) (hi22_2 : ((sb_dg (Int.natAbs y4.toInt) : Nat) : Int) + (0 : Int32).toInt ≤ y5.toInt) (hi22_3 : y5.toInt ≤ ((oL P6 k2 : Nat) : Int)) (hi22_4 : SBS κ.2.2.2.2 P6) (hi22_5 : NS P6 k2) (kl7 : oL P6 k2 = oL κ.2.2.2.2 k2) (c8 : (-100) < y4.toInt) (ex9 : x9 = y5 + (-1 : Int32)) (tx9 : x9.toInt = y5.toInt + (-1)) (ex10 : x10 = -y4) : x10.toInt = -y4.toInt := by
  have qm1 : (-1 : Int32).toInt = (-1) := by decide +kernel
  have q0 : (0 : Int32).toInt = 0 := by decide +kernel
  have zd0 := dg_spec (Int.natAbs k0.toInt)
  have zd1 := dg_spec (Int.natAbs x3.toInt)
  have zd2 := dg_spec (Int.natAbs y4.toInt)
  have zn0 := ngd_spec k0.toInt
  rw [ex10]; exact z_ng (by omega)
-- in@83 @83
theorem vJ6_getChars_ba4f3_6 (κ : KS) (k0 : Int32) (k1 : Int32) (k2 : Nat) (x3 : Int32) (y4 : Int32) (y5 : Int32) (P6 : PL) (x9 : Int32) (x10 : Int32) (hpre_0 : (((sb_dg (Int.natAbs k0.toInt) + ngd k0.toInt) : Nat) : Int) ≤ k1.toInt) (hpre_1 : k1.toInt ≤ ((oL κ.2.2.2.2 k2 : Nat) : Int)) (hpre_2 : NS κ.2.2.2.2 k2) (hk0_0 : -2147483648 ≤ k0.toInt) (hk0_1 : k0.toInt ≤ 2147483647) (hl8_2 : oL κ.2.2.2.2 k2 ≤ 100) (c1 : 0 ≤ k0.toInt) (ex3 : x3 = -k0) (fx3_0 : x3.toInt = -k0.toInt) (fx3_1 : sb_dg (Int.natAbs x3.toInt) = sb_dg (Int.natAbs k0.toInt)) (hi22_0 : y4.toInt ≤ 0) (hi22_1 : -2147483648 ≤ y4.toInt) (hi22_2 : ((sb_dg (Int.natAbs y4.toInt) : Nat) : Int) + (0 : Int32).toInt ≤ y5.toInt) (hi22_3 : y5.toInt ≤ ((oL P6 k2 : Nat) : Int)) (hi22_4 : SBS κ.2.2.2.2 P6) (hi22_5 : NS P6 k2) (kl7 : oL P6 k2 = oL κ.2.2.2.2 k2) (c8 : (-100) < y4.toInt) (ex9 : x9 = y5 + (-1 : Int32)) (tx9 : x9.toInt = y5.toInt + (-1)) (ex10 : x10 = -y4) (fx10 : x10.toInt = -y4.toInt) : vp_in x10 100 := by
  have qm1 : (-1 : Int32).toInt = (-1) := by decide +kernel
  have q0 : (0 : Int32).toInt = 0 := by decide +kernel
  have zd0 := dg_spec (Int.natAbs k0.toInt)
  have zd1 := dg_spec (Int.natAbs x3.toInt)
  have zd2 := dg_spec (Int.natAbs y4.toInt)
  have zn0 := ngd_spec k0.toInt
  exact vp_in_iff.mpr ⟨by omega, by omega⟩
-- in@84 @84
theorem vJ6_getChars_ba4f3_7 (κ : KS) (k0 : Int32) (k1 : Int32) (k2 : Nat) (x3 : Int32) (y4 : Int32) (y5 : Int32) (P6 : PL) (x9 : Int32) (x10 : Int32) (hpre_0 : (((sb_dg (Int.natAbs k0.toInt) + ngd k0.toInt) : Nat) : Int) ≤ k1.toInt) (hpre_1 : k1.toInt ≤ ((oL κ.2.2.2.2 k2 : Nat) : Int)) (hpre_2 : NS κ.2.2.2.2 k2) (hk0_0 : -2147483648 ≤ k0.toInt) (hk0_1 : k0.toInt ≤ 2147483647) (hl8_2 : oL κ.2.2.2.2 k2 ≤ 100) (c1 : 0 ≤ k0.toInt) (ex3 : x3 = -k0) (fx3_0 : x3.toInt = -k0.toInt) (fx3_1 : sb_dg (Int.natAbs x3.toInt) = sb_dg (Int.natAbs k0.toInt)) (hi22_0 : y4.toInt ≤ 0) (hi22_1 : -2147483648 ≤ y4.toInt) (hi22_2 : ((sb_dg (Int.natAbs y4.toInt) : Nat) : Int) + (0 : Int32).toInt ≤ y5.toInt) (hi22_3 : y5.toInt ≤ ((oL P6 k2 : Nat) : Int)) (hi22_4 : SBS κ.2.2.2.2 P6) (hi22_5 : NS P6 k2) (kl7 : oL P6 k2 = oL κ.2.2.2.2 k2) (c8 : (-100) < y4.toInt) (ex9 : x9 = y5 + (-1 : Int32)) (tx9 : x9.toInt = y5.toInt + (-1)) (ex10 : x10 = -y4) (fx10 : x10.toInt = -y4.toInt) : vp_in x9 (oL P6 k2) := by
  have qm1 : (-1 : Int32).toInt = (-1) := by decide +kernel
  have q0 : (0 : Int32).toInt = 0 := by decide +kernel
  have zd0 := dg_spec (Int.natAbs k0.toInt)
  have zd1 := dg_spec (Int.natAbs x3.toInt)
  have zd2 := dg_spec (Int.natAbs y4.toInt)
  have zn0 := ngd_spec k0.toInt
  exact vp_in_iff.mpr ⟨by omega, by omega⟩
-- sbs @120
theorem vJ6_getChars_ba4f3_8 (κ : KS) (k0 : Int32) (k1 : Int32) (k2 : Nat) (x3 : Int32) (y4 : Int32) (y5 : Int32) (P6 : PL) (x9 : Int32) (x10 : Int32) (x11 : Int32) (hpre_0 : (((sb_dg (Int.natAbs k0.toInt) + ngd k0.toInt) : Nat) : Int) ≤ k1.toInt) (hpre_1 : k1.toInt ≤ ((oL κ.2.2.2.2 k2 : Nat) : Int)) (hpre_2 : NS κ.2.2.2.2 k2) (hk0_0 : -2147483648 ≤ k0.toInt) (hk0_1 : k0.toInt ≤ 2147483647) (hl8_2 : oL κ.2.2.2.2 k2 ≤ 100) (c1 : 0 ≤ k0.toInt) (ex3 : x3 = -k0) (fx3_0 : x3.toInt = -k0.toInt) (fx3_1 : sb_dg (Int.natAbs x3.toInt) = sb_dg (Int.natAbs k0.toInt)) (hi22_0 : y4.toInt ≤ 0) (hi22_1 : -2147483648 ≤ y4.toInt) (hi22_2 : ((sb_dg (Int.natAbs y4.toInt) : Nat) : Int) + (0 : Int32).toInt ≤ y5.toInt) (hi22_3 : y5.toInt ≤ ((oL P6 k2 : Nat) : Int)) (hi22_4 : SBS κ.2.2.2.2 P6) (hi22_5 : NS P6 k2) (kl7 : oL P6 k2 = oL κ.2.2.2.2 k2) (c8 : (-100) < y4.toInt) (ex9 : x9 = y5 + (-1 : Int32)) (tx9 : x9.toInt = y5.toInt + (-1)) (ex10 : x10 = -y4) (fx10 : x10.toInt = -y4.toInt) (c13 : (-9) ≤ y4.toInt) : SBS κ.2.2.2.2 (sB P6 k2 (upd (oB P6 k2) x9.toNatClampNeg (vp_nar .byte x11))) := by
  have qm1 : (-1 : Int32).toInt = (-1) := by decide +kernel
  have q0 : (0 : Int32).toInt = 0 := by decide +kernel
  have zd0 := dg_spec (Int.natAbs k0.toInt)
  have zd1 := dg_spec (Int.natAbs x3.toInt)
  have zd2 := dg_spec (Int.natAbs y4.toInt)
  have zn0 := ngd_spec k0.toInt
  first | assumption | exact fun _ _ => ⟨rfl, rfl⟩
-- post2 @120
theorem vJ6_getChars_ba4f3_9 (sa : Nat → Nat) (κ : KS) (k0 : Int32) (k1 : Int32) (k2 : Nat) (x3 : Int32) (y4 : Int32) (y5 : Int32) (P6 : PL) (x9 : Int32) (x10 : Int32) (x11 : Int32) (ht2 : oT κ.2.2.2.2 k2 = 8) (hPV : PV sa κ.2.2.2.2) (hpre_0 : (((sb_dg (Int.natAbs k0.toInt) + ngd k0.toInt) : Nat) : Int) ≤ k1.toInt) (hpre_1 : k1.toInt ≤ ((oL κ.2.2.2.2 k2 : Nat) : Int)) (hpre_2 : NS κ.2.2.2.2 k2) (hk0_0 : -2147483648 ≤ k0.toInt) (hk0_1 : k0.toInt ≤ 2147483647) (hl8_2 : oL κ.2.2.2.2 k2 ≤ 100) (c1 : 0 ≤ k0.toInt) (ex3 : x3 = -k0) (fx3_0 : x3.toInt = -k0.toInt) (fx3_1 : sb_dg (Int.natAbs x3.toInt) = sb_dg (Int.natAbs k0.toInt)) (hi22_0 : y4.toInt ≤ 0) (hi22_1 : -2147483648 ≤ y4.toInt) (hi22_2 : ((sb_dg (Int.natAbs y4.toInt) : Nat) : Int) + (0 : Int32).toInt ≤ y5.toInt) (hi22_3 : y5.toInt ≤ ((oL P6 k2 : Nat) : Int)) (hi22_4 : SBS κ.2.2.2.2 P6) (hi22_5 : NS P6 k2) (hf22_0 : EX κ.2.2.2.2 P6) (hf22_2 : KPx True κ.2.2.2.2 P6) (hi22y : GCH κ.2.2.2.2 P6 k2 k0.toInt y4.toInt y5.toInt k1.toInt) (kl7 : oL P6 k2 = oL κ.2.2.2.2 k2) (c8 : (-100) < y4.toInt) (ex9 : x9 = y5 + (-1 : Int32)) (tx9 : x9.toInt = y5.toInt + (-1)) (ex10 : x10 = -y4) (fx10 : x10.toInt = -y4.toInt) (dx11 : x11.toInt = 48 + ((x10.toNatClampNeg % 10 : Nat) : Int)) (exz12 : EX P6 (sB P6 k2 (upd (oB P6 k2) x9.toNatClampNeg (vp_nar .byte x11)))) (c13 : (-9) ≤ y4.toInt) : ∀ s9 : List Int, PFX κ.2.2.2.2 k2 s9 → k1.toInt = (s9.length : Int) + ((qDec k0.toInt).length : Int) → PFX (sB P6 k2 (upd (oB P6 k2) x9.toNatClampNeg (vp_nar .byte x11))) k2 (s9 ++ qDec k0.toInt) := by
  have qm1 : (-1 : Int32).toInt = (-1) := by decide +kernel
  have q0 : (0 : Int32).toInt = 0 := by decide +kernel
  have zd0 := dg_spec (Int.natAbs k0.toInt)
  have zd1 := dg_spec (Int.natAbs x3.toInt)
  have zd2 := dg_spec (Int.natAbs y4.toInt)
  have zn0 := ngd_spec k0.toInt
  intro s9 hs hl
  rw [clampN] at dx11
  have nx11 : vp_nar .byte x11 = x11 := q_b8x (by omega) (by omega)
  rw [nx11]
  have g := hi22y.one9 (c := x11) (x := x9.toNatClampNeg) (f := (upd (oB P6 k2) x9.toNatClampNeg x11)) (p2 := x9.toInt) (by omega) (by omega) (by omega) (by omega) (by rw [clampN]; omega) (by omega) rfl
  exact GCH.pos9 g (by simp only [q_oB]) (by omega) hs hl
-- nw@92 @92
theorem vJ6_getChars_ba4f3_10 (κ : KS) (k0 : Int32) (k1 : Int32) (k2 : Nat) (x3 : Int32) (y4 : Int32) (y5 : Int32) (P6 : PL) (x9 : Int32) (x10 : Int32) (x15 : Int32) (hpre_0 : (((sb_dg (Int.natAbs k0.toInt) + ngd k0.toInt) : Nat) : Int) ≤ k1.toInt) (hpre_1 : k1.toInt ≤ ((oL κ.2.2.2.2 k2 : Nat) : Int)) (hpre_2 : NS κ.2.2.2.2 k2) (hk0_0 : -2147483648 ≤ k0.toInt) (hk0_1 : k0.toInt ≤ 2147483647) (hl8_2 : oL κ.2.2.2.2 k2 ≤ 100) (c1 : 0 ≤ k0.toInt) (ex3 : x3 = -k0) (fx3_0 : x3.toInt = -k0.toInt) (fx3_1 : sb_dg (Int.natAbs x3.toInt) = sb_dg (Int.natAbs k0.toInt)) (hi22_0 : y4.toInt ≤ 0) (hi22_1 : -2147483648 ≤ y4.toInt) (hi22_2 : ((sb_dg (Int.natAbs y4.toInt) : Nat) : Int) + (0 : Int32).toInt ≤ y5.toInt) (hi22_3 : y5.toInt ≤ ((oL P6 k2 : Nat) : Int)) (hi22_4 : SBS κ.2.2.2.2 P6) (hi22_5 : NS P6 k2) (kl7 : oL P6 k2 = oL κ.2.2.2.2 k2) (c8 : (-100) < y4.toInt) (ex9 : x9 = y5 + (-1 : Int32)) (tx9 : x9.toInt = y5.toInt + (-1)) (ex10 : x10 = -y4) (fx10 : x10.toInt = -y4.toInt) (c13 : y4.toInt < (-9)) (ex15 : x15 = x9 + (-1 : Int32)) : x15.toInt = x9.toInt + (-1) := by
  have qm1 : (-1 : Int32).toInt = (-1) := by decide +kernel
  have q0 : (0 : Int32).toInt = 0 := by decide +kernel
  have zd0 := dg_spec (Int.natAbs k0.toInt)
  have zd1 := dg_spec (Int.natAbs x3.toInt)
  have zd2 := dg_spec (Int.natAbs y4.toInt)
  have zn0 := ngd_spec k0.toInt
  have z9 : ((-1) : Int32).toInt = -1 := by decide +kernel
  rw [ex15, z_add (by omega) (by omega)]; first | done | omega
-- fact@101 @101
theorem vJ6_getChars_ba4f3_11 (κ : KS) (k0 : Int32) (k1 : Int32) (k2 : Nat) (x3 : Int32) (y4 : Int32) (y5 : Int32) (P6 : PL) (x9 : Int32) (x10 : Int32) (x15 : Int32) (x16 : Int32) (hpre_0 : (((sb_dg (Int.natAbs k0.toInt) + ngd k0.toInt) : Nat) : Int) ≤ k1.toInt) (hpre_1 : k1.toInt ≤ ((oL κ.2.2.2.2 k2 : Nat) : Int)) (hpre_2 : NS κ.2.2.2.2 k2) (hk0_0 : -2147483648 ≤ k0.toInt) (hk0_1 : k0.toInt ≤ 2147483647) (hl8_2 : oL κ.2.2.2.2 k2 ≤ 100) (c1 : 0 ≤ k0.toInt) (ex3 : x3 = -k0) (fx3_0 : x3.toInt = -k0.toInt) (fx3_1 : sb_dg (Int.natAbs x3.toInt) = sb_dg (Int.natAbs k0.toInt)) (hi22_0 : y4.toInt ≤ 0) (hi22_1 : -2147483648 ≤ y4.toInt) (hi22_2 : ((sb_dg (Int.natAbs y4.toInt) : Nat) : Int) + (0 : Int32).toInt ≤ y5.toInt) (hi22_3 : y5.toInt ≤ ((oL P6 k2 : Nat) : Int)) (hi22_4 : SBS κ.2.2.2.2 P6) (hi22_5 : NS P6 k2) (kl7 : oL P6 k2 = oL κ.2.2.2.2 k2) (c8 : (-100) < y4.toInt) (ex9 : x9 = y5 + (-1 : Int32)) (tx9 : x9.toInt = y5.toInt + (-1)) (ex10 : x10 = -y4) (fx10 : x10.toInt = -y4.toInt) (c13 : y4.toInt < (-9)) (ex15 : x15 = x9 + (-1 : Int32)) (tx15 : x15.toInt = x9.toInt + (-1)) (ex16 : x16 = -y4) : x16.toInt = -y4.toInt := by
  have qm1 : (-1 : Int32).toInt = (-1) := by decide +kernel
  have q0 : (0 : Int32).toInt = 0 := by decide +kernel
  have zd0 := dg_spec (Int.natAbs k0.toInt)
  have zd1 := dg_spec (Int.natAbs x3.toInt)
  have zd2 := dg_spec (Int.natAbs y4.toInt)
  have zn0 := ngd_spec k0.toInt
  rw [ex16]; exact z_ng (by omega)
-- in@102 @102
theorem vJ6_getChars_ba4f3_12 (κ : KS) (k0 : Int32) (k1 : Int32) (k2 : Nat) (x3 : Int32) (y4 : Int32) (y5 : Int32) (P6 : PL) (x9 : Int32) (x10 : Int32) (x15 : Int32) (x16 : Int32) (hpre_0 : (((sb_dg (Int.natAbs k0.toInt) + ngd k0.toInt) : Nat) : Int) ≤ k1.toInt) (hpre_1 : k1.toInt ≤ ((oL κ.2.2.2.2 k2 : Nat) : Int)) (hpre_2 : NS κ.2.2.2.2 k2) (hk0_0 : -2147483648 ≤ k0.toInt) (hk0_1 : k0.toInt ≤ 2147483647) (hl8_2 : oL κ.2.2.2.2 k2 ≤ 100) (c1 : 0 ≤ k0.toInt) (ex3 : x3 = -k0) (fx3_0 : x3.toInt = -k0.toInt) (fx3_1 : sb_dg (Int.natAbs x3.toInt) = sb_dg (Int.natAbs k0.toInt)) (hi22_0 : y4.toInt ≤ 0) (hi22_1 : -2147483648 ≤ y4.toInt) (hi22_2 : ((sb_dg (Int.natAbs y4.toInt) : Nat) : Int) + (0 : Int32).toInt ≤ y5.toInt) (hi22_3 : y5.toInt ≤ ((oL P6 k2 : Nat) : Int)) (hi22_4 : SBS κ.2.2.2.2 P6) (hi22_5 : NS P6 k2) (kl7 : oL P6 k2 = oL κ.2.2.2.2 k2) (c8 : (-100) < y4.toInt) (ex9 : x9 = y5 + (-1 : Int32)) (tx9 : x9.toInt = y5.toInt + (-1)) (ex10 : x10 = -y4) (fx10 : x10.toInt = -y4.toInt) (c13 : y4.toInt < (-9)) (ex15 : x15 = x9 + (-1 : Int32)) (tx15 : x15.toInt = x9.toInt + (-1)) (ex16 : x16 = -y4) (fx16 : x16.toInt = -y4.toInt) : vp_in x16 100 := by
  have qm1 : (-1 : Int32).toInt = (-1) := by decide +kernel
  have q0 : (0 : Int32).toInt = 0 := by decide +kernel
  have zd0 := dg_spec (Int.natAbs k0.toInt)
  have zd1 := dg_spec (Int.natAbs x3.toInt)
  have zd2 := dg_spec (Int.natAbs y4.toInt)
  have zn0 := ngd_spec k0.toInt
  exact vp_in_iff.mpr ⟨by omega, by omega⟩
-- in@103 @103
theorem vJ6_getChars_ba4f3_13 (κ : KS) (k0 : Int32) (k1 : Int32) (k2 : Nat) (x3 : Int32) (y4 : Int32) (y5 : Int32) (P6 : PL) (x9 : Int32) (x10 : Int32) (x15 : Int32) (x16 : Int32) (hpre_0 : (((sb_dg (Int.natAbs k0.toInt) + ngd k0.toInt) : Nat) : Int) ≤ k1.toInt) (hpre_1 : k1.toInt ≤ ((oL κ.2.2.2.2 k2 : Nat) : Int)) (hpre_2 : NS κ.2.2.2.2 k2) (hk0_0 : -2147483648 ≤ k0.toInt) (hk0_1 : k0.toInt ≤ 2147483647) (hl8_2 : oL κ.2.2.2.2 k2 ≤ 100) (c1 : 0 ≤ k0.toInt) (ex3 : x3 = -k0) (fx3_0 : x3.toInt = -k0.toInt) (fx3_1 : sb_dg (Int.natAbs x3.toInt) = sb_dg (Int.natAbs k0.toInt)) (hi22_0 : y4.toInt ≤ 0) (hi22_1 : -2147483648 ≤ y4.toInt) (hi22_2 : ((sb_dg (Int.natAbs y4.toInt) : Nat) : Int) + (0 : Int32).toInt ≤ y5.toInt) (hi22_3 : y5.toInt ≤ ((oL P6 k2 : Nat) : Int)) (hi22_4 : SBS κ.2.2.2.2 P6) (hi22_5 : NS P6 k2) (kl7 : oL P6 k2 = oL κ.2.2.2.2 k2) (c8 : (-100) < y4.toInt) (ex9 : x9 = y5 + (-1 : Int32)) (tx9 : x9.toInt = y5.toInt + (-1)) (ex10 : x10 = -y4) (fx10 : x10.toInt = -y4.toInt) (c13 : y4.toInt < (-9)) (ex15 : x15 = x9 + (-1 : Int32)) (tx15 : x15.toInt = x9.toInt + (-1)) (ex16 : x16 = -y4) (fx16 : x16.toInt = -y4.toInt) : vp_in x15 (oL P6 k2) := by
  have qm1 : (-1 : Int32).toInt = (-1) := by decide +kernel
  have q0 : (0 : Int32).toInt = 0 := by decide +kernel
  have zd0 := dg_spec (Int.natAbs k0.toInt)
  have zd1 := dg_spec (Int.natAbs x3.toInt)
  have zd2 := dg_spec (Int.natAbs y4.toInt)
  have zn0 := ngd_spec k0.toInt
  exact vp_in_iff.mpr ⟨by omega, by omega⟩
-- sbs @120
theorem vJ6_getChars_ba4f3_14 (κ : KS) (k0 : Int32) (k1 : Int32) (k2 : Nat) (x3 : Int32) (y4 : Int32) (y5 : Int32) (P6 : PL) (x9 : Int32) (x10 : Int32) (x11 : Int32) (x15 : Int32) (x16 : Int32) (x17 : Int32) (hpre_0 : (((sb_dg (Int.natAbs k0.toInt) + ngd k0.toInt) : Nat) : Int) ≤ k1.toInt) (hpre_1 : k1.toInt ≤ ((oL κ.2.2.2.2 k2 : Nat) : Int)) (hpre_2 : NS κ.2.2.2.2 k2) (hk0_0 : -2147483648 ≤ k0.toInt) (hk0_1 : k0.toInt ≤ 2147483647) (hl8_2 : oL κ.2.2.2.2 k2 ≤ 100) (c1 : 0 ≤ k0.toInt) (ex3 : x3 = -k0) (fx3_0 : x3.toInt = -k0.toInt) (fx3_1 : sb_dg (Int.natAbs x3.toInt) = sb_dg (Int.natAbs k0.toInt)) (hi22_0 : y4.toInt ≤ 0) (hi22_1 : -2147483648 ≤ y4.toInt) (hi22_2 : ((sb_dg (Int.natAbs y4.toInt) : Nat) : Int) + (0 : Int32).toInt ≤ y5.toInt) (hi22_3 : y5.toInt ≤ ((oL P6 k2 : Nat) : Int)) (hi22_4 : SBS κ.2.2.2.2 P6) (hi22_5 : NS P6 k2) (kl7 : oL P6 k2 = oL κ.2.2.2.2 k2) (c8 : (-100) < y4.toInt) (ex9 : x9 = y5 + (-1 : Int32)) (tx9 : x9.toInt = y5.toInt + (-1)) (ex10 : x10 = -y4) (fx10 : x10.toInt = -y4.toInt) (c13 : y4.toInt < (-9)) (ex15 : x15 = x9 + (-1 : Int32)) (tx15 : x15.toInt = x9.toInt + (-1)) (ex16 : x16 = -y4) (fx16 : x16.toInt = -y4.toInt) : SBS κ.2.2.2.2 (sB (sB P6 k2 (upd (oB P6 k2) x9.toNatClampNeg (vp_nar .byte x11))) k2 (upd (oB (sB P6 k2 (upd (oB P6 k2) x9.toNatClampNeg (vp_nar .byte x11))) k2) x15.toNatClampNeg (vp_nar .byte x17))) := by
  have qm1 : (-1 : Int32).toInt = (-1) := by decide +kernel
  have q0 : (0 : Int32).toInt = 0 := by decide +kernel
  have zd0 := dg_spec (Int.natAbs k0.toInt)
  have zd1 := dg_spec (Int.natAbs x3.toInt)
  have zd2 := dg_spec (Int.natAbs y4.toInt)
  have zn0 := ngd_spec k0.toInt
  first | assumption | exact fun _ _ => ⟨rfl, rfl⟩
-- post2 @120
theorem vJ6_getChars_ba4f3_15 (sa : Nat → Nat) (κ : KS) (k0 : Int32) (k1 : Int32) (k2 : Nat) (x3 : Int32) (y4 : Int32) (y5 : Int32) (P6 : PL) (x9 : Int32) (x10 : Int32) (x11 : Int32) (x15 : Int32) (x16 : Int32) (x17 : Int32) (ht2 : oT κ.2.2.2.2 k2 = 8) (hPV : PV sa κ.2.2.2.2) (hpre_0 : (((sb_dg (Int.natAbs k0.toInt) + ngd k0.toInt) : Nat) : Int) ≤ k1.toInt) (hpre_1 : k1.toInt ≤ ((oL κ.2.2.2.2 k2 : Nat) : Int)) (hpre_2 : NS κ.2.2.2.2 k2) (hk0_0 : -2147483648 ≤ k0.toInt) (hk0_1 : k0.toInt ≤ 2147483647) (hl8_2 : oL κ.2.2.2.2 k2 ≤ 100) (c1 : 0 ≤ k0.toInt) (ex3 : x3 = -k0) (fx3_0 : x3.toInt = -k0.toInt) (fx3_1 : sb_dg (Int.natAbs x3.toInt) = sb_dg (Int.natAbs k0.toInt)) (hi22_0 : y4.toInt ≤ 0) (hi22_1 : -2147483648 ≤ y4.toInt) (hi22_2 : ((sb_dg (Int.natAbs y4.toInt) : Nat) : Int) + (0 : Int32).toInt ≤ y5.toInt) (hi22_3 : y5.toInt ≤ ((oL P6 k2 : Nat) : Int)) (hi22_4 : SBS κ.2.2.2.2 P6) (hi22_5 : NS P6 k2) (hf22_0 : EX κ.2.2.2.2 P6) (hf22_2 : KPx True κ.2.2.2.2 P6) (hi22y : GCH κ.2.2.2.2 P6 k2 k0.toInt y4.toInt y5.toInt k1.toInt) (kl7 : oL P6 k2 = oL κ.2.2.2.2 k2) (c8 : (-100) < y4.toInt) (ex9 : x9 = y5 + (-1 : Int32)) (tx9 : x9.toInt = y5.toInt + (-1)) (ex10 : x10 = -y4) (fx10 : x10.toInt = -y4.toInt) (dx11 : x11.toInt = 48 + ((x10.toNatClampNeg % 10 : Nat) : Int)) (exz12 : EX P6 (sB P6 k2 (upd (oB P6 k2) x9.toNatClampNeg (vp_nar .byte x11)))) (c13 : y4.toInt < (-9)) (ex15 : x15 = x9 + (-1 : Int32)) (tx15 : x15.toInt = x9.toInt + (-1)) (ex16 : x16 = -y4) (fx16 : x16.toInt = -y4.toInt) (dx17 : x17.toInt = 48 + ((x16.toNatClampNeg / 10 : Nat) : Int)) (exz18 : EX (sB P6 k2 (upd (oB P6 k2) x9.toNatClampNeg (vp_nar .byte x11))) (sB (sB P6 k2 (upd (oB P6 k2) x9.toNatClampNeg (vp_nar .byte x11))) k2 (upd (oB (sB P6 k2 (upd (oB P6 k2) x9.toNatClampNeg (vp_nar .byte x11))) k2) x15.toNatClampNeg (vp_nar .byte x17)))) : ∀ s9 : List Int, PFX κ.2.2.2.2 k2 s9 → k1.toInt = (s9.length : Int) + ((qDec k0.toInt).length : Int) → PFX (sB (sB P6 k2 (upd (oB P6 k2) x9.toNatClampNeg (vp_nar .byte x11))) k2 (upd (oB (sB P6 k2 (upd (oB P6 k2) x9.toNatClampNeg (vp_nar .byte x11))) k2) x15.toNatClampNeg (vp_nar .byte x17))) k2 (s9 ++ qDec k0.toInt) := by
  have qm1 : (-1 : Int32).toInt = (-1) := by decide +kernel
  have q0 : (0 : Int32).toInt = 0 := by decide +kernel
  have zd0 := dg_spec (Int.natAbs k0.toInt)
  have zd1 := dg_spec (Int.natAbs x3.toInt)
  have zd2 := dg_spec (Int.natAbs y4.toInt)
  have zn0 := ngd_spec k0.toInt
  intro s9 hs hl
  rw [clampN] at dx11 dx17
  have nx11 : vp_nar .byte x11 = x11 := q_b8x (by omega) (by omega)
  have nx17 : vp_nar .byte x17 = x17 := q_b8x (by omega) (by omega)
  rw [nx11, nx17]
  have g := hi22y.two9 (c := x11) (d := x17) (x := x9.toNatClampNeg) (y := x15.toNatClampNeg) (f := (upd (upd (oB P6 k2) x9.toNatClampNeg x11) x15.toNatClampNeg x17)) (p2 := x15.toInt) (by omega) (by omega) (by omega) (by omega) (by rw [clampN]; omega) (by rw [clampN]; omega) (by omega) (by omega) rfl
  exact GCH.pos9 g (by simp only [q_oB]) (by omega) hs hl
-- fact@31 @31
theorem vJ6_getChars_ba4f3_16 (κ : KS) (k0 : Int32) (k1 : Int32) (k2 : Nat) (x3 : Int32) (y4 : Int32) (y5 : Int32) (P6 : PL) (x20 : Int32) (hpre_0 : (((sb_dg (Int.natAbs k0.toInt) + ngd k0.toInt) : Nat) : Int) ≤ k1.toInt) (hpre_1 : k1.toInt ≤ ((oL κ.2.2.2.2 k2 : Nat) : Int)) (hpre_2 : NS κ.2.2.2.2 k2) (hk0_0 : -2147483648 ≤ k0.toInt) (hk0_1 : k0.toInt ≤ 2147483647) (hl8_2 : oL κ.2.2.2.2 k2 ≤ 100) (c1 : 0 ≤ k0.toInt) (ex3 : x3 = -k0) (fx3_0 : x3.toInt = -k0.toInt) (fx3_1 : sb_dg (Int.natAbs x3.toInt) = sb_dg (Int.natAbs k0.toInt)) (hi22_0 : y4.toInt ≤ 0) (hi22_1 : -2147483648 ≤ y4.toInt) (hi22_2 : ((sb_dg (Int.natAbs y4.toInt) : Nat) : Int) + (0 : Int32).toInt ≤ y5.toInt) (hi22_3 : y5.toInt ≤ ((oL P6 k2 : Nat) : Int)) (hi22_4 : SBS κ.2.2.2.2 P6) (hi22_5 : NS P6 k2) (kl7 : oL P6 k2 = oL κ.2.2.2.2 k2) (c8 : y4.toInt ≤ (-100)) (ex20 : x20 = y4 / (100 : Int32)) : x20.toInt = -((-y4.toInt) / 100) ∧ sb_dg (Int.natAbs y4.toInt) = sb_dg (Int.natAbs x20.toInt) + 2 := by
  have q0 : (0 : Int32).toInt = 0 := by decide +kernel
  have q100 : (100 : Int32).toInt = 100 := by decide +kernel
  have zd0 := dg_spec (Int.natAbs y4.toInt)
  have zd1 := dg_spec (Int.natAbs x20.toInt)
  have zd2 := dg_spec (Int.natAbs k0.toInt)
  have zd3 := dg_spec (Int.natAbs x3.toInt)
  have zn0 := ngd_spec k0.toInt
  refine (fun e9 => ⟨e9, dg_step (by omega) (Int32.le_toInt _) e9⟩) ?_
  rw [ex20]; exact z_dv100 (by omega)
-- nw@36 @36
theorem vJ6_getChars_ba4f3_17 (κ : KS) (k0 : Int32) (k1 : Int32) (k2 : Nat) (x3 : Int32) (y4 : Int32) (y5 : Int32) (P6 : PL) (x20 : Int32) (x21 : Int32) (hpre_0 : (((sb_dg (Int.natAbs k0.toInt) + ngd k0.toInt) : Nat) : Int) ≤ k1.toInt) (hpre_1 : k1.toInt ≤ ((oL κ.2.2.2.2 k2 : Nat) : Int)) (hpre_2 : NS κ.2.2.2.2 k2) (hk0_0 : -2147483648 ≤ k0.toInt) (hk0_1 : k0.toInt ≤ 2147483647) (hl8_2 : oL κ.2.2.2.2 k2 ≤ 100) (c1 : 0 ≤ k0.toInt) (ex3 : x3 = -k0) (fx3_0 : x3.toInt = -k0.toInt) (fx3_1 : sb_dg (Int.natAbs x3.toInt) = sb_dg (Int.natAbs k0.toInt)) (hi22_0 : y4.toInt ≤ 0) (hi22_1 : -2147483648 ≤ y4.toInt) (hi22_2 : ((sb_dg (Int.natAbs y4.toInt) : Nat) : Int) + (0 : Int32).toInt ≤ y5.toInt) (hi22_3 : y5.toInt ≤ ((oL P6 k2 : Nat) : Int)) (hi22_4 : SBS κ.2.2.2.2 P6) (hi22_5 : NS P6 k2) (kl7 : oL P6 k2 = oL κ.2.2.2.2 k2) (c8 : y4.toInt ≤ (-100)) (ex20 : x20 = y4 / (100 : Int32)) (fx20_0 : x20.toInt = -((-y4.toInt) / 100)) (fx20_1 : sb_dg (Int.natAbs y4.toInt) = sb_dg (Int.natAbs x20.toInt) + 2) (ex21 : x21 = x20 * (100 : Int32)) : x21.toInt = x20.toInt * 100 := by
  have q0 : (0 : Int32).toInt = 0 := by decide +kernel
  have q100 : (100 : Int32).toInt = 100 := by decide +kernel
  have zd0 := dg_spec (Int.natAbs k0.toInt)
  have zd1 := dg_spec (Int.natAbs x3.toInt)
  have zd2 := dg_spec (Int.natAbs y4.toInt)
  have zd3 := dg_spec (Int.natAbs x20.toInt)
  have zn0 := ngd_spec k0.toInt
  have w1 : (100 : Int32).toInt = 100 := by decide +kernel
  rw [ex21, Int32.mul_comm, z_mulc 100 w1 (by omega) (by omega)]; omega
-- nw@38 @38
theorem vJ6_getChars_ba4f3_18 (κ : KS) (k0 : Int32) (k1 : Int32) (k2 : Nat) (x3 : Int32) (y4 : Int32) (y5 : Int32) (P6 : PL) (x20 : Int32) (x21 : Int32) (x22 : Int32) (hpre_0 : (((sb_dg (Int.natAbs k0.toInt) + ngd k0.toInt) : Nat) : Int) ≤ k1.toInt) (hpre_1 : k1.toInt ≤ ((oL κ.2.2.2.2 k2 : Nat) : Int)) (hpre_2 : NS κ.2.2.2.2 k2) (hk0_0 : -2147483648 ≤ k0.toInt) (hk0_1 : k0.toInt ≤ 2147483647) (hl8_2 : oL κ.2.2.2.2 k2 ≤ 100) (c1 : 0 ≤ k0.toInt) (ex3 : x3 = -k0) (fx3_0 : x3.toInt = -k0.toInt) (fx3_1 : sb_dg (Int.natAbs x3.toInt) = sb_dg (Int.natAbs k0.toInt)) (hi22_0 : y4.toInt ≤ 0) (hi22_1 : -2147483648 ≤ y4.toInt) (hi22_2 : ((sb_dg (Int.natAbs y4.toInt) : Nat) : Int) + (0 : Int32).toInt ≤ y5.toInt) (hi22_3 : y5.toInt ≤ ((oL P6 k2 : Nat) : Int)) (hi22_4 : SBS κ.2.2.2.2 P6) (hi22_5 : NS P6 k2) (kl7 : oL P6 k2 = oL κ.2.2.2.2 k2) (c8 : y4.toInt ≤ (-100)) (ex20 : x20 = y4 / (100 : Int32)) (fx20_0 : x20.toInt = -((-y4.toInt) / 100)) (fx20_1 : sb_dg (Int.natAbs y4.toInt) = sb_dg (Int.natAbs x20.toInt) + 2) (ex21 : x21 = x20 * (100 : Int32)) (tx21 : x21.toInt = x20.toInt * 100) (ex22 : x22 = x21 - y4) : x22.toInt = x21.toInt - y4.toInt := by
  have q0 : (0 : Int32).toInt = 0 := by decide +kernel
  have q100 : (100 : Int32).toInt = 100 := by decide +kernel
  have zd0 := dg_spec (Int.natAbs k0.toInt)
  have zd1 := dg_spec (Int.natAbs x3.toInt)
  have zd2 := dg_spec (Int.natAbs y4.toInt)
  have zd3 := dg_spec (Int.natAbs x20.toInt)
  have zn0 := ngd_spec k0.toInt
  rw [ex22, z_sub (by omega) (by omega)]; first | done | omega
-- nw@44 @44
theorem vJ6_getChars_ba4f3_19 (κ : KS) (k0 : Int32) (k1 : Int32) (k2 : Nat) (x3 : Int32) (y4 : Int32) (y5 : Int32) (P6 : PL) (x20 : Int32) (x21 : Int32) (x22 : Int32) (x23 : Int32) (hpre_0 : (((sb_dg (Int.natAbs k0.toInt) + ngd k0.toInt) : Nat) : Int) ≤ k1.toInt) (hpre_1 : k1.toInt ≤ ((oL κ.2.2.2.2 k2 : Nat) : Int)) (hpre_2 : NS κ.2.2.2.2 k2) (hk0_0 : -2147483648 ≤ k0.toInt) (hk0_1 : k0.toInt ≤ 2147483647) (hl8_2 : oL κ.2.2.2.2 k2 ≤ 100) (c1 : 0 ≤ k0.toInt) (ex3 : x3 = -k0) (fx3_0 : x3.toInt = -k0.toInt) (fx3_1 : sb_dg (Int.natAbs x3.toInt) = sb_dg (Int.natAbs k0.toInt)) (hi22_0 : y4.toInt ≤ 0) (hi22_1 : -2147483648 ≤ y4.toInt) (hi22_2 : ((sb_dg (Int.natAbs y4.toInt) : Nat) : Int) + (0 : Int32).toInt ≤ y5.toInt) (hi22_3 : y5.toInt ≤ ((oL P6 k2 : Nat) : Int)) (hi22_4 : SBS κ.2.2.2.2 P6) (hi22_5 : NS P6 k2) (kl7 : oL P6 k2 = oL κ.2.2.2.2 k2) (c8 : y4.toInt ≤ (-100)) (ex20 : x20 = y4 / (100 : Int32)) (fx20_0 : x20.toInt = -((-y4.toInt) / 100)) (fx20_1 : sb_dg (Int.natAbs y4.toInt) = sb_dg (Int.natAbs x20.toInt) + 2) (ex21 : x21 = x20 * (100 : Int32)) (tx21 : x21.toInt = x20.toInt * 100) (ex22 : x22 = x21 - y4) (tx22 : x22.toInt = x21.toInt - y4.toInt) (ex23 : x23 = y5 + (-1 : Int32)) : x23.toInt = y5.toInt + (-1) := by
  have qm1 : (-1 : Int32).toInt = (-1) := by decide +kernel
  have q0 : (0 : Int32).toInt = 0 := by decide +kernel
  have q100 : (100 : Int32).toInt = 100 := by decide +kernel
  have zd0 := dg_spec (Int.natAbs k0.toInt)
  have zd1 := dg_spec (Int.natAbs x3.toInt)
  have zd2 := dg_spec (Int.natAbs y4.toInt)
  have zd3 := dg_spec (Int.natAbs x20.toInt)
  have zn0 := ngd_spec k0.toInt
  have z9 : ((-1) : Int32).toInt = -1 := by decide +kernel
  rw [ex23, z_add (by omega) (by omega)]; first | done | omega
-- in@54 @54
theorem vJ6_getChars_ba4f3_20 (κ : KS) (k0 : Int32) (k1 : Int32) (k2 : Nat) (x3 : Int32) (y4 : Int32) (y5 : Int32) (P6 : PL) (x20 : Int32) (x21 : Int32) (x22 : Int32) (x23 : Int32) (hpre_0 : (((sb_dg (Int.natAbs k0.toInt) + ngd k0.toInt) : Nat) : Int) ≤ k1.toInt) (hpre_1 : k1.toInt ≤ ((oL κ.2.2.2.2 k2 : Nat) : Int)) (hpre_2 : NS κ.2.2.2.2 k2) (hk0_0 : -2147483648 ≤ k0.toInt) (hk0_1 : k0.toInt ≤ 2147483647) (hl8_2 : oL κ.2.2.2.2 k2 ≤ 100) (c1 : 0 ≤ k0.toInt) (ex3 : x3 = -k0) (fx3_0 : x3.toInt = -k0.toInt) (fx3_1 : sb_dg (Int.natAbs x3.toInt) = sb_dg (Int.natAbs k0.toInt)) (hi22_0 : y4.toInt ≤ 0) (hi22_1 : -2147483648 ≤ y4.toInt) (hi22_2 : ((sb_dg (Int.natAbs y4.toInt) : Nat) : Int) + (0 : Int32).toInt ≤ y5.toInt) (hi22_3 : y5.toInt ≤ ((oL P6 k2 : Nat) : Int)) (hi22_4 : SBS κ.2.2.2.2 P6) (hi22_5 : NS P6 k2) (kl7 : oL P6 k2 = oL κ.2.2.2.2 k2) (c8 : y4.toInt ≤ (-100)) (ex20 : x20 = y4 / (100 : Int32)) (fx20_0 : x20.toInt = -((-y4.toInt) / 100)) (fx20_1 : sb_dg (Int.natAbs y4.toInt) = sb_dg (Int.natAbs x20.toInt) + 2) (ex21 : x21 = x20 * (100 : Int32)) (tx21 : x21.toInt = x20.toInt * 100) (ex22 : x22 = x21 - y4) (tx22 : x22.toInt = x21.toInt - y4.toInt) (ex23 : x23 = y5 + (-1 : Int32)) (tx23 : x23.toInt = y5.toInt + (-1)) : vp_in x22 100 := by
  have qm1 : (-1 : Int32).toInt = (-1) := by decide +kernel
  have q0 : (0 : Int32).toInt = 0 := by decide +kernel
  have q100 : (100 : Int32).toInt = 100 := by decide +kernel
  have zd0 := dg_spec (Int.natAbs k0.toInt)
  have zd1 := dg_spec (Int.natAbs x3.toInt)
  have zd2 := dg_spec (Int.natAbs y4.toInt)
  have zd3 := dg_spec (Int.natAbs x20.toInt)
  have zn0 := ngd_spec k0.toInt
  exact vp_in_iff.mpr ⟨by omega, by omega⟩
-- in@55 @55
theorem vJ6_getChars_ba4f3_21 (κ : KS) (k0 : Int32) (k1 : Int32) (k2 : Nat) (x3 : Int32) (y4 : Int32) (y5 : Int32) (P6 : PL) (x20 : Int32) (x21 : Int32) (x22 : Int32) (x23 : Int32) (hpre_0 : (((sb_dg (Int.natAbs k0.toInt) + ngd k0.toInt) : Nat) : Int) ≤ k1.toInt) (hpre_1 : k1.toInt ≤ ((oL κ.2.2.2.2 k2 : Nat) : Int)) (hpre_2 : NS κ.2.2.2.2 k2) (hk0_0 : -2147483648 ≤ k0.toInt) (hk0_1 : k0.toInt ≤ 2147483647) (hl8_2 : oL κ.2.2.2.2 k2 ≤ 100) (c1 : 0 ≤ k0.toInt) (ex3 : x3 = -k0) (fx3_0 : x3.toInt = -k0.toInt) (fx3_1 : sb_dg (Int.natAbs x3.toInt) = sb_dg (Int.natAbs k0.toInt)) (hi22_0 : y4.toInt ≤ 0) (hi22_1 : -2147483648 ≤ y4.toInt) (hi22_2 : ((sb_dg (Int.natAbs y4.toInt) : Nat) : Int) + (0 : Int32).toInt ≤ y5.toInt) (hi22_3 : y5.toInt ≤ ((oL P6 k2 : Nat) : Int)) (hi22_4 : SBS κ.2.2.2.2 P6) (hi22_5 : NS P6 k2) (kl7 : oL P6 k2 = oL κ.2.2.2.2 k2) (c8 : y4.toInt ≤ (-100)) (ex20 : x20 = y4 / (100 : Int32)) (fx20_0 : x20.toInt = -((-y4.toInt) / 100)) (fx20_1 : sb_dg (Int.natAbs y4.toInt) = sb_dg (Int.natAbs x20.toInt) + 2) (ex21 : x21 = x20 * (100 : Int32)) (tx21 : x21.toInt = x20.toInt * 100) (ex22 : x22 = x21 - y4) (tx22 : x22.toInt = x21.toInt - y4.toInt) (ex23 : x23 = y5 + (-1 : Int32)) (tx23 : x23.toInt = y5.toInt + (-1)) : vp_in x23 (oL P6 k2) := by
  have qm1 : (-1 : Int32).toInt = (-1) := by decide +kernel
  have q0 : (0 : Int32).toInt = 0 := by decide +kernel
  have q100 : (100 : Int32).toInt = 100 := by decide +kernel
  have zd0 := dg_spec (Int.natAbs k0.toInt)
  have zd1 := dg_spec (Int.natAbs x3.toInt)
  have zd2 := dg_spec (Int.natAbs y4.toInt)
  have zd3 := dg_spec (Int.natAbs x20.toInt)
  have zn0 := ngd_spec k0.toInt
  exact vp_in_iff.mpr ⟨by omega, by omega⟩
-- nw@57 @57
theorem vJ6_getChars_ba4f3_22 (κ : KS) (k0 : Int32) (k1 : Int32) (k2 : Nat) (x3 : Int32) (y4 : Int32) (y5 : Int32) (P6 : PL) (x20 : Int32) (x21 : Int32) (x22 : Int32) (x23 : Int32) (x26 : Int32) (hpre_0 : (((sb_dg (Int.natAbs k0.toInt) + ngd k0.toInt) : Nat) : Int) ≤ k1.toInt) (hpre_1 : k1.toInt ≤ ((oL κ.2.2.2.2 k2 : Nat) : Int)) (hpre_2 : NS κ.2.2.2.2 k2) (hk0_0 : -2147483648 ≤ k0.toInt) (hk0_1 : k0.toInt ≤ 2147483647) (hl8_2 : oL κ.2.2.2.2 k2 ≤ 100) (c1 : 0 ≤ k0.toInt) (ex3 : x3 = -k0) (fx3_0 : x3.toInt = -k0.toInt) (fx3_1 : sb_dg (Int.natAbs x3.toInt) = sb_dg (Int.natAbs k0.toInt)) (hi22_0 : y4.toInt ≤ 0) (hi22_1 : -2147483648 ≤ y4.toInt) (hi22_2 : ((sb_dg (Int.natAbs y4.toInt) : Nat) : Int) + (0 : Int32).toInt ≤ y5.toInt) (hi22_3 : y5.toInt ≤ ((oL P6 k2 : Nat) : Int)) (hi22_4 : SBS κ.2.2.2.2 P6) (hi22_5 : NS P6 k2) (kl7 : oL P6 k2 = oL κ.2.2.2.2 k2) (c8 : y4.toInt ≤ (-100)) (ex20 : x20 = y4 / (100 : Int32)) (fx20_0 : x20.toInt = -((-y4.toInt) / 100)) (fx20_1 : sb_dg (Int.natAbs y4.toInt) = sb_dg (Int.natAbs x20.toInt) + 2) (ex21 : x21 = x20 * (100 : Int32)) (tx21 : x21.toInt = x20.toInt * 100) (ex22 : x22 = x21 - y4) (tx22 : x22.toInt = x21.toInt - y4.toInt) (ex23 : x23 = y5 + (-1 : Int32)) (tx23 : x23.toInt = y5.toInt + (-1)) (ex26 : x26 = x23 + (-1 : Int32)) : x26.toInt = x23.toInt + (-1) := by
  have qm1 : (-1 : Int32).toInt = (-1) := by decide +kernel
  have q0 : (0 : Int32).toInt = 0 := by decide +kernel
  have q100 : (100 : Int32).toInt = 100 := by decide +kernel
  have zd0 := dg_spec (Int.natAbs k0.toInt)
  have zd1 := dg_spec (Int.natAbs x3.toInt)
  have zd2 := dg_spec (Int.natAbs y4.toInt)
  have zd3 := dg_spec (Int.natAbs x20.toInt)
  have zn0 := ngd_spec k0.toInt
  have z9 : ((-1) : Int32).toInt = -1 := by decide +kernel
  rw [ex26, z_add (by omega) (by omega)]; first | done | omega
-- in@67 @67
theorem vJ6_getChars_ba4f3_23 (κ : KS) (k0 : Int32) (k1 : Int32) (k2 : Nat) (x3 : Int32) (y4 : Int32) (y5 : Int32) (P6 : PL) (x20 : Int32) (x21 : Int32) (x22 : Int32) (x23 : Int32) (x26 : Int32) (hpre_0 : (((sb_dg (Int.natAbs k0.toInt) + ngd k0.toInt) : Nat) : Int) ≤ k1.toInt) (hpre_1 : k1.toInt ≤ ((oL κ.2.2.2.2 k2 : Nat) : Int)) (hpre_2 : NS κ.2.2.2.2 k2) (hk0_0 : -2147483648 ≤ k0.toInt) (hk0_1 : k0.toInt ≤ 2147483647) (hl8_2 : oL κ.2.2.2.2 k2 ≤ 100) (c1 : 0 ≤ k0.toInt) (ex3 : x3 = -k0) (fx3_0 : x3.toInt = -k0.toInt) (fx3_1 : sb_dg (Int.natAbs x3.toInt) = sb_dg (Int.natAbs k0.toInt)) (hi22_0 : y4.toInt ≤ 0) (hi22_1 : -2147483648 ≤ y4.toInt) (hi22_2 : ((sb_dg (Int.natAbs y4.toInt) : Nat) : Int) + (0 : Int32).toInt ≤ y5.toInt) (hi22_3 : y5.toInt ≤ ((oL P6 k2 : Nat) : Int)) (hi22_4 : SBS κ.2.2.2.2 P6) (hi22_5 : NS P6 k2) (kl7 : oL P6 k2 = oL κ.2.2.2.2 k2) (c8 : y4.toInt ≤ (-100)) (ex20 : x20 = y4 / (100 : Int32)) (fx20_0 : x20.toInt = -((-y4.toInt) / 100)) (fx20_1 : sb_dg (Int.natAbs y4.toInt) = sb_dg (Int.natAbs x20.toInt) + 2) (ex21 : x21 = x20 * (100 : Int32)) (tx21 : x21.toInt = x20.toInt * 100) (ex22 : x22 = x21 - y4) (tx22 : x22.toInt = x21.toInt - y4.toInt) (ex23 : x23 = y5 + (-1 : Int32)) (tx23 : x23.toInt = y5.toInt + (-1)) (ex26 : x26 = x23 + (-1 : Int32)) (tx26 : x26.toInt = x23.toInt + (-1)) : vp_in x22 100 := by
  have qm1 : (-1 : Int32).toInt = (-1) := by decide +kernel
  have q0 : (0 : Int32).toInt = 0 := by decide +kernel
  have q100 : (100 : Int32).toInt = 100 := by decide +kernel
  have zd0 := dg_spec (Int.natAbs k0.toInt)
  have zd1 := dg_spec (Int.natAbs x3.toInt)
  have zd2 := dg_spec (Int.natAbs y4.toInt)
  have zd3 := dg_spec (Int.natAbs x20.toInt)
  have zn0 := ngd_spec k0.toInt
  exact vp_in_iff.mpr ⟨by omega, by omega⟩
-- in@68 @68
theorem vJ6_getChars_ba4f3_24 (κ : KS) (k0 : Int32) (k1 : Int32) (k2 : Nat) (x3 : Int32) (y4 : Int32) (y5 : Int32) (P6 : PL) (x20 : Int32) (x21 : Int32) (x22 : Int32) (x23 : Int32) (x26 : Int32) (hpre_0 : (((sb_dg (Int.natAbs k0.toInt) + ngd k0.toInt) : Nat) : Int) ≤ k1.toInt) (hpre_1 : k1.toInt ≤ ((oL κ.2.2.2.2 k2 : Nat) : Int)) (hpre_2 : NS κ.2.2.2.2 k2) (hk0_0 : -2147483648 ≤ k0.toInt) (hk0_1 : k0.toInt ≤ 2147483647) (hl8_2 : oL κ.2.2.2.2 k2 ≤ 100) (c1 : 0 ≤ k0.toInt) (ex3 : x3 = -k0) (fx3_0 : x3.toInt = -k0.toInt) (fx3_1 : sb_dg (Int.natAbs x3.toInt) = sb_dg (Int.natAbs k0.toInt)) (hi22_0 : y4.toInt ≤ 0) (hi22_1 : -2147483648 ≤ y4.toInt) (hi22_2 : ((sb_dg (Int.natAbs y4.toInt) : Nat) : Int) + (0 : Int32).toInt ≤ y5.toInt) (hi22_3 : y5.toInt ≤ ((oL P6 k2 : Nat) : Int)) (hi22_4 : SBS κ.2.2.2.2 P6) (hi22_5 : NS P6 k2) (kl7 : oL P6 k2 = oL κ.2.2.2.2 k2) (c8 : y4.toInt ≤ (-100)) (ex20 : x20 = y4 / (100 : Int32)) (fx20_0 : x20.toInt = -((-y4.toInt) / 100)) (fx20_1 : sb_dg (Int.natAbs y4.toInt) = sb_dg (Int.natAbs x20.toInt) + 2) (ex21 : x21 = x20 * (100 : Int32)) (tx21 : x21.toInt = x20.toInt * 100) (ex22 : x22 = x21 - y4) (tx22 : x22.toInt = x21.toInt - y4.toInt) (ex23 : x23 = y5 + (-1 : Int32)) (tx23 : x23.toInt = y5.toInt + (-1)) (ex26 : x26 = x23 + (-1 : Int32)) (tx26 : x26.toInt = x23.toInt + (-1)) : vp_in x26 (oL P6 k2) := by
  have qm1 : (-1 : Int32).toInt = (-1) := by decide +kernel
  have q0 : (0 : Int32).toInt = 0 := by decide +kernel
  have q100 : (100 : Int32).toInt = 100 := by decide +kernel
  have zd0 := dg_spec (Int.natAbs k0.toInt)
  have zd1 := dg_spec (Int.natAbs x3.toInt)
  have zd2 := dg_spec (Int.natAbs y4.toInt)
  have zd3 := dg_spec (Int.natAbs x20.toInt)
  have zn0 := ngd_spec k0.toInt
  exact vp_in_iff.mpr ⟨by omega, by omega⟩
-- inv@22 @22
theorem vJ6_getChars_ba4f3_25 (κ : KS) (k0 : Int32) (k1 : Int32) (k2 : Nat) (x3 : Int32) (y4 : Int32) (y5 : Int32) (P6 : PL) (x20 : Int32) (x21 : Int32) (x22 : Int32) (x23 : Int32) (x24 : Int32) (x26 : Int32) (x27 : Int32) (hpre_0 : (((sb_dg (Int.natAbs k0.toInt) + ngd k0.toInt) : Nat) : Int) ≤ k1.toInt) (hpre_1 : k1.toInt ≤ ((oL κ.2.2.2.2 k2 : Nat) : Int)) (hpre_2 : NS κ.2.2.2.2 k2) (hk0_0 : -2147483648 ≤ k0.toInt) (hk0_1 : k0.toInt ≤ 2147483647) (hl8_2 : oL κ.2.2.2.2 k2 ≤ 100) (c1 : 0 ≤ k0.toInt) (ex3 : x3 = -k0) (fx3_0 : x3.toInt = -k0.toInt) (fx3_1 : sb_dg (Int.natAbs x3.toInt) = sb_dg (Int.natAbs k0.toInt)) (hi22_0 : y4.toInt ≤ 0) (hi22_1 : -2147483648 ≤ y4.toInt) (hi22_2 : ((sb_dg (Int.natAbs y4.toInt) : Nat) : Int) + (0 : Int32).toInt ≤ y5.toInt) (hi22_3 : y5.toInt ≤ ((oL P6 k2 : Nat) : Int)) (hi22_4 : SBS κ.2.2.2.2 P6) (hi22_5 : NS P6 k2) (kl7 : oL P6 k2 = oL κ.2.2.2.2 k2) (c8 : y4.toInt ≤ (-100)) (ex20 : x20 = y4 / (100 : Int32)) (fx20_0 : x20.toInt = -((-y4.toInt) / 100)) (fx20_1 : sb_dg (Int.natAbs y4.toInt) = sb_dg (Int.natAbs x20.toInt) + 2) (ex21 : x21 = x20 * (100 : Int32)) (tx21 : x21.toInt = x20.toInt * 100) (ex22 : x22 = x21 - y4) (tx22 : x22.toInt = x21.toInt - y4.toInt) (ex23 : x23 = y5 + (-1 : Int32)) (tx23 : x23.toInt = y5.toInt + (-1)) (ex26 : x26 = x23 + (-1 : Int32)) (tx26 : x26.toInt = x23.toInt + (-1)) : x20.toInt ≤ 0 ∧ -2147483648 ≤ x20.toInt ∧ ((sb_dg (Int.natAbs x20.toInt) : Nat) : Int) + (0 : Int32).toInt ≤ x26.toInt ∧ x26.toInt ≤ ((oL P6 k2 : Nat) : Int) ∧ SBS κ.2.2.2.2 (sB (sB P6 k2 (upd (oB P6 k2) x23.toNatClampNeg (vp_nar .byte x24))) k2 (upd (oB (sB P6 k2 (upd (oB P6 k2) x23.toNatClampNeg (vp_nar .byte x24))) k2) x26.toNatClampNeg (vp_nar .byte x27))) := by
  have qm1 : (-1 : Int32).toInt = (-1) := by decide +kernel
  have q0 : (0 : Int32).toInt = 0 := by decide +kernel
  have q100 : (100 : Int32).toInt = 100 := by decide +kernel
  have zd0 := dg_spec (Int.natAbs x20.toInt)
  have zd1 := dg_spec (Int.natAbs k0.toInt)
  have zd2 := dg_spec (Int.natAbs x3.toInt)
  have zd3 := dg_spec (Int.natAbs y4.toInt)
  have zn0 := ngd_spec k0.toInt
  refine ⟨?_, ?_, ?_, ?_, ?_⟩ <;> first | assumption | omega | (subst_vars; omega) | trivial | exact SBS.rf
-- inv2@22 @22
theorem vJ6_getChars_ba4f3_26 (sa : Nat → Nat) (κ : KS) (k0 : Int32) (k1 : Int32) (k2 : Nat) (x3 : Int32) (y4 : Int32) (y5 : Int32) (P6 : PL) (x20 : Int32) (x21 : Int32) (x22 : Int32) (x23 : Int32) (x24 : Int32) (x26 : Int32) (x27 : Int32) (ht2 : oT κ.2.2.2.2 k2 = 8) (hPV : PV sa κ.2.2.2.2) (hpre_0 : (((sb_dg (Int.natAbs k0.toInt) + ngd k0.toInt) : Nat) : Int) ≤ k1.toInt) (hpre_1 : k1.toInt ≤ ((oL κ.2.2.2.2 k2 : Nat) : Int)) (hpre_2 : NS κ.2.2.2.2 k2) (hk0_0 : -2147483648 ≤ k0.toInt) (hk0_1 : k0.toInt ≤ 2147483647) (hl8_2 : oL κ.2.2.2.2 k2 ≤ 100) (c1 : 0 ≤ k0.toInt) (ex3 : x3 = -k0) (fx3_0 : x3.toInt = -k0.toInt) (fx3_1 : sb_dg (Int.natAbs x3.toInt) = sb_dg (Int.natAbs k0.toInt)) (hi22_0 : y4.toInt ≤ 0) (hi22_1 : -2147483648 ≤ y4.toInt) (hi22_2 : ((sb_dg (Int.natAbs y4.toInt) : Nat) : Int) + (0 : Int32).toInt ≤ y5.toInt) (hi22_3 : y5.toInt ≤ ((oL P6 k2 : Nat) : Int)) (hi22_4 : SBS κ.2.2.2.2 P6) (hi22_5 : NS P6 k2) (hf22_0 : EX κ.2.2.2.2 P6) (hf22_2 : KPx True κ.2.2.2.2 P6) (hi22y : GCH κ.2.2.2.2 P6 k2 k0.toInt y4.toInt y5.toInt k1.toInt) (kl7 : oL P6 k2 = oL κ.2.2.2.2 k2) (c8 : y4.toInt ≤ (-100)) (ex20 : x20 = y4 / (100 : Int32)) (fx20_0 : x20.toInt = -((-y4.toInt) / 100)) (fx20_1 : sb_dg (Int.natAbs y4.toInt) = sb_dg (Int.natAbs x20.toInt) + 2) (ex21 : x21 = x20 * (100 : Int32)) (tx21 : x21.toInt = x20.toInt * 100) (ex22 : x22 = x21 - y4) (tx22 : x22.toInt = x21.toInt - y4.toInt) (ex23 : x23 = y5 + (-1 : Int32)) (tx23 : x23.toInt = y5.toInt + (-1)) (dx24 : x24.toInt = 48 + ((x22.toNatClampNeg % 10 : Nat) : Int)) (exz25 : EX P6 (sB P6 k2 (upd (oB P6 k2) x23.toNatClampNeg (vp_nar .byte x24)))) (ex26 : x26 = x23 + (-1 : Int32)) (tx26 : x26.toInt = x23.toInt + (-1)) (dx27 : x27.toInt = 48 + ((x22.toNatClampNeg / 10 : Nat) : Int)) (exz28 : EX (sB P6 k2 (upd (oB P6 k2) x23.toNatClampNeg (vp_nar .byte x24))) (sB (sB P6 k2 (upd (oB P6 k2) x23.toNatClampNeg (vp_nar .byte x24))) k2 (upd (oB (sB P6 k2 (upd (oB P6 k2) x23.toNatClampNeg (vp_nar .byte x24))) k2) x26.toNatClampNeg (vp_nar .byte x27)))) : GCH κ.2.2.2.2 (sB (sB P6 k2 (upd (oB P6 k2) x23.toNatClampNeg (vp_nar .byte x24))) k2 (upd (oB (sB P6 k2 (upd (oB P6 k2) x23.toNatClampNeg (vp_nar .byte x24))) k2) x26.toNatClampNeg (vp_nar .byte x27))) k2 k0.toInt x20.toInt x26.toInt k1.toInt := by
  have qm1 : (-1 : Int32).toInt = (-1) := by decide +kernel
  have q0 : (0 : Int32).toInt = 0 := by decide +kernel
  have q100 : (100 : Int32).toInt = 100 := by decide +kernel
  have zd0 := dg_spec (Int.natAbs k0.toInt)
  have zd1 := dg_spec (Int.natAbs x3.toInt)
  have zd2 := dg_spec (Int.natAbs y4.toInt)
  have zd3 := dg_spec (Int.natAbs x20.toInt)
  have zn0 := ngd_spec k0.toInt
  rw [clampN] at dx24 dx27
  have nx24 : vp_nar .byte x24 = x24 := q_b8x (by omega) (by omega)
  have nx27 : vp_nar .byte x27 = x27 := q_b8x (by omega) (by omega)
  rw [nx24, nx27]
  exact hi22y.step9 (c := x24) (d := x27) (x := x23.toNatClampNeg) (y := x26.toNatClampNeg) (by omega) (by omega) (by omega) (by omega) (by omega) (by rw [clampN]; omega) (by rw [clampN]; omega) (by omega) (by omega) (by simp only [q_oB])
-- meas@22 @22
theorem vJ6_getChars_ba4f3_27 (κ : KS) (k0 : Int32) (k1 : Int32) (k2 : Nat) (x3 : Int32) (y4 : Int32) (y5 : Int32) (P6 : PL) (x20 : Int32) (x21 : Int32) (x22 : Int32) (x23 : Int32) (x26 : Int32) (hpre_0 : (((sb_dg (Int.natAbs k0.toInt) + ngd k0.toInt) : Nat) : Int) ≤ k1.toInt) (hpre_1 : k1.toInt ≤ ((oL κ.2.2.2.2 k2 : Nat) : Int)) (hpre_2 : NS κ.2.2.2.2 k2) (hk0_0 : -2147483648 ≤ k0.toInt) (hk0_1 : k0.toInt ≤ 2147483647) (hl8_2 : oL κ.2.2.2.2 k2 ≤ 100) (c1 : 0 ≤ k0.toInt) (ex3 : x3 = -k0) (fx3_0 : x3.toInt = -k0.toInt) (fx3_1 : sb_dg (Int.natAbs x3.toInt) = sb_dg (Int.natAbs k0.toInt)) (hi22_0 : y4.toInt ≤ 0) (hi22_1 : -2147483648 ≤ y4.toInt) (hi22_2 : ((sb_dg (Int.natAbs y4.toInt) : Nat) : Int) + (0 : Int32).toInt ≤ y5.toInt) (hi22_3 : y5.toInt ≤ ((oL P6 k2 : Nat) : Int)) (hi22_4 : SBS κ.2.2.2.2 P6) (hi22_5 : NS P6 k2) (kl7 : oL P6 k2 = oL κ.2.2.2.2 k2) (c8 : y4.toInt ≤ (-100)) (ex20 : x20 = y4 / (100 : Int32)) (fx20_0 : x20.toInt = -((-y4.toInt) / 100)) (fx20_1 : sb_dg (Int.natAbs y4.toInt) = sb_dg (Int.natAbs x20.toInt) + 2) (ex21 : x21 = x20 * (100 : Int32)) (tx21 : x21.toInt = x20.toInt * 100) (ex22 : x22 = x21 - y4) (tx22 : x22.toInt = x21.toInt - y4.toInt) (ex23 : x23 = y5 + (-1 : Int32)) (tx23 : x23.toInt = y5.toInt + (-1)) (ex26 : x26 = x23 + (-1 : Int32)) (tx26 : x26.toInt = x23.toInt + (-1)) : (-x20.toInt).toNat < (-y4.toInt).toNat := by
  have qm1 : (-1 : Int32).toInt = (-1) := by decide +kernel
  have q0 : (0 : Int32).toInt = 0 := by decide +kernel
  have q100 : (100 : Int32).toInt = 100 := by decide +kernel
  have zd0 := dg_spec (Int.natAbs k0.toInt)
  have zd1 := dg_spec (Int.natAbs x3.toInt)
  have zd2 := dg_spec (Int.natAbs y4.toInt)
  have zd3 := dg_spec (Int.natAbs x20.toInt)
  have zn0 := ngd_spec k0.toInt
  first | assumption | omega | (subst_vars; omega) | trivial
-- init@22 @22
theorem vJ6_getChars_ba4f3_28 (κ : KS) (k0 : Int32) (k1 : Int32) (k2 : Nat) (hpre_0 : (((sb_dg (Int.natAbs k0.toInt) + ngd k0.toInt) : Nat) : Int) ≤ k1.toInt) (hpre_1 : k1.toInt ≤ ((oL κ.2.2.2.2 k2 : Nat) : Int)) (hpre_2 : NS κ.2.2.2.2 k2) (hk0_0 : -2147483648 ≤ k0.toInt) (hk0_1 : k0.toInt ≤ 2147483647) (hl8_2 : oL κ.2.2.2.2 k2 ≤ 100) (c1 : k0.toInt < 0) : k0.toInt ≤ 0 ∧ -2147483648 ≤ k0.toInt ∧ ((sb_dg (Int.natAbs k0.toInt) : Nat) : Int) + (1 : Int32).toInt ≤ k1.toInt ∧ k1.toInt ≤ ((oL κ.2.2.2.2 k2 : Nat) : Int) ∧ SBS κ.2.2.2.2 κ.2.2.2.2 := by
  have q1 : (1 : Int32).toInt = 1 := by decide +kernel
  have zd0 := dg_spec (Int.natAbs k0.toInt)
  have zn0 := ngd_spec k0.toInt
  refine ⟨?_, ?_, ?_, ?_, ?_⟩ <;> first | assumption | omega | (subst_vars; omega) | trivial | exact SBS.rf
-- init2@22 @22
theorem vJ6_getChars_ba4f3_29 (sa : Nat → Nat) (κ : KS) (k0 : Int32) (k1 : Int32) (k2 : Nat) (ht2 : oT κ.2.2.2.2 k2 = 8) (hPV : PV sa κ.2.2.2.2) (hpre_0 : (((sb_dg (Int.natAbs k0.toInt) + ngd k0.toInt) : Nat) : Int) ≤ k1.toInt) (hpre_1 : k1.toInt ≤ ((oL κ.2.2.2.2 k2 : Nat) : Int)) (hpre_2 : NS κ.2.2.2.2 k2) (hk0_0 : -2147483648 ≤ k0.toInt) (hk0_1 : k0.toInt ≤ 2147483647) (hl8_2 : oL κ.2.2.2.2 k2 ≤ 100) (c1 : k0.toInt < 0) : GCH κ.2.2.2.2 κ.2.2.2.2 k2 k0.toInt k0.toInt k1.toInt k1.toInt := by
  have zd0 := dg_spec (Int.natAbs k0.toInt)
  have zn0 := ngd_spec k0.toInt
  exact GCH.start9 (by omega) rfl
-- nw@73 @73
theorem vJ6_getChars_ba4f3_30 (κ : KS) (k0 : Int32) (k1 : Int32) (k2 : Nat) (y30 : Int32) (y31 : Int32) (P32 : PL) (x35 : Int32) (hpre_0 : (((sb_dg (Int.natAbs k0.toInt) + ngd k0.toInt) : Nat) : Int) ≤ k1.toInt) (hpre_1 : k1.toInt ≤ ((oL κ.2.2.2.2 k2 : Nat) : Int)) (hpre_2 : NS κ.2.2.2.2 k2) (hk0_0 : -2147483648 ≤ k0.toInt) (hk0_1 : k0.toInt ≤ 2147483647) (hl8_2 : oL κ.2.2.2.2 k2 ≤ 100) (c1 : k0.toInt < 0) (hi22_0 : y30.toInt ≤ 0) (hi22_1 : -2147483648 ≤ y30.toInt) (hi22_2 : ((sb_dg (Int.natAbs y30.toInt) : Nat) : Int) + (1 : Int32).toInt ≤ y31.toInt) (hi22_3 : y31.toInt ≤ ((oL P32 k2 : Nat) : Int)) (hi22_4 : SBS κ.2.2.2.2 P32) (hi22_5 : NS P32 k2) (kl33 : oL P32 k2 = oL κ.2.2.2.2 k2) (c34 : (-100) < y30.toInt) (ex35 : x35 = y31 + (-1 : Int32)) : x35.toInt = y31.toInt + (-1) := by
  have qm1 : (-1 : Int32).toInt = (-1) := by decide +kernel
  have q1 : (1 : Int32).toInt = 1 := by decide +kernel
  have zd0 := dg_spec (Int.natAbs k0.toInt)
  have zd1 := dg_spec (Int.natAbs y30.toInt)
  have zn0 := ngd_spec k0.toInt
  have z9 : ((-1) : Int32).toInt = -1 := by decide +kernel
  rw [ex35, z_add (by omega) (by omega)]; first | done | omega
-- fact@82 @82
theorem vJ6_getChars_ba4f3_31 (κ : KS) (k0 : Int32) (k1 : Int32) (k2 : Nat) (y30 : Int32) (y31 : Int32) (P32 : PL) (x35 : Int32) (x36 : Int32) (hpre_0 : (((sb_dg (Int.natAbs k0.toInt) + ngd k0.toInt) : Nat) : Int) ≤ k1.toInt) (hpre_1 : k1.toInt ≤ ((oL κ.2.2.2.2 k2 : Nat) : Int)) (hpre_2 : NS κ.2.2.2.2 k2) (hk0_0 : -2147483648 ≤ k0.toInt) (hk0_1 : k0.toInt ≤ 2147483647) (hl8_2 : oL κ.2.2.2.2 k2 ≤ 100) (c1 : k0.toInt < 0) (hi22_0 : y30.toInt ≤ 0) (hi22_1 : -2147483648 ≤ y30.toInt) (hi22_2 : ((sb_dg (Int.natAbs y30.toInt) : Nat) : Int) + (1 : Int32).toInt ≤ y31.toInt) (hi22_3 : y31.toInt ≤ ((oL P32 k2 : Nat) : Int)) (hi22_4 : SBS κ.2.2.2.2 P32) (hi22_5 : NS P32 k2) (kl33 : oL P32 k2 = oL κ.2.2.2.2 k2) (c34 : (-100) < y30.toInt) (ex35 : x35 = y31 + (-1 : Int32)) (tx35 : x35.toInt = y31.toInt + (-1)) (ex36 : x36 = -y30) : x36.toInt = -y30.toInt := by
  have qm1 : (-1 : Int32).toInt = (-1) := by decide +kernel
  have q1 : (1 : Int32).toInt = 1 := by decide +kernel
  have zd0 := dg_spec (Int.natAbs k0.toInt)
  have zd1 := dg_spec (Int.natAbs y30.toInt)
  have zn0 := ngd_spec k0.toInt
  rw [ex36]; exact z_ng (by omega)
-- in@83 @83
theorem vJ6_getChars_ba4f3_32 (κ : KS) (k0 : Int32) (k1 : Int32) (k2 : Nat) (y30 : Int32) (y31 : Int32) (P32 : PL) (x35 : Int32) (x36 : Int32) (hpre_0 : (((sb_dg (Int.natAbs k0.toInt) + ngd k0.toInt) : Nat) : Int) ≤ k1.toInt) (hpre_1 : k1.toInt ≤ ((oL κ.2.2.2.2 k2 : Nat) : Int)) (hpre_2 : NS κ.2.2.2.2 k2) (hk0_0 : -2147483648 ≤ k0.toInt) (hk0_1 : k0.toInt ≤ 2147483647) (hl8_2 : oL κ.2.2.2.2 k2 ≤ 100) (c1 : k0.toInt < 0) (hi22_0 : y30.toInt ≤ 0) (hi22_1 : -2147483648 ≤ y30.toInt) (hi22_2 : ((sb_dg (Int.natAbs y30.toInt) : Nat) : Int) + (1 : Int32).toInt ≤ y31.toInt) (hi22_3 : y31.toInt ≤ ((oL P32 k2 : Nat) : Int)) (hi22_4 : SBS κ.2.2.2.2 P32) (hi22_5 : NS P32 k2) (kl33 : oL P32 k2 = oL κ.2.2.2.2 k2) (c34 : (-100) < y30.toInt) (ex35 : x35 = y31 + (-1 : Int32)) (tx35 : x35.toInt = y31.toInt + (-1)) (ex36 : x36 = -y30) (fx36 : x36.toInt = -y30.toInt) : vp_in x36 100 := by
  have qm1 : (-1 : Int32).toInt = (-1) := by decide +kernel
  have q1 : (1 : Int32).toInt = 1 := by decide +kernel
  have zd0 := dg_spec (Int.natAbs k0.toInt)
  have zd1 := dg_spec (Int.natAbs y30.toInt)
  have zn0 := ngd_spec k0.toInt
  exact vp_in_iff.mpr ⟨by omega, by omega⟩
-- in@84 @84
theorem vJ6_getChars_ba4f3_33 (κ : KS) (k0 : Int32) (k1 : Int32) (k2 : Nat) (y30 : Int32) (y31 : Int32) (P32 : PL) (x35 : Int32) (x36 : Int32) (hpre_0 : (((sb_dg (Int.natAbs k0.toInt) + ngd k0.toInt) : Nat) : Int) ≤ k1.toInt) (hpre_1 : k1.toInt ≤ ((oL κ.2.2.2.2 k2 : Nat) : Int)) (hpre_2 : NS κ.2.2.2.2 k2) (hk0_0 : -2147483648 ≤ k0.toInt) (hk0_1 : k0.toInt ≤ 2147483647) (hl8_2 : oL κ.2.2.2.2 k2 ≤ 100) (c1 : k0.toInt < 0) (hi22_0 : y30.toInt ≤ 0) (hi22_1 : -2147483648 ≤ y30.toInt) (hi22_2 : ((sb_dg (Int.natAbs y30.toInt) : Nat) : Int) + (1 : Int32).toInt ≤ y31.toInt) (hi22_3 : y31.toInt ≤ ((oL P32 k2 : Nat) : Int)) (hi22_4 : SBS κ.2.2.2.2 P32) (hi22_5 : NS P32 k2) (kl33 : oL P32 k2 = oL κ.2.2.2.2 k2) (c34 : (-100) < y30.toInt) (ex35 : x35 = y31 + (-1 : Int32)) (tx35 : x35.toInt = y31.toInt + (-1)) (ex36 : x36 = -y30) (fx36 : x36.toInt = -y30.toInt) : vp_in x35 (oL P32 k2) := by
  have qm1 : (-1 : Int32).toInt = (-1) := by decide +kernel
  have q1 : (1 : Int32).toInt = 1 := by decide +kernel
  have zd0 := dg_spec (Int.natAbs k0.toInt)
  have zd1 := dg_spec (Int.natAbs y30.toInt)
  have zn0 := ngd_spec k0.toInt
  exact vp_in_iff.mpr ⟨by omega, by omega⟩
-- nw@110 @110
theorem vJ6_getChars_ba4f3_34 (κ : KS) (k0 : Int32) (k1 : Int32) (k2 : Nat) (y30 : Int32) (y31 : Int32) (P32 : PL) (x35 : Int32) (x36 : Int32) (x41 : Int32) (hpre_0 : (((sb_dg (Int.natAbs k0.toInt) + ngd k0.toInt) : Nat) : Int) ≤ k1.toInt) (hpre_1 : k1.toInt ≤ ((oL κ.2.2.2.2 k2 : Nat) : Int)) (hpre_2 : NS κ.2.2.2.2 k2) (hk0_0 : -2147483648 ≤ k0.toInt) (hk0_1 : k0.toInt ≤ 2147483647) (hl8_2 : oL κ.2.2.2.2 k2 ≤ 100) (c1 : k0.toInt < 0) (hi22_0 : y30.toInt ≤ 0) (hi22_1 : -2147483648 ≤ y30.toInt) (hi22_2 : ((sb_dg (Int.natAbs y30.toInt) : Nat) : Int) + (1 : Int32).toInt ≤ y31.toInt) (hi22_3 : y31.toInt ≤ ((oL P32 k2 : Nat) : Int)) (hi22_4 : SBS κ.2.2.2.2 P32) (hi22_5 : NS P32 k2) (kl33 : oL P32 k2 = oL κ.2.2.2.2 k2) (c34 : (-100) < y30.toInt) (ex35 : x35 = y31 + (-1 : Int32)) (tx35 : x35.toInt = y31.toInt + (-1)) (ex36 : x36 = -y30) (fx36 : x36.toInt = -y30.toInt) (c39 : (-9) ≤ y30.toInt) (ex41 : x41 = x35 + (-1 : Int32)) : x41.toInt = x35.toInt + (-1) := by
  have qm1 : (-1 : Int32).toInt = (-1) := by decide +kernel
  have q1 : (1 : Int32).toInt = 1 := by decide +kernel
  have zd0 := dg_spec (Int.natAbs k0.toInt)
  have zd1 := dg_spec (Int.natAbs y30.toInt)
  have zn0 := ngd_spec k0.toInt
  have z9 : ((-1) : Int32).toInt = -1 := by decide +kernel
  rw [ex41, z_add (by omega) (by omega)]; first | done | omega
-- in@117 @117
theorem vJ6_getChars_ba4f3_35 (κ : KS) (k0 : Int32) (k1 : Int32) (k2 : Nat) (y30 : Int32) (y31 : Int32) (P32 : PL) (x35 : Int32) (x36 : Int32) (x41 : Int32) (hpre_0 : (((sb_dg (Int.natAbs k0.toInt) + ngd k0.toInt) : Nat) : Int) ≤ k1.toInt) (hpre_1 : k1.toInt ≤ ((oL κ.2.2.2.2 k2 : Nat) : Int)) (hpre_2 : NS κ.2.2.2.2 k2) (hk0_0 : -2147483648 ≤ k0.toInt) (hk0_1 : k0.toInt ≤ 2147483647) (hl8_2 : oL κ.2.2.2.2 k2 ≤ 100) (c1 : k0.toInt < 0) (hi22_0 : y30.toInt ≤ 0) (hi22_1 : -2147483648 ≤ y30.toInt) (hi22_2 : ((sb_dg (Int.natAbs y30.toInt) : Nat) : Int) + (1 : Int32).toInt ≤ y31.toInt) (hi22_3 : y31.toInt ≤ ((oL P32 k2 : Nat) : Int)) (hi22_4 : SBS κ.2.2.2.2 P32) (hi22_5 : NS P32 k2) (kl33 : oL P32 k2 = oL κ.2.2.2.2 k2) (c34 : (-100) < y30.toInt) (ex35 : x35 = y31 + (-1 : Int32)) (tx35 : x35.toInt = y31.toInt + (-1)) (ex36 : x36 = -y30) (fx36 : x36.toInt = -y30.toInt) (c39 : (-9) ≤ y30.toInt) (ex41 : x41 = x35 + (-1 : Int32)) (tx41 : x41.toInt = x35.toInt + (-1)) : vp_in x41 (oL P32 k2) := by
  have qm1 : (-1 : Int32).toInt = (-1) := by decide +kernel
  have q1 : (1 : Int32).toInt = 1 := by decide +kernel
  have zd0 := dg_spec (Int.natAbs k0.toInt)
  have zd1 := dg_spec (Int.natAbs y30.toInt)
  have zn0 := ngd_spec k0.toInt
  exact vp_in_iff.mpr ⟨by omega, by omega⟩
-- sbs @120
theorem vJ6_getChars_ba4f3_36 (κ : KS) (k0 : Int32) (k1 : Int32) (k2 : Nat) (y30 : Int32) (y31 : Int32) (P32 : PL) (x35 : Int32) (x36 : Int32) (x37 : Int32) (x41 : Int32) (hpre_0 : (((sb_dg (Int.natAbs k0.toInt) + ngd k0.toInt) : Nat) : Int) ≤ k1.toInt) (hpre_1 : k1.toInt ≤ ((oL κ.2.2.2.2 k2 : Nat) : Int)) (hpre_2 : NS κ.2.2.2.2 k2) (hk0_0 : -2147483648 ≤ k0.toInt) (hk0_1 : k0.toInt ≤ 2147483647) (hl8_2 : oL κ.2.2.2.2 k2 ≤ 100) (c1 : k0.toInt < 0) (hi22_0 : y30.toInt ≤ 0) (hi22_1 : -2147483648 ≤ y30.toInt) (hi22_2 : ((sb_dg (Int.natAbs y30.toInt) : Nat) : Int) + (1 : Int32).toInt ≤ y31.toInt) (hi22_3 : y31.toInt ≤ ((oL P32 k2 : Nat) : Int)) (hi22_4 : SBS κ.2.2.2.2 P32) (hi22_5 : NS P32 k2) (kl33 : oL P32 k2 = oL κ.2.2.2.2 k2) (c34 : (-100) < y30.toInt) (ex35 : x35 = y31 + (-1 : Int32)) (tx35 : x35.toInt = y31.toInt + (-1)) (ex36 : x36 = -y30) (fx36 : x36.toInt = -y30.toInt) (c39 : (-9) ≤ y30.toInt) (ex41 : x41 = x35 + (-1 : Int32)) (tx41 : x41.toInt = x35.toInt + (-1)) : SBS κ.2.2.2.2 (sB (sB P32 k2 (upd (oB P32 k2) x35.toNatClampNeg (vp_nar .byte x37))) k2 (upd (oB (sB P32 k2 (upd (oB P32 k2) x35.toNatClampNeg (vp_nar .byte x37))) k2) x41.toNatClampNeg (vp_nar .byte (45 : Int32)))) := by
  have qm1 : (-1 : Int32).toInt = (-1) := by decide +kernel
  have q1 : (1 : Int32).toInt = 1 := by decide +kernel
  have q45 : (45 : Int32).toInt = 45 := by decide +kernel
  have zd0 := dg_spec (Int.natAbs k0.toInt)
  have zd1 := dg_spec (Int.natAbs y30.toInt)
  have zn0 := ngd_spec k0.toInt
  first | assumption | exact fun _ _ => ⟨rfl, rfl⟩
-- post2 @120
theorem vJ6_getChars_ba4f3_37 (sa : Nat → Nat) (κ : KS) (k0 : Int32) (k1 : Int32) (k2 : Nat) (y30 : Int32) (y31 : Int32) (P32 : PL) (x35 : Int32) (x36 : Int32) (x37 : Int32) (x41 : Int32) (ht2 : oT κ.2.2.2.2 k2 = 8) (hPV : PV sa κ.2.2.2.2) (hpre_0 : (((sb_dg (Int.natAbs k0.toInt) + ngd k0.toInt) : Nat) : Int) ≤ k1.toInt) (hpre_1 : k1.toInt ≤ ((oL κ.2.2.2.2 k2 : Nat) : Int)) (hpre_2 : NS κ.2.2.2.2 k2) (hk0_0 : -2147483648 ≤ k0.toInt) (hk0_1 : k0.toInt ≤ 2147483647) (hl8_2 : oL κ.2.2.2.2 k2 ≤ 100) (c1 : k0.toInt < 0) (hi22_0 : y30.toInt ≤ 0) (hi22_1 : -2147483648 ≤ y30.toInt) (hi22_2 : ((sb_dg (Int.natAbs y30.toInt) : Nat) : Int) + (1 : Int32).toInt ≤ y31.toInt) (hi22_3 : y31.toInt ≤ ((oL P32 k2 : Nat) : Int)) (hi22_4 : SBS κ.2.2.2.2 P32) (hi22_5 : NS P32 k2) (hf22_0 : EX κ.2.2.2.2 P32) (hf22_2 : KPx True κ.2.2.2.2 P32) (hi22y : GCH κ.2.2.2.2 P32 k2 k0.toInt y30.toInt y31.toInt k1.toInt) (kl33 : oL P32 k2 = oL κ.2.2.2.2 k2) (c34 : (-100) < y30.toInt) (ex35 : x35 = y31 + (-1 : Int32)) (tx35 : x35.toInt = y31.toInt + (-1)) (ex36 : x36 = -y30) (fx36 : x36.toInt = -y30.toInt) (dx37 : x37.toInt = 48 + ((x36.toNatClampNeg % 10 : Nat) : Int)) (exz38 : EX P32 (sB P32 k2 (upd (oB P32 k2) x35.toNatClampNeg (vp_nar .byte x37)))) (c39 : (-9) ≤ y30.toInt) (ex41 : x41 = x35 + (-1 : Int32)) (tx41 : x41.toInt = x35.toInt + (-1)) (exz42 : EX (sB P32 k2 (upd (oB P32 k2) x35.toNatClampNeg (vp_nar .byte x37))) (sB (sB P32 k2 (upd (oB P32 k2) x35.toNatClampNeg (vp_nar .byte x37))) k2 (upd (oB (sB P32 k2 (upd (oB P32 k2) x35.toNatClampNeg (vp_nar .byte x37))) k2) x41.toNatClampNeg (vp_nar .byte (45 : Int32))))) : ∀ s9 : List Int, PFX κ.2.2.2.2 k2 s9 → k1.toInt = (s9.length : Int) + ((qDec k0.toInt).length : Int) → PFX (sB (sB P32 k2 (upd (oB P32 k2) x35.toNatClampNeg (vp_nar .byte x37))) k2 (upd (oB (sB P32 k2 (upd (oB P32 k2) x35.toNatClampNeg (vp_nar .byte x37))) k2) x41.toNatClampNeg (vp_nar .byte (45 : Int32)))) k2 (s9 ++ qDec k0.toInt) := by
  have qm1 : (-1 : Int32).toInt = (-1) := by decide +kernel
  have q1 : (1 : Int32).toInt = 1 := by decide +kernel
  have q45 : (45 : Int32).toInt = 45 := by decide +kernel
  have zd0 := dg_spec (Int.natAbs k0.toInt)
  have zd1 := dg_spec (Int.natAbs y30.toInt)
  have zn0 := ngd_spec k0.toInt
  intro s9 hs hl
  rw [clampN] at dx37
  have nx37 : vp_nar .byte x37 = x37 := q_b8x (by omega) (by omega)
  rw [nx37]
  have g := hi22y.one9 (c := x37) (x := x35.toNatClampNeg) (f := (upd (oB P32 k2) x35.toNatClampNeg x37)) (p2 := x35.toInt) (by omega) (by omega) (by omega) (by omega) (by rw [clampN]; omega) (by omega) rfl
  exact GCH.neg9 g (by simp only [q_oB]; rfl) (by rw [clampN]; omega) (show (vp_nar .byte (45 : Int32)).toInt = 45 by decide +kernel) (by omega) hs hl
-- nw@92 @92
theorem vJ6_getChars_ba4f3_38 (κ : KS) (k0 : Int32) (k1 : Int32) (k2 : Nat) (y30 : Int32) (y31 : Int32) (P32 : PL) (x35 : Int32) (x36 : Int32) (x43 : Int32) (hpre_0 : (((sb_dg (Int.natAbs k0.toInt) + ngd k0.toInt) : Nat) : Int) ≤ k1.toInt) (hpre_1 : k1.toInt ≤ ((oL κ.2.2.2.2 k2 : Nat) : Int)) (hpre_2 : NS κ.2.2.2.2 k2) (hk0_0 : -2147483648 ≤ k0.toInt) (hk0_1 : k0.toInt ≤ 2147483647) (hl8_2 : oL κ.2.2.2.2 k2 ≤ 100) (c1 : k0.toInt < 0) (hi22_0 : y30.toInt ≤ 0) (hi22_1 : -2147483648 ≤ y30.toInt) (hi22_2 : ((sb_dg (Int.natAbs y30.toInt) : Nat) : Int) + (1 : Int32).toInt ≤ y31.toInt) (hi22_3 : y31.toInt ≤ ((oL P32 k2 : Nat) : Int)) (hi22_4 : SBS κ.2.2.2.2 P32) (hi22_5 : NS P32 k2) (kl33 : oL P32 k2 = oL κ.2.2.2.2 k2) (c34 : (-100) < y30.toInt) (ex35 : x35 = y31 + (-1 : Int32)) (tx35 : x35.toInt = y31.toInt + (-1)) (ex36 : x36 = -y30) (fx36 : x36.toInt = -y30.toInt) (c39 : y30.toInt < (-9)) (ex43 : x43 = x35 + (-1 : Int32)) : x43.toInt = x35.toInt + (-1) := by
  have qm1 : (-1 : Int32).toInt = (-1) := by decide +kernel
  have q1 : (1 : Int32).toInt = 1 := by decide +kernel
  have zd0 := dg_spec (Int.natAbs k0.toInt)
  have zd1 := dg_spec (Int.natAbs y30.toInt)
  have zn0 := ngd_spec k0.toInt
  have z9 : ((-1) : Int32).toInt = -1 := by decide +kernel
  rw [ex43, z_add (by omega) (by omega)]; first | done | omega
-- fact@101 @101
theorem vJ6_getChars_ba4f3_39 (κ : KS) (k0 : Int32) (k1 : Int32) (k2 : Nat) (y30 : Int32) (y31 : Int32) (P32 : PL) (x35 : Int32) (x36 : Int32) (x43 : Int32) (x44 : Int32) (hpre_0 : (((sb_dg (Int.natAbs k0.toInt) + ngd k0.toInt) : Nat) : Int) ≤ k1.toInt) (hpre_1 : k1.toInt ≤ ((oL κ.2.2.2.2 k2 : Nat) : Int)) (hpre_2 : NS κ.2.2.2.2 k2) (hk0_0 : -2147483648 ≤ k0.toInt) (hk0_1 : k0.toInt ≤ 2147483647) (hl8_2 : oL κ.2.2.2.2 k2 ≤ 100) (c1 : k0.toInt < 0) (hi22_0 : y30.toInt ≤ 0) (hi22_1 : -2147483648 ≤ y30.toInt) (hi22_2 : ((sb_dg (Int.natAbs y30.toInt) : Nat) : Int) + (1 : Int32).toInt ≤ y31.toInt) (hi22_3 : y31.toInt ≤ ((oL P32 k2 : Nat) : Int)) (hi22_4 : SBS κ.2.2.2.2 P32) (hi22_5 : NS P32 k2) (kl33 : oL P32 k2 = oL κ.2.2.2.2 k2) (c34 : (-100) < y30.toInt) (ex35 : x35 = y31 + (-1 : Int32)) (tx35 : x35.toInt = y31.toInt + (-1)) (ex36 : x36 = -y30) (fx36 : x36.toInt = -y30.toInt) (c39 : y30.toInt < (-9)) (ex43 : x43 = x35 + (-1 : Int32)) (tx43 : x43.toInt = x35.toInt + (-1)) (ex44 : x44 = -y30) : x44.toInt = -y30.toInt := by
  have qm1 : (-1 : Int32).toInt = (-1) := by decide +kernel
  have q1 : (1 : Int32).toInt = 1 := by decide +kernel
  have zd0 := dg_spec (Int.natAbs k0.toInt)
  have zd1 := dg_spec (Int.natAbs y30.toInt)
  have zn0 := ngd_spec k0.toInt
  rw [ex44]; exact z_ng (by omega)
-- in@102 @102
theorem vJ6_getChars_ba4f3_40 (κ : KS) (k0 : Int32) (k1 : Int32) (k2 : Nat) (y30 : Int32) (y31 : Int32) (P32 : PL) (x35 : Int32) (x36 : Int32) (x43 : Int32) (x44 : Int32) (hpre_0 : (((sb_dg (Int.natAbs k0.toInt) + ngd k0.toInt) : Nat) : Int) ≤ k1.toInt) (hpre_1 : k1.toInt ≤ ((oL κ.2.2.2.2 k2 : Nat) : Int)) (hpre_2 : NS κ.2.2.2.2 k2) (hk0_0 : -2147483648 ≤ k0.toInt) (hk0_1 : k0.toInt ≤ 2147483647) (hl8_2 : oL κ.2.2.2.2 k2 ≤ 100) (c1 : k0.toInt < 0) (hi22_0 : y30.toInt ≤ 0) (hi22_1 : -2147483648 ≤ y30.toInt) (hi22_2 : ((sb_dg (Int.natAbs y30.toInt) : Nat) : Int) + (1 : Int32).toInt ≤ y31.toInt) (hi22_3 : y31.toInt ≤ ((oL P32 k2 : Nat) : Int)) (hi22_4 : SBS κ.2.2.2.2 P32) (hi22_5 : NS P32 k2) (kl33 : oL P32 k2 = oL κ.2.2.2.2 k2) (c34 : (-100) < y30.toInt) (ex35 : x35 = y31 + (-1 : Int32)) (tx35 : x35.toInt = y31.toInt + (-1)) (ex36 : x36 = -y30) (fx36 : x36.toInt = -y30.toInt) (c39 : y30.toInt < (-9)) (ex43 : x43 = x35 + (-1 : Int32)) (tx43 : x43.toInt = x35.toInt + (-1)) (ex44 : x44 = -y30) (fx44 : x44.toInt = -y30.toInt) : vp_in x44 100 := by
  have qm1 : (-1 : Int32).toInt = (-1) := by decide +kernel
  have q1 : (1 : Int32).toInt = 1 := by decide +kernel
  have zd0 := dg_spec (Int.natAbs k0.toInt)
  have zd1 := dg_spec (Int.natAbs y30.toInt)
  have zn0 := ngd_spec k0.toInt
  exact vp_in_iff.mpr ⟨by omega, by omega⟩
-- in@103 @103
theorem vJ6_getChars_ba4f3_41 (κ : KS) (k0 : Int32) (k1 : Int32) (k2 : Nat) (y30 : Int32) (y31 : Int32) (P32 : PL) (x35 : Int32) (x36 : Int32) (x43 : Int32) (x44 : Int32) (hpre_0 : (((sb_dg (Int.natAbs k0.toInt) + ngd k0.toInt) : Nat) : Int) ≤ k1.toInt) (hpre_1 : k1.toInt ≤ ((oL κ.2.2.2.2 k2 : Nat) : Int)) (hpre_2 : NS κ.2.2.2.2 k2) (hk0_0 : -2147483648 ≤ k0.toInt) (hk0_1 : k0.toInt ≤ 2147483647) (hl8_2 : oL κ.2.2.2.2 k2 ≤ 100) (c1 : k0.toInt < 0) (hi22_0 : y30.toInt ≤ 0) (hi22_1 : -2147483648 ≤ y30.toInt) (hi22_2 : ((sb_dg (Int.natAbs y30.toInt) : Nat) : Int) + (1 : Int32).toInt ≤ y31.toInt) (hi22_3 : y31.toInt ≤ ((oL P32 k2 : Nat) : Int)) (hi22_4 : SBS κ.2.2.2.2 P32) (hi22_5 : NS P32 k2) (kl33 : oL P32 k2 = oL κ.2.2.2.2 k2) (c34 : (-100) < y30.toInt) (ex35 : x35 = y31 + (-1 : Int32)) (tx35 : x35.toInt = y31.toInt + (-1)) (ex36 : x36 = -y30) (fx36 : x36.toInt = -y30.toInt) (c39 : y30.toInt < (-9)) (ex43 : x43 = x35 + (-1 : Int32)) (tx43 : x43.toInt = x35.toInt + (-1)) (ex44 : x44 = -y30) (fx44 : x44.toInt = -y30.toInt) : vp_in x43 (oL P32 k2) := by
  have qm1 : (-1 : Int32).toInt = (-1) := by decide +kernel
  have q1 : (1 : Int32).toInt = 1 := by decide +kernel
  have zd0 := dg_spec (Int.natAbs k0.toInt)
  have zd1 := dg_spec (Int.natAbs y30.toInt)
  have zn0 := ngd_spec k0.toInt
  exact vp_in_iff.mpr ⟨by omega, by omega⟩
-- nw@110 @110
theorem vJ6_getChars_ba4f3_42 (κ : KS) (k0 : Int32) (k1 : Int32) (k2 : Nat) (y30 : Int32) (y31 : Int32) (P32 : PL) (x35 : Int32) (x36 : Int32) (x43 : Int32) (x44 : Int32) (x48 : Int32) (hpre_0 : (((sb_dg (Int.natAbs k0.toInt) + ngd k0.toInt) : Nat) : Int) ≤ k1.toInt) (hpre_1 : k1.toInt ≤ ((oL κ.2.2.2.2 k2 : Nat) : Int)) (hpre_2 : NS κ.2.2.2.2 k2) (hk0_0 : -2147483648 ≤ k0.toInt) (hk0_1 : k0.toInt ≤ 2147483647) (hl8_2 : oL κ.2.2.2.2 k2 ≤ 100) (c1 : k0.toInt < 0) (hi22_0 : y30.toInt ≤ 0) (hi22_1 : -2147483648 ≤ y30.toInt) (hi22_2 : ((sb_dg (Int.natAbs y30.toInt) : Nat) : Int) + (1 : Int32).toInt ≤ y31.toInt) (hi22_3 : y31.toInt ≤ ((oL P32 k2 : Nat) : Int)) (hi22_4 : SBS κ.2.2.2.2 P32) (hi22_5 : NS P32 k2) (kl33 : oL P32 k2 = oL κ.2.2.2.2 k2) (c34 : (-100) < y30.toInt) (ex35 : x35 = y31 + (-1 : Int32)) (tx35 : x35.toInt = y31.toInt + (-1)) (ex36 : x36 = -y30) (fx36 : x36.toInt = -y30.toInt) (c39 : y30.toInt < (-9)) (ex43 : x43 = x35 + (-1 : Int32)) (tx43 : x43.toInt = x35.toInt + (-1)) (ex44 : x44 = -y30) (fx44 : x44.toInt = -y30.toInt) (ex48 : x48 = x43 + (-1 : Int32)) : x48.toInt = x43.toInt + (-1) := by
  have qm1 : (-1 : Int32).toInt = (-1) := by decide +kernel
  have q1 : (1 : Int32).toInt = 1 := by decide +kernel
  have zd0 := dg_spec (Int.natAbs k0.toInt)
  have zd1 := dg_spec (Int.natAbs y30.toInt)
  have zn0 := ngd_spec k0.toInt
  have z9 : ((-1) : Int32).toInt = -1 := by decide +kernel
  rw [ex48, z_add (by omega) (by omega)]; first | done | omega
-- in@117 @117
theorem vJ6_getChars_ba4f3_43 (κ : KS) (k0 : Int32) (k1 : Int32) (k2 : Nat) (y30 : Int32) (y31 : Int32) (P32 : PL) (x35 : Int32) (x36 : Int32) (x43 : Int32) (x44 : Int32) (x48 : Int32) (hpre_0 : (((sb_dg (Int.natAbs k0.toInt) + ngd k0.toInt) : Nat) : Int) ≤ k1.toInt) (hpre_1 : k1.toInt ≤ ((oL κ.2.2.2.2 k2 : Nat) : Int)) (hpre_2 : NS κ.2.2.2.2 k2) (hk0_0 : -2147483648 ≤ k0.toInt) (hk0_1 : k0.toInt ≤ 2147483647) (hl8_2 : oL κ.2.2.2.2 k2 ≤ 100) (c1 : k0.toInt < 0) (hi22_0 : y30.toInt ≤ 0) (hi22_1 : -2147483648 ≤ y30.toInt) (hi22_2 : ((sb_dg (Int.natAbs y30.toInt) : Nat) : Int) + (1 : Int32).toInt ≤ y31.toInt) (hi22_3 : y31.toInt ≤ ((oL P32 k2 : Nat) : Int)) (hi22_4 : SBS κ.2.2.2.2 P32) (hi22_5 : NS P32 k2) (kl33 : oL P32 k2 = oL κ.2.2.2.2 k2) (c34 : (-100) < y30.toInt) (ex35 : x35 = y31 + (-1 : Int32)) (tx35 : x35.toInt = y31.toInt + (-1)) (ex36 : x36 = -y30) (fx36 : x36.toInt = -y30.toInt) (c39 : y30.toInt < (-9)) (ex43 : x43 = x35 + (-1 : Int32)) (tx43 : x43.toInt = x35.toInt + (-1)) (ex44 : x44 = -y30) (fx44 : x44.toInt = -y30.toInt) (ex48 : x48 = x43 + (-1 : Int32)) (tx48 : x48.toInt = x43.toInt + (-1)) : vp_in x48 (oL P32 k2) := by
  have qm1 : (-1 : Int32).toInt = (-1) := by decide +kernel
  have q1 : (1 : Int32).toInt = 1 := by decide +kernel
  have zd0 := dg_spec (Int.natAbs k0.toInt)
  have zd1 := dg_spec (Int.natAbs y30.toInt)
  have zn0 := ngd_spec k0.toInt
  exact vp_in_iff.mpr ⟨by omega, by omega⟩
-- sbs @120
theorem vJ6_getChars_ba4f3_44 (κ : KS) (k0 : Int32) (k1 : Int32) (k2 : Nat) (y30 : Int32) (y31 : Int32) (P32 : PL) (x35 : Int32) (x36 : Int32) (x37 : Int32) (x43 : Int32) (x44 : Int32) (x45 : Int32) (x48 : Int32) (hpre_0 : (((sb_dg (Int.natAbs k0.toInt) + ngd k0.toInt) : Nat) : Int) ≤ k1.toInt) (hpre_1 : k1.toInt ≤ ((oL κ.2.2.2.2 k2 : Nat) : Int)) (hpre_2 : NS κ.2.2.2.2 k2) (hk0_0 : -2147483648 ≤ k0.toInt) (hk0_1 : k0.toInt ≤ 2147483647) (hl8_2 : oL κ.2.2.2.2 k2 ≤ 100) (c1 : k0.toInt < 0) (hi22_0 : y30.toInt ≤ 0) (hi22_1 : -2147483648 ≤ y30.toInt) (hi22_2 : ((sb_dg (Int.natAbs y30.toInt) : Nat) : Int) + (1 : Int32).toInt ≤ y31.toInt) (hi22_3 : y31.toInt ≤ ((oL P32 k2 : Nat) : Int)) (hi22_4 : SBS κ.2.2.2.2 P32) (hi22_5 : NS P32 k2) (kl33 : oL P32 k2 = oL κ.2.2.2.2 k2) (c34 : (-100) < y30.toInt) (ex35 : x35 = y31 + (-1 : Int32)) (tx35 : x35.toInt = y31.toInt + (-1)) (ex36 : x36 = -y30) (fx36 : x36.toInt = -y30.toInt) (c39 : y30.toInt < (-9)) (ex43 : x43 = x35 + (-1 : Int32)) (tx43 : x43.toInt = x35.toInt + (-1)) (ex44 : x44 = -y30) (fx44 : x44.toInt = -y30.toInt) (ex48 : x48 = x43 + (-1 : Int32)) (tx48 : x48.toInt = x43.toInt + (-1)) : SBS κ.2.2.2.2 (sB (sB (sB P32 k2 (upd (oB P32 k2) x35.toNatClampNeg (vp_nar .byte x37))) k2 (upd (oB (sB P32 k2 (upd (oB P32 k2) x35.toNatClampNeg (vp_nar .byte x37))) k2) x43.toNatClampNeg (vp_nar .byte x45))) k2 (upd (oB (sB (sB P32 k2 (upd (oB P32 k2) x35.toNatClampNeg (vp_nar .byte x37))) k2 (upd (oB (sB P32 k2 (upd (oB P32 k2) x35.toNatClampNeg (vp_nar .byte x37))) k2) x43.toNatClampNeg (vp_nar .byte x45))) k2) x48.toNatClampNeg (vp_nar .byte (45 : Int32)))) := by
  have qm1 : (-1 : Int32).toInt = (-1) := by decide +kernel
  have q1 : (1 : Int32).toInt = 1 := by decide +kernel
  have q45 : (45 : Int32).toInt = 45 := by decide +kernel
  have zd0 := dg_spec (Int.natAbs k0.toInt)
  have zd1 := dg_spec (Int.natAbs y30.toInt)
  have zn0 := ngd_spec k0.toInt
  first | assumption | exact fun _ _ => ⟨rfl, rfl⟩
-- post2 @120
theorem vJ6_getChars_ba4f3_45 (sa : Nat → Nat) (κ : KS) (k0 : Int32) (k1 : Int32) (k2 : Nat) (y30 : Int32) (y31 : Int32) (P32 : PL) (x35 : Int32) (x36 : Int32) (x37 : Int32) (x43 : Int32) (x44 : Int32) (x45 : Int32) (x48 : Int32) (ht2 : oT κ.2.2.2.2 k2 = 8) (hPV : PV sa κ.2.2.2.2) (hpre_0 : (((sb_dg (Int.natAbs k0.toInt) + ngd k0.toInt) : Nat) : Int) ≤ k1.toInt) (hpre_1 : k1.toInt ≤ ((oL κ.2.2.2.2 k2 : Nat) : Int)) (hpre_2 : NS κ.2.2.2.2 k2) (hk0_0 : -2147483648 ≤ k0.toInt) (hk0_1 : k0.toInt ≤ 2147483647) (hl8_2 : oL κ.2.2.2.2 k2 ≤ 100) (c1 : k0.toInt < 0) (hi22_0 : y30.toInt ≤ 0) (hi22_1 : -2147483648 ≤ y30.toInt) (hi22_2 : ((sb_dg (Int.natAbs y30.toInt) : Nat) : Int) + (1 : Int32).toInt ≤ y31.toInt) (hi22_3 : y31.toInt ≤ ((oL P32 k2 : Nat) : Int)) (hi22_4 : SBS κ.2.2.2.2 P32) (hi22_5 : NS P32 k2) (hf22_0 : EX κ.2.2.2.2 P32) (hf22_2 : KPx True κ.2.2.2.2 P32) (hi22y : GCH κ.2.2.2.2 P32 k2 k0.toInt y30.toInt y31.toInt k1.toInt) (kl33 : oL P32 k2 = oL κ.2.2.2.2 k2) (c34 : (-100) < y30.toInt) (ex35 : x35 = y31 + (-1 : Int32)) (tx35 : x35.toInt = y31.toInt + (-1)) (ex36 : x36 = -y30) (fx36 : x36.toInt = -y30.toInt) (dx37 : x37.toInt = 48 + ((x36.toNatClampNeg % 10 : Nat) : Int)) (exz38 : EX P32 (sB P32 k2 (upd (oB P32 k2) x35.toNatClampNeg (vp_nar .byte x37)))) (c39 : y30.toInt < (-9)) (ex43 : x43 = x35 + (-1 : Int32)) (tx43 : x43.toInt = x35.toInt + (-1)) (ex44 : x44 = -y30) (fx44 : x44.toInt = -y30.toInt) (dx45 : x45.toInt = 48 + ((x44.toNatClampNeg / 10 : Nat) : Int)) (exz46 : EX (sB P32 k2 (upd (oB P32 k2) x35.toNatClampNeg (vp_nar .byte x37))) (sB (sB P32 k2 (upd (oB P32 k2) x35.toNatClampNeg (vp_nar .byte x37))) k2 (upd (oB (sB P32 k2 (upd (oB P32 k2) x35.toNatClampNeg (vp_nar .byte x37))) k2) x43.toNatClampNeg (vp_nar .byte x45)))) (ex48 : x48 = x43 + (-1 : Int32)) (tx48 : x48.toInt = x43.toInt + (-1)) (exz49 : EX (sB (sB P32 k2 (upd (oB P32 k2) x35.toNatClampNeg (vp_nar .byte x37))) k2 (upd (oB (sB P32 k2 (upd (oB P32 k2) x35.toNatClampNeg (vp_nar .byte x37))) k2) x43.toNatClampNeg (vp_nar .byte x45))) (sB (sB (sB P32 k2 (upd (oB P32 k2) x35.toNatClampNeg (vp_nar .byte x37))) k2 (upd (oB (sB P32 k2 (upd (oB P32 k2) x35.toNatClampNeg (vp_nar .byte x37))) k2) x43.toNatClampNeg (vp_nar .byte x45))) k2 (upd (oB (sB (sB P32 k2 (upd (oB P32 k2) x35.toNatClampNeg (vp_nar .byte x37))) k2 (upd (oB (sB P32 k2 (upd (oB P32 k2) x35.toNatClampNeg (vp_nar .byte x37))) k2) x43.toNatClampNeg (vp_nar .byte x45))) k2) x48.toNatClampNeg (vp_nar .byte (45 : Int32))))) : ∀ s9 : List Int, PFX κ.2.2.2.2 k2 s9 → k1.toInt = (s9.length : Int) + ((qDec k0.toInt).length : Int) → PFX (sB (sB (sB P32 k2 (upd (oB P32 k2) x35.toNatClampNeg (vp_nar .byte x37))) k2 (upd (oB (sB P32 k2 (upd (oB P32 k2) x35.toNatClampNeg (vp_nar .byte x37))) k2) x43.toNatClampNeg (vp_nar .byte x45))) k2 (upd (oB (sB (sB P32 k2 (upd (oB P32 k2) x35.toNatClampNeg (vp_nar .byte x37))) k2 (upd (oB (sB P32 k2 (upd (oB P32 k2) x35.toNatClampNeg (vp_nar .byte x37))) k2) x43.toNatClampNeg (vp_nar .byte x45))) k2) x48.toNatClampNeg (vp_nar .byte (45 : Int32)))) k2 (s9 ++ qDec k0.toInt) := by
  have qm1 : (-1 : Int32).toInt = (-1) := by decide +kernel
  have q1 : (1 : Int32).toInt = 1 := by decide +kernel
  have q45 : (45 : Int32).toInt = 45 := by decide +kernel
  have zd0 := dg_spec (Int.natAbs k0.toInt)
  have zd1 := dg_spec (Int.natAbs y30.toInt)
  have zn0 := ngd_spec k0.toInt
  intro s9 hs hl
  rw [clampN] at dx37 dx45
  have nx37 : vp_nar .byte x37 = x37 := q_b8x (by omega) (by omega)
  have nx45 : vp_nar .byte x45 = x45 := q_b8x (by omega) (by omega)
  rw [nx37, nx45]
  have g := hi22y.two9 (c := x37) (d := x45) (x := x35.toNatClampNeg) (y := x43.toNatClampNeg) (f := (upd (upd (oB P32 k2) x35.toNatClampNeg x37) x43.toNatClampNeg x45)) (p2 := x43.toInt) (by omega) (by omega) (by omega) (by omega) (by rw [clampN]; omega) (by rw [clampN]; omega) (by omega) (by omega) rfl
  exact GCH.neg9 g (by simp only [q_oB]; rfl) (by rw [clampN]; omega) (show (vp_nar .byte (45 : Int32)).toInt = 45 by decide +kernel) (by omega) hs hl
-- fact@31 @31
theorem vJ6_getChars_ba4f3_46 (κ : KS) (k0 : Int32) (k1 : Int32) (k2 : Nat) (y30 : Int32) (y31 : Int32) (P32 : PL) (x50 : Int32) (hpre_0 : (((sb_dg (Int.natAbs k0.toInt) + ngd k0.toInt) : Nat) : Int) ≤ k1.toInt) (hpre_1 : k1.toInt ≤ ((oL κ.2.2.2.2 k2 : Nat) : Int)) (hpre_2 : NS κ.2.2.2.2 k2) (hk0_0 : -2147483648 ≤ k0.toInt) (hk0_1 : k0.toInt ≤ 2147483647) (hl8_2 : oL κ.2.2.2.2 k2 ≤ 100) (c1 : k0.toInt < 0) (hi22_0 : y30.toInt ≤ 0) (hi22_1 : -2147483648 ≤ y30.toInt) (hi22_2 : ((sb_dg (Int.natAbs y30.toInt) : Nat) : Int) + (1 : Int32).toInt ≤ y31.toInt) (hi22_3 : y31.toInt ≤ ((oL P32 k2 : Nat) : Int)) (hi22_4 : SBS κ.2.2.2.2 P32) (hi22_5 : NS P32 k2) (kl33 : oL P32 k2 = oL κ.2.2.2.2 k2) (c34 : y30.toInt ≤ (-100)) (ex50 : x50 = y30 / (100 : Int32)) : x50.toInt = -((-y30.toInt) / 100) ∧ sb_dg (Int.natAbs y30.toInt) = sb_dg (Int.natAbs x50.toInt) + 2 := by
  have q1 : (1 : Int32).toInt = 1 := by decide +kernel
  have q100 : (100 : Int32).toInt = 100 := by decide +kernel
  have zd0 := dg_spec (Int.natAbs y30.toInt)
  have zd1 := dg_spec (Int.natAbs x50.toInt)
  have zd2 := dg_spec (Int.natAbs k0.toInt)
  have zn0 := ngd_spec k0.toInt
  refine (fun e9 => ⟨e9, dg_step (by omega) (Int32.le_toInt _) e9⟩) ?_
  rw [ex50]; exact z_dv100 (by omega)
-- nw@36 @36
theorem vJ6_getChars_ba4f3_47 (κ : KS) (k0 : Int32) (k1 : Int32) (k2 : Nat) (y30 : Int32) (y31 : Int32) (P32 : PL) (x50 : Int32) (x51 : Int32) (hpre_0 : (((sb_dg (Int.natAbs k0.toInt) + ngd k0.toInt) : Nat) : Int) ≤ k1.toInt) (hpre_1 : k1.toInt ≤ ((oL κ.2.2.2.2 k2 : Nat) : Int)) (hpre_2 : NS κ.2.2.2.2 k2) (hk0_0 : -2147483648 ≤ k0.toInt) (hk0_1 : k0.toInt ≤ 2147483647) (hl8_2 : oL κ.2.2.2.2 k2 ≤ 100) (c1 : k0.toInt < 0) (hi22_0 : y30.toInt ≤ 0) (hi22_1 : -2147483648 ≤ y30.toInt) (hi22_2 : ((sb_dg (Int.natAbs y30.toInt) : Nat) : Int) + (1 : Int32).toInt ≤ y31.toInt) (hi22_3 : y31.toInt ≤ ((oL P32 k2 : Nat) : Int)) (hi22_4 : SBS κ.2.2.2.2 P32) (hi22_5 : NS P32 k2) (kl33 : oL P32 k2 = oL κ.2.2.2.2 k2) (c34 : y30.toInt ≤ (-100)) (ex50 : x50 = y30 / (100 : Int32)) (fx50_0 : x50.toInt = -((-y30.toInt) / 100)) (fx50_1 : sb_dg (Int.natAbs y30.toInt) = sb_dg (Int.natAbs x50.toInt) + 2) (ex51 : x51 = x50 * (100 : Int32)) : x51.toInt = x50.toInt * 100 := by
  have q1 : (1 : Int32).toInt = 1 := by decide +kernel
  have q100 : (100 : Int32).toInt = 100 := by decide +kernel
  have zd0 := dg_spec (Int.natAbs k0.toInt)
  have zd1 := dg_spec (Int.natAbs y30.toInt)
  have zd2 := dg_spec (Int.natAbs x50.toInt)
  have zn0 := ngd_spec k0.toInt
  have w1 : (100 : Int32).toInt = 100 := by decide +kernel
  rw [ex51, Int32.mul_comm, z_mulc 100 w1 (by omega) (by omega)]; omega
-- nw@38 @38
theorem vJ6_getChars_ba4f3_48 (κ : KS) (k0 : Int32) (k1 : Int32) (k2 : Nat) (y30 : Int32) (y31 : Int32) (P32 : PL) (x50 : Int32) (x51 : Int32) (x52 : Int32) (hpre_0 : (((sb_dg (Int.natAbs k0.toInt) + ngd k0.toInt) : Nat) : Int) ≤ k1.toInt) (hpre_1 : k1.toInt ≤ ((oL κ.2.2.2.2 k2 : Nat) : Int)) (hpre_2 : NS κ.2.2.2.2 k2) (hk0_0 : -2147483648 ≤ k0.toInt) (hk0_1 : k0.toInt ≤ 2147483647) (hl8_2 : oL κ.2.2.2.2 k2 ≤ 100) (c1 : k0.toInt < 0) (hi22_0 : y30.toInt ≤ 0) (hi22_1 : -2147483648 ≤ y30.toInt) (hi22_2 : ((sb_dg (Int.natAbs y30.toInt) : Nat) : Int) + (1 : Int32).toInt ≤ y31.toInt) (hi22_3 : y31.toInt ≤ ((oL P32 k2 : Nat) : Int)) (hi22_4 : SBS κ.2.2.2.2 P32) (hi22_5 : NS P32 k2) (kl33 : oL P32 k2 = oL κ.2.2.2.2 k2) (c34 : y30.toInt ≤ (-100)) (ex50 : x50 = y30 / (100 : Int32)) (fx50_0 : x50.toInt = -((-y30.toInt) / 100)) (fx50_1 : sb_dg (Int.natAbs y30.toInt) = sb_dg (Int.natAbs x50.toInt) + 2) (ex51 : x51 = x50 * (100 : Int32)) (tx51 : x51.toInt = x50.toInt * 100) (ex52 : x52 = x51 - y30) : x52.toInt = x51.toInt - y30.toInt := by
  have q1 : (1 : Int32).toInt = 1 := by decide +kernel
  have q100 : (100 : Int32).toInt = 100 := by decide +kernel
  have zd0 := dg_spec (Int.natAbs k0.toInt)
  have zd1 := dg_spec (Int.natAbs y30.toInt)
  have zd2 := dg_spec (Int.natAbs x50.toInt)
  have zn0 := ngd_spec k0.toInt
  rw [ex52, z_sub (by omega) (by omega)]; first | done | omega
-- nw@44 @44
theorem vJ6_getChars_ba4f3_49 (κ : KS) (k0 : Int32) (k1 : Int32) (k2 : Nat) (y30 : Int32) (y31 : Int32) (P32 : PL) (x50 : Int32) (x51 : Int32) (x52 : Int32) (x53 : Int32) (hpre_0 : (((sb_dg (Int.natAbs k0.toInt) + ngd k0.toInt) : Nat) : Int) ≤ k1.toInt) (hpre_1 : k1.toInt ≤ ((oL κ.2.2.2.2 k2 : Nat) : Int)) (hpre_2 : NS κ.2.2.2.2 k2) (hk0_0 : -2147483648 ≤ k0.toInt) (hk0_1 : k0.toInt ≤ 2147483647) (hl8_2 : oL κ.2.2.2.2 k2 ≤ 100) (c1 : k0.toInt < 0) (hi22_0 : y30.toInt ≤ 0) (hi22_1 : -2147483648 ≤ y30.toInt) (hi22_2 : ((sb_dg (Int.natAbs y30.toInt) : Nat) : Int) + (1 : Int32).toInt ≤ y31.toInt) (hi22_3 : y31.toInt ≤ ((oL P32 k2 : Nat) : Int)) (hi22_4 : SBS κ.2.2.2.2 P32) (hi22_5 : NS P32 k2) (kl33 : oL P32 k2 = oL κ.2.2.2.2 k2) (c34 : y30.toInt ≤ (-100)) (ex50 : x50 = y30 / (100 : Int32)) (fx50_0 : x50.toInt = -((-y30.toInt) / 100)) (fx50_1 : sb_dg (Int.natAbs y30.toInt) = sb_dg (Int.natAbs x50.toInt) + 2) (ex51 : x51 = x50 * (100 : Int32)) (tx51 : x51.toInt = x50.toInt * 100) (ex52 : x52 = x51 - y30) (tx52 : x52.toInt = x51.toInt - y30.toInt) (ex53 : x53 = y31 + (-1 : Int32)) : x53.toInt = y31.toInt + (-1) := by
  have qm1 : (-1 : Int32).toInt = (-1) := by decide +kernel
  have q1 : (1 : Int32).toInt = 1 := by decide +kernel
  have q100 : (100 : Int32).toInt = 100 := by decide +kernel
  have zd0 := dg_spec (Int.natAbs k0.toInt)
  have zd1 := dg_spec (Int.natAbs y30.toInt)
  have zd2 := dg_spec (Int.natAbs x50.toInt)
  have zn0 := ngd_spec k0.toInt
  have z9 : ((-1) : Int32).toInt = -1 := by decide +kernel
  rw [ex53, z_add (by omega) (by omega)]; first | done | omega
-- in@54 @54
theorem vJ6_getChars_ba4f3_50 (κ : KS) (k0 : Int32) (k1 : Int32) (k2 : Nat) (y30 : Int32) (y31 : Int32) (P32 : PL) (x50 : Int32) (x51 : Int32) (x52 : Int32) (x53 : Int32) (hpre_0 : (((sb_dg (Int.natAbs k0.toInt) + ngd k0.toInt) : Nat) : Int) ≤ k1.toInt) (hpre_1 : k1.toInt ≤ ((oL κ.2.2.2.2 k2 : Nat) : Int)) (hpre_2 : NS κ.2.2.2.2 k2) (hk0_0 : -2147483648 ≤ k0.toInt) (hk0_1 : k0.toInt ≤ 2147483647) (hl8_2 : oL κ.2.2.2.2 k2 ≤ 100) (c1 : k0.toInt < 0) (hi22_0 : y30.toInt ≤ 0) (hi22_1 : -2147483648 ≤ y30.toInt) (hi22_2 : ((sb_dg (Int.natAbs y30.toInt) : Nat) : Int) + (1 : Int32).toInt ≤ y31.toInt) (hi22_3 : y31.toInt ≤ ((oL P32 k2 : Nat) : Int)) (hi22_4 : SBS κ.2.2.2.2 P32) (hi22_5 : NS P32 k2) (kl33 : oL P32 k2 = oL κ.2.2.2.2 k2) (c34 : y30.toInt ≤ (-100)) (ex50 : x50 = y30 / (100 : Int32)) (fx50_0 : x50.toInt = -((-y30.toInt) / 100)) (fx50_1 : sb_dg (Int.natAbs y30.toInt) = sb_dg (Int.natAbs x50.toInt) + 2) (ex51 : x51 = x50 * (100 : Int32)) (tx51 : x51.toInt = x50.toInt * 100) (ex52 : x52 = x51 - y30) (tx52 : x52.toInt = x51.toInt - y30.toInt) (ex53 : x53 = y31 + (-1 : Int32)) (tx53 : x53.toInt = y31.toInt + (-1)) : vp_in x52 100 := by
  have qm1 : (-1 : Int32).toInt = (-1) := by decide +kernel
  have q1 : (1 : Int32).toInt = 1 := by decide +kernel
  have q100 : (100 : Int32).toInt = 100 := by decide +kernel
  have zd0 := dg_spec (Int.natAbs k0.toInt)
  have zd1 := dg_spec (Int.natAbs y30.toInt)
  have zd2 := dg_spec (Int.natAbs x50.toInt)
  have zn0 := ngd_spec k0.toInt
  exact vp_in_iff.mpr ⟨by omega, by omega⟩
-- in@55 @55
theorem vJ6_getChars_ba4f3_51 (κ : KS) (k0 : Int32) (k1 : Int32) (k2 : Nat) (y30 : Int32) (y31 : Int32) (P32 : PL) (x50 : Int32) (x51 : Int32) (x52 : Int32) (x53 : Int32) (hpre_0 : (((sb_dg (Int.natAbs k0.toInt) + ngd k0.toInt) : Nat) : Int) ≤ k1.toInt) (hpre_1 : k1.toInt ≤ ((oL κ.2.2.2.2 k2 : Nat) : Int)) (hpre_2 : NS κ.2.2.2.2 k2) (hk0_0 : -2147483648 ≤ k0.toInt) (hk0_1 : k0.toInt ≤ 2147483647) (hl8_2 : oL κ.2.2.2.2 k2 ≤ 100) (c1 : k0.toInt < 0) (hi22_0 : y30.toInt ≤ 0) (hi22_1 : -2147483648 ≤ y30.toInt) (hi22_2 : ((sb_dg (Int.natAbs y30.toInt) : Nat) : Int) + (1 : Int32).toInt ≤ y31.toInt) (hi22_3 : y31.toInt ≤ ((oL P32 k2 : Nat) : Int)) (hi22_4 : SBS κ.2.2.2.2 P32) (hi22_5 : NS P32 k2) (kl33 : oL P32 k2 = oL κ.2.2.2.2 k2) (c34 : y30.toInt ≤ (-100)) (ex50 : x50 = y30 / (100 : Int32)) (fx50_0 : x50.toInt = -((-y30.toInt) / 100)) (fx50_1 : sb_dg (Int.natAbs y30.toInt) = sb_dg (Int.natAbs x50.toInt) + 2) (ex51 : x51 = x50 * (100 : Int32)) (tx51 : x51.toInt = x50.toInt * 100) (ex52 : x52 = x51 - y30) (tx52 : x52.toInt = x51.toInt - y30.toInt) (ex53 : x53 = y31 + (-1 : Int32)) (tx53 : x53.toInt = y31.toInt + (-1)) : vp_in x53 (oL P32 k2) := by
  have qm1 : (-1 : Int32).toInt = (-1) := by decide +kernel
  have q1 : (1 : Int32).toInt = 1 := by decide +kernel
  have q100 : (100 : Int32).toInt = 100 := by decide +kernel
  have zd0 := dg_spec (Int.natAbs k0.toInt)
  have zd1 := dg_spec (Int.natAbs y30.toInt)
  have zd2 := dg_spec (Int.natAbs x50.toInt)
  have zn0 := ngd_spec k0.toInt
  exact vp_in_iff.mpr ⟨by omega, by omega⟩
-- nw@57 @57
theorem vJ6_getChars_ba4f3_52 (κ : KS) (k0 : Int32) (k1 : Int32) (k2 : Nat) (y30 : Int32) (y31 : Int32) (P32 : PL) (x50 : Int32) (x51 : Int32) (x52 : Int32) (x53 : Int32) (x56 : Int32) (hpre_0 : (((sb_dg (Int.natAbs k0.toInt) + ngd k0.toInt) : Nat) : Int) ≤ k1.toInt) (hpre_1 : k1.toInt ≤ ((oL κ.2.2.2.2 k2 : Nat) : Int)) (hpre_2 : NS κ.2.2.2.2 k2) (hk0_0 : -2147483648 ≤ k0.toInt) (hk0_1 : k0.toInt ≤ 2147483647) (hl8_2 : oL κ.2.2.2.2 k2 ≤ 100) (c1 : k0.toInt < 0) (hi22_0 : y30.toInt ≤ 0) (hi22_1 : -2147483648 ≤ y30.toInt) (hi22_2 : ((sb_dg (Int.natAbs y30.toInt) : Nat) : Int) + (1 : Int32).toInt ≤ y31.toInt) (hi22_3 : y31.toInt ≤ ((oL P32 k2 : Nat) : Int)) (hi22_4 : SBS κ.2.2.2.2 P32) (hi22_5 : NS P32 k2) (kl33 : oL P32 k2 = oL κ.2.2.2.2 k2) (c34 : y30.toInt ≤ (-100)) (ex50 : x50 = y30 / (100 : Int32)) (fx50_0 : x50.toInt = -((-y30.toInt) / 100)) (fx50_1 : sb_dg (Int.natAbs y30.toInt) = sb_dg (Int.natAbs x50.toInt) + 2) (ex51 : x51 = x50 * (100 : Int32)) (tx51 : x51.toInt = x50.toInt * 100) (ex52 : x52 = x51 - y30) (tx52 : x52.toInt = x51.toInt - y30.toInt) (ex53 : x53 = y31 + (-1 : Int32)) (tx53 : x53.toInt = y31.toInt + (-1)) (ex56 : x56 = x53 + (-1 : Int32)) : x56.toInt = x53.toInt + (-1) := by
  have qm1 : (-1 : Int32).toInt = (-1) := by decide +kernel
  have q1 : (1 : Int32).toInt = 1 := by decide +kernel
  have q100 : (100 : Int32).toInt = 100 := by decide +kernel
  have zd0 := dg_spec (Int.natAbs k0.toInt)
  have zd1 := dg_spec (Int.natAbs y30.toInt)
  have zd2 := dg_spec (Int.natAbs x50.toInt)
  have zn0 := ngd_spec k0.toInt
  have z9 : ((-1) : Int32).toInt = -1 := by decide +kernel
  rw [ex56, z_add (by omega) (by omega)]; first | done | omega
-- in@67 @67
theorem vJ6_getChars_ba4f3_53 (κ : KS) (k0 : Int32) (k1 : Int32) (k2 : Nat) (y30 : Int32) (y31 : Int32) (P32 : PL) (x50 : Int32) (x51 : Int32) (x52 : Int32) (x53 : Int32) (x56 : Int32) (hpre_0 : (((sb_dg (Int.natAbs k0.toInt) + ngd k0.toInt) : Nat) : Int) ≤ k1.toInt) (hpre_1 : k1.toInt ≤ ((oL κ.2.2.2.2 k2 : Nat) : Int)) (hpre_2 : NS κ.2.2.2.2 k2) (hk0_0 : -2147483648 ≤ k0.toInt) (hk0_1 : k0.toInt ≤ 2147483647) (hl8_2 : oL κ.2.2.2.2 k2 ≤ 100) (c1 : k0.toInt < 0) (hi22_0 : y30.toInt ≤ 0) (hi22_1 : -2147483648 ≤ y30.toInt) (hi22_2 : ((sb_dg (Int.natAbs y30.toInt) : Nat) : Int) + (1 : Int32).toInt ≤ y31.toInt) (hi22_3 : y31.toInt ≤ ((oL P32 k2 : Nat) : Int)) (hi22_4 : SBS κ.2.2.2.2 P32) (hi22_5 : NS P32 k2) (kl33 : oL P32 k2 = oL κ.2.2.2.2 k2) (c34 : y30.toInt ≤ (-100)) (ex50 : x50 = y30 / (100 : Int32)) (fx50_0 : x50.toInt = -((-y30.toInt) / 100)) (fx50_1 : sb_dg (Int.natAbs y30.toInt) = sb_dg (Int.natAbs x50.toInt) + 2) (ex51 : x51 = x50 * (100 : Int32)) (tx51 : x51.toInt = x50.toInt * 100) (ex52 : x52 = x51 - y30) (tx52 : x52.toInt = x51.toInt - y30.toInt) (ex53 : x53 = y31 + (-1 : Int32)) (tx53 : x53.toInt = y31.toInt + (-1)) (ex56 : x56 = x53 + (-1 : Int32)) (tx56 : x56.toInt = x53.toInt + (-1)) : vp_in x52 100 := by
  have qm1 : (-1 : Int32).toInt = (-1) := by decide +kernel
  have q1 : (1 : Int32).toInt = 1 := by decide +kernel
  have q100 : (100 : Int32).toInt = 100 := by decide +kernel
  have zd0 := dg_spec (Int.natAbs k0.toInt)
  have zd1 := dg_spec (Int.natAbs y30.toInt)
  have zd2 := dg_spec (Int.natAbs x50.toInt)
  have zn0 := ngd_spec k0.toInt
  exact vp_in_iff.mpr ⟨by omega, by omega⟩
-- in@68 @68
theorem vJ6_getChars_ba4f3_54 (κ : KS) (k0 : Int32) (k1 : Int32) (k2 : Nat) (y30 : Int32) (y31 : Int32) (P32 : PL) (x50 : Int32) (x51 : Int32) (x52 : Int32) (x53 : Int32) (x56 : Int32) (hpre_0 : (((sb_dg (Int.natAbs k0.toInt) + ngd k0.toInt) : Nat) : Int) ≤ k1.toInt) (hpre_1 : k1.toInt ≤ ((oL κ.2.2.2.2 k2 : Nat) : Int)) (hpre_2 : NS κ.2.2.2.2 k2) (hk0_0 : -2147483648 ≤ k0.toInt) (hk0_1 : k0.toInt ≤ 2147483647) (hl8_2 : oL κ.2.2.2.2 k2 ≤ 100) (c1 : k0.toInt < 0) (hi22_0 : y30.toInt ≤ 0) (hi22_1 : -2147483648 ≤ y30.toInt) (hi22_2 : ((sb_dg (Int.natAbs y30.toInt) : Nat) : Int) + (1 : Int32).toInt ≤ y31.toInt) (hi22_3 : y31.toInt ≤ ((oL P32 k2 : Nat) : Int)) (hi22_4 : SBS κ.2.2.2.2 P32) (hi22_5 : NS P32 k2) (kl33 : oL P32 k2 = oL κ.2.2.2.2 k2) (c34 : y30.toInt ≤ (-100)) (ex50 : x50 = y30 / (100 : Int32)) (fx50_0 : x50.toInt = -((-y30.toInt) / 100)) (fx50_1 : sb_dg (Int.natAbs y30.toInt) = sb_dg (Int.natAbs x50.toInt) + 2) (ex51 : x51 = x50 * (100 : Int32)) (tx51 : x51.toInt = x50.toInt * 100) (ex52 : x52 = x51 - y30) (tx52 : x52.toInt = x51.toInt - y30.toInt) (ex53 : x53 = y31 + (-1 : Int32)) (tx53 : x53.toInt = y31.toInt + (-1)) (ex56 : x56 = x53 + (-1 : Int32)) (tx56 : x56.toInt = x53.toInt + (-1)) : vp_in x56 (oL P32 k2) := by
  have qm1 : (-1 : Int32).toInt = (-1) := by decide +kernel
  have q1 : (1 : Int32).toInt = 1 := by decide +kernel
  have q100 : (100 : Int32).toInt = 100 := by decide +kernel
  have zd0 := dg_spec (Int.natAbs k0.toInt)
  have zd1 := dg_spec (Int.natAbs y30.toInt)
  have zd2 := dg_spec (Int.natAbs x50.toInt)
  have zn0 := ngd_spec k0.toInt
  exact vp_in_iff.mpr ⟨by omega, by omega⟩
-- inv@22 @22
theorem vJ6_getChars_ba4f3_55 (κ : KS) (k0 : Int32) (k1 : Int32) (k2 : Nat) (y30 : Int32) (y31 : Int32) (P32 : PL) (x50 : Int32) (x51 : Int32) (x52 : Int32) (x53 : Int32) (x54 : Int32) (x56 : Int32) (x57 : Int32) (hpre_0 : (((sb_dg (Int.natAbs k0.toInt) + ngd k0.toInt) : Nat) : Int) ≤ k1.toInt) (hpre_1 : k1.toInt ≤ ((oL κ.2.2.2.2 k2 : Nat) : Int)) (hpre_2 : NS κ.2.2.2.2 k2) (hk0_0 : -2147483648 ≤ k0.toInt) (hk0_1 : k0.toInt ≤ 2147483647) (hl8_2 : oL κ.2.2.2.2 k2 ≤ 100) (c1 : k0.toInt < 0) (hi22_0 : y30.toInt ≤ 0) (hi22_1 : -2147483648 ≤ y30.toInt) (hi22_2 : ((sb_dg (Int.natAbs y30.toInt) : Nat) : Int) + (1 : Int32).toInt ≤ y31.toInt) (hi22_3 : y31.toInt ≤ ((oL P32 k2 : Nat) : Int)) (hi22_4 : SBS κ.2.2.2.2 P32) (hi22_5 : NS P32 k2) (kl33 : oL P32 k2 = oL κ.2.2.2.2 k2) (c34 : y30.toInt ≤ (-100)) (ex50 : x50 = y30 / (100 : Int32)) (fx50_0 : x50.toInt = -((-y30.toInt) / 100)) (fx50_1 : sb_dg (Int.natAbs y30.toInt) = sb_dg (Int.natAbs x50.toInt) + 2) (ex51 : x51 = x50 * (100 : Int32)) (tx51 : x51.toInt = x50.toInt * 100) (ex52 : x52 = x51 - y30) (tx52 : x52.toInt = x51.toInt - y30.toInt) (ex53 : x53 = y31 + (-1 : Int32)) (tx53 : x53.toInt = y31.toInt + (-1)) (ex56 : x56 = x53 + (-1 : Int32)) (tx56 : x56.toInt = x53.toInt + (-1)) : x50.toInt ≤ 0 ∧ -2147483648 ≤ x50.toInt ∧ ((sb_dg (Int.natAbs x50.toInt) : Nat) : Int) + (1 : Int32).toInt ≤ x56.toInt ∧ x56.toInt ≤ ((oL P32 k2 : Nat) : Int) ∧ SBS κ.2.2.2.2 (sB (sB P32 k2 (upd (oB P32 k2) x53.toNatClampNeg (vp_nar .byte x54))) k2 (upd (oB (sB P32 k2 (upd (oB P32 k2) x53.toNatClampNeg (vp_nar .byte x54))) k2) x56.toNatClampNeg (vp_nar .byte x57))) := by
  have qm1 : (-1 : Int32).toInt = (-1) := by decide +kernel
  have q1 : (1 : Int32).toInt = 1 := by decide +kernel
  have q100 : (100 : Int32).toInt = 100 := by decide +kernel
  have zd0 := dg_spec (Int.natAbs x50.toInt)
  have zd1 := dg_spec (Int.natAbs k0.toInt)
  have zd2 := dg_spec (Int.natAbs y30.toInt)
  have zn0 := ngd_spec k0.toInt
  refine ⟨?_, ?_, ?_, ?_, ?_⟩ <;> first | assumption | omega | (subst_vars; omega) | trivial | exact SBS.rf
-- inv2@22 @22
theorem vJ6_getChars_ba4f3_56 (sa : Nat → Nat) (κ : KS) (k0 : Int32) (k1 : Int32) (k2 : Nat) (y30 : Int32) (y31 : Int32) (P32 : PL) (x50 : Int32) (x51 : Int32) (x52 : Int32) (x53 : Int32) (x54 : Int32) (x56 : Int32) (x57 : Int32) (ht2 : oT κ.2.2.2.2 k2 = 8) (hPV : PV sa κ.2.2.2.2) (hpre_0 : (((sb_dg (Int.natAbs k0.toInt) + ngd k0.toInt) : Nat) : Int) ≤ k1.toInt) (hpre_1 : k1.toInt ≤ ((oL κ.2.2.2.2 k2 : Nat) : Int)) (hpre_2 : NS κ.2.2.2.2 k2) (hk0_0 : -2147483648 ≤ k0.toInt) (hk0_1 : k0.toInt ≤ 2147483647) (hl8_2 : oL κ.2.2.2.2 k2 ≤ 100) (c1 : k0.toInt < 0) (hi22_0 : y30.toInt ≤ 0) (hi22_1 : -2147483648 ≤ y30.toInt) (hi22_2 : ((sb_dg (Int.natAbs y30.toInt) : Nat) : Int) + (1 : Int32).toInt ≤ y31.toInt) (hi22_3 : y31.toInt ≤ ((oL P32 k2 : Nat) : Int)) (hi22_4 : SBS κ.2.2.2.2 P32) (hi22_5 : NS P32 k2) (hf22_0 : EX κ.2.2.2.2 P32) (hf22_2 : KPx True κ.2.2.2.2 P32) (hi22y : GCH κ.2.2.2.2 P32 k2 k0.toInt y30.toInt y31.toInt k1.toInt) (kl33 : oL P32 k2 = oL κ.2.2.2.2 k2) (c34 : y30.toInt ≤ (-100)) (ex50 : x50 = y30 / (100 : Int32)) (fx50_0 : x50.toInt = -((-y30.toInt) / 100)) (fx50_1 : sb_dg (Int.natAbs y30.toInt) = sb_dg (Int.natAbs x50.toInt) + 2) (ex51 : x51 = x50 * (100 : Int32)) (tx51 : x51.toInt = x50.toInt * 100) (ex52 : x52 = x51 - y30) (tx52 : x52.toInt = x51.toInt - y30.toInt) (ex53 : x53 = y31 + (-1 : Int32)) (tx53 : x53.toInt = y31.toInt + (-1)) (dx54 : x54.toInt = 48 + ((x52.toNatClampNeg % 10 : Nat) : Int)) (exz55 : EX P32 (sB P32 k2 (upd (oB P32 k2) x53.toNatClampNeg (vp_nar .byte x54)))) (ex56 : x56 = x53 + (-1 : Int32)) (tx56 : x56.toInt = x53.toInt + (-1)) (dx57 : x57.toInt = 48 + ((x52.toNatClampNeg / 10 : Nat) : Int)) (exz58 : EX (sB P32 k2 (upd (oB P32 k2) x53.toNatClampNeg (vp_nar .byte x54))) (sB (sB P32 k2 (upd (oB P32 k2) x53.toNatClampNeg (vp_nar .byte x54))) k2 (upd (oB (sB P32 k2 (upd (oB P32 k2) x53.toNatClampNeg (vp_nar .byte x54))) k2) x56.toNatClampNeg (vp_nar .byte x57)))) : GCH κ.2.2.2.2 (sB (sB P32 k2 (upd (oB P32 k2) x53.toNatClampNeg (vp_nar .byte x54))) k2 (upd (oB (sB P32 k2 (upd (oB P32 k2) x53.toNatClampNeg (vp_nar .byte x54))) k2) x56.toNatClampNeg (vp_nar .byte x57))) k2 k0.toInt x50.toInt x56.toInt k1.toInt := by
  have qm1 : (-1 : Int32).toInt = (-1) := by decide +kernel
  have q1 : (1 : Int32).toInt = 1 := by decide +kernel
  have q100 : (100 : Int32).toInt = 100 := by decide +kernel
  have zd0 := dg_spec (Int.natAbs k0.toInt)
  have zd1 := dg_spec (Int.natAbs y30.toInt)
  have zd2 := dg_spec (Int.natAbs x50.toInt)
  have zn0 := ngd_spec k0.toInt
  rw [clampN] at dx54 dx57
  have nx54 : vp_nar .byte x54 = x54 := q_b8x (by omega) (by omega)
  have nx57 : vp_nar .byte x57 = x57 := q_b8x (by omega) (by omega)
  rw [nx54, nx57]
  exact hi22y.step9 (c := x54) (d := x57) (x := x53.toNatClampNeg) (y := x56.toNatClampNeg) (by omega) (by omega) (by omega) (by omega) (by omega) (by rw [clampN]; omega) (by rw [clampN]; omega) (by omega) (by omega) (by simp only [q_oB])
-- meas@22 @22
theorem vJ6_getChars_ba4f3_57 (κ : KS) (k0 : Int32) (k1 : Int32) (k2 : Nat) (y30 : Int32) (y31 : Int32) (P32 : PL) (x50 : Int32) (x51 : Int32) (x52 : Int32) (x53 : Int32) (x56 : Int32) (hpre_0 : (((sb_dg (Int.natAbs k0.toInt) + ngd k0.toInt) : Nat) : Int) ≤ k1.toInt) (hpre_1 : k1.toInt ≤ ((oL κ.2.2.2.2 k2 : Nat) : Int)) (hpre_2 : NS κ.2.2.2.2 k2) (hk0_0 : -2147483648 ≤ k0.toInt) (hk0_1 : k0.toInt ≤ 2147483647) (hl8_2 : oL κ.2.2.2.2 k2 ≤ 100) (c1 : k0.toInt < 0) (hi22_0 : y30.toInt ≤ 0) (hi22_1 : -2147483648 ≤ y30.toInt) (hi22_2 : ((sb_dg (Int.natAbs y30.toInt) : Nat) : Int) + (1 : Int32).toInt ≤ y31.toInt) (hi22_3 : y31.toInt ≤ ((oL P32 k2 : Nat) : Int)) (hi22_4 : SBS κ.2.2.2.2 P32) (hi22_5 : NS P32 k2) (kl33 : oL P32 k2 = oL κ.2.2.2.2 k2) (c34 : y30.toInt ≤ (-100)) (ex50 : x50 = y30 / (100 : Int32)) (fx50_0 : x50.toInt = -((-y30.toInt) / 100)) (fx50_1 : sb_dg (Int.natAbs y30.toInt) = sb_dg (Int.natAbs x50.toInt) + 2) (ex51 : x51 = x50 * (100 : Int32)) (tx51 : x51.toInt = x50.toInt * 100) (ex52 : x52 = x51 - y30) (tx52 : x52.toInt = x51.toInt - y30.toInt) (ex53 : x53 = y31 + (-1 : Int32)) (tx53 : x53.toInt = y31.toInt + (-1)) (ex56 : x56 = x53 + (-1 : Int32)) (tx56 : x56.toInt = x53.toInt + (-1)) : (-x50.toInt).toNat < (-y30.toInt).toNat := by
  have qm1 : (-1 : Int32).toInt = (-1) := by decide +kernel
  have q1 : (1 : Int32).toInt = 1 := by decide +kernel
  have q100 : (100 : Int32).toInt = 100 := by decide +kernel
  have zd0 := dg_spec (Int.natAbs k0.toInt)
  have zd1 := dg_spec (Int.natAbs y30.toInt)
  have zd2 := dg_spec (Int.natAbs x50.toInt)
  have zn0 := ngd_spec k0.toInt
  first | assumption | omega | (subst_vars; omega) | trivial
set_option maxHeartbeats 4000000 in
set_option maxRecDepth 100000 in
theorem NJ6_getChars_ba4f3 (l : Launch) (D : va_G) (cy : Nat → ClassId) (ad : Nat → Nat) (A : Nat → Prop) (sz0 : Nat) (sa : Nat → Nat)  (κ : KS) (sz sl : Nat) (hAF : ∀ q, A q → Fr sz0 q) (hAn : ∀ q : Nat, sz ≤ q → A q) (k0 : Int32) (k1 : Int32) (k2 : Nat) (ht2 : oT κ.2.2.2.2 k2 = 8) (hPV : PV sa κ.2.2.2.2) (hpre : (((sb_dg (Int.natAbs k0.toInt) + ngd k0.toInt) : Nat) : Int) ≤ k1.toInt ∧ k1.toInt ≤ ((oL κ.2.2.2.2 k2 : Nat) : Int) ∧ NS κ.2.2.2.2 k2) : Met l yJ6_getChars_ba4f3 (Cond.code yJ6_getChars_ba4f3 cJ6_getChars_ba4f3 7 (some .int) :: GWc) ({ frames := 0, cells := 0, slots := 0, locals := 0 }) (PcC D cy ad A sz0 sa [.int k0, .int k1, .ref k2] κ sz sl) (va_Qi (fun (r : Int32) (u : PL) => ((EX κ.2.2.2.2 u) ∧ (PV sa u) ∧ (KPx True κ.2.2.2.2 u) ∧ (SBS κ.2.2.2.2 u)) ∧ (∀ s9 : List Int, PFX κ.2.2.2.2 k2 s9 → k1.toInt = (s9.length : Int) + ((qDec k0.toInt).length : Int) → PFX u k2 (s9 ++ qDec k0.toInt))) (fun (u : PL) (t : State) => Bx D cy ad A sz sl (tP κ u) (0) (0) t) A) (0) (0) A := by
  refine CM_of (loc0 := [(0, .int k0), (1, .int k1), (2, .ref k2)]) (own := RJ6) (nm := "getChars") (by decide) rfl rfl rfl (Nat.le_of_ble_eq_true rfl) hAF hAn ?_
  intro p e s m below meth c ls hsz hsl C hP hS hl
  obtain ⟨hpre_0, hpre_1, hpre_2⟩ := hpre
  have hk0 : (-2147483648 ≤ k0.toInt ∧ k0.toInt ≤ 2147483647) := i32_in _
  obtain ⟨hk0_0, hk0_1⟩ := hk0
  have hl8_2 : oL κ.2.2.2.2 k2 ≤ 100 := (hPV.t8 ht2).1
  refine lv_iload_n C.x C.b dJ6_getChars_ba4f3_0 rfl (lv_at hl 1 rfl) ?_
  refine lv_istore (lv' := [(5, .int k1), (0, .int k0), (1, .int k1), (2, .ref k2)]) C.x C.b dJ6_getChars_ba4f3_1 hl (by decide) rfl (fun ls hl => ?_)
  refine lv_iload_n C.x C.b dJ6_getChars_ba4f3_3 rfl (lv_at hl 1 rfl) ?_
  refine lv_if_ge (tgt := 11) C.x C.b dJ6_getChars_ba4f3_4 (by decide) (fun c1 => ?_) (fun c1 => ?_)
  · have c1 : 0 ≤ k0.toInt := by have h := z_le c1; rw [show (0 : Int32).toInt = 0 from by decide +kernel] at h; exact h
    refine lv_iconst (v := 0) C.x C.b dJ6_getChars_ba4f3_11 (by decide +kernel) ?_
    refine lv_istore (lv' := [(6, .int 0), (5, .int k1), (0, .int k0), (1, .int k1), (2, .ref k2)]) C.x C.b dJ6_getChars_ba4f3_12 hl (by decide) rfl (fun ls hl => ?_)
    refine lv_iload C.x C.b dJ6_getChars_ba4f3_14 (lv_at hl 0 rfl) ?_
    refine lv_if_ne (tgt := 22) C.x C.b dJ6_getChars_ba4f3_16 (by decide) (fun c2 => absurd (by decide +kernel) c2) (fun _ => ?_)
    refine lv_iload_n C.x C.b dJ6_getChars_ba4f3_19 rfl (lv_at hl 2 rfl) ?_
    refine lv_ineg C.x C.b dJ6_getChars_ba4f3_20 ?_
    refine lv_topi (fun x3 ex3 => ?_)
    have fx3 : x3.toInt = -k0.toInt ∧ sb_dg (Int.natAbs x3.toInt) = sb_dg (Int.natAbs k0.toInt) := (vJ6_getChars_ba4f3_1 κ k0 k1 k2 x3 hpre_0 hpre_1 hpre_2 hk0_0 hk0_1 hl8_2 c1 ex3)
    obtain ⟨fx3_0, fx3_1⟩ := fx3
    refine lv_istore_n (lv' := [(0, .int x3), (6, .int 0), (5, .int k1), (1, .int k1), (2, .ref k2)]) C.x C.b dJ6_getChars_ba4f3_21 rfl hl (by decide) rfl (fun ls hl => ?_)
    have lp22 : ∀ (n : Nat) (y4 : Int32) (y5 : Int32) (P6 : PL) (H : Heap) (locs : List Loc) (ls : Array Slot), (-y4.toInt).toNat < n → (EX κ.2.2.2.2 P6) → (PV sa P6) → (KPx True κ.2.2.2.2 P6) → ((y4.toInt ≤ 0 ∧ -2147483648 ≤ y4.toInt ∧ ((sb_dg (Int.natAbs y4.toInt) : Nat) : Int) + (0 : Int32).toInt ≤ y5.toInt ∧ y5.toInt ≤ ((oL P6 k2 : Nat) : Int) ∧ SBS κ.2.2.2.2 P6 ∧ NS P6 k2) ∧ (GCH κ.2.2.2.2 P6 k2 k0.toInt y4.toInt y5.toInt k1.toInt)) → CH D cy ad A (tP κ P6) H → va_S A s.heap H locs → lv_has ls 7 [(0, .int y4), (6, .int 0), (5, .int y5), (1, .int k1), (2, .ref k2)] → W p l e (headSpec (Cond.code yJ6_getChars_ba4f3 cJ6_getChars_ba4f3 7 (some .int) :: GWc) ({ frames := 0, cells := 0, slots := 0, locals := 0 })).room s m #[.int k0, .int k1, .ref k2] below meth c H locs (0) (0) (MQ below (va_Qi (fun (r : Int32) (u : PL) => ((EX κ.2.2.2.2 u) ∧ (PV sa u) ∧ (KPx True κ.2.2.2.2 u) ∧ (SBS κ.2.2.2.2 u)) ∧ (∀ s9 : List Int, PFX κ.2.2.2.2 k2 s9 → k1.toInt = (s9.length : Int) + ((qDec k0.toInt).length : Int) → PFX u k2 (s9 ++ qDec k0.toInt))) (fun (u : PL) (t : State) => Bx D cy ad A sz sl (tP κ u) (0) (0) t) A) #[.int k0, .int k1, .ref k2] s (0) (0) A) (F0 m 22 ls []) := by
      intro n
      induction n with
      | zero => intro y4 y5 P6 H locs ls hn; exact absurd hn (Nat.not_lt_zero _)
      | succ n22 ih22 =>
        intro y4 y5 P6 H locs ls hn22 hf22_0 hf22_1 hf22_2 hi22 hP hS hl
        obtain ⟨hi22, hi22y⟩ := hi22
        obtain ⟨hi22_0, hi22_1, hi22_2, hi22_3, hi22_4, hi22_5⟩ := hi22
        have kl7 : oL P6 k2 = oL κ.2.2.2.2 k2 := hf22_0.L ht2 (by decide)
        refine lv_iload_n C.x C.b dJ6_getChars_ba4f3_22 rfl (lv_at hl 0 rfl) ?_
        refine lv_bipush (v := (-100)) C.x C.b dJ6_getChars_ba4f3_23 (by decide +kernel) ?_
        refine lv_icmp_gt (tgt := 72) C.x C.b dJ6_getChars_ba4f3_25 (by decide) (fun c8 => ?_) (fun c8 => ?_)
        · have c8 : (-100) < y4.toInt := by have h := z_lt c8; rw [show ((-100) : Int32).toInt = -100 from by decide +kernel] at h; exact h
          refine lv_aload_n C.x C.b dJ6_getChars_ba4f3_72 rfl (lv_at hl 4 rfl) ?_
          obtain ⟨x9, ex9⟩ : ∃ y : Int32, y = y5 + (-1 : Int32) := ⟨_, rfl⟩
          have tx9 : x9.toInt = y5.toInt + (-1) := (vJ6_getChars_ba4f3_4 κ k0 k1 k2 x3 y4 y5 P6 x9 hpre_0 hpre_1 hpre_2 hk0_0 hk0_1 hl8_2 c1 ex3 fx3_0 fx3_1 hi22_0 hi22_1 hi22_2 hi22_3 hi22_4 hi22_5 kl7 c8 ex9)
          refine lv_iinc (v := x9) (lv' := [(5, .int x9), (0, .int y4), (6, .int 0), (1, .int k1), (2, .ref k2)]) C.x C.b dJ6_getChars_ba4f3_73 hl (k := 2) rfl (by rw [ex9]; rfl) (by decide) rfl (fun ls hl => ?_)
          refine lv_iload C.x C.b dJ6_getChars_ba4f3_76 (lv_at hl 0 rfl) ?_
          obtain ⟨f78, ff78, fd78, fz78, ft78⟩ := C.n.2.1
          refine va_gets (C := "java/lang/Integer") (n := "DigitOnes") (d := "[B") (A := A) C.x C.b (fz78.narrow C.f) hS C.o (C.w _ cw_270) (fun _ h9 => h9) dJ6_getChars_ba4f3_78 ?_
          refine lv_iload_n C.x C.b dJ6_getChars_ba4f3_81 rfl (lv_at hl 1 rfl) ?_
          refine lv_ineg C.x C.b dJ6_getChars_ba4f3_82 ?_
          refine lv_topi (fun x10 ex10 => ?_)
          have fx10 : x10.toInt = -y4.toInt := (vJ6_getChars_ba4f3_5 κ k0 k1 k2 x3 y4 y5 P6 x9 x10 hpre_0 hpre_1 hpre_2 hk0_0 hk0_1 hl8_2 c1 ex3 fx3_0 fx3_1 hi22_0 hi22_1 hi22_2 hi22_3 hi22_4 hi22_5 kl7 c8 ex9 tx9 ex10)
          refine va_tb C.x C.b (ft78.narrow C.f) hS (vJ6_getChars_ba4f3_6 κ k0 k1 k2 x3 y4 y5 P6 x9 x10 hpre_0 hpre_1 hpre_2 hk0_0 hk0_1 hl8_2 c1 ex3 fx3_0 fx3_1 hi22_0 hi22_1 hi22_2 hi22_3 hi22_4 hi22_5 kl7 c8 ex9 tx9 ex10 fx10) rfl dJ6_getChars_ba4f3_83 ?_
          refine lv_topi (fun x11 ex11 => ?_)
          have dx11 : x11.toInt = 48 + ((x10.toNatClampNeg % 10 : Nat) : Int) := by rw [ex11]; exact fd78 _ (by have z9 := vp_in_iff.mp (vJ6_getChars_ba4f3_6 κ k0 k1 k2 x3 y4 y5 P6 x9 x10 hpre_0 hpre_1 hpre_2 hk0_0 hk0_1 hl8_2 c1 ex3 fx3_0 fx3_1 hi22_0 hi22_1 hi22_2 hi22_3 hi22_4 hi22_5 kl7 c8 ex9 tx9 ex10 fx10); rw [clampN]; omega)
          refine pw_8 C hP hS (t20 (a := k2) (t := 8) (hf22_0.T ht2 (by decide))) rfl (vJ6_getChars_ba4f3_7 κ k0 k1 k2 x3 y4 y5 P6 x9 x10 hpre_0 hpre_1 hpre_2 hk0_0 hk0_1 hl8_2 c1 ex3 fx3_0 fx3_1 hi22_0 hi22_1 hi22_2 hi22_3 hi22_4 hi22_5 kl7 c8 ex9 tx9 ex10 fx10) dJ6_getChars_ba4f3_84 (fun H locs hP hS => ?_)
          have exz12 : EX P6 (sB P6 k2 (upd (oB P6 k2) x9.toNatClampNeg (vp_nar .byte x11))) := EX.stB
          have kpz12 : KPx True κ.2.2.2.2 (sB P6 k2 (upd (oB P6 k2) x9.toNatClampNeg (vp_nar .byte x11))) := hf22_2.sB9 (show NS P6 k2 from hi22_5)
          have pvz12 : PV sa (sB P6 k2 (upd (oB P6 k2) x9.toNatClampNeg (vp_nar .byte x11))) := (pv_stBu hf22_1 (hf22_0.T ht2 (by decide)))
          refine lv_iload_n C.x C.b dJ6_getChars_ba4f3_85 rfl (lv_at hl 1 rfl) ?_
          refine lv_bipush (v := (-9)) C.x C.b dJ6_getChars_ba4f3_86 (by decide +kernel) ?_
          refine lv_icmp_ge (tgt := 104) C.x C.b dJ6_getChars_ba4f3_88 (by decide) (fun c13 => ?_) (fun c13 => ?_)
          · have c13 : (-9) ≤ y4.toInt := by have h := z_le c13; rw [show ((-9) : Int32).toInt = -9 from by decide +kernel] at h; exact h
            refine lv_iload C.x C.b dJ6_getChars_ba4f3_104 (lv_at hl 2 rfl) ?_
            refine lv_if_eq (tgt := 118) C.x C.b dJ6_getChars_ba4f3_106 (by decide) (fun _ => ?_) (fun c14 => absurd (by decide +kernel) c14)
            refine lv_iload C.x C.b dJ6_getChars_ba4f3_118 (lv_at hl 0 rfl) ?_
            have hP : CH D cy ad A (tP κ (sB P6 k2 (upd (oB P6 k2) x9.toNatClampNeg (vp_nar .byte x11)))) H := CH.cong hP rfl rfl rfl rfl rfl rfl rfl rfl rfl rfl rfl rfl rfl rfl rfl rfl rfl rfl rfl rfl rfl rfl rfl rfl rfl rfl rfl
            exact c_reti C hsz hsl (sB P6 k2 (upd (oB P6 k2) x9.toNatClampNeg (vp_nar .byte x11))) ⟨⟨(hf22_0.trans exz12), pvz12, kpz12, (vJ6_getChars_ba4f3_8 κ k0 k1 k2 x3 y4 y5 P6 x9 x10 x11 hpre_0 hpre_1 hpre_2 hk0_0 hk0_1 hl8_2 c1 ex3 fx3_0 fx3_1 hi22_0 hi22_1 hi22_2 hi22_3 hi22_4 hi22_5 kl7 c8 ex9 tx9 ex10 fx10 c13)⟩, (vJ6_getChars_ba4f3_9 sa κ k0 k1 k2 x3 y4 y5 P6 x9 x10 x11 ht2 hPV hpre_0 hpre_1 hpre_2 hk0_0 hk0_1 hl8_2 c1 ex3 fx3_0 fx3_1 hi22_0 hi22_1 hi22_2 hi22_3 hi22_4 hi22_5 hf22_0 hf22_2 hi22y kl7 c8 ex9 tx9 ex10 fx10 dx11 exz12 c13)⟩ hP hS ⟨(Nat.le_of_ble_eq_true rfl), (Nat.le_of_ble_eq_true rfl)⟩ ⟨(Nat.le_of_ble_eq_true rfl), (Nat.le_of_ble_eq_true rfl)⟩ dJ6_getChars_ba4f3_120
          · have c13 : y4.toInt < (-9) := by have h := z_nle c13; rw [show ((-9) : Int32).toInt = -9 from by decide +kernel] at h; exact h
            refine lv_aload_n C.x C.b dJ6_getChars_ba4f3_91 rfl (lv_at hl 4 rfl) ?_
            obtain ⟨x15, ex15⟩ : ∃ y : Int32, y = x9 + (-1 : Int32) := ⟨_, rfl⟩
            have tx15 : x15.toInt = x9.toInt + (-1) := (vJ6_getChars_ba4f3_10 κ k0 k1 k2 x3 y4 y5 P6 x9 x10 x15 hpre_0 hpre_1 hpre_2 hk0_0 hk0_1 hl8_2 c1 ex3 fx3_0 fx3_1 hi22_0 hi22_1 hi22_2 hi22_3 hi22_4 hi22_5 kl7 c8 ex9 tx9 ex10 fx10 c13 ex15)
            refine lv_iinc (v := x15) (lv' := [(5, .int x15), (0, .int y4), (6, .int 0), (1, .int k1), (2, .ref k2)]) C.x C.b dJ6_getChars_ba4f3_92 hl (k := 0) rfl (by rw [ex15]; rfl) (by decide) rfl (fun ls hl => ?_)
            refine lv_iload C.x C.b dJ6_getChars_ba4f3_95 (lv_at hl 0 rfl) ?_
            obtain ⟨f97, ff97, fd97, fz97, ft97⟩ := C.n.2.2.1
            refine va_gets (C := "java/lang/Integer") (n := "DigitTens") (d := "[B") (A := A) C.x C.b (fz97.narrow C.f) hS C.o (C.w _ cw_271) (fun _ h9 => h9) dJ6_getChars_ba4f3_97 ?_
            refine lv_iload_n C.x C.b dJ6_getChars_ba4f3_100 rfl (lv_at hl 1 rfl) ?_
            refine lv_ineg C.x C.b dJ6_getChars_ba4f3_101 ?_
            refine lv_topi (fun x16 ex16 => ?_)
            have fx16 : x16.toInt = -y4.toInt := (vJ6_getChars_ba4f3_11 κ k0 k1 k2 x3 y4 y5 P6 x9 x10 x15 x16 hpre_0 hpre_1 hpre_2 hk0_0 hk0_1 hl8_2 c1 ex3 fx3_0 fx3_1 hi22_0 hi22_1 hi22_2 hi22_3 hi22_4 hi22_5 kl7 c8 ex9 tx9 ex10 fx10 c13 ex15 tx15 ex16)
            refine va_tb C.x C.b (ft97.narrow C.f) hS (vJ6_getChars_ba4f3_12 κ k0 k1 k2 x3 y4 y5 P6 x9 x10 x15 x16 hpre_0 hpre_1 hpre_2 hk0_0 hk0_1 hl8_2 c1 ex3 fx3_0 fx3_1 hi22_0 hi22_1 hi22_2 hi22_3 hi22_4 hi22_5 kl7 c8 ex9 tx9 ex10 fx10 c13 ex15 tx15 ex16 fx16) rfl dJ6_getChars_ba4f3_102 ?_
            refine lv_topi (fun x17 ex17 => ?_)
            have dx17 : x17.toInt = 48 + ((x16.toNatClampNeg / 10 : Nat) : Int) := by rw [ex17]; exact fd97 _ (by have z9 := vp_in_iff.mp (vJ6_getChars_ba4f3_12 κ k0 k1 k2 x3 y4 y5 P6 x9 x10 x15 x16 hpre_0 hpre_1 hpre_2 hk0_0 hk0_1 hl8_2 c1 ex3 fx3_0 fx3_1 hi22_0 hi22_1 hi22_2 hi22_3 hi22_4 hi22_5 kl7 c8 ex9 tx9 ex10 fx10 c13 ex15 tx15 ex16 fx16); rw [clampN]; omega)
            refine pw_8 C hP hS (t20 (a := k2) (t := 8) (exz12.T (hf22_0.T ht2 (by decide)) (by decide))) rfl (vJ6_getChars_ba4f3_13 κ k0 k1 k2 x3 y4 y5 P6 x9 x10 x15 x16 hpre_0 hpre_1 hpre_2 hk0_0 hk0_1 hl8_2 c1 ex3 fx3_0 fx3_1 hi22_0 hi22_1 hi22_2 hi22_3 hi22_4 hi22_5 kl7 c8 ex9 tx9 ex10 fx10 c13 ex15 tx15 ex16 fx16) dJ6_getChars_ba4f3_103 (fun H locs hP hS => ?_)
            have exz18 : EX (sB P6 k2 (upd (oB P6 k2) x9.toNatClampNeg (vp_nar .byte x11))) (sB (sB P6 k2 (upd (oB P6 k2) x9.toNatClampNeg (vp_nar .byte x11))) k2 (upd (oB (sB P6 k2 (upd (oB P6 k2) x9.toNatClampNeg (vp_nar .byte x11))) k2) x15.toNatClampNeg (vp_nar .byte x17))) := EX.stB
            have kpz18 : KPx True κ.2.2.2.2 (sB (sB P6 k2 (upd (oB P6 k2) x9.toNatClampNeg (vp_nar .byte x11))) k2 (upd (oB (sB P6 k2 (upd (oB P6 k2) x9.toNatClampNeg (vp_nar .byte x11))) k2) x15.toNatClampNeg (vp_nar .byte x17))) := kpz12.sB9 (show NS (sB P6 k2 (upd (oB P6 k2) x9.toNatClampNeg (vp_nar .byte x11))) k2 from hi22_5)
            have pvz18 : PV sa (sB (sB P6 k2 (upd (oB P6 k2) x9.toNatClampNeg (vp_nar .byte x11))) k2 (upd (oB (sB P6 k2 (upd (oB P6 k2) x9.toNatClampNeg (vp_nar .byte x11))) k2) x15.toNatClampNeg (vp_nar .byte x17))) := (pv_stBu pvz12 (exz12.T (hf22_0.T ht2 (by decide)) (by decide)))
            refine lv_iload C.x C.b dJ6_getChars_ba4f3_104 (lv_at hl 2 rfl) ?_
            refine lv_if_eq (tgt := 118) C.x C.b dJ6_getChars_ba4f3_106 (by decide) (fun _ => ?_) (fun c19 => absurd (by decide +kernel) c19)
            refine lv_iload C.x C.b dJ6_getChars_ba4f3_118 (lv_at hl 0 rfl) ?_
            have hP : CH D cy ad A (tP κ (sB (sB P6 k2 (upd (oB P6 k2) x9.toNatClampNeg (vp_nar .byte x11))) k2 (upd (oB (sB P6 k2 (upd (oB P6 k2) x9.toNatClampNeg (vp_nar .byte x11))) k2) x15.toNatClampNeg (vp_nar .byte x17)))) H := CH.cong hP rfl rfl rfl rfl rfl rfl rfl rfl rfl rfl rfl rfl rfl rfl rfl rfl rfl rfl rfl rfl rfl rfl rfl rfl rfl rfl rfl
            exact c_reti C hsz hsl (sB (sB P6 k2 (upd (oB P6 k2) x9.toNatClampNeg (vp_nar .byte x11))) k2 (upd (oB (sB P6 k2 (upd (oB P6 k2) x9.toNatClampNeg (vp_nar .byte x11))) k2) x15.toNatClampNeg (vp_nar .byte x17))) ⟨⟨((hf22_0.trans exz12).trans exz18), pvz18, kpz18, (vJ6_getChars_ba4f3_14 κ k0 k1 k2 x3 y4 y5 P6 x9 x10 x11 x15 x16 x17 hpre_0 hpre_1 hpre_2 hk0_0 hk0_1 hl8_2 c1 ex3 fx3_0 fx3_1 hi22_0 hi22_1 hi22_2 hi22_3 hi22_4 hi22_5 kl7 c8 ex9 tx9 ex10 fx10 c13 ex15 tx15 ex16 fx16)⟩, (vJ6_getChars_ba4f3_15 sa κ k0 k1 k2 x3 y4 y5 P6 x9 x10 x11 x15 x16 x17 ht2 hPV hpre_0 hpre_1 hpre_2 hk0_0 hk0_1 hl8_2 c1 ex3 fx3_0 fx3_1 hi22_0 hi22_1 hi22_2 hi22_3 hi22_4 hi22_5 hf22_0 hf22_2 hi22y kl7 c8 ex9 tx9 ex10 fx10 dx11 exz12 c13 ex15 tx15 ex16 fx16 dx17 exz18)⟩ hP hS ⟨(Nat.le_of_ble_eq_true rfl), (Nat.le_of_ble_eq_true rfl)⟩ ⟨(Nat.le_of_ble_eq_true rfl), (Nat.le_of_ble_eq_true rfl)⟩ dJ6_getChars_ba4f3_120
        · have c8 : y4.toInt ≤ (-100) := by have h := z_nlt c8; rw [show ((-100) : Int32).toInt = -100 from by decide +kernel] at h; exact h
          refine lv_iload_n C.x C.b dJ6_getChars_ba4f3_28 rfl (lv_at hl 0 rfl) ?_
          refine lv_bipush (v := 100) C.x C.b dJ6_getChars_ba4f3_29 (by decide +kernel) ?_
          refine lv_idiv C.x C.b dJ6_getChars_ba4f3_31 (by decide +kernel) ?_
          refine lv_topi (fun x20 ex20 => ?_)
          have fx20 : x20.toInt = -((-y4.toInt) / 100) ∧ sb_dg (Int.natAbs y4.toInt) = sb_dg (Int.natAbs x20.toInt) + 2 := (vJ6_getChars_ba4f3_16 κ k0 k1 k2 x3 y4 y5 P6 x20 hpre_0 hpre_1 hpre_2 hk0_0 hk0_1 hl8_2 c1 ex3 fx3_0 fx3_1 hi22_0 hi22_1 hi22_2 hi22_3 hi22_4 hi22_5 kl7 c8 ex20)
          obtain ⟨fx20_0, fx20_1⟩ := fx20
          refine lv_istore_n (lv' := [(3, .int x20), (0, .int y4), (6, .int 0), (5, .int y5), (1, .int k1), (2, .ref k2)]) C.x C.b dJ6_getChars_ba4f3_32 rfl hl (by decide) rfl (fun ls hl => ?_)
          refine lv_iload_n C.x C.b dJ6_getChars_ba4f3_33 rfl (lv_at hl 0 rfl) ?_
          refine lv_bipush (v := 100) C.x C.b dJ6_getChars_ba4f3_34 (by decide +kernel) ?_
          refine lv_imul C.x C.b dJ6_getChars_ba4f3_36 ?_
          refine lv_topi (fun x21 ex21 => ?_)
          have tx21 : x21.toInt = x20.toInt * 100 := (vJ6_getChars_ba4f3_17 κ k0 k1 k2 x3 y4 y5 P6 x20 x21 hpre_0 hpre_1 hpre_2 hk0_0 hk0_1 hl8_2 c1 ex3 fx3_0 fx3_1 hi22_0 hi22_1 hi22_2 hi22_3 hi22_4 hi22_5 kl7 c8 ex20 fx20_0 fx20_1 ex21)
          refine lv_iload_n C.x C.b dJ6_getChars_ba4f3_37 rfl (lv_at hl 1 rfl) ?_
          refine lv_isub C.x C.b dJ6_getChars_ba4f3_38 ?_
          refine lv_topi (fun x22 ex22 => ?_)
          have tx22 : x22.toInt = x21.toInt - y4.toInt := (vJ6_getChars_ba4f3_18 κ k0 k1 k2 x3 y4 y5 P6 x20 x21 x22 hpre_0 hpre_1 hpre_2 hk0_0 hk0_1 hl8_2 c1 ex3 fx3_0 fx3_1 hi22_0 hi22_1 hi22_2 hi22_3 hi22_4 hi22_5 kl7 c8 ex20 fx20_0 fx20_1 ex21 tx21 ex22)
          refine lv_istore (lv' := [(4, .int x22), (3, .int x20), (0, .int y4), (6, .int 0), (5, .int y5), (1, .int k1), (2, .ref k2)]) C.x C.b dJ6_getChars_ba4f3_39 hl (by decide) rfl (fun ls hl => ?_)
          refine lv_iload_n C.x C.b dJ6_getChars_ba4f3_41 rfl (lv_at hl 1 rfl) ?_
          refine lv_istore_n (lv' := [(0, .int x20), (4, .int x22), (3, .int x20), (6, .int 0), (5, .int y5), (1, .int k1), (2, .ref k2)]) C.x C.b dJ6_getChars_ba4f3_42 rfl hl (by decide) rfl (fun ls hl => ?_)
          refine lv_aload_n C.x C.b dJ6_getChars_ba4f3_43 rfl (lv_at hl 6 rfl) ?_
          obtain ⟨x23, ex23⟩ : ∃ y : Int32, y = y5 + (-1 : Int32) := ⟨_, rfl⟩
          have tx23 : x23.toInt = y5.toInt + (-1) := (vJ6_getChars_ba4f3_19 κ k0 k1 k2 x3 y4 y5 P6 x20 x21 x22 x23 hpre_0 hpre_1 hpre_2 hk0_0 hk0_1 hl8_2 c1 ex3 fx3_0 fx3_1 hi22_0 hi22_1 hi22_2 hi22_3 hi22_4 hi22_5 kl7 c8 ex20 fx20_0 fx20_1 ex21 tx21 ex22 tx22 ex23)
          refine lv_iinc (v := x23) (lv' := [(5, .int x23), (0, .int x20), (4, .int x22), (3, .int x20), (6, .int 0), (1, .int k1), (2, .ref k2)]) C.x C.b dJ6_getChars_ba4f3_44 hl (k := 4) rfl (by rw [ex23]; rfl) (by decide) rfl (fun ls hl => ?_)
          refine lv_iload C.x C.b dJ6_getChars_ba4f3_47 (lv_at hl 0 rfl) ?_
          obtain ⟨f49, ff49, fd49, fz49, ft49⟩ := C.n.2.1
          refine va_gets (C := "java/lang/Integer") (n := "DigitOnes") (d := "[B") (A := A) C.x C.b (fz49.narrow C.f) hS C.o (C.w _ cw_270) (fun _ h9 => h9) dJ6_getChars_ba4f3_49 ?_
          refine lv_iload C.x C.b dJ6_getChars_ba4f3_52 (lv_at hl 2 rfl) ?_
          refine va_tb C.x C.b (ft49.narrow C.f) hS (vJ6_getChars_ba4f3_20 κ k0 k1 k2 x3 y4 y5 P6 x20 x21 x22 x23 hpre_0 hpre_1 hpre_2 hk0_0 hk0_1 hl8_2 c1 ex3 fx3_0 fx3_1 hi22_0 hi22_1 hi22_2 hi22_3 hi22_4 hi22_5 kl7 c8 ex20 fx20_0 fx20_1 ex21 tx21 ex22 tx22 ex23 tx23) rfl dJ6_getChars_ba4f3_54 ?_
          refine lv_topi (fun x24 ex24 => ?_)
          have dx24 : x24.toInt = 48 + ((x22.toNatClampNeg % 10 : Nat) : Int) := by rw [ex24]; exact fd49 _ (by have z9 := vp_in_iff.mp (vJ6_getChars_ba4f3_20 κ k0 k1 k2 x3 y4 y5 P6 x20 x21 x22 x23 hpre_0 hpre_1 hpre_2 hk0_0 hk0_1 hl8_2 c1 ex3 fx3_0 fx3_1 hi22_0 hi22_1 hi22_2 hi22_3 hi22_4 hi22_5 kl7 c8 ex20 fx20_0 fx20_1 ex21 tx21 ex22 tx22 ex23 tx23); rw [clampN]; omega)
          refine pw_8 C hP hS (t20 (a := k2) (t := 8) (hf22_0.T ht2 (by decide))) rfl (vJ6_getChars_ba4f3_21 κ k0 k1 k2 x3 y4 y5 P6 x20 x21 x22 x23 hpre_0 hpre_1 hpre_2 hk0_0 hk0_1 hl8_2 c1 ex3 fx3_0 fx3_1 hi22_0 hi22_1 hi22_2 hi22_3 hi22_4 hi22_5 kl7 c8 ex20 fx20_0 fx20_1 ex21 tx21 ex22 tx22 ex23 tx23) dJ6_getChars_ba4f3_55 (fun H locs hP hS => ?_)
          have exz25 : EX P6 (sB P6 k2 (upd (oB P6 k2) x23.toNatClampNeg (vp_nar .byte x24))) := EX.stB
          have kpz25 : KPx True κ.2.2.2.2 (sB P6 k2 (upd (oB P6 k2) x23.toNatClampNeg (vp_nar .byte x24))) := hf22_2.sB9 (show NS P6 k2 from hi22_5)
          have pvz25 : PV sa (sB P6 k2 (upd (oB P6 k2) x23.toNatClampNeg (vp_nar .byte x24))) := (pv_stBu hf22_1 (hf22_0.T ht2 (by decide)))
          refine lv_aload_n C.x C.b dJ6_getChars_ba4f3_56 rfl (lv_at hl 6 rfl) ?_
          obtain ⟨x26, ex26⟩ : ∃ y : Int32, y = x23 + (-1 : Int32) := ⟨_, rfl⟩
          have tx26 : x26.toInt = x23.toInt + (-1) := (vJ6_getChars_ba4f3_22 κ k0 k1 k2 x3 y4 y5 P6 x20 x21 x22 x23 x26 hpre_0 hpre_1 hpre_2 hk0_0 hk0_1 hl8_2 c1 ex3 fx3_0 fx3_1 hi22_0 hi22_1 hi22_2 hi22_3 hi22_4 hi22_5 kl7 c8 ex20 fx20_0 fx20_1 ex21 tx21 ex22 tx22 ex23 tx23 ex26)
          refine lv_iinc (v := x26) (lv' := [(5, .int x26), (0, .int x20), (4, .int x22), (3, .int x20), (6, .int 0), (1, .int k1), (2, .ref k2)]) C.x C.b dJ6_getChars_ba4f3_57 hl (k := 0) rfl (by rw [ex26]; rfl) (by decide) rfl (fun ls hl => ?_)
          refine lv_iload C.x C.b dJ6_getChars_ba4f3_60 (lv_at hl 0 rfl) ?_
          obtain ⟨f62, ff62, fd62, fz62, ft62⟩ := C.n.2.2.1
          refine va_gets (C := "java/lang/Integer") (n := "DigitTens") (d := "[B") (A := A) C.x C.b (fz62.narrow C.f) hS C.o (C.w _ cw_271) (fun _ h9 => h9) dJ6_getChars_ba4f3_62 ?_
          refine lv_iload C.x C.b dJ6_getChars_ba4f3_65 (lv_at hl 2 rfl) ?_
          refine va_tb C.x C.b (ft62.narrow C.f) hS (vJ6_getChars_ba4f3_23 κ k0 k1 k2 x3 y4 y5 P6 x20 x21 x22 x23 x26 hpre_0 hpre_1 hpre_2 hk0_0 hk0_1 hl8_2 c1 ex3 fx3_0 fx3_1 hi22_0 hi22_1 hi22_2 hi22_3 hi22_4 hi22_5 kl7 c8 ex20 fx20_0 fx20_1 ex21 tx21 ex22 tx22 ex23 tx23 ex26 tx26) rfl dJ6_getChars_ba4f3_67 ?_
          refine lv_topi (fun x27 ex27 => ?_)
          have dx27 : x27.toInt = 48 + ((x22.toNatClampNeg / 10 : Nat) : Int) := by rw [ex27]; exact fd62 _ (by have z9 := vp_in_iff.mp (vJ6_getChars_ba4f3_23 κ k0 k1 k2 x3 y4 y5 P6 x20 x21 x22 x23 x26 hpre_0 hpre_1 hpre_2 hk0_0 hk0_1 hl8_2 c1 ex3 fx3_0 fx3_1 hi22_0 hi22_1 hi22_2 hi22_3 hi22_4 hi22_5 kl7 c8 ex20 fx20_0 fx20_1 ex21 tx21 ex22 tx22 ex23 tx23 ex26 tx26); rw [clampN]; omega)
          refine pw_8 C hP hS (t20 (a := k2) (t := 8) (exz25.T (hf22_0.T ht2 (by decide)) (by decide))) rfl (vJ6_getChars_ba4f3_24 κ k0 k1 k2 x3 y4 y5 P6 x20 x21 x22 x23 x26 hpre_0 hpre_1 hpre_2 hk0_0 hk0_1 hl8_2 c1 ex3 fx3_0 fx3_1 hi22_0 hi22_1 hi22_2 hi22_3 hi22_4 hi22_5 kl7 c8 ex20 fx20_0 fx20_1 ex21 tx21 ex22 tx22 ex23 tx23 ex26 tx26) dJ6_getChars_ba4f3_68 (fun H locs hP hS => ?_)
          have exz28 : EX (sB P6 k2 (upd (oB P6 k2) x23.toNatClampNeg (vp_nar .byte x24))) (sB (sB P6 k2 (upd (oB P6 k2) x23.toNatClampNeg (vp_nar .byte x24))) k2 (upd (oB (sB P6 k2 (upd (oB P6 k2) x23.toNatClampNeg (vp_nar .byte x24))) k2) x26.toNatClampNeg (vp_nar .byte x27))) := EX.stB
          have kpz28 : KPx True κ.2.2.2.2 (sB (sB P6 k2 (upd (oB P6 k2) x23.toNatClampNeg (vp_nar .byte x24))) k2 (upd (oB (sB P6 k2 (upd (oB P6 k2) x23.toNatClampNeg (vp_nar .byte x24))) k2) x26.toNatClampNeg (vp_nar .byte x27))) := kpz25.sB9 (show NS (sB P6 k2 (upd (oB P6 k2) x23.toNatClampNeg (vp_nar .byte x24))) k2 from hi22_5)
          have pvz28 : PV sa (sB (sB P6 k2 (upd (oB P6 k2) x23.toNatClampNeg (vp_nar .byte x24))) k2 (upd (oB (sB P6 k2 (upd (oB P6 k2) x23.toNatClampNeg (vp_nar .byte x24))) k2) x26.toNatClampNeg (vp_nar .byte x27))) := (pv_stBu pvz25 (exz25.T (hf22_0.T ht2 (by decide)) (by decide)))
          refine lv_goto (tgt := 22) C.x C.b dJ6_getChars_ba4f3_69 (by decide) ?_
          have hP : CH D cy ad A (tP κ (sB (sB P6 k2 (upd (oB P6 k2) x23.toNatClampNeg (vp_nar .byte x24))) k2 (upd (oB (sB P6 k2 (upd (oB P6 k2) x23.toNatClampNeg (vp_nar .byte x24))) k2) x26.toNatClampNeg (vp_nar .byte x27)))) H := CH.cong hP rfl rfl rfl rfl rfl rfl rfl rfl rfl rfl rfl rfl rfl rfl rfl rfl rfl rfl rfl rfl rfl rfl rfl rfl rfl rfl rfl
          refine W.widen (k := 0) (n := 0) (Nat.le_of_ble_eq_true rfl) (Nat.le_of_ble_eq_true rfl) ?_
          exact ih22 x20 x26 (sB (sB P6 k2 (upd (oB P6 k2) x23.toNatClampNeg (vp_nar .byte x24))) k2 (upd (oB (sB P6 k2 (upd (oB P6 k2) x23.toNatClampNeg (vp_nar .byte x24))) k2) x26.toNatClampNeg (vp_nar .byte x27))) _ _ _ (Nat.lt_of_lt_of_le (vJ6_getChars_ba4f3_27 κ k0 k1 k2 x3 y4 y5 P6 x20 x21 x22 x23 x26 hpre_0 hpre_1 hpre_2 hk0_0 hk0_1 hl8_2 c1 ex3 fx3_0 fx3_1 hi22_0 hi22_1 hi22_2 hi22_3 hi22_4 hi22_5 kl7 c8 ex20 fx20_0 fx20_1 ex21 tx21 ex22 tx22 ex23 tx23 ex26 tx26) (Nat.le_of_lt_succ hn22)) ((hf22_0.trans exz25).trans exz28) pvz28 kpz28 ⟨(have z9 : x20.toInt ≤ 0 ∧ -2147483648 ≤ x20.toInt ∧ ((sb_dg (Int.natAbs x20.toInt) : Nat) : Int) + (0 : Int32).toInt ≤ x26.toInt ∧ x26.toInt ≤ ((oL P6 k2 : Nat) : Int) ∧ SBS κ.2.2.2.2 (sB (sB P6 k2 (upd (oB P6 k2) x23.toNatClampNeg (vp_nar .byte x24))) k2 (upd (oB (sB P6 k2 (upd (oB P6 k2) x23.toNatClampNeg (vp_nar .byte x24))) k2) x26.toNatClampNeg (vp_nar .byte x27))) := (vJ6_getChars_ba4f3_25 κ k0 k1 k2 x3 y4 y5 P6 x20 x21 x22 x23 x24 x26 x27 hpre_0 hpre_1 hpre_2 hk0_0 hk0_1 hl8_2 c1 ex3 fx3_0 fx3_1 hi22_0 hi22_1 hi22_2 hi22_3 hi22_4 hi22_5 kl7 c8 ex20 fx20_0 fx20_1 ex21 tx21 ex22 tx22 ex23 tx23 ex26 tx26); ⟨z9.1, z9.2.1, z9.2.2.1, z9.2.2.2.1, z9.2.2.2.2, (show NS (sB (sB P6 k2 (upd (oB P6 k2) x23.toNatClampNeg (vp_nar .byte x24))) k2 (upd (oB (sB P6 k2 (upd (oB P6 k2) x23.toNatClampNeg (vp_nar .byte x24))) k2) x26.toNatClampNeg (vp_nar .byte x27))) k2 from hi22_5)⟩), (vJ6_getChars_ba4f3_26 sa κ k0 k1 k2 x3 y4 y5 P6 x20 x21 x22 x23 x24 x26 x27 ht2 hPV hpre_0 hpre_1 hpre_2 hk0_0 hk0_1 hl8_2 c1 ex3 fx3_0 fx3_1 hi22_0 hi22_1 hi22_2 hi22_3 hi22_4 hi22_5 hf22_0 hf22_2 hi22y kl7 c8 ex20 fx20_0 fx20_1 ex21 tx21 ex22 tx22 ex23 tx23 dx24 exz25 ex26 tx26 dx27 exz28)⟩ hP hS (lv_sub hl [1, 4, 0, 5, 6] rfl)
    have hP : CH D cy ad A (tP κ κ.2.2.2.2) s.heap := CH.cong hP rfl rfl rfl rfl rfl rfl rfl rfl rfl rfl rfl rfl rfl rfl rfl rfl rfl rfl rfl rfl rfl rfl rfl rfl rfl rfl rfl
    refine W.widen (k := 0) (n := 0) (Nat.le_of_ble_eq_true rfl) (Nat.le_of_ble_eq_true rfl) ?_
    exact lp22 ((-x3.toInt).toNat + 1) x3 k1 κ.2.2.2.2 _ _ _ (Nat.lt_succ_self _) EX.rf hPV KPx.rf ⟨(have z9 : x3.toInt ≤ 0 ∧ -2147483648 ≤ x3.toInt ∧ ((sb_dg (Int.natAbs x3.toInt) : Nat) : Int) + (0 : Int32).toInt ≤ k1.toInt ∧ k1.toInt ≤ ((oL κ.2.2.2.2 k2 : Nat) : Int) ∧ SBS κ.2.2.2.2 κ.2.2.2.2 := (vJ6_getChars_ba4f3_2 κ k0 k1 k2 x3 hpre_0 hpre_1 hpre_2 hk0_0 hk0_1 hl8_2 c1 ex3 fx3_0 fx3_1); ⟨z9.1, z9.2.1, z9.2.2.1, z9.2.2.2.1, z9.2.2.2.2, (show NS κ.2.2.2.2 k2 from hpre_2)⟩), (vJ6_getChars_ba4f3_3 sa κ k0 k1 k2 x3 ht2 hPV hpre_0 hpre_1 hpre_2 hk0_0 hk0_1 hl8_2 c1 ex3 fx3_0 fx3_1)⟩ hP hS (lv_sub hl [0, 1, 2, 3, 4] rfl)
  · have c1 : k0.toInt < 0 := by have h := z_nle c1; rw [show (0 : Int32).toInt = 0 from by decide +kernel] at h; exact h
    refine lv_iconst (v := 1) C.x C.b dJ6_getChars_ba4f3_7 (by decide +kernel) ?_
    refine lv_goto (tgt := 12) C.x C.b dJ6_getChars_ba4f3_8 (by decide) ?_
    refine lv_istore (lv' := [(6, .int 1), (5, .int k1), (0, .int k0), (1, .int k1), (2, .ref k2)]) C.x C.b dJ6_getChars_ba4f3_12 hl (by decide) rfl (fun ls hl => ?_)
    refine lv_iload C.x C.b dJ6_getChars_ba4f3_14 (lv_at hl 0 rfl) ?_
    refine lv_if_ne (tgt := 22) C.x C.b dJ6_getChars_ba4f3_16 (by decide) (fun _ => ?_) (fun c29 => absurd c29 (by decide +kernel))
    have lp22 : ∀ (n : Nat) (y30 : Int32) (y31 : Int32) (P32 : PL) (H : Heap) (locs : List Loc) (ls : Array Slot), (-y30.toInt).toNat < n → (EX κ.2.2.2.2 P32) → (PV sa P32) → (KPx True κ.2.2.2.2 P32) → ((y30.toInt ≤ 0 ∧ -2147483648 ≤ y30.toInt ∧ ((sb_dg (Int.natAbs y30.toInt) : Nat) : Int) + (1 : Int32).toInt ≤ y31.toInt ∧ y31.toInt ≤ ((oL P32 k2 : Nat) : Int) ∧ SBS κ.2.2.2.2 P32 ∧ NS P32 k2) ∧ (GCH κ.2.2.2.2 P32 k2 k0.toInt y30.toInt y31.toInt k1.toInt)) → CH D cy ad A (tP κ P32) H → va_S A s.heap H locs → lv_has ls 7 [(6, .int 1), (5, .int y31), (0, .int y30), (1, .int k1), (2, .ref k2)] → W p l e (headSpec (Cond.code yJ6_getChars_ba4f3 cJ6_getChars_ba4f3 7 (some .int) :: GWc) ({ frames := 0, cells := 0, slots := 0, locals := 0 })).room s m #[.int k0, .int k1, .ref k2] below meth c H locs (0) (0) (MQ below (va_Qi (fun (r : Int32) (u : PL) => ((EX κ.2.2.2.2 u) ∧ (PV sa u) ∧ (KPx True κ.2.2.2.2 u) ∧ (SBS κ.2.2.2.2 u)) ∧ (∀ s9 : List Int, PFX κ.2.2.2.2 k2 s9 → k1.toInt = (s9.length : Int) + ((qDec k0.toInt).length : Int) → PFX u k2 (s9 ++ qDec k0.toInt))) (fun (u : PL) (t : State) => Bx D cy ad A sz sl (tP κ u) (0) (0) t) A) #[.int k0, .int k1, .ref k2] s (0) (0) A) (F0 m 22 ls []) := by
      intro n
      induction n with
      | zero => intro y30 y31 P32 H locs ls hn; exact absurd hn (Nat.not_lt_zero _)
      | succ n22 ih22 =>
        intro y30 y31 P32 H locs ls hn22 hf22_0 hf22_1 hf22_2 hi22 hP hS hl
        obtain ⟨hi22, hi22y⟩ := hi22
        obtain ⟨hi22_0, hi22_1, hi22_2, hi22_3, hi22_4, hi22_5⟩ := hi22
        have kl33 : oL P32 k2 = oL κ.2.2.2.2 k2 := hf22_0.L ht2 (by decide)
        refine lv_iload_n C.x C.b dJ6_getChars_ba4f3_22 rfl (lv_at hl 2 rfl) ?_
        refine lv_bipush (v := (-100)) C.x C.b dJ6_getChars_ba4f3_23 (by decide +kernel) ?_
        refine lv_icmp_gt (tgt := 72) C.x C.b dJ6_getChars_ba4f3_25 (by decide) (fun c34 => ?_) (fun c34 => ?_)
        · have c34 : (-100) < y30.toInt := by have h := z_lt c34; rw [show ((-100) : Int32).toInt = -100 from by decide +kernel] at h; exact h
          refine lv_aload_n C.x C.b dJ6_getChars_ba4f3_72 rfl (lv_at hl 4 rfl) ?_
          obtain ⟨x35, ex35⟩ : ∃ y : Int32, y = y31 + (-1 : Int32) := ⟨_, rfl⟩
          have tx35 : x35.toInt = y31.toInt + (-1) := (vJ6_getChars_ba4f3_30 κ k0 k1 k2 y30 y31 P32 x35 hpre_0 hpre_1 hpre_2 hk0_0 hk0_1 hl8_2 c1 hi22_0 hi22_1 hi22_2 hi22_3 hi22_4 hi22_5 kl33 c34 ex35)
          refine lv_iinc (v := x35) (lv' := [(5, .int x35), (6, .int 1), (0, .int y30), (1, .int k1), (2, .ref k2)]) C.x C.b dJ6_getChars_ba4f3_73 hl (k := 1) rfl (by rw [ex35]; rfl) (by decide) rfl (fun ls hl => ?_)
          refine lv_iload C.x C.b dJ6_getChars_ba4f3_76 (lv_at hl 0 rfl) ?_
          obtain ⟨f78, ff78, fd78, fz78, ft78⟩ := C.n.2.1
          refine va_gets (C := "java/lang/Integer") (n := "DigitOnes") (d := "[B") (A := A) C.x C.b (fz78.narrow C.f) hS C.o (C.w _ cw_270) (fun _ h9 => h9) dJ6_getChars_ba4f3_78 ?_
          refine lv_iload_n C.x C.b dJ6_getChars_ba4f3_81 rfl (lv_at hl 2 rfl) ?_
          refine lv_ineg C.x C.b dJ6_getChars_ba4f3_82 ?_
          refine lv_topi (fun x36 ex36 => ?_)
          have fx36 : x36.toInt = -y30.toInt := (vJ6_getChars_ba4f3_31 κ k0 k1 k2 y30 y31 P32 x35 x36 hpre_0 hpre_1 hpre_2 hk0_0 hk0_1 hl8_2 c1 hi22_0 hi22_1 hi22_2 hi22_3 hi22_4 hi22_5 kl33 c34 ex35 tx35 ex36)
          refine va_tb C.x C.b (ft78.narrow C.f) hS (vJ6_getChars_ba4f3_32 κ k0 k1 k2 y30 y31 P32 x35 x36 hpre_0 hpre_1 hpre_2 hk0_0 hk0_1 hl8_2 c1 hi22_0 hi22_1 hi22_2 hi22_3 hi22_4 hi22_5 kl33 c34 ex35 tx35 ex36 fx36) rfl dJ6_getChars_ba4f3_83 ?_
          refine lv_topi (fun x37 ex37 => ?_)
          have dx37 : x37.toInt = 48 + ((x36.toNatClampNeg % 10 : Nat) : Int) := by rw [ex37]; exact fd78 _ (by have z9 := vp_in_iff.mp (vJ6_getChars_ba4f3_32 κ k0 k1 k2 y30 y31 P32 x35 x36 hpre_0 hpre_1 hpre_2 hk0_0 hk0_1 hl8_2 c1 hi22_0 hi22_1 hi22_2 hi22_3 hi22_4 hi22_5 kl33 c34 ex35 tx35 ex36 fx36); rw [clampN]; omega)
          refine pw_8 C hP hS (t20 (a := k2) (t := 8) (hf22_0.T ht2 (by decide))) rfl (vJ6_getChars_ba4f3_33 κ k0 k1 k2 y30 y31 P32 x35 x36 hpre_0 hpre_1 hpre_2 hk0_0 hk0_1 hl8_2 c1 hi22_0 hi22_1 hi22_2 hi22_3 hi22_4 hi22_5 kl33 c34 ex35 tx35 ex36 fx36) dJ6_getChars_ba4f3_84 (fun H locs hP hS => ?_)
          have exz38 : EX P32 (sB P32 k2 (upd (oB P32 k2) x35.toNatClampNeg (vp_nar .byte x37))) := EX.stB
          have kpz38 : KPx True κ.2.2.2.2 (sB P32 k2 (upd (oB P32 k2) x35.toNatClampNeg (vp_nar .byte x37))) := hf22_2.sB9 (show NS P32 k2 from hi22_5)
          have pvz38 : PV sa (sB P32 k2 (upd (oB P32 k2) x35.toNatClampNeg (vp_nar .byte x37))) := (pv_stBu hf22_1 (hf22_0.T ht2 (by decide)))
          refine lv_iload_n C.x C.b dJ6_getChars_ba4f3_85 rfl (lv_at hl 2 rfl) ?_
          refine lv_bipush (v := (-9)) C.x C.b dJ6_getChars_ba4f3_86 (by decide +kernel) ?_
          refine lv_icmp_ge (tgt := 104) C.x C.b dJ6_getChars_ba4f3_88 (by decide) (fun c39 => ?_) (fun c39 => ?_)
          · have c39 : (-9) ≤ y30.toInt := by have h := z_le c39; rw [show ((-9) : Int32).toInt = -9 from by decide +kernel] at h; exact h
            refine lv_iload C.x C.b dJ6_getChars_ba4f3_104 (lv_at hl 1 rfl) ?_
            refine lv_if_eq (tgt := 118) C.x C.b dJ6_getChars_ba4f3_106 (by decide) (fun c40 => absurd c40 (by decide +kernel)) (fun _ => ?_)
            refine lv_aload_n C.x C.b dJ6_getChars_ba4f3_109 rfl (lv_at hl 4 rfl) ?_
            obtain ⟨x41, ex41⟩ : ∃ y : Int32, y = x35 + (-1 : Int32) := ⟨_, rfl⟩
            have tx41 : x41.toInt = x35.toInt + (-1) := (vJ6_getChars_ba4f3_34 κ k0 k1 k2 y30 y31 P32 x35 x36 x41 hpre_0 hpre_1 hpre_2 hk0_0 hk0_1 hl8_2 c1 hi22_0 hi22_1 hi22_2 hi22_3 hi22_4 hi22_5 kl33 c34 ex35 tx35 ex36 fx36 c39 ex41)
            refine lv_iinc (v := x41) (lv' := [(5, .int x41), (6, .int 1), (0, .int y30), (1, .int k1), (2, .ref k2)]) C.x C.b dJ6_getChars_ba4f3_110 hl (k := 0) rfl (by rw [ex41]; rfl) (by decide) rfl (fun ls hl => ?_)
            refine lv_iload C.x C.b dJ6_getChars_ba4f3_113 (lv_at hl 0 rfl) ?_
            refine lv_bipush (v := 45) C.x C.b dJ6_getChars_ba4f3_115 (by decide +kernel) ?_
            refine pw_8 C hP hS (t20 (a := k2) (t := 8) (exz38.T (hf22_0.T ht2 (by decide)) (by decide))) rfl (vJ6_getChars_ba4f3_35 κ k0 k1 k2 y30 y31 P32 x35 x36 x41 hpre_0 hpre_1 hpre_2 hk0_0 hk0_1 hl8_2 c1 hi22_0 hi22_1 hi22_2 hi22_3 hi22_4 hi22_5 kl33 c34 ex35 tx35 ex36 fx36 c39 ex41 tx41) dJ6_getChars_ba4f3_117 (fun H locs hP hS => ?_)
            have exz42 : EX (sB P32 k2 (upd (oB P32 k2) x35.toNatClampNeg (vp_nar .byte x37))) (sB (sB P32 k2 (upd (oB P32 k2) x35.toNatClampNeg (vp_nar .byte x37))) k2 (upd (oB (sB P32 k2 (upd (oB P32 k2) x35.toNatClampNeg (vp_nar .byte x37))) k2) x41.toNatClampNeg (vp_nar .byte (45 : Int32)))) := EX.stB
            have kpz42 : KPx True κ.2.2.2.2 (sB (sB P32 k2 (upd (oB P32 k2) x35.toNatClampNeg (vp_nar .byte x37))) k2 (upd (oB (sB P32 k2 (upd (oB P32 k2) x35.toNatClampNeg (vp_nar .byte x37))) k2) x41.toNatClampNeg (vp_nar .byte (45 : Int32)))) := kpz38.sB9 (show NS (sB P32 k2 (upd (oB P32 k2) x35.toNatClampNeg (vp_nar .byte x37))) k2 from hi22_5)
            have pvz42 : PV sa (sB (sB P32 k2 (upd (oB P32 k2) x35.toNatClampNeg (vp_nar .byte x37))) k2 (upd (oB (sB P32 k2 (upd (oB P32 k2) x35.toNatClampNeg (vp_nar .byte x37))) k2) x41.toNatClampNeg (vp_nar .byte (45 : Int32)))) := (pv_stBu pvz38 (exz38.T (hf22_0.T ht2 (by decide)) (by decide)))
            refine lv_iload C.x C.b dJ6_getChars_ba4f3_118 (lv_at hl 0 rfl) ?_
            have hP : CH D cy ad A (tP κ (sB (sB P32 k2 (upd (oB P32 k2) x35.toNatClampNeg (vp_nar .byte x37))) k2 (upd (oB (sB P32 k2 (upd (oB P32 k2) x35.toNatClampNeg (vp_nar .byte x37))) k2) x41.toNatClampNeg (vp_nar .byte (45 : Int32))))) H := CH.cong hP rfl rfl rfl rfl rfl rfl rfl rfl rfl rfl rfl rfl rfl rfl rfl rfl rfl rfl rfl rfl rfl rfl rfl rfl rfl rfl rfl
            exact c_reti C hsz hsl (sB (sB P32 k2 (upd (oB P32 k2) x35.toNatClampNeg (vp_nar .byte x37))) k2 (upd (oB (sB P32 k2 (upd (oB P32 k2) x35.toNatClampNeg (vp_nar .byte x37))) k2) x41.toNatClampNeg (vp_nar .byte (45 : Int32)))) ⟨⟨((hf22_0.trans exz38).trans exz42), pvz42, kpz42, (vJ6_getChars_ba4f3_36 κ k0 k1 k2 y30 y31 P32 x35 x36 x37 x41 hpre_0 hpre_1 hpre_2 hk0_0 hk0_1 hl8_2 c1 hi22_0 hi22_1 hi22_2 hi22_3 hi22_4 hi22_5 kl33 c34 ex35 tx35 ex36 fx36 c39 ex41 tx41)⟩, (vJ6_getChars_ba4f3_37 sa κ k0 k1 k2 y30 y31 P32 x35 x36 x37 x41 ht2 hPV hpre_0 hpre_1 hpre_2 hk0_0 hk0_1 hl8_2 c1 hi22_0 hi22_1 hi22_2 hi22_3 hi22_4 hi22_5 hf22_0 hf22_2 hi22y kl33 c34 ex35 tx35 ex36 fx36 dx37 exz38 c39 ex41 tx41 exz42)⟩ hP hS ⟨(Nat.le_of_ble_eq_true rfl), (Nat.le_of_ble_eq_true rfl)⟩ ⟨(Nat.le_of_ble_eq_true rfl), (Nat.le_of_ble_eq_true rfl)⟩ dJ6_getChars_ba4f3_120
          · have c39 : y30.toInt < (-9) := by have h := z_nle c39; rw [show ((-9) : Int32).toInt = -9 from by decide +kernel] at h; exact h
            refine lv_aload_n C.x C.b dJ6_getChars_ba4f3_91 rfl (lv_at hl 4 rfl) ?_
            obtain ⟨x43, ex43⟩ : ∃ y : Int32, y = x35 + (-1 : Int32) := ⟨_, rfl⟩
            have tx43 : x43.toInt = x35.toInt + (-1) := (vJ6_getChars_ba4f3_38 κ k0 k1 k2 y30 y31 P32 x35 x36 x43 hpre_0 hpre_1 hpre_2 hk0_0 hk0_1 hl8_2 c1 hi22_0 hi22_1 hi22_2 hi22_3 hi22_4 hi22_5 kl33 c34 ex35 tx35 ex36 fx36 c39 ex43)
            refine lv_iinc (v := x43) (lv' := [(5, .int x43), (6, .int 1), (0, .int y30), (1, .int k1), (2, .ref k2)]) C.x C.b dJ6_getChars_ba4f3_92 hl (k := 0) rfl (by rw [ex43]; rfl) (by decide) rfl (fun ls hl => ?_)
            refine lv_iload C.x C.b dJ6_getChars_ba4f3_95 (lv_at hl 0 rfl) ?_
            obtain ⟨f97, ff97, fd97, fz97, ft97⟩ := C.n.2.2.1
            refine va_gets (C := "java/lang/Integer") (n := "DigitTens") (d := "[B") (A := A) C.x C.b (fz97.narrow C.f) hS C.o (C.w _ cw_271) (fun _ h9 => h9) dJ6_getChars_ba4f3_97 ?_
            refine lv_iload_n C.x C.b dJ6_getChars_ba4f3_100 rfl (lv_at hl 2 rfl) ?_
            refine lv_ineg C.x C.b dJ6_getChars_ba4f3_101 ?_
            refine lv_topi (fun x44 ex44 => ?_)
            have fx44 : x44.toInt = -y30.toInt := (vJ6_getChars_ba4f3_39 κ k0 k1 k2 y30 y31 P32 x35 x36 x43 x44 hpre_0 hpre_1 hpre_2 hk0_0 hk0_1 hl8_2 c1 hi22_0 hi22_1 hi22_2 hi22_3 hi22_4 hi22_5 kl33 c34 ex35 tx35 ex36 fx36 c39 ex43 tx43 ex44)
            refine va_tb C.x C.b (ft97.narrow C.f) hS (vJ6_getChars_ba4f3_40 κ k0 k1 k2 y30 y31 P32 x35 x36 x43 x44 hpre_0 hpre_1 hpre_2 hk0_0 hk0_1 hl8_2 c1 hi22_0 hi22_1 hi22_2 hi22_3 hi22_4 hi22_5 kl33 c34 ex35 tx35 ex36 fx36 c39 ex43 tx43 ex44 fx44) rfl dJ6_getChars_ba4f3_102 ?_
            refine lv_topi (fun x45 ex45 => ?_)
            have dx45 : x45.toInt = 48 + ((x44.toNatClampNeg / 10 : Nat) : Int) := by rw [ex45]; exact fd97 _ (by have z9 := vp_in_iff.mp (vJ6_getChars_ba4f3_40 κ k0 k1 k2 y30 y31 P32 x35 x36 x43 x44 hpre_0 hpre_1 hpre_2 hk0_0 hk0_1 hl8_2 c1 hi22_0 hi22_1 hi22_2 hi22_3 hi22_4 hi22_5 kl33 c34 ex35 tx35 ex36 fx36 c39 ex43 tx43 ex44 fx44); rw [clampN]; omega)
            refine pw_8 C hP hS (t20 (a := k2) (t := 8) (exz38.T (hf22_0.T ht2 (by decide)) (by decide))) rfl (vJ6_getChars_ba4f3_41 κ k0 k1 k2 y30 y31 P32 x35 x36 x43 x44 hpre_0 hpre_1 hpre_2 hk0_0 hk0_1 hl8_2 c1 hi22_0 hi22_1 hi22_2 hi22_3 hi22_4 hi22_5 kl33 c34 ex35 tx35 ex36 fx36 c39 ex43 tx43 ex44 fx44) dJ6_getChars_ba4f3_103 (fun H locs hP hS => ?_)
            have exz46 : EX (sB P32 k2 (upd (oB P32 k2) x35.toNatClampNeg (vp_nar .byte x37))) (sB (sB P32 k2 (upd (oB P32 k2) x35.toNatClampNeg (vp_nar .byte x37))) k2 (upd (oB (sB P32 k2 (upd (oB P32 k2) x35.toNatClampNeg (vp_nar .byte x37))) k2) x43.toNatClampNeg (vp_nar .byte x45))) := EX.stB
            have kpz46 : KPx True κ.2.2.2.2 (sB (sB P32 k2 (upd (oB P32 k2) x35.toNatClampNeg (vp_nar .byte x37))) k2 (upd (oB (sB P32 k2 (upd (oB P32 k2) x35.toNatClampNeg (vp_nar .byte x37))) k2) x43.toNatClampNeg (vp_nar .byte x45))) := kpz38.sB9 (show NS (sB P32 k2 (upd (oB P32 k2) x35.toNatClampNeg (vp_nar .byte x37))) k2 from hi22_5)
            have pvz46 : PV sa (sB (sB P32 k2 (upd (oB P32 k2) x35.toNatClampNeg (vp_nar .byte x37))) k2 (upd (oB (sB P32 k2 (upd (oB P32 k2) x35.toNatClampNeg (vp_nar .byte x37))) k2) x43.toNatClampNeg (vp_nar .byte x45))) := (pv_stBu pvz38 (exz38.T (hf22_0.T ht2 (by decide)) (by decide)))
            refine lv_iload C.x C.b dJ6_getChars_ba4f3_104 (lv_at hl 1 rfl) ?_
            refine lv_if_eq (tgt := 118) C.x C.b dJ6_getChars_ba4f3_106 (by decide) (fun c47 => absurd c47 (by decide +kernel)) (fun _ => ?_)
            refine lv_aload_n C.x C.b dJ6_getChars_ba4f3_109 rfl (lv_at hl 4 rfl) ?_
            obtain ⟨x48, ex48⟩ : ∃ y : Int32, y = x43 + (-1 : Int32) := ⟨_, rfl⟩
            have tx48 : x48.toInt = x43.toInt + (-1) := (vJ6_getChars_ba4f3_42 κ k0 k1 k2 y30 y31 P32 x35 x36 x43 x44 x48 hpre_0 hpre_1 hpre_2 hk0_0 hk0_1 hl8_2 c1 hi22_0 hi22_1 hi22_2 hi22_3 hi22_4 hi22_5 kl33 c34 ex35 tx35 ex36 fx36 c39 ex43 tx43 ex44 fx44 ex48)
            refine lv_iinc (v := x48) (lv' := [(5, .int x48), (6, .int 1), (0, .int y30), (1, .int k1), (2, .ref k2)]) C.x C.b dJ6_getChars_ba4f3_110 hl (k := 0) rfl (by rw [ex48]; rfl) (by decide) rfl (fun ls hl => ?_)
            refine lv_iload C.x C.b dJ6_getChars_ba4f3_113 (lv_at hl 0 rfl) ?_
            refine lv_bipush (v := 45) C.x C.b dJ6_getChars_ba4f3_115 (by decide +kernel) ?_
            refine pw_8 C hP hS (t20 (a := k2) (t := 8) (exz46.T (exz38.T (hf22_0.T ht2 (by decide)) (by decide)) (by decide))) rfl (vJ6_getChars_ba4f3_43 κ k0 k1 k2 y30 y31 P32 x35 x36 x43 x44 x48 hpre_0 hpre_1 hpre_2 hk0_0 hk0_1 hl8_2 c1 hi22_0 hi22_1 hi22_2 hi22_3 hi22_4 hi22_5 kl33 c34 ex35 tx35 ex36 fx36 c39 ex43 tx43 ex44 fx44 ex48 tx48) dJ6_getChars_ba4f3_117 (fun H locs hP hS => ?_)
            have exz49 : EX (sB (sB P32 k2 (upd (oB P32 k2) x35.toNatClampNeg (vp_nar .byte x37))) k2 (upd (oB (sB P32 k2 (upd (oB P32 k2) x35.toNatClampNeg (vp_nar .byte x37))) k2) x43.toNatClampNeg (vp_nar .byte x45))) (sB (sB (sB P32 k2 (upd (oB P32 k2) x35.toNatClampNeg (vp_nar .byte x37))) k2 (upd (oB (sB P32 k2 (upd (oB P32 k2) x35.toNatClampNeg (vp_nar .byte x37))) k2) x43.toNatClampNeg (vp_nar .byte x45))) k2 (upd (oB (sB (sB P32 k2 (upd (oB P32 k2) x35.toNatClampNeg (vp_nar .byte x37))) k2 (upd (oB (sB P32 k2 (upd (oB P32 k2) x35.toNatClampNeg (vp_nar .byte x37))) k2) x43.toNatClampNeg (vp_nar .byte x45))) k2) x48.toNatClampNeg (vp_nar .byte (45 : Int32)))) := EX.stB
            have kpz49 : KPx True κ.2.2.2.2 (sB (sB (sB P32 k2 (upd (oB P32 k2) x35.toNatClampNeg (vp_nar .byte x37))) k2 (upd (oB (sB P32 k2 (upd (oB P32 k2) x35.toNatClampNeg (vp_nar .byte x37))) k2) x43.toNatClampNeg (vp_nar .byte x45))) k2 (upd (oB (sB (sB P32 k2 (upd (oB P32 k2) x35.toNatClampNeg (vp_nar .byte x37))) k2 (upd (oB (sB P32 k2 (upd (oB P32 k2) x35.toNatClampNeg (vp_nar .byte x37))) k2) x43.toNatClampNeg (vp_nar .byte x45))) k2) x48.toNatClampNeg (vp_nar .byte (45 : Int32)))) := kpz46.sB9 (show NS (sB (sB P32 k2 (upd (oB P32 k2) x35.toNatClampNeg (vp_nar .byte x37))) k2 (upd (oB (sB P32 k2 (upd (oB P32 k2) x35.toNatClampNeg (vp_nar .byte x37))) k2) x43.toNatClampNeg (vp_nar .byte x45))) k2 from hi22_5)
            have pvz49 : PV sa (sB (sB (sB P32 k2 (upd (oB P32 k2) x35.toNatClampNeg (vp_nar .byte x37))) k2 (upd (oB (sB P32 k2 (upd (oB P32 k2) x35.toNatClampNeg (vp_nar .byte x37))) k2) x43.toNatClampNeg (vp_nar .byte x45))) k2 (upd (oB (sB (sB P32 k2 (upd (oB P32 k2) x35.toNatClampNeg (vp_nar .byte x37))) k2 (upd (oB (sB P32 k2 (upd (oB P32 k2) x35.toNatClampNeg (vp_nar .byte x37))) k2) x43.toNatClampNeg (vp_nar .byte x45))) k2) x48.toNatClampNeg (vp_nar .byte (45 : Int32)))) := (pv_stBu pvz46 (exz46.T (exz38.T (hf22_0.T ht2 (by decide)) (by decide)) (by decide)))
            refine lv_iload C.x C.b dJ6_getChars_ba4f3_118 (lv_at hl 0 rfl) ?_
            have hP : CH D cy ad A (tP κ (sB (sB (sB P32 k2 (upd (oB P32 k2) x35.toNatClampNeg (vp_nar .byte x37))) k2 (upd (oB (sB P32 k2 (upd (oB P32 k2) x35.toNatClampNeg (vp_nar .byte x37))) k2) x43.toNatClampNeg (vp_nar .byte x45))) k2 (upd (oB (sB (sB P32 k2 (upd (oB P32 k2) x35.toNatClampNeg (vp_nar .byte x37))) k2 (upd (oB (sB P32 k2 (upd (oB P32 k2) x35.toNatClampNeg (vp_nar .byte x37))) k2) x43.toNatClampNeg (vp_nar .byte x45))) k2) x48.toNatClampNeg (vp_nar .byte (45 : Int32))))) H := CH.cong hP rfl rfl rfl rfl rfl rfl rfl rfl rfl rfl rfl rfl rfl rfl rfl rfl rfl rfl rfl rfl rfl rfl rfl rfl rfl rfl rfl
            exact c_reti C hsz hsl (sB (sB (sB P32 k2 (upd (oB P32 k2) x35.toNatClampNeg (vp_nar .byte x37))) k2 (upd (oB (sB P32 k2 (upd (oB P32 k2) x35.toNatClampNeg (vp_nar .byte x37))) k2) x43.toNatClampNeg (vp_nar .byte x45))) k2 (upd (oB (sB (sB P32 k2 (upd (oB P32 k2) x35.toNatClampNeg (vp_nar .byte x37))) k2 (upd (oB (sB P32 k2 (upd (oB P32 k2) x35.toNatClampNeg (vp_nar .byte x37))) k2) x43.toNatClampNeg (vp_nar .byte x45))) k2) x48.toNatClampNeg (vp_nar .byte (45 : Int32)))) ⟨⟨(((hf22_0.trans exz38).trans exz46).trans exz49), pvz49, kpz49, (vJ6_getChars_ba4f3_44 κ k0 k1 k2 y30 y31 P32 x35 x36 x37 x43 x44 x45 x48 hpre_0 hpre_1 hpre_2 hk0_0 hk0_1 hl8_2 c1 hi22_0 hi22_1 hi22_2 hi22_3 hi22_4 hi22_5 kl33 c34 ex35 tx35 ex36 fx36 c39 ex43 tx43 ex44 fx44 ex48 tx48)⟩, (vJ6_getChars_ba4f3_45 sa κ k0 k1 k2 y30 y31 P32 x35 x36 x37 x43 x44 x45 x48 ht2 hPV hpre_0 hpre_1 hpre_2 hk0_0 hk0_1 hl8_2 c1 hi22_0 hi22_1 hi22_2 hi22_3 hi22_4 hi22_5 hf22_0 hf22_2 hi22y kl33 c34 ex35 tx35 ex36 fx36 dx37 exz38 c39 ex43 tx43 ex44 fx44 dx45 exz46 ex48 tx48 exz49)⟩ hP hS ⟨(Nat.le_of_ble_eq_true rfl), (Nat.le_of_ble_eq_true rfl)⟩ ⟨(Nat.le_of_ble_eq_true rfl), (Nat.le_of_ble_eq_true rfl)⟩ dJ6_getChars_ba4f3_120
        · have c34 : y30.toInt ≤ (-100) := by have h := z_nlt c34; rw [show ((-100) : Int32).toInt = -100 from by decide +kernel] at h; exact h
          refine lv_iload_n C.x C.b dJ6_getChars_ba4f3_28 rfl (lv_at hl 2 rfl) ?_
          refine lv_bipush (v := 100) C.x C.b dJ6_getChars_ba4f3_29 (by decide +kernel) ?_
          refine lv_idiv C.x C.b dJ6_getChars_ba4f3_31 (by decide +kernel) ?_
          refine lv_topi (fun x50 ex50 => ?_)
          have fx50 : x50.toInt = -((-y30.toInt) / 100) ∧ sb_dg (Int.natAbs y30.toInt) = sb_dg (Int.natAbs x50.toInt) + 2 := (vJ6_getChars_ba4f3_46 κ k0 k1 k2 y30 y31 P32 x50 hpre_0 hpre_1 hpre_2 hk0_0 hk0_1 hl8_2 c1 hi22_0 hi22_1 hi22_2 hi22_3 hi22_4 hi22_5 kl33 c34 ex50)
          obtain ⟨fx50_0, fx50_1⟩ := fx50
          refine lv_istore_n (lv' := [(3, .int x50), (6, .int 1), (5, .int y31), (0, .int y30), (1, .int k1), (2, .ref k2)]) C.x C.b dJ6_getChars_ba4f3_32 rfl hl (by decide) rfl (fun ls hl => ?_)
          refine lv_iload_n C.x C.b dJ6_getChars_ba4f3_33 rfl (lv_at hl 0 rfl) ?_
          refine lv_bipush (v := 100) C.x C.b dJ6_getChars_ba4f3_34 (by decide +kernel) ?_
          refine lv_imul C.x C.b dJ6_getChars_ba4f3_36 ?_
          refine lv_topi (fun x51 ex51 => ?_)
          have tx51 : x51.toInt = x50.toInt * 100 := (vJ6_getChars_ba4f3_47 κ k0 k1 k2 y30 y31 P32 x50 x51 hpre_0 hpre_1 hpre_2 hk0_0 hk0_1 hl8_2 c1 hi22_0 hi22_1 hi22_2 hi22_3 hi22_4 hi22_5 kl33 c34 ex50 fx50_0 fx50_1 ex51)
          refine lv_iload_n C.x C.b dJ6_getChars_ba4f3_37 rfl (lv_at hl 3 rfl) ?_
          refine lv_isub C.x C.b dJ6_getChars_ba4f3_38 ?_
          refine lv_topi (fun x52 ex52 => ?_)
          have tx52 : x52.toInt = x51.toInt - y30.toInt := (vJ6_getChars_ba4f3_48 κ k0 k1 k2 y30 y31 P32 x50 x51 x52 hpre_0 hpre_1 hpre_2 hk0_0 hk0_1 hl8_2 c1 hi22_0 hi22_1 hi22_2 hi22_3 hi22_4 hi22_5 kl33 c34 ex50 fx50_0 fx50_1 ex51 tx51 ex52)
          refine lv_istore (lv' := [(4, .int x52), (3, .int x50), (6, .int 1), (5, .int y31), (0, .int y30), (1, .int k1), (2, .ref k2)]) C.x C.b dJ6_getChars_ba4f3_39 hl (by decide) rfl (fun ls hl => ?_)
          refine lv_iload_n C.x C.b dJ6_getChars_ba4f3_41 rfl (lv_at hl 1 rfl) ?_
          refine lv_istore_n (lv' := [(0, .int x50), (4, .int x52), (3, .int x50), (6, .int 1), (5, .int y31), (1, .int k1), (2, .ref k2)]) C.x C.b dJ6_getChars_ba4f3_42 rfl hl (by decide) rfl (fun ls hl => ?_)
          refine lv_aload_n C.x C.b dJ6_getChars_ba4f3_43 rfl (lv_at hl 6 rfl) ?_
          obtain ⟨x53, ex53⟩ : ∃ y : Int32, y = y31 + (-1 : Int32) := ⟨_, rfl⟩
          have tx53 : x53.toInt = y31.toInt + (-1) := (vJ6_getChars_ba4f3_49 κ k0 k1 k2 y30 y31 P32 x50 x51 x52 x53 hpre_0 hpre_1 hpre_2 hk0_0 hk0_1 hl8_2 c1 hi22_0 hi22_1 hi22_2 hi22_3 hi22_4 hi22_5 kl33 c34 ex50 fx50_0 fx50_1 ex51 tx51 ex52 tx52 ex53)
          refine lv_iinc (v := x53) (lv' := [(5, .int x53), (0, .int x50), (4, .int x52), (3, .int x50), (6, .int 1), (1, .int k1), (2, .ref k2)]) C.x C.b dJ6_getChars_ba4f3_44 hl (k := 4) rfl (by rw [ex53]; rfl) (by decide) rfl (fun ls hl => ?_)
          refine lv_iload C.x C.b dJ6_getChars_ba4f3_47 (lv_at hl 0 rfl) ?_
          obtain ⟨f49, ff49, fd49, fz49, ft49⟩ := C.n.2.1
          refine va_gets (C := "java/lang/Integer") (n := "DigitOnes") (d := "[B") (A := A) C.x C.b (fz49.narrow C.f) hS C.o (C.w _ cw_270) (fun _ h9 => h9) dJ6_getChars_ba4f3_49 ?_
          refine lv_iload C.x C.b dJ6_getChars_ba4f3_52 (lv_at hl 2 rfl) ?_
          refine va_tb C.x C.b (ft49.narrow C.f) hS (vJ6_getChars_ba4f3_50 κ k0 k1 k2 y30 y31 P32 x50 x51 x52 x53 hpre_0 hpre_1 hpre_2 hk0_0 hk0_1 hl8_2 c1 hi22_0 hi22_1 hi22_2 hi22_3 hi22_4 hi22_5 kl33 c34 ex50 fx50_0 fx50_1 ex51 tx51 ex52 tx52 ex53 tx53) rfl dJ6_getChars_ba4f3_54 ?_
          refine lv_topi (fun x54 ex54 => ?_)
          have dx54 : x54.toInt = 48 + ((x52.toNatClampNeg % 10 : Nat) : Int) := by rw [ex54]; exact fd49 _ (by have z9 := vp_in_iff.mp (vJ6_getChars_ba4f3_50 κ k0 k1 k2 y30 y31 P32 x50 x51 x52 x53 hpre_0 hpre_1 hpre_2 hk0_0 hk0_1 hl8_2 c1 hi22_0 hi22_1 hi22_2 hi22_3 hi22_4 hi22_5 kl33 c34 ex50 fx50_0 fx50_1 ex51 tx51 ex52 tx52 ex53 tx53); rw [clampN]; omega)
          refine pw_8 C hP hS (t20 (a := k2) (t := 8) (hf22_0.T ht2 (by decide))) rfl (vJ6_getChars_ba4f3_51 κ k0 k1 k2 y30 y31 P32 x50 x51 x52 x53 hpre_0 hpre_1 hpre_2 hk0_0 hk0_1 hl8_2 c1 hi22_0 hi22_1 hi22_2 hi22_3 hi22_4 hi22_5 kl33 c34 ex50 fx50_0 fx50_1 ex51 tx51 ex52 tx52 ex53 tx53) dJ6_getChars_ba4f3_55 (fun H locs hP hS => ?_)
          have exz55 : EX P32 (sB P32 k2 (upd (oB P32 k2) x53.toNatClampNeg (vp_nar .byte x54))) := EX.stB
          have kpz55 : KPx True κ.2.2.2.2 (sB P32 k2 (upd (oB P32 k2) x53.toNatClampNeg (vp_nar .byte x54))) := hf22_2.sB9 (show NS P32 k2 from hi22_5)
          have pvz55 : PV sa (sB P32 k2 (upd (oB P32 k2) x53.toNatClampNeg (vp_nar .byte x54))) := (pv_stBu hf22_1 (hf22_0.T ht2 (by decide)))
          refine lv_aload_n C.x C.b dJ6_getChars_ba4f3_56 rfl (lv_at hl 6 rfl) ?_
          obtain ⟨x56, ex56⟩ : ∃ y : Int32, y = x53 + (-1 : Int32) := ⟨_, rfl⟩
          have tx56 : x56.toInt = x53.toInt + (-1) := (vJ6_getChars_ba4f3_52 κ k0 k1 k2 y30 y31 P32 x50 x51 x52 x53 x56 hpre_0 hpre_1 hpre_2 hk0_0 hk0_1 hl8_2 c1 hi22_0 hi22_1 hi22_2 hi22_3 hi22_4 hi22_5 kl33 c34 ex50 fx50_0 fx50_1 ex51 tx51 ex52 tx52 ex53 tx53 ex56)
          refine lv_iinc (v := x56) (lv' := [(5, .int x56), (0, .int x50), (4, .int x52), (3, .int x50), (6, .int 1), (1, .int k1), (2, .ref k2)]) C.x C.b dJ6_getChars_ba4f3_57 hl (k := 0) rfl (by rw [ex56]; rfl) (by decide) rfl (fun ls hl => ?_)
          refine lv_iload C.x C.b dJ6_getChars_ba4f3_60 (lv_at hl 0 rfl) ?_
          obtain ⟨f62, ff62, fd62, fz62, ft62⟩ := C.n.2.2.1
          refine va_gets (C := "java/lang/Integer") (n := "DigitTens") (d := "[B") (A := A) C.x C.b (fz62.narrow C.f) hS C.o (C.w _ cw_271) (fun _ h9 => h9) dJ6_getChars_ba4f3_62 ?_
          refine lv_iload C.x C.b dJ6_getChars_ba4f3_65 (lv_at hl 2 rfl) ?_
          refine va_tb C.x C.b (ft62.narrow C.f) hS (vJ6_getChars_ba4f3_53 κ k0 k1 k2 y30 y31 P32 x50 x51 x52 x53 x56 hpre_0 hpre_1 hpre_2 hk0_0 hk0_1 hl8_2 c1 hi22_0 hi22_1 hi22_2 hi22_3 hi22_4 hi22_5 kl33 c34 ex50 fx50_0 fx50_1 ex51 tx51 ex52 tx52 ex53 tx53 ex56 tx56) rfl dJ6_getChars_ba4f3_67 ?_
          refine lv_topi (fun x57 ex57 => ?_)
          have dx57 : x57.toInt = 48 + ((x52.toNatClampNeg / 10 : Nat) : Int) := by rw [ex57]; exact fd62 _ (by have z9 := vp_in_iff.mp (vJ6_getChars_ba4f3_53 κ k0 k1 k2 y30 y31 P32 x50 x51 x52 x53 x56 hpre_0 hpre_1 hpre_2 hk0_0 hk0_1 hl8_2 c1 hi22_0 hi22_1 hi22_2 hi22_3 hi22_4 hi22_5 kl33 c34 ex50 fx50_0 fx50_1 ex51 tx51 ex52 tx52 ex53 tx53 ex56 tx56); rw [clampN]; omega)
          refine pw_8 C hP hS (t20 (a := k2) (t := 8) (exz55.T (hf22_0.T ht2 (by decide)) (by decide))) rfl (vJ6_getChars_ba4f3_54 κ k0 k1 k2 y30 y31 P32 x50 x51 x52 x53 x56 hpre_0 hpre_1 hpre_2 hk0_0 hk0_1 hl8_2 c1 hi22_0 hi22_1 hi22_2 hi22_3 hi22_4 hi22_5 kl33 c34 ex50 fx50_0 fx50_1 ex51 tx51 ex52 tx52 ex53 tx53 ex56 tx56) dJ6_getChars_ba4f3_68 (fun H locs hP hS => ?_)
          have exz58 : EX (sB P32 k2 (upd (oB P32 k2) x53.toNatClampNeg (vp_nar .byte x54))) (sB (sB P32 k2 (upd (oB P32 k2) x53.toNatClampNeg (vp_nar .byte x54))) k2 (upd (oB (sB P32 k2 (upd (oB P32 k2) x53.toNatClampNeg (vp_nar .byte x54))) k2) x56.toNatClampNeg (vp_nar .byte x57))) := EX.stB
          have kpz58 : KPx True κ.2.2.2.2 (sB (sB P32 k2 (upd (oB P32 k2) x53.toNatClampNeg (vp_nar .byte x54))) k2 (upd (oB (sB P32 k2 (upd (oB P32 k2) x53.toNatClampNeg (vp_nar .byte x54))) k2) x56.toNatClampNeg (vp_nar .byte x57))) := kpz55.sB9 (show NS (sB P32 k2 (upd (oB P32 k2) x53.toNatClampNeg (vp_nar .byte x54))) k2 from hi22_5)
          have pvz58 : PV sa (sB (sB P32 k2 (upd (oB P32 k2) x53.toNatClampNeg (vp_nar .byte x54))) k2 (upd (oB (sB P32 k2 (upd (oB P32 k2) x53.toNatClampNeg (vp_nar .byte x54))) k2) x56.toNatClampNeg (vp_nar .byte x57))) := (pv_stBu pvz55 (exz55.T (hf22_0.T ht2 (by decide)) (by decide)))
          refine lv_goto (tgt := 22) C.x C.b dJ6_getChars_ba4f3_69 (by decide) ?_
          have hP : CH D cy ad A (tP κ (sB (sB P32 k2 (upd (oB P32 k2) x53.toNatClampNeg (vp_nar .byte x54))) k2 (upd (oB (sB P32 k2 (upd (oB P32 k2) x53.toNatClampNeg (vp_nar .byte x54))) k2) x56.toNatClampNeg (vp_nar .byte x57)))) H := CH.cong hP rfl rfl rfl rfl rfl rfl rfl rfl rfl rfl rfl rfl rfl rfl rfl rfl rfl rfl rfl rfl rfl rfl rfl rfl rfl rfl rfl
          refine W.widen (k := 0) (n := 0) (Nat.le_of_ble_eq_true rfl) (Nat.le_of_ble_eq_true rfl) ?_
          exact ih22 x50 x56 (sB (sB P32 k2 (upd (oB P32 k2) x53.toNatClampNeg (vp_nar .byte x54))) k2 (upd (oB (sB P32 k2 (upd (oB P32 k2) x53.toNatClampNeg (vp_nar .byte x54))) k2) x56.toNatClampNeg (vp_nar .byte x57))) _ _ _ (Nat.lt_of_lt_of_le (vJ6_getChars_ba4f3_57 κ k0 k1 k2 y30 y31 P32 x50 x51 x52 x53 x56 hpre_0 hpre_1 hpre_2 hk0_0 hk0_1 hl8_2 c1 hi22_0 hi22_1 hi22_2 hi22_3 hi22_4 hi22_5 kl33 c34 ex50 fx50_0 fx50_1 ex51 tx51 ex52 tx52 ex53 tx53 ex56 tx56) (Nat.le_of_lt_succ hn22)) ((hf22_0.trans exz55).trans exz58) pvz58 kpz58 ⟨(have z9 : x50.toInt ≤ 0 ∧ -2147483648 ≤ x50.toInt ∧ ((sb_dg (Int.natAbs x50.toInt) : Nat) : Int) + (1 : Int32).toInt ≤ x56.toInt ∧ x56.toInt ≤ ((oL P32 k2 : Nat) : Int) ∧ SBS κ.2.2.2.2 (sB (sB P32 k2 (upd (oB P32 k2) x53.toNatClampNeg (vp_nar .byte x54))) k2 (upd (oB (sB P32 k2 (upd (oB P32 k2) x53.toNatClampNeg (vp_nar .byte x54))) k2) x56.toNatClampNeg (vp_nar .byte x57))) := (vJ6_getChars_ba4f3_55 κ k0 k1 k2 y30 y31 P32 x50 x51 x52 x53 x54 x56 x57 hpre_0 hpre_1 hpre_2 hk0_0 hk0_1 hl8_2 c1 hi22_0 hi22_1 hi22_2 hi22_3 hi22_4 hi22_5 kl33 c34 ex50 fx50_0 fx50_1 ex51 tx51 ex52 tx52 ex53 tx53 ex56 tx56); ⟨z9.1, z9.2.1, z9.2.2.1, z9.2.2.2.1, z9.2.2.2.2, (show NS (sB (sB P32 k2 (upd (oB P32 k2) x53.toNatClampNeg (vp_nar .byte x54))) k2 (upd (oB (sB P32 k2 (upd (oB P32 k2) x53.toNatClampNeg (vp_nar .byte x54))) k2) x56.toNatClampNeg (vp_nar .byte x57))) k2 from hi22_5)⟩), (vJ6_getChars_ba4f3_56 sa κ k0 k1 k2 y30 y31 P32 x50 x51 x52 x53 x54 x56 x57 ht2 hPV hpre_0 hpre_1 hpre_2 hk0_0 hk0_1 hl8_2 c1 hi22_0 hi22_1 hi22_2 hi22_3 hi22_4 hi22_5 hf22_0 hf22_2 hi22y kl33 c34 ex50 fx50_0 fx50_1 ex51 tx51 ex52 tx52 ex53 tx53 dx54 exz55 ex56 tx56 dx57 exz58)⟩ hP hS (lv_sub hl [4, 0, 1, 5, 6] rfl)
    have hP : CH D cy ad A (tP κ κ.2.2.2.2) s.heap := CH.cong hP rfl rfl rfl rfl rfl rfl rfl rfl rfl rfl rfl rfl rfl rfl rfl rfl rfl rfl rfl rfl rfl rfl rfl rfl rfl rfl rfl
    refine W.widen (k := 0) (n := 0) (Nat.le_of_ble_eq_true rfl) (Nat.le_of_ble_eq_true rfl) ?_
    exact lp22 ((-k0.toInt).toNat + 1) k0 k1 κ.2.2.2.2 _ _ _ (Nat.lt_succ_self _) EX.rf hPV KPx.rf ⟨(have z9 : k0.toInt ≤ 0 ∧ -2147483648 ≤ k0.toInt ∧ ((sb_dg (Int.natAbs k0.toInt) : Nat) : Int) + (1 : Int32).toInt ≤ k1.toInt ∧ k1.toInt ≤ ((oL κ.2.2.2.2 k2 : Nat) : Int) ∧ SBS κ.2.2.2.2 κ.2.2.2.2 := (vJ6_getChars_ba4f3_28 κ k0 k1 k2 hpre_0 hpre_1 hpre_2 hk0_0 hk0_1 hl8_2 c1); ⟨z9.1, z9.2.1, z9.2.2.1, z9.2.2.2.1, z9.2.2.2.2, (show NS κ.2.2.2.2 k2 from hpre_2)⟩), (vJ6_getChars_ba4f3_29 sa κ k0 k1 k2 ht2 hPV hpre_0 hpre_1 hpre_2 hk0_0 hk0_1 hl8_2 c1)⟩ hP hS (lv_sub hl [0, 1, 2, 3, 4] rfl)
