-- init@14 @14
theorem v_found_1 (σ : RS) (k0 : Int32) (hpre_0 : 0 ≤ (σ.1 35).toInt) (hpre_1 : (σ.1 35).toInt ≤ 5) (hpre_2 : CLS (σ.1 35).toInt (σ.2.1 36) (σ.2.1 37) (σ.2.1 40)) (hpre_6 : VALS (σ.2.1 51) (σ.2.2.1 52) (σ.1 35).toInt (σ.1 47).toInt) (hpre_7 : 0 ≤ k0.toInt) (hpre_8 : k0.toInt < (σ.1 35).toInt) : -1 ≤ (-1 : Int32).toInt ∧ (-1 : Int32).toInt < 30 ∧ (2000 : Int32).toInt ≤ 2000 ∧ ((2000 : Int32).toInt < 2000 → 0 ≤ (-1 : Int32).toInt) ∧ -1 ≤ k0.toInt ∧ k0.toInt < (σ.1 35).toInt := by
  have qm1 : (-1 : Int32).toInt = (-1) := by decide +kernel
  have q2000 : (2000 : Int32).toInt = 2000 := by decide +kernel
  refine ⟨?_, ?_, ?_, ?_, ?_, ?_⟩ <;> first | assumption | omega | (subst_vars; omega) | trivial
-- post @178
theorem v_found_2 (σ : RS) (y1 : Int32) (y2 : Int32) (hpre_13 : (σ.1 56).toInt = 0) (hi14_0 : -1 ≤ y1.toInt) (hi14_1 : y1.toInt < 30) (hi14_2 : y2.toInt ≤ 2000) (hi14_3 : y2.toInt < 2000 → 0 ≤ y1.toInt) (c6 : ¬ y2.toInt = 2000) (c7 : ¬ y2.toInt = 1000) : 0 ≤ (σ.1 56).toInt ∧ (σ.1 56).toInt ≤ 11 ∧ -1 ≤ y1.toInt ∧ y1.toInt < 30 ∧ ((σ.1 56).toInt = 0 → 0 ≤ y1.toInt) := by
  refine ⟨?_, ?_, ?_, ?_, ?_⟩ <;> first | assumption | omega | (subst_vars; omega) | trivial
-- post @178
theorem v_found_3 (σ : RS) (y1 : Int32) (y2 : Int32) (hpre_13 : (σ.1 56).toInt = 0) (hi14_0 : -1 ≤ y1.toInt) (hi14_1 : y1.toInt < 30) (hi14_2 : y2.toInt ≤ 2000) (hi14_3 : y2.toInt < 2000 → 0 ≤ y1.toInt) (c6 : ¬ y2.toInt = 2000) (c7 : y2.toInt = 1000) : 0 ≤ (σ.1 56).toInt ∧ (σ.1 56).toInt ≤ 11 ∧ -1 ≤ y1.toInt ∧ y1.toInt < 30 ∧ ((σ.1 56).toInt = 0 → 0 ≤ y1.toInt) := by
  refine ⟨?_, ?_, ?_, ?_, ?_⟩ <;> first | assumption | omega | (subst_vars; omega) | trivial
-- post @178
theorem v_found_4 (y1 : Int32) (y2 : Int32) (hi14_0 : -1 ≤ y1.toInt) (hi14_1 : y1.toInt < 30) (hi14_2 : y2.toInt ≤ 2000) (hi14_3 : y2.toInt < 2000 → 0 ≤ y1.toInt) (c6 : ¬ y2.toInt = 2000) (c7 : y2.toInt = 1000) : 0 ≤ (7 : Int32).toInt ∧ (7 : Int32).toInt ≤ 11 ∧ -1 ≤ y1.toInt ∧ y1.toInt < 30 ∧ ((7 : Int32).toInt = 0 → 0 ≤ y1.toInt) := by
  have q7 : (7 : Int32).toInt = 7 := by decide +kernel
  refine ⟨?_, ?_, ?_, ?_, ?_⟩ <;> first | assumption | omega | (subst_vars; omega) | trivial
-- post @178
theorem v_found_5 (y1 : Int32) (y2 : Int32) (hi14_0 : -1 ≤ y1.toInt) (hi14_1 : y1.toInt < 30) (hi14_2 : y2.toInt ≤ 2000) (hi14_3 : y2.toInt < 2000 → 0 ≤ y1.toInt) (c6 : y2.toInt = 2000) : 0 ≤ (8 : Int32).toInt ∧ (8 : Int32).toInt ≤ 11 ∧ -1 ≤ y1.toInt ∧ y1.toInt < 30 ∧ ((8 : Int32).toInt = 0 → 0 ≤ y1.toInt) := by
  have q8 : (8 : Int32).toInt = 8 := by decide +kernel
  refine ⟨?_, ?_, ?_, ?_, ?_⟩ <;> first | assumption | omega | (subst_vars; omega) | trivial
-- nw@23 @23
theorem v_found_6 (σ : RS) (k0 : Int32) (y4 : Int32) (x9 : Int32) (hpre_0 : 0 ≤ (σ.1 35).toInt) (hpre_1 : (σ.1 35).toInt ≤ 5) (hpre_2 : CLS (σ.1 35).toInt (σ.2.1 36) (σ.2.1 37) (σ.2.1 40)) (hpre_6 : VALS (σ.2.1 51) (σ.2.2.1 52) (σ.1 35).toInt (σ.1 47).toInt) (hpre_7 : 0 ≤ k0.toInt) (hpre_8 : k0.toInt < (σ.1 35).toInt) (hi14_4 : -1 ≤ y4.toInt) (hi14_5 : y4.toInt < (σ.1 35).toInt) (c5 : 0 ≤ y4.toInt) (ex9 : x9 = (6 : Int32) * y4) : x9.toInt = 6 * y4.toInt := by
  have q6 : (6 : Int32).toInt = 6 := by decide +kernel
  have w0 : (6 : Int32).toInt = 6 := by decide +kernel
  rw [ex9, z_mulc 6 w0 (by omega) (by omega)]
-- init@26 @26
theorem v_found_7 (σ : RS) (k0 : Int32) (y1 : Int32) (y2 : Int32) (y4 : Int32) (x9 : Int32) (hpre_0 : 0 ≤ (σ.1 35).toInt) (hpre_1 : (σ.1 35).toInt ≤ 5) (hpre_2 : CLS (σ.1 35).toInt (σ.2.1 36) (σ.2.1 37) (σ.2.1 40)) (hpre_6 : VALS (σ.2.1 51) (σ.2.2.1 52) (σ.1 35).toInt (σ.1 47).toInt) (hpre_7 : 0 ≤ k0.toInt) (hpre_8 : k0.toInt < (σ.1 35).toInt) (hi14_0 : -1 ≤ y1.toInt) (hi14_1 : y1.toInt < 30) (hi14_2 : y2.toInt ≤ 2000) (hi14_3 : y2.toInt < 2000 → 0 ≤ y1.toInt) (hi14_4 : -1 ≤ y4.toInt) (hi14_5 : y4.toInt < (σ.1 35).toInt) (c5 : 0 ≤ y4.toInt) (ex9 : x9 = (6 : Int32) * y4) (tx9 : x9.toInt = 6 * y4.toInt) : -1 ≤ y1.toInt ∧ y1.toInt < 30 ∧ y2.toInt ≤ 2000 ∧ (y2.toInt < 2000 → 0 ≤ y1.toInt) ∧ 6 * y4.toInt ≤ x9.toInt ∧ x9.toInt ≤ 6 * y4.toInt + 6 := by
  have q6 : (6 : Int32).toInt = 6 := by decide +kernel
  refine ⟨?_, ?_, ?_, ?_, ?_, ?_⟩ <;> first | assumption | omega | (subst_vars; omega) | trivial
-- nw@32 @32
theorem v_found_8 (σ : RS) (k0 : Int32) (y4 : Int32) (x9 : Int32) (y13 : Int32) (x14 : Int32) (hpre_0 : 0 ≤ (σ.1 35).toInt) (hpre_1 : (σ.1 35).toInt ≤ 5) (hpre_2 : CLS (σ.1 35).toInt (σ.2.1 36) (σ.2.1 37) (σ.2.1 40)) (hpre_6 : VALS (σ.2.1 51) (σ.2.2.1 52) (σ.1 35).toInt (σ.1 47).toInt) (hpre_7 : 0 ≤ k0.toInt) (hpre_8 : k0.toInt < (σ.1 35).toInt) (hi14_4 : -1 ≤ y4.toInt) (hi14_5 : y4.toInt < (σ.1 35).toInt) (c5 : 0 ≤ y4.toInt) (ex9 : x9 = (6 : Int32) * y4) (tx9 : x9.toInt = 6 * y4.toInt) (hi26_4 : 6 * y4.toInt ≤ y13.toInt) (hi26_5 : y13.toInt ≤ 6 * y4.toInt + 6) (ex14 : x14 = (6 : Int32) * y4) : x14.toInt = 6 * y4.toInt := by
  have q6 : (6 : Int32).toInt = 6 := by decide +kernel
  have w0 : (6 : Int32).toInt = 6 := by decide +kernel
  rw [ex14, z_mulc 6 w0 (by omega) (by omega)]
-- in@39 @39
theorem v_found_9 (σ : RS) (k0 : Int32) (y4 : Int32) (x9 : Int32) (y13 : Int32) (x14 : Int32) (hpre_0 : 0 ≤ (σ.1 35).toInt) (hpre_1 : (σ.1 35).toInt ≤ 5) (hpre_2 : CLS (σ.1 35).toInt (σ.2.1 36) (σ.2.1 37) (σ.2.1 40)) (hpre_6 : VALS (σ.2.1 51) (σ.2.2.1 52) (σ.1 35).toInt (σ.1 47).toInt) (hpre_7 : 0 ≤ k0.toInt) (hpre_8 : k0.toInt < (σ.1 35).toInt) (hi14_4 : -1 ≤ y4.toInt) (hi14_5 : y4.toInt < (σ.1 35).toInt) (c5 : 0 ≤ y4.toInt) (ex9 : x9 = (6 : Int32) * y4) (tx9 : x9.toInt = 6 * y4.toInt) (hi26_4 : 6 * y4.toInt ≤ y13.toInt) (hi26_5 : y13.toInt ≤ 6 * y4.toInt + 6) (ex14 : x14 = (6 : Int32) * y4) (tx14 : x14.toInt = 6 * y4.toInt) : vp_in y4 5 := by
  have q6 : (6 : Int32).toInt = 6 := by decide +kernel
  exact vp_in_iff.mpr ⟨by omega, by omega⟩
-- nw@40 @40
theorem v_found_10 (σ : RS) (k0 : Int32) (y4 : Int32) (x9 : Int32) (y13 : Int32) (x14 : Int32) (x15 : Int32) (x16 : Int32) (hpre_0 : 0 ≤ (σ.1 35).toInt) (hpre_1 : (σ.1 35).toInt ≤ 5) (hpre_2 : CLS (σ.1 35).toInt (σ.2.1 36) (σ.2.1 37) (σ.2.1 40)) (hpre_6 : VALS (σ.2.1 51) (σ.2.2.1 52) (σ.1 35).toInt (σ.1 47).toInt) (hpre_7 : 0 ≤ k0.toInt) (hpre_8 : k0.toInt < (σ.1 35).toInt) (hi14_4 : -1 ≤ y4.toInt) (hi14_5 : y4.toInt < (σ.1 35).toInt) (c5 : 0 ≤ y4.toInt) (ex9 : x9 = (6 : Int32) * y4) (tx9 : x9.toInt = 6 * y4.toInt) (hi26_4 : 6 * y4.toInt ≤ y13.toInt) (hi26_5 : y13.toInt ≤ 6 * y4.toInt + 6) (ex14 : x14 = (6 : Int32) * y4) (tx14 : x14.toInt = 6 * y4.toInt) (ex15 : x15 = (σ.2.1 40) y4.toNatClampNeg) (tx15 : x15.toInt = ((σ.2.1 40) y4.toNatClampNeg).toInt) (ex16 : x16 = x14 + x15) : x16.toInt = x14.toInt + x15.toInt := by
  have q6 : (6 : Int32).toInt = 6 := by decide +kernel
  have cl_x15 := hpre_2 y4.toNatClampNeg (by rw [clampZ (by omega)]; omega)
  rw [ex16, z_add (by omega) (by omega)]; first | done | omega
-- in@130 @130
theorem v_found_11 (σ : RS) (k0 : Int32) (y4 : Int32) (x9 : Int32) (y13 : Int32) (x14 : Int32) (x15 : Int32) (x16 : Int32) (hpre_0 : 0 ≤ (σ.1 35).toInt) (hpre_1 : (σ.1 35).toInt ≤ 5) (hpre_2 : CLS (σ.1 35).toInt (σ.2.1 36) (σ.2.1 37) (σ.2.1 40)) (hpre_6 : VALS (σ.2.1 51) (σ.2.2.1 52) (σ.1 35).toInt (σ.1 47).toInt) (hpre_7 : 0 ≤ k0.toInt) (hpre_8 : k0.toInt < (σ.1 35).toInt) (hi14_4 : -1 ≤ y4.toInt) (hi14_5 : y4.toInt < (σ.1 35).toInt) (c5 : 0 ≤ y4.toInt) (ex9 : x9 = (6 : Int32) * y4) (tx9 : x9.toInt = 6 * y4.toInt) (hi26_4 : 6 * y4.toInt ≤ y13.toInt) (hi26_5 : y13.toInt ≤ 6 * y4.toInt + 6) (ex14 : x14 = (6 : Int32) * y4) (tx14 : x14.toInt = 6 * y4.toInt) (ex15 : x15 = (σ.2.1 40) y4.toNatClampNeg) (tx15 : x15.toInt = ((σ.2.1 40) y4.toNatClampNeg).toInt) (ex16 : x16 = x14 + x15) (tx16 : x16.toInt = x14.toInt + x15.toInt) (c17 : x16.toInt ≤ y13.toInt) : vp_in y4 5 := by
  have q6 : (6 : Int32).toInt = 6 := by decide +kernel
  have cl_x15 := hpre_2 y4.toNatClampNeg (by rw [clampZ (by omega)]; omega)
  exact vp_in_iff.mpr ⟨by omega, by omega⟩
-- inv@14 @14
theorem v_found_12 (σ : RS) (k0 : Int32) (y4 : Int32) (x9 : Int32) (y10 : Int32) (y11 : Int32) (y13 : Int32) (x14 : Int32) (x15 : Int32) (x16 : Int32) (x18 : Int32) (hpre_0 : 0 ≤ (σ.1 35).toInt) (hpre_1 : (σ.1 35).toInt ≤ 5) (hpre_2 : CLS (σ.1 35).toInt (σ.2.1 36) (σ.2.1 37) (σ.2.1 40)) (hpre_6 : VALS (σ.2.1 51) (σ.2.2.1 52) (σ.1 35).toInt (σ.1 47).toInt) (hpre_7 : 0 ≤ k0.toInt) (hpre_8 : k0.toInt < (σ.1 35).toInt) (hi14_4 : -1 ≤ y4.toInt) (hi14_5 : y4.toInt < (σ.1 35).toInt) (c5 : 0 ≤ y4.toInt) (ex9 : x9 = (6 : Int32) * y4) (tx9 : x9.toInt = 6 * y4.toInt) (hi26_0 : -1 ≤ y10.toInt) (hi26_1 : y10.toInt < 30) (hi26_2 : y11.toInt ≤ 2000) (hi26_3 : y11.toInt < 2000 → 0 ≤ y10.toInt) (hi26_4 : 6 * y4.toInt ≤ y13.toInt) (hi26_5 : y13.toInt ≤ 6 * y4.toInt + 6) (ex14 : x14 = (6 : Int32) * y4) (tx14 : x14.toInt = 6 * y4.toInt) (ex15 : x15 = (σ.2.1 40) y4.toNatClampNeg) (tx15 : x15.toInt = ((σ.2.1 40) y4.toNatClampNeg).toInt) (ex16 : x16 = x14 + x15) (tx16 : x16.toInt = x14.toInt + x15.toInt) (c17 : x16.toInt ≤ y13.toInt) (ex18 : x18 = (σ.2.1 36) y4.toNatClampNeg) (tx18 : x18.toInt = ((σ.2.1 36) y4.toNatClampNeg).toInt) : -1 ≤ y10.toInt ∧ y10.toInt < 30 ∧ y11.toInt ≤ 2000 ∧ (y11.toInt < 2000 → 0 ≤ y10.toInt) ∧ -1 ≤ x18.toInt ∧ x18.toInt < (σ.1 35).toInt := by
  have q6 : (6 : Int32).toInt = 6 := by decide +kernel
  have cl_x18 := hpre_2 y4.toNatClampNeg (by rw [clampZ (by omega)]; omega)
  rw [clampZ (by omega)] at cl_x18
  have cl_x15 := hpre_2 y4.toNatClampNeg (by rw [clampZ (by omega)]; omega)
  refine ⟨?_, ?_, ?_, ?_, ?_, ?_⟩ <;> first | assumption | omega | (subst_vars; omega) | trivial
-- meas@14 @14
theorem v_found_13 (σ : RS) (k0 : Int32) (y4 : Int32) (x9 : Int32) (y13 : Int32) (x14 : Int32) (x15 : Int32) (x16 : Int32) (x18 : Int32) (hpre_0 : 0 ≤ (σ.1 35).toInt) (hpre_1 : (σ.1 35).toInt ≤ 5) (hpre_2 : CLS (σ.1 35).toInt (σ.2.1 36) (σ.2.1 37) (σ.2.1 40)) (hpre_6 : VALS (σ.2.1 51) (σ.2.2.1 52) (σ.1 35).toInt (σ.1 47).toInt) (hpre_7 : 0 ≤ k0.toInt) (hpre_8 : k0.toInt < (σ.1 35).toInt) (hi14_4 : -1 ≤ y4.toInt) (hi14_5 : y4.toInt < (σ.1 35).toInt) (c5 : 0 ≤ y4.toInt) (ex9 : x9 = (6 : Int32) * y4) (tx9 : x9.toInt = 6 * y4.toInt) (hi26_4 : 6 * y4.toInt ≤ y13.toInt) (hi26_5 : y13.toInt ≤ 6 * y4.toInt + 6) (ex14 : x14 = (6 : Int32) * y4) (tx14 : x14.toInt = 6 * y4.toInt) (ex15 : x15 = (σ.2.1 40) y4.toNatClampNeg) (tx15 : x15.toInt = ((σ.2.1 40) y4.toNatClampNeg).toInt) (ex16 : x16 = x14 + x15) (tx16 : x16.toInt = x14.toInt + x15.toInt) (c17 : x16.toInt ≤ y13.toInt) (ex18 : x18 = (σ.2.1 36) y4.toNatClampNeg) (tx18 : x18.toInt = ((σ.2.1 36) y4.toNatClampNeg).toInt) : (x18.toInt + 1).toNat < (y4.toInt + 1).toNat := by
  have q6 : (6 : Int32).toInt = 6 := by decide +kernel
  have cl_x18 := hpre_2 y4.toNatClampNeg (by rw [clampZ (by omega)]; omega)
  rw [clampZ (by omega)] at cl_x18
  have cl_x15 := hpre_2 y4.toNatClampNeg (by rw [clampZ (by omega)]; omega)
  first | assumption | omega | (subst_vars; omega) | trivial
-- pre:stands@51 @51
theorem v_found_14 (σ : RS) (k0 : Int32) (y4 : Int32) (x9 : Int32) (y13 : Int32) (x14 : Int32) (x15 : Int32) (x16 : Int32) (hpre_0 : 0 ≤ (σ.1 35).toInt) (hpre_1 : (σ.1 35).toInt ≤ 5) (hpre_2 : CLS (σ.1 35).toInt (σ.2.1 36) (σ.2.1 37) (σ.2.1 40)) (hpre_6 : VALS (σ.2.1 51) (σ.2.2.1 52) (σ.1 35).toInt (σ.1 47).toInt) (hpre_7 : 0 ≤ k0.toInt) (hpre_8 : k0.toInt < (σ.1 35).toInt) (hi14_4 : -1 ≤ y4.toInt) (hi14_5 : y4.toInt < (σ.1 35).toInt) (c5 : 0 ≤ y4.toInt) (ex9 : x9 = (6 : Int32) * y4) (tx9 : x9.toInt = 6 * y4.toInt) (hi26_4 : 6 * y4.toInt ≤ y13.toInt) (hi26_5 : y13.toInt ≤ 6 * y4.toInt + 6) (ex14 : x14 = (6 : Int32) * y4) (tx14 : x14.toInt = 6 * y4.toInt) (ex15 : x15 = (σ.2.1 40) y4.toNatClampNeg) (tx15 : x15.toInt = ((σ.2.1 40) y4.toNatClampNeg).toInt) (ex16 : x16 = x14 + x15) (tx16 : x16.toInt = x14.toInt + x15.toInt) (c17 : y13.toInt < x16.toInt) : 0 ≤ (σ.1 35).toInt ∧ (σ.1 35).toInt ≤ 5 ∧ CLS (σ.1 35).toInt (σ.2.1 36) (σ.2.1 37) (σ.2.1 40) ∧ 0 ≤ k0.toInt ∧ k0.toInt < (σ.1 35).toInt ∧ 0 ≤ y13.toInt ∧ y13.toInt < 30 := by
  have q6 : (6 : Int32).toInt = 6 := by decide +kernel
  have cl_x15 := hpre_2 y4.toNatClampNeg (by rw [clampZ (by omega)]; omega)
  refine ⟨?_, ?_, ?_, ?_, ?_, ?_, ?_⟩ <;> first | assumption | omega | (subst_vars; omega) | trivial | exact hpre_6 _ (by rw [clampN]; omega)
-- nw@118 @118
theorem v_found_15 (σ : RS) (k0 : Int32) (y4 : Int32) (x9 : Int32) (y13 : Int32) (x14 : Int32) (x15 : Int32) (x16 : Int32) (x21 : Int32) (hpre_0 : 0 ≤ (σ.1 35).toInt) (hpre_1 : (σ.1 35).toInt ≤ 5) (hpre_2 : CLS (σ.1 35).toInt (σ.2.1 36) (σ.2.1 37) (σ.2.1 40)) (hpre_6 : VALS (σ.2.1 51) (σ.2.2.1 52) (σ.1 35).toInt (σ.1 47).toInt) (hpre_7 : 0 ≤ k0.toInt) (hpre_8 : k0.toInt < (σ.1 35).toInt) (hi14_4 : -1 ≤ y4.toInt) (hi14_5 : y4.toInt < (σ.1 35).toInt) (c5 : 0 ≤ y4.toInt) (ex9 : x9 = (6 : Int32) * y4) (tx9 : x9.toInt = 6 * y4.toInt) (hi26_4 : 6 * y4.toInt ≤ y13.toInt) (hi26_5 : y13.toInt ≤ 6 * y4.toInt + 6) (ex14 : x14 = (6 : Int32) * y4) (tx14 : x14.toInt = 6 * y4.toInt) (ex15 : x15 = (σ.2.1 40) y4.toNatClampNeg) (tx15 : x15.toInt = ((σ.2.1 40) y4.toNatClampNeg).toInt) (ex16 : x16 = x14 + x15) (tx16 : x16.toInt = x14.toInt + x15.toInt) (c17 : y13.toInt < x16.toInt) (ex21 : x21 = y13 + (1 : Int32)) : x21.toInt = y13.toInt + 1 := by
  have q1 : (1 : Int32).toInt = 1 := by decide +kernel
  have q6 : (6 : Int32).toInt = 6 := by decide +kernel
  have cl_x15 := hpre_2 y4.toNatClampNeg (by rw [clampZ (by omega)]; omega)
  have z9 : (1 : Int32).toInt = 1 := by decide +kernel
  rw [ex21, z_add (by omega) (by omega)]; first | done | omega
-- inv@26 @26
theorem v_found_16 (σ : RS) (k0 : Int32) (y4 : Int32) (x9 : Int32) (y10 : Int32) (y11 : Int32) (y13 : Int32) (x14 : Int32) (x15 : Int32) (x16 : Int32) (x21 : Int32) (hpre_0 : 0 ≤ (σ.1 35).toInt) (hpre_1 : (σ.1 35).toInt ≤ 5) (hpre_2 : CLS (σ.1 35).toInt (σ.2.1 36) (σ.2.1 37) (σ.2.1 40)) (hpre_6 : VALS (σ.2.1 51) (σ.2.2.1 52) (σ.1 35).toInt (σ.1 47).toInt) (hpre_7 : 0 ≤ k0.toInt) (hpre_8 : k0.toInt < (σ.1 35).toInt) (hi14_4 : -1 ≤ y4.toInt) (hi14_5 : y4.toInt < (σ.1 35).toInt) (c5 : 0 ≤ y4.toInt) (ex9 : x9 = (6 : Int32) * y4) (tx9 : x9.toInt = 6 * y4.toInt) (hi26_0 : -1 ≤ y10.toInt) (hi26_1 : y10.toInt < 30) (hi26_2 : y11.toInt ≤ 2000) (hi26_3 : y11.toInt < 2000 → 0 ≤ y10.toInt) (hi26_4 : 6 * y4.toInt ≤ y13.toInt) (hi26_5 : y13.toInt ≤ 6 * y4.toInt + 6) (ex14 : x14 = (6 : Int32) * y4) (tx14 : x14.toInt = 6 * y4.toInt) (ex15 : x15 = (σ.2.1 40) y4.toNatClampNeg) (tx15 : x15.toInt = ((σ.2.1 40) y4.toNatClampNeg).toInt) (ex16 : x16 = x14 + x15) (tx16 : x16.toInt = x14.toInt + x15.toInt) (c17 : y13.toInt < x16.toInt) (ex21 : x21 = y13 + (1 : Int32)) (tx21 : x21.toInt = y13.toInt + 1) : -1 ≤ y10.toInt ∧ y10.toInt < 30 ∧ y11.toInt ≤ 2000 ∧ (y11.toInt < 2000 → 0 ≤ y10.toInt) ∧ 6 * y4.toInt ≤ x21.toInt ∧ x21.toInt ≤ 6 * y4.toInt + 6 := by
  have q1 : (1 : Int32).toInt = 1 := by decide +kernel
  have q6 : (6 : Int32).toInt = 6 := by decide +kernel
  have cl_x15 := hpre_2 y4.toNatClampNeg (by rw [clampZ (by omega)]; omega)
  refine ⟨?_, ?_, ?_, ?_, ?_, ?_⟩ <;> first | assumption | omega | (subst_vars; omega) | trivial
-- meas@26 @26
theorem v_found_17 (σ : RS) (k0 : Int32) (y4 : Int32) (x9 : Int32) (y13 : Int32) (x14 : Int32) (x15 : Int32) (x16 : Int32) (x21 : Int32) (hpre_0 : 0 ≤ (σ.1 35).toInt) (hpre_1 : (σ.1 35).toInt ≤ 5) (hpre_2 : CLS (σ.1 35).toInt (σ.2.1 36) (σ.2.1 37) (σ.2.1 40)) (hpre_6 : VALS (σ.2.1 51) (σ.2.2.1 52) (σ.1 35).toInt (σ.1 47).toInt) (hpre_7 : 0 ≤ k0.toInt) (hpre_8 : k0.toInt < (σ.1 35).toInt) (hi14_4 : -1 ≤ y4.toInt) (hi14_5 : y4.toInt < (σ.1 35).toInt) (c5 : 0 ≤ y4.toInt) (ex9 : x9 = (6 : Int32) * y4) (tx9 : x9.toInt = 6 * y4.toInt) (hi26_4 : 6 * y4.toInt ≤ y13.toInt) (hi26_5 : y13.toInt ≤ 6 * y4.toInt + 6) (ex14 : x14 = (6 : Int32) * y4) (tx14 : x14.toInt = 6 * y4.toInt) (ex15 : x15 = (σ.2.1 40) y4.toNatClampNeg) (tx15 : x15.toInt = ((σ.2.1 40) y4.toNatClampNeg).toInt) (ex16 : x16 = x14 + x15) (tx16 : x16.toInt = x14.toInt + x15.toInt) (c17 : y13.toInt < x16.toInt) (ex21 : x21 = y13 + (1 : Int32)) (tx21 : x21.toInt = y13.toInt + 1) : (6 * y4.toInt + 6 - x21.toInt).toNat < (6 * y4.toInt + 6 - y13.toInt).toNat := by
  have q1 : (1 : Int32).toInt = 1 := by decide +kernel
  have q6 : (6 : Int32).toInt = 6 := by decide +kernel
  have cl_x15 := hpre_2 y4.toNatClampNeg (by rw [clampZ (by omega)]; omega)
  first | assumption | omega | (subst_vars; omega) | trivial
-- pre:suits@63 @63
theorem v_found_18 (σ : RS) (k0 : Int32) (k2 : Int32) (k3 : Int32) (y4 : Int32) (x9 : Int32) (y13 : Int32) (x14 : Int32) (x15 : Int32) (x16 : Int32) (hpre_0 : 0 ≤ (σ.1 35).toInt) (hpre_1 : (σ.1 35).toInt ≤ 5) (hpre_2 : CLS (σ.1 35).toInt (σ.2.1 36) (σ.2.1 37) (σ.2.1 40)) (hpre_3 : BLS (σ.2.1 46)) (hpre_4 : TYS (σ.2.1 42)) (hpre_5 : TYS (σ.2.1 43)) (hpre_6 : VALS (σ.2.1 51) (σ.2.2.1 52) (σ.1 35).toInt (σ.1 47).toInt) (hpre_7 : 0 ≤ k0.toInt) (hpre_8 : k0.toInt < (σ.1 35).toInt) (hpre_9 : 0 ≤ k2.toInt) (hpre_10 : k2.toInt ≤ 60) (hpre_11 : 0 ≤ k3.toInt) (hpre_12 : k3.toInt ≤ 3) (hi14_4 : -1 ≤ y4.toInt) (hi14_5 : y4.toInt < (σ.1 35).toInt) (c5 : 0 ≤ y4.toInt) (ex9 : x9 = (6 : Int32) * y4) (tx9 : x9.toInt = 6 * y4.toInt) (hi26_4 : 6 * y4.toInt ≤ y13.toInt) (hi26_5 : y13.toInt ≤ 6 * y4.toInt + 6) (ex14 : x14 = (6 : Int32) * y4) (tx14 : x14.toInt = 6 * y4.toInt) (ex15 : x15 = (σ.2.1 40) y4.toNatClampNeg) (tx15 : x15.toInt = ((σ.2.1 40) y4.toNatClampNeg).toInt) (ex16 : x16 = x14 + x15) (tx16 : x16.toInt = x14.toInt + x15.toInt) (c17 : y13.toInt < x16.toInt) : 0 ≤ (σ.1 35).toInt ∧ (σ.1 35).toInt ≤ 5 ∧ CLS (σ.1 35).toInt (σ.2.1 36) (σ.2.1 37) (σ.2.1 40) ∧ BLS (σ.2.1 46) ∧ TYS (σ.2.1 42) ∧ TYS (σ.2.1 43) ∧ VALS (σ.2.1 51) (σ.2.2.1 52) (σ.1 35).toInt (σ.1 47).toInt ∧ 0 ≤ y13.toInt ∧ y13.toInt < 30 ∧ 0 ≤ k2.toInt ∧ k2.toInt ≤ 60 ∧ 0 ≤ k3.toInt ∧ k3.toInt ≤ 3 := by
  have q6 : (6 : Int32).toInt = 6 := by decide +kernel
  have cl_x15 := hpre_2 y4.toNatClampNeg (by rw [clampZ (by omega)]; omega)
  refine ⟨?_, ?_, ?_, ?_, ?_, ?_, ?_, ?_, ?_, ?_, ?_, ?_, ?_⟩ <;> first | assumption | omega | (subst_vars; omega) | trivial | exact hpre_6 _ (by rw [clampN]; omega)
-- nw@118 @118
theorem v_found_19 (σ : RS) (k0 : Int32) (y4 : Int32) (x9 : Int32) (y13 : Int32) (x14 : Int32) (x15 : Int32) (x16 : Int32) (x27 : Int32) (hpre_0 : 0 ≤ (σ.1 35).toInt) (hpre_1 : (σ.1 35).toInt ≤ 5) (hpre_2 : CLS (σ.1 35).toInt (σ.2.1 36) (σ.2.1 37) (σ.2.1 40)) (hpre_6 : VALS (σ.2.1 51) (σ.2.2.1 52) (σ.1 35).toInt (σ.1 47).toInt) (hpre_7 : 0 ≤ k0.toInt) (hpre_8 : k0.toInt < (σ.1 35).toInt) (hi14_4 : -1 ≤ y4.toInt) (hi14_5 : y4.toInt < (σ.1 35).toInt) (c5 : 0 ≤ y4.toInt) (ex9 : x9 = (6 : Int32) * y4) (tx9 : x9.toInt = 6 * y4.toInt) (hi26_4 : 6 * y4.toInt ≤ y13.toInt) (hi26_5 : y13.toInt ≤ 6 * y4.toInt + 6) (ex14 : x14 = (6 : Int32) * y4) (tx14 : x14.toInt = 6 * y4.toInt) (ex15 : x15 = (σ.2.1 40) y4.toNatClampNeg) (tx15 : x15.toInt = ((σ.2.1 40) y4.toNatClampNeg).toInt) (ex16 : x16 = x14 + x15) (tx16 : x16.toInt = x14.toInt + x15.toInt) (c17 : y13.toInt < x16.toInt) (ex27 : x27 = y13 + (1 : Int32)) : x27.toInt = y13.toInt + 1 := by
  have q1 : (1 : Int32).toInt = 1 := by decide +kernel
  have q6 : (6 : Int32).toInt = 6 := by decide +kernel
  have cl_x15 := hpre_2 y4.toNatClampNeg (by rw [clampZ (by omega)]; omega)
  have z9 : (1 : Int32).toInt = 1 := by decide +kernel
  rw [ex27, z_add (by omega) (by omega)]; first | done | omega
-- inv@26 @26
theorem v_found_20 (σ : RS) (k0 : Int32) (y4 : Int32) (x9 : Int32) (y10 : Int32) (y11 : Int32) (y13 : Int32) (x14 : Int32) (x15 : Int32) (x16 : Int32) (r22 : Int32) (x27 : Int32) (hpre_0 : 0 ≤ (σ.1 35).toInt) (hpre_1 : (σ.1 35).toInt ≤ 5) (hpre_2 : CLS (σ.1 35).toInt (σ.2.1 36) (σ.2.1 37) (σ.2.1 40)) (hpre_6 : VALS (σ.2.1 51) (σ.2.2.1 52) (σ.1 35).toInt (σ.1 47).toInt) (hpre_7 : 0 ≤ k0.toInt) (hpre_8 : k0.toInt < (σ.1 35).toInt) (hi14_4 : -1 ≤ y4.toInt) (hi14_5 : y4.toInt < (σ.1 35).toInt) (c5 : 0 ≤ y4.toInt) (ex9 : x9 = (6 : Int32) * y4) (tx9 : x9.toInt = 6 * y4.toInt) (hi26_0 : -1 ≤ y10.toInt) (hi26_1 : y10.toInt < 30) (hi26_2 : y11.toInt ≤ 2000) (hi26_3 : y11.toInt < 2000 → 0 ≤ y10.toInt) (hi26_4 : 6 * y4.toInt ≤ y13.toInt) (hi26_5 : y13.toInt ≤ 6 * y4.toInt + 6) (ex14 : x14 = (6 : Int32) * y4) (tx14 : x14.toInt = 6 * y4.toInt) (ex15 : x15 = (σ.2.1 40) y4.toNatClampNeg) (tx15 : x15.toInt = ((σ.2.1 40) y4.toNatClampNeg).toInt) (ex16 : x16 = x14 + x15) (tx16 : x16.toInt = x14.toInt + x15.toInt) (c17 : y13.toInt < x16.toInt) (hr22_0 : -6 ≤ r22.toInt) (hr22_1 : r22.toInt ≤ 2000) (c23 : ¬ r22.toInt = 1000) (c25 : y11.toInt ≤ r22.toInt) (c26 : y11.toInt ≤ r22.toInt) (ex27 : x27 = y13 + (1 : Int32)) (tx27 : x27.toInt = y13.toInt + 1) : -1 ≤ y10.toInt ∧ y10.toInt < 30 ∧ y11.toInt ≤ 2000 ∧ (y11.toInt < 2000 → 0 ≤ y10.toInt) ∧ 6 * y4.toInt ≤ x27.toInt ∧ x27.toInt ≤ 6 * y4.toInt + 6 := by
  have q1 : (1 : Int32).toInt = 1 := by decide +kernel
  have q6 : (6 : Int32).toInt = 6 := by decide +kernel
  have cl_x15 := hpre_2 y4.toNatClampNeg (by rw [clampZ (by omega)]; omega)
  refine ⟨?_, ?_, ?_, ?_, ?_, ?_⟩ <;> first | assumption | omega | (subst_vars; omega) | trivial
-- meas@26 @26
theorem v_found_21 (σ : RS) (k0 : Int32) (y4 : Int32) (x9 : Int32) (y13 : Int32) (x14 : Int32) (x15 : Int32) (x16 : Int32) (x27 : Int32) (hpre_0 : 0 ≤ (σ.1 35).toInt) (hpre_1 : (σ.1 35).toInt ≤ 5) (hpre_2 : CLS (σ.1 35).toInt (σ.2.1 36) (σ.2.1 37) (σ.2.1 40)) (hpre_6 : VALS (σ.2.1 51) (σ.2.2.1 52) (σ.1 35).toInt (σ.1 47).toInt) (hpre_7 : 0 ≤ k0.toInt) (hpre_8 : k0.toInt < (σ.1 35).toInt) (hi14_4 : -1 ≤ y4.toInt) (hi14_5 : y4.toInt < (σ.1 35).toInt) (c5 : 0 ≤ y4.toInt) (ex9 : x9 = (6 : Int32) * y4) (tx9 : x9.toInt = 6 * y4.toInt) (hi26_4 : 6 * y4.toInt ≤ y13.toInt) (hi26_5 : y13.toInt ≤ 6 * y4.toInt + 6) (ex14 : x14 = (6 : Int32) * y4) (tx14 : x14.toInt = 6 * y4.toInt) (ex15 : x15 = (σ.2.1 40) y4.toNatClampNeg) (tx15 : x15.toInt = ((σ.2.1 40) y4.toNatClampNeg).toInt) (ex16 : x16 = x14 + x15) (tx16 : x16.toInt = x14.toInt + x15.toInt) (c17 : y13.toInt < x16.toInt) (ex27 : x27 = y13 + (1 : Int32)) (tx27 : x27.toInt = y13.toInt + 1) : (6 * y4.toInt + 6 - x27.toInt).toNat < (6 * y4.toInt + 6 - y13.toInt).toNat := by
  have q1 : (1 : Int32).toInt = 1 := by decide +kernel
  have q6 : (6 : Int32).toInt = 6 := by decide +kernel
  have cl_x15 := hpre_2 y4.toNatClampNeg (by rw [clampZ (by omega)]; omega)
  first | assumption | omega | (subst_vars; omega) | trivial
-- nw@118 @118
theorem v_found_22 (σ : RS) (k0 : Int32) (y4 : Int32) (x9 : Int32) (y13 : Int32) (x14 : Int32) (x15 : Int32) (x16 : Int32) (x28 : Int32) (hpre_0 : 0 ≤ (σ.1 35).toInt) (hpre_1 : (σ.1 35).toInt ≤ 5) (hpre_2 : CLS (σ.1 35).toInt (σ.2.1 36) (σ.2.1 37) (σ.2.1 40)) (hpre_6 : VALS (σ.2.1 51) (σ.2.2.1 52) (σ.1 35).toInt (σ.1 47).toInt) (hpre_7 : 0 ≤ k0.toInt) (hpre_8 : k0.toInt < (σ.1 35).toInt) (hi14_4 : -1 ≤ y4.toInt) (hi14_5 : y4.toInt < (σ.1 35).toInt) (c5 : 0 ≤ y4.toInt) (ex9 : x9 = (6 : Int32) * y4) (tx9 : x9.toInt = 6 * y4.toInt) (hi26_4 : 6 * y4.toInt ≤ y13.toInt) (hi26_5 : y13.toInt ≤ 6 * y4.toInt + 6) (ex14 : x14 = (6 : Int32) * y4) (tx14 : x14.toInt = 6 * y4.toInt) (ex15 : x15 = (σ.2.1 40) y4.toNatClampNeg) (tx15 : x15.toInt = ((σ.2.1 40) y4.toNatClampNeg).toInt) (ex16 : x16 = x14 + x15) (tx16 : x16.toInt = x14.toInt + x15.toInt) (c17 : y13.toInt < x16.toInt) (ex28 : x28 = y13 + (1 : Int32)) : x28.toInt = y13.toInt + 1 := by
  have q1 : (1 : Int32).toInt = 1 := by decide +kernel
  have q6 : (6 : Int32).toInt = 6 := by decide +kernel
  have cl_x15 := hpre_2 y4.toNatClampNeg (by rw [clampZ (by omega)]; omega)
  have z9 : (1 : Int32).toInt = 1 := by decide +kernel
  rw [ex28, z_add (by omega) (by omega)]; first | done | omega
-- inv@26 @26
theorem v_found_23 (σ : RS) (k0 : Int32) (y4 : Int32) (x9 : Int32) (y10 : Int32) (y11 : Int32) (y13 : Int32) (x14 : Int32) (x15 : Int32) (x16 : Int32) (r22 : Int32) (x28 : Int32) (hpre_0 : 0 ≤ (σ.1 35).toInt) (hpre_1 : (σ.1 35).toInt ≤ 5) (hpre_2 : CLS (σ.1 35).toInt (σ.2.1 36) (σ.2.1 37) (σ.2.1 40)) (hpre_6 : VALS (σ.2.1 51) (σ.2.2.1 52) (σ.1 35).toInt (σ.1 47).toInt) (hpre_7 : 0 ≤ k0.toInt) (hpre_8 : k0.toInt < (σ.1 35).toInt) (hi14_4 : -1 ≤ y4.toInt) (hi14_5 : y4.toInt < (σ.1 35).toInt) (c5 : 0 ≤ y4.toInt) (ex9 : x9 = (6 : Int32) * y4) (tx9 : x9.toInt = 6 * y4.toInt) (hi26_0 : -1 ≤ y10.toInt) (hi26_1 : y10.toInt < 30) (hi26_2 : y11.toInt ≤ 2000) (hi26_3 : y11.toInt < 2000 → 0 ≤ y10.toInt) (hi26_4 : 6 * y4.toInt ≤ y13.toInt) (hi26_5 : y13.toInt ≤ 6 * y4.toInt + 6) (ex14 : x14 = (6 : Int32) * y4) (tx14 : x14.toInt = 6 * y4.toInt) (ex15 : x15 = (σ.2.1 40) y4.toNatClampNeg) (tx15 : x15.toInt = ((σ.2.1 40) y4.toNatClampNeg).toInt) (ex16 : x16 = x14 + x15) (tx16 : x16.toInt = x14.toInt + x15.toInt) (c17 : y13.toInt < x16.toInt) (hr22_0 : -6 ≤ r22.toInt) (hr22_1 : r22.toInt ≤ 2000) (c23 : ¬ r22.toInt = 1000) (c25 : y11.toInt ≤ r22.toInt) (c26 : r22.toInt < y11.toInt) (ex28 : x28 = y13 + (1 : Int32)) (tx28 : x28.toInt = y13.toInt + 1) : -1 ≤ y10.toInt ∧ y10.toInt < 30 ∧ r22.toInt ≤ 2000 ∧ (r22.toInt < 2000 → 0 ≤ y10.toInt) ∧ 6 * y4.toInt ≤ x28.toInt ∧ x28.toInt ≤ 6 * y4.toInt + 6 := by
  have q1 : (1 : Int32).toInt = 1 := by decide +kernel
  have q6 : (6 : Int32).toInt = 6 := by decide +kernel
  have cl_x15 := hpre_2 y4.toNatClampNeg (by rw [clampZ (by omega)]; omega)
  refine ⟨?_, ?_, ?_, ?_, ?_, ?_⟩ <;> first | assumption | omega | (subst_vars; omega) | trivial
-- meas@26 @26
theorem v_found_24 (σ : RS) (k0 : Int32) (y4 : Int32) (x9 : Int32) (y13 : Int32) (x14 : Int32) (x15 : Int32) (x16 : Int32) (x28 : Int32) (hpre_0 : 0 ≤ (σ.1 35).toInt) (hpre_1 : (σ.1 35).toInt ≤ 5) (hpre_2 : CLS (σ.1 35).toInt (σ.2.1 36) (σ.2.1 37) (σ.2.1 40)) (hpre_6 : VALS (σ.2.1 51) (σ.2.2.1 52) (σ.1 35).toInt (σ.1 47).toInt) (hpre_7 : 0 ≤ k0.toInt) (hpre_8 : k0.toInt < (σ.1 35).toInt) (hi14_4 : -1 ≤ y4.toInt) (hi14_5 : y4.toInt < (σ.1 35).toInt) (c5 : 0 ≤ y4.toInt) (ex9 : x9 = (6 : Int32) * y4) (tx9 : x9.toInt = 6 * y4.toInt) (hi26_4 : 6 * y4.toInt ≤ y13.toInt) (hi26_5 : y13.toInt ≤ 6 * y4.toInt + 6) (ex14 : x14 = (6 : Int32) * y4) (tx14 : x14.toInt = 6 * y4.toInt) (ex15 : x15 = (σ.2.1 40) y4.toNatClampNeg) (tx15 : x15.toInt = ((σ.2.1 40) y4.toNatClampNeg).toInt) (ex16 : x16 = x14 + x15) (tx16 : x16.toInt = x14.toInt + x15.toInt) (c17 : y13.toInt < x16.toInt) (ex28 : x28 = y13 + (1 : Int32)) (tx28 : x28.toInt = y13.toInt + 1) : (6 * y4.toInt + 6 - x28.toInt).toNat < (6 * y4.toInt + 6 - y13.toInt).toNat := by
  have q1 : (1 : Int32).toInt = 1 := by decide +kernel
  have q6 : (6 : Int32).toInt = 6 := by decide +kernel
  have cl_x15 := hpre_2 y4.toNatClampNeg (by rw [clampZ (by omega)]; omega)
  first | assumption | omega | (subst_vars; omega) | trivial
-- nw@118 @118
theorem v_found_25 (σ : RS) (k0 : Int32) (y4 : Int32) (x9 : Int32) (y13 : Int32) (x14 : Int32) (x15 : Int32) (x16 : Int32) (x30 : Int32) (hpre_0 : 0 ≤ (σ.1 35).toInt) (hpre_1 : (σ.1 35).toInt ≤ 5) (hpre_2 : CLS (σ.1 35).toInt (σ.2.1 36) (σ.2.1 37) (σ.2.1 40)) (hpre_6 : VALS (σ.2.1 51) (σ.2.2.1 52) (σ.1 35).toInt (σ.1 47).toInt) (hpre_7 : 0 ≤ k0.toInt) (hpre_8 : k0.toInt < (σ.1 35).toInt) (hi14_4 : -1 ≤ y4.toInt) (hi14_5 : y4.toInt < (σ.1 35).toInt) (c5 : 0 ≤ y4.toInt) (ex9 : x9 = (6 : Int32) * y4) (tx9 : x9.toInt = 6 * y4.toInt) (hi26_4 : 6 * y4.toInt ≤ y13.toInt) (hi26_5 : y13.toInt ≤ 6 * y4.toInt + 6) (ex14 : x14 = (6 : Int32) * y4) (tx14 : x14.toInt = 6 * y4.toInt) (ex15 : x15 = (σ.2.1 40) y4.toNatClampNeg) (tx15 : x15.toInt = ((σ.2.1 40) y4.toNatClampNeg).toInt) (ex16 : x16 = x14 + x15) (tx16 : x16.toInt = x14.toInt + x15.toInt) (c17 : y13.toInt < x16.toInt) (ex30 : x30 = y13 + (1 : Int32)) : x30.toInt = y13.toInt + 1 := by
  have q1 : (1 : Int32).toInt = 1 := by decide +kernel
  have q6 : (6 : Int32).toInt = 6 := by decide +kernel
  have cl_x15 := hpre_2 y4.toNatClampNeg (by rw [clampZ (by omega)]; omega)
  have z9 : (1 : Int32).toInt = 1 := by decide +kernel
  rw [ex30, z_add (by omega) (by omega)]; first | done | omega
-- inv@26 @26
theorem v_found_26 (σ : RS) (k0 : Int32) (y4 : Int32) (x9 : Int32) (y10 : Int32) (y11 : Int32) (y13 : Int32) (x14 : Int32) (x15 : Int32) (x16 : Int32) (r22 : Int32) (x30 : Int32) (hpre_0 : 0 ≤ (σ.1 35).toInt) (hpre_1 : (σ.1 35).toInt ≤ 5) (hpre_2 : CLS (σ.1 35).toInt (σ.2.1 36) (σ.2.1 37) (σ.2.1 40)) (hpre_6 : VALS (σ.2.1 51) (σ.2.2.1 52) (σ.1 35).toInt (σ.1 47).toInt) (hpre_7 : 0 ≤ k0.toInt) (hpre_8 : k0.toInt < (σ.1 35).toInt) (hi14_4 : -1 ≤ y4.toInt) (hi14_5 : y4.toInt < (σ.1 35).toInt) (c5 : 0 ≤ y4.toInt) (ex9 : x9 = (6 : Int32) * y4) (tx9 : x9.toInt = 6 * y4.toInt) (hi26_0 : -1 ≤ y10.toInt) (hi26_1 : y10.toInt < 30) (hi26_2 : y11.toInt ≤ 2000) (hi26_3 : y11.toInt < 2000 → 0 ≤ y10.toInt) (hi26_4 : 6 * y4.toInt ≤ y13.toInt) (hi26_5 : y13.toInt ≤ 6 * y4.toInt + 6) (ex14 : x14 = (6 : Int32) * y4) (tx14 : x14.toInt = 6 * y4.toInt) (ex15 : x15 = (σ.2.1 40) y4.toNatClampNeg) (tx15 : x15.toInt = ((σ.2.1 40) y4.toNatClampNeg).toInt) (ex16 : x16 = x14 + x15) (tx16 : x16.toInt = x14.toInt + x15.toInt) (c17 : y13.toInt < x16.toInt) (hr22_0 : -6 ≤ r22.toInt) (hr22_1 : r22.toInt ≤ 2000) (c23 : ¬ r22.toInt = 1000) (c25 : r22.toInt < y11.toInt) (c29 : y11.toInt ≤ r22.toInt) (ex30 : x30 = y13 + (1 : Int32)) (tx30 : x30.toInt = y13.toInt + 1) : -1 ≤ y13.toInt ∧ y13.toInt < 30 ∧ y11.toInt ≤ 2000 ∧ (y11.toInt < 2000 → 0 ≤ y13.toInt) ∧ 6 * y4.toInt ≤ x30.toInt ∧ x30.toInt ≤ 6 * y4.toInt + 6 := by
  have q1 : (1 : Int32).toInt = 1 := by decide +kernel
  have q6 : (6 : Int32).toInt = 6 := by decide +kernel
  have cl_x15 := hpre_2 y4.toNatClampNeg (by rw [clampZ (by omega)]; omega)
  refine ⟨?_, ?_, ?_, ?_, ?_, ?_⟩ <;> first | assumption | omega | (subst_vars; omega) | trivial
-- meas@26 @26
theorem v_found_27 (σ : RS) (k0 : Int32) (y4 : Int32) (x9 : Int32) (y13 : Int32) (x14 : Int32) (x15 : Int32) (x16 : Int32) (x30 : Int32) (hpre_0 : 0 ≤ (σ.1 35).toInt) (hpre_1 : (σ.1 35).toInt ≤ 5) (hpre_2 : CLS (σ.1 35).toInt (σ.2.1 36) (σ.2.1 37) (σ.2.1 40)) (hpre_6 : VALS (σ.2.1 51) (σ.2.2.1 52) (σ.1 35).toInt (σ.1 47).toInt) (hpre_7 : 0 ≤ k0.toInt) (hpre_8 : k0.toInt < (σ.1 35).toInt) (hi14_4 : -1 ≤ y4.toInt) (hi14_5 : y4.toInt < (σ.1 35).toInt) (c5 : 0 ≤ y4.toInt) (ex9 : x9 = (6 : Int32) * y4) (tx9 : x9.toInt = 6 * y4.toInt) (hi26_4 : 6 * y4.toInt ≤ y13.toInt) (hi26_5 : y13.toInt ≤ 6 * y4.toInt + 6) (ex14 : x14 = (6 : Int32) * y4) (tx14 : x14.toInt = 6 * y4.toInt) (ex15 : x15 = (σ.2.1 40) y4.toNatClampNeg) (tx15 : x15.toInt = ((σ.2.1 40) y4.toNatClampNeg).toInt) (ex16 : x16 = x14 + x15) (tx16 : x16.toInt = x14.toInt + x15.toInt) (c17 : y13.toInt < x16.toInt) (ex30 : x30 = y13 + (1 : Int32)) (tx30 : x30.toInt = y13.toInt + 1) : (6 * y4.toInt + 6 - x30.toInt).toNat < (6 * y4.toInt + 6 - y13.toInt).toNat := by
  have q1 : (1 : Int32).toInt = 1 := by decide +kernel
  have q6 : (6 : Int32).toInt = 6 := by decide +kernel
  have cl_x15 := hpre_2 y4.toNatClampNeg (by rw [clampZ (by omega)]; omega)
  first | assumption | omega | (subst_vars; omega) | trivial
-- nw@118 @118
theorem v_found_28 (σ : RS) (k0 : Int32) (y4 : Int32) (x9 : Int32) (y13 : Int32) (x14 : Int32) (x15 : Int32) (x16 : Int32) (x31 : Int32) (hpre_0 : 0 ≤ (σ.1 35).toInt) (hpre_1 : (σ.1 35).toInt ≤ 5) (hpre_2 : CLS (σ.1 35).toInt (σ.2.1 36) (σ.2.1 37) (σ.2.1 40)) (hpre_6 : VALS (σ.2.1 51) (σ.2.2.1 52) (σ.1 35).toInt (σ.1 47).toInt) (hpre_7 : 0 ≤ k0.toInt) (hpre_8 : k0.toInt < (σ.1 35).toInt) (hi14_4 : -1 ≤ y4.toInt) (hi14_5 : y4.toInt < (σ.1 35).toInt) (c5 : 0 ≤ y4.toInt) (ex9 : x9 = (6 : Int32) * y4) (tx9 : x9.toInt = 6 * y4.toInt) (hi26_4 : 6 * y4.toInt ≤ y13.toInt) (hi26_5 : y13.toInt ≤ 6 * y4.toInt + 6) (ex14 : x14 = (6 : Int32) * y4) (tx14 : x14.toInt = 6 * y4.toInt) (ex15 : x15 = (σ.2.1 40) y4.toNatClampNeg) (tx15 : x15.toInt = ((σ.2.1 40) y4.toNatClampNeg).toInt) (ex16 : x16 = x14 + x15) (tx16 : x16.toInt = x14.toInt + x15.toInt) (c17 : y13.toInt < x16.toInt) (ex31 : x31 = y13 + (1 : Int32)) : x31.toInt = y13.toInt + 1 := by
  have q1 : (1 : Int32).toInt = 1 := by decide +kernel
  have q6 : (6 : Int32).toInt = 6 := by decide +kernel
  have cl_x15 := hpre_2 y4.toNatClampNeg (by rw [clampZ (by omega)]; omega)
  have z9 : (1 : Int32).toInt = 1 := by decide +kernel
  rw [ex31, z_add (by omega) (by omega)]; first | done | omega
-- inv@26 @26
theorem v_found_29 (σ : RS) (k0 : Int32) (y4 : Int32) (x9 : Int32) (y10 : Int32) (y11 : Int32) (y13 : Int32) (x14 : Int32) (x15 : Int32) (x16 : Int32) (r22 : Int32) (x31 : Int32) (hpre_0 : 0 ≤ (σ.1 35).toInt) (hpre_1 : (σ.1 35).toInt ≤ 5) (hpre_2 : CLS (σ.1 35).toInt (σ.2.1 36) (σ.2.1 37) (σ.2.1 40)) (hpre_6 : VALS (σ.2.1 51) (σ.2.2.1 52) (σ.1 35).toInt (σ.1 47).toInt) (hpre_7 : 0 ≤ k0.toInt) (hpre_8 : k0.toInt < (σ.1 35).toInt) (hi14_4 : -1 ≤ y4.toInt) (hi14_5 : y4.toInt < (σ.1 35).toInt) (c5 : 0 ≤ y4.toInt) (ex9 : x9 = (6 : Int32) * y4) (tx9 : x9.toInt = 6 * y4.toInt) (hi26_0 : -1 ≤ y10.toInt) (hi26_1 : y10.toInt < 30) (hi26_2 : y11.toInt ≤ 2000) (hi26_3 : y11.toInt < 2000 → 0 ≤ y10.toInt) (hi26_4 : 6 * y4.toInt ≤ y13.toInt) (hi26_5 : y13.toInt ≤ 6 * y4.toInt + 6) (ex14 : x14 = (6 : Int32) * y4) (tx14 : x14.toInt = 6 * y4.toInt) (ex15 : x15 = (σ.2.1 40) y4.toNatClampNeg) (tx15 : x15.toInt = ((σ.2.1 40) y4.toNatClampNeg).toInt) (ex16 : x16 = x14 + x15) (tx16 : x16.toInt = x14.toInt + x15.toInt) (c17 : y13.toInt < x16.toInt) (hr22_0 : -6 ≤ r22.toInt) (hr22_1 : r22.toInt ≤ 2000) (c23 : ¬ r22.toInt = 1000) (c25 : r22.toInt < y11.toInt) (c29 : r22.toInt < y11.toInt) (ex31 : x31 = y13 + (1 : Int32)) (tx31 : x31.toInt = y13.toInt + 1) : -1 ≤ y13.toInt ∧ y13.toInt < 30 ∧ r22.toInt ≤ 2000 ∧ (r22.toInt < 2000 → 0 ≤ y13.toInt) ∧ 6 * y4.toInt ≤ x31.toInt ∧ x31.toInt ≤ 6 * y4.toInt + 6 := by
  have q1 : (1 : Int32).toInt = 1 := by decide +kernel
  have q6 : (6 : Int32).toInt = 6 := by decide +kernel
  have cl_x15 := hpre_2 y4.toNatClampNeg (by rw [clampZ (by omega)]; omega)
  refine ⟨?_, ?_, ?_, ?_, ?_, ?_⟩ <;> first | assumption | omega | (subst_vars; omega) | trivial
-- meas@26 @26
theorem v_found_30 (σ : RS) (k0 : Int32) (y4 : Int32) (x9 : Int32) (y13 : Int32) (x14 : Int32) (x15 : Int32) (x16 : Int32) (x31 : Int32) (hpre_0 : 0 ≤ (σ.1 35).toInt) (hpre_1 : (σ.1 35).toInt ≤ 5) (hpre_2 : CLS (σ.1 35).toInt (σ.2.1 36) (σ.2.1 37) (σ.2.1 40)) (hpre_6 : VALS (σ.2.1 51) (σ.2.2.1 52) (σ.1 35).toInt (σ.1 47).toInt) (hpre_7 : 0 ≤ k0.toInt) (hpre_8 : k0.toInt < (σ.1 35).toInt) (hi14_4 : -1 ≤ y4.toInt) (hi14_5 : y4.toInt < (σ.1 35).toInt) (c5 : 0 ≤ y4.toInt) (ex9 : x9 = (6 : Int32) * y4) (tx9 : x9.toInt = 6 * y4.toInt) (hi26_4 : 6 * y4.toInt ≤ y13.toInt) (hi26_5 : y13.toInt ≤ 6 * y4.toInt + 6) (ex14 : x14 = (6 : Int32) * y4) (tx14 : x14.toInt = 6 * y4.toInt) (ex15 : x15 = (σ.2.1 40) y4.toNatClampNeg) (tx15 : x15.toInt = ((σ.2.1 40) y4.toNatClampNeg).toInt) (ex16 : x16 = x14 + x15) (tx16 : x16.toInt = x14.toInt + x15.toInt) (c17 : y13.toInt < x16.toInt) (ex31 : x31 = y13 + (1 : Int32)) (tx31 : x31.toInt = y13.toInt + 1) : (6 * y4.toInt + 6 - x31.toInt).toNat < (6 * y4.toInt + 6 - y13.toInt).toNat := by
  have q1 : (1 : Int32).toInt = 1 := by decide +kernel
  have q6 : (6 : Int32).toInt = 6 := by decide +kernel
  have cl_x15 := hpre_2 y4.toNatClampNeg (by rw [clampZ (by omega)]; omega)
  first | assumption | omega | (subst_vars; omega) | trivial
-- nw@118 @118
theorem v_found_31 (σ : RS) (k0 : Int32) (y4 : Int32) (x9 : Int32) (y13 : Int32) (x14 : Int32) (x15 : Int32) (x16 : Int32) (x35 : Int32) (hpre_0 : 0 ≤ (σ.1 35).toInt) (hpre_1 : (σ.1 35).toInt ≤ 5) (hpre_2 : CLS (σ.1 35).toInt (σ.2.1 36) (σ.2.1 37) (σ.2.1 40)) (hpre_6 : VALS (σ.2.1 51) (σ.2.2.1 52) (σ.1 35).toInt (σ.1 47).toInt) (hpre_7 : 0 ≤ k0.toInt) (hpre_8 : k0.toInt < (σ.1 35).toInt) (hi14_4 : -1 ≤ y4.toInt) (hi14_5 : y4.toInt < (σ.1 35).toInt) (c5 : 0 ≤ y4.toInt) (ex9 : x9 = (6 : Int32) * y4) (tx9 : x9.toInt = 6 * y4.toInt) (hi26_4 : 6 * y4.toInt ≤ y13.toInt) (hi26_5 : y13.toInt ≤ 6 * y4.toInt + 6) (ex14 : x14 = (6 : Int32) * y4) (tx14 : x14.toInt = 6 * y4.toInt) (ex15 : x15 = (σ.2.1 40) y4.toNatClampNeg) (tx15 : x15.toInt = ((σ.2.1 40) y4.toNatClampNeg).toInt) (ex16 : x16 = x14 + x15) (tx16 : x16.toInt = x14.toInt + x15.toInt) (c17 : y13.toInt < x16.toInt) (ex35 : x35 = y13 + (1 : Int32)) : x35.toInt = y13.toInt + 1 := by
  have q1 : (1 : Int32).toInt = 1 := by decide +kernel
  have q6 : (6 : Int32).toInt = 6 := by decide +kernel
  have cl_x15 := hpre_2 y4.toNatClampNeg (by rw [clampZ (by omega)]; omega)
  have z9 : (1 : Int32).toInt = 1 := by decide +kernel
  rw [ex35, z_add (by omega) (by omega)]; first | done | omega
-- inv@26 @26
theorem v_found_32 (σ : RS) (k0 : Int32) (y4 : Int32) (x9 : Int32) (y10 : Int32) (y11 : Int32) (y13 : Int32) (x14 : Int32) (x15 : Int32) (x16 : Int32) (r22 : Int32) (x35 : Int32) (hpre_0 : 0 ≤ (σ.1 35).toInt) (hpre_1 : (σ.1 35).toInt ≤ 5) (hpre_2 : CLS (σ.1 35).toInt (σ.2.1 36) (σ.2.1 37) (σ.2.1 40)) (hpre_6 : VALS (σ.2.1 51) (σ.2.2.1 52) (σ.1 35).toInt (σ.1 47).toInt) (hpre_7 : 0 ≤ k0.toInt) (hpre_8 : k0.toInt < (σ.1 35).toInt) (hi14_4 : -1 ≤ y4.toInt) (hi14_5 : y4.toInt < (σ.1 35).toInt) (c5 : 0 ≤ y4.toInt) (ex9 : x9 = (6 : Int32) * y4) (tx9 : x9.toInt = 6 * y4.toInt) (hi26_0 : -1 ≤ y10.toInt) (hi26_1 : y10.toInt < 30) (hi26_2 : y11.toInt ≤ 2000) (hi26_3 : y11.toInt < 2000 → 0 ≤ y10.toInt) (hi26_4 : 6 * y4.toInt ≤ y13.toInt) (hi26_5 : y13.toInt ≤ 6 * y4.toInt + 6) (ex14 : x14 = (6 : Int32) * y4) (tx14 : x14.toInt = 6 * y4.toInt) (ex15 : x15 = (σ.2.1 40) y4.toNatClampNeg) (tx15 : x15.toInt = ((σ.2.1 40) y4.toNatClampNeg).toInt) (ex16 : x16 = x14 + x15) (tx16 : x16.toInt = x14.toInt + x15.toInt) (c17 : y13.toInt < x16.toInt) (hr22_0 : -6 ≤ r22.toInt) (hr22_1 : r22.toInt ≤ 2000) (c23 : r22.toInt = 1000) (c33 : y11.toInt ≤ r22.toInt) (c34 : y11.toInt ≤ r22.toInt) (ex35 : x35 = y13 + (1 : Int32)) (tx35 : x35.toInt = y13.toInt + 1) : -1 ≤ y10.toInt ∧ y10.toInt < 30 ∧ y11.toInt ≤ 2000 ∧ (y11.toInt < 2000 → 0 ≤ y10.toInt) ∧ 6 * y4.toInt ≤ x35.toInt ∧ x35.toInt ≤ 6 * y4.toInt + 6 := by
  have q1 : (1 : Int32).toInt = 1 := by decide +kernel
  have q6 : (6 : Int32).toInt = 6 := by decide +kernel
  have cl_x15 := hpre_2 y4.toNatClampNeg (by rw [clampZ (by omega)]; omega)
  refine ⟨?_, ?_, ?_, ?_, ?_, ?_⟩ <;> first | assumption | omega | (subst_vars; omega) | trivial
-- meas@26 @26
theorem v_found_33 (σ : RS) (k0 : Int32) (y4 : Int32) (x9 : Int32) (y13 : Int32) (x14 : Int32) (x15 : Int32) (x16 : Int32) (x35 : Int32) (hpre_0 : 0 ≤ (σ.1 35).toInt) (hpre_1 : (σ.1 35).toInt ≤ 5) (hpre_2 : CLS (σ.1 35).toInt (σ.2.1 36) (σ.2.1 37) (σ.2.1 40)) (hpre_6 : VALS (σ.2.1 51) (σ.2.2.1 52) (σ.1 35).toInt (σ.1 47).toInt) (hpre_7 : 0 ≤ k0.toInt) (hpre_8 : k0.toInt < (σ.1 35).toInt) (hi14_4 : -1 ≤ y4.toInt) (hi14_5 : y4.toInt < (σ.1 35).toInt) (c5 : 0 ≤ y4.toInt) (ex9 : x9 = (6 : Int32) * y4) (tx9 : x9.toInt = 6 * y4.toInt) (hi26_4 : 6 * y4.toInt ≤ y13.toInt) (hi26_5 : y13.toInt ≤ 6 * y4.toInt + 6) (ex14 : x14 = (6 : Int32) * y4) (tx14 : x14.toInt = 6 * y4.toInt) (ex15 : x15 = (σ.2.1 40) y4.toNatClampNeg) (tx15 : x15.toInt = ((σ.2.1 40) y4.toNatClampNeg).toInt) (ex16 : x16 = x14 + x15) (tx16 : x16.toInt = x14.toInt + x15.toInt) (c17 : y13.toInt < x16.toInt) (ex35 : x35 = y13 + (1 : Int32)) (tx35 : x35.toInt = y13.toInt + 1) : (6 * y4.toInt + 6 - x35.toInt).toNat < (6 * y4.toInt + 6 - y13.toInt).toNat := by
  have q1 : (1 : Int32).toInt = 1 := by decide +kernel
  have q6 : (6 : Int32).toInt = 6 := by decide +kernel
  have cl_x15 := hpre_2 y4.toNatClampNeg (by rw [clampZ (by omega)]; omega)
  first | assumption | omega | (subst_vars; omega) | trivial
-- nw@118 @118
theorem v_found_34 (σ : RS) (k0 : Int32) (y4 : Int32) (x9 : Int32) (y13 : Int32) (x14 : Int32) (x15 : Int32) (x16 : Int32) (x36 : Int32) (hpre_0 : 0 ≤ (σ.1 35).toInt) (hpre_1 : (σ.1 35).toInt ≤ 5) (hpre_2 : CLS (σ.1 35).toInt (σ.2.1 36) (σ.2.1 37) (σ.2.1 40)) (hpre_6 : VALS (σ.2.1 51) (σ.2.2.1 52) (σ.1 35).toInt (σ.1 47).toInt) (hpre_7 : 0 ≤ k0.toInt) (hpre_8 : k0.toInt < (σ.1 35).toInt) (hi14_4 : -1 ≤ y4.toInt) (hi14_5 : y4.toInt < (σ.1 35).toInt) (c5 : 0 ≤ y4.toInt) (ex9 : x9 = (6 : Int32) * y4) (tx9 : x9.toInt = 6 * y4.toInt) (hi26_4 : 6 * y4.toInt ≤ y13.toInt) (hi26_5 : y13.toInt ≤ 6 * y4.toInt + 6) (ex14 : x14 = (6 : Int32) * y4) (tx14 : x14.toInt = 6 * y4.toInt) (ex15 : x15 = (σ.2.1 40) y4.toNatClampNeg) (tx15 : x15.toInt = ((σ.2.1 40) y4.toNatClampNeg).toInt) (ex16 : x16 = x14 + x15) (tx16 : x16.toInt = x14.toInt + x15.toInt) (c17 : y13.toInt < x16.toInt) (ex36 : x36 = y13 + (1 : Int32)) : x36.toInt = y13.toInt + 1 := by
  have q1 : (1 : Int32).toInt = 1 := by decide +kernel
  have q6 : (6 : Int32).toInt = 6 := by decide +kernel
  have cl_x15 := hpre_2 y4.toNatClampNeg (by rw [clampZ (by omega)]; omega)
  have z9 : (1 : Int32).toInt = 1 := by decide +kernel
  rw [ex36, z_add (by omega) (by omega)]; first | done | omega
-- inv@26 @26
theorem v_found_35 (σ : RS) (k0 : Int32) (y4 : Int32) (x9 : Int32) (y10 : Int32) (y11 : Int32) (y13 : Int32) (x14 : Int32) (x15 : Int32) (x16 : Int32) (r22 : Int32) (x36 : Int32) (hpre_0 : 0 ≤ (σ.1 35).toInt) (hpre_1 : (σ.1 35).toInt ≤ 5) (hpre_2 : CLS (σ.1 35).toInt (σ.2.1 36) (σ.2.1 37) (σ.2.1 40)) (hpre_6 : VALS (σ.2.1 51) (σ.2.2.1 52) (σ.1 35).toInt (σ.1 47).toInt) (hpre_7 : 0 ≤ k0.toInt) (hpre_8 : k0.toInt < (σ.1 35).toInt) (hi14_4 : -1 ≤ y4.toInt) (hi14_5 : y4.toInt < (σ.1 35).toInt) (c5 : 0 ≤ y4.toInt) (ex9 : x9 = (6 : Int32) * y4) (tx9 : x9.toInt = 6 * y4.toInt) (hi26_0 : -1 ≤ y10.toInt) (hi26_1 : y10.toInt < 30) (hi26_2 : y11.toInt ≤ 2000) (hi26_3 : y11.toInt < 2000 → 0 ≤ y10.toInt) (hi26_4 : 6 * y4.toInt ≤ y13.toInt) (hi26_5 : y13.toInt ≤ 6 * y4.toInt + 6) (ex14 : x14 = (6 : Int32) * y4) (tx14 : x14.toInt = 6 * y4.toInt) (ex15 : x15 = (σ.2.1 40) y4.toNatClampNeg) (tx15 : x15.toInt = ((σ.2.1 40) y4.toNatClampNeg).toInt) (ex16 : x16 = x14 + x15) (tx16 : x16.toInt = x14.toInt + x15.toInt) (c17 : y13.toInt < x16.toInt) (hr22_0 : -6 ≤ r22.toInt) (hr22_1 : r22.toInt ≤ 2000) (c23 : r22.toInt = 1000) (c33 : y11.toInt ≤ r22.toInt) (c34 : r22.toInt < y11.toInt) (ex36 : x36 = y13 + (1 : Int32)) (tx36 : x36.toInt = y13.toInt + 1) : -1 ≤ y10.toInt ∧ y10.toInt < 30 ∧ r22.toInt ≤ 2000 ∧ (r22.toInt < 2000 → 0 ≤ y10.toInt) ∧ 6 * y4.toInt ≤ x36.toInt ∧ x36.toInt ≤ 6 * y4.toInt + 6 := by
  have q1 : (1 : Int32).toInt = 1 := by decide +kernel
  have q6 : (6 : Int32).toInt = 6 := by decide +kernel
  have cl_x15 := hpre_2 y4.toNatClampNeg (by rw [clampZ (by omega)]; omega)
  refine ⟨?_, ?_, ?_, ?_, ?_, ?_⟩ <;> first | assumption | omega | (subst_vars; omega) | trivial
-- meas@26 @26
theorem v_found_36 (σ : RS) (k0 : Int32) (y4 : Int32) (x9 : Int32) (y13 : Int32) (x14 : Int32) (x15 : Int32) (x16 : Int32) (x36 : Int32) (hpre_0 : 0 ≤ (σ.1 35).toInt) (hpre_1 : (σ.1 35).toInt ≤ 5) (hpre_2 : CLS (σ.1 35).toInt (σ.2.1 36) (σ.2.1 37) (σ.2.1 40)) (hpre_6 : VALS (σ.2.1 51) (σ.2.2.1 52) (σ.1 35).toInt (σ.1 47).toInt) (hpre_7 : 0 ≤ k0.toInt) (hpre_8 : k0.toInt < (σ.1 35).toInt) (hi14_4 : -1 ≤ y4.toInt) (hi14_5 : y4.toInt < (σ.1 35).toInt) (c5 : 0 ≤ y4.toInt) (ex9 : x9 = (6 : Int32) * y4) (tx9 : x9.toInt = 6 * y4.toInt) (hi26_4 : 6 * y4.toInt ≤ y13.toInt) (hi26_5 : y13.toInt ≤ 6 * y4.toInt + 6) (ex14 : x14 = (6 : Int32) * y4) (tx14 : x14.toInt = 6 * y4.toInt) (ex15 : x15 = (σ.2.1 40) y4.toNatClampNeg) (tx15 : x15.toInt = ((σ.2.1 40) y4.toNatClampNeg).toInt) (ex16 : x16 = x14 + x15) (tx16 : x16.toInt = x14.toInt + x15.toInt) (c17 : y13.toInt < x16.toInt) (ex36 : x36 = y13 + (1 : Int32)) (tx36 : x36.toInt = y13.toInt + 1) : (6 * y4.toInt + 6 - x36.toInt).toNat < (6 * y4.toInt + 6 - y13.toInt).toNat := by
  have q1 : (1 : Int32).toInt = 1 := by decide +kernel
  have q6 : (6 : Int32).toInt = 6 := by decide +kernel
  have cl_x15 := hpre_2 y4.toNatClampNeg (by rw [clampZ (by omega)]; omega)
  first | assumption | omega | (subst_vars; omega) | trivial
-- nw@118 @118
theorem v_found_37 (σ : RS) (k0 : Int32) (y4 : Int32) (x9 : Int32) (y13 : Int32) (x14 : Int32) (x15 : Int32) (x16 : Int32) (x38 : Int32) (hpre_0 : 0 ≤ (σ.1 35).toInt) (hpre_1 : (σ.1 35).toInt ≤ 5) (hpre_2 : CLS (σ.1 35).toInt (σ.2.1 36) (σ.2.1 37) (σ.2.1 40)) (hpre_6 : VALS (σ.2.1 51) (σ.2.2.1 52) (σ.1 35).toInt (σ.1 47).toInt) (hpre_7 : 0 ≤ k0.toInt) (hpre_8 : k0.toInt < (σ.1 35).toInt) (hi14_4 : -1 ≤ y4.toInt) (hi14_5 : y4.toInt < (σ.1 35).toInt) (c5 : 0 ≤ y4.toInt) (ex9 : x9 = (6 : Int32) * y4) (tx9 : x9.toInt = 6 * y4.toInt) (hi26_4 : 6 * y4.toInt ≤ y13.toInt) (hi26_5 : y13.toInt ≤ 6 * y4.toInt + 6) (ex14 : x14 = (6 : Int32) * y4) (tx14 : x14.toInt = 6 * y4.toInt) (ex15 : x15 = (σ.2.1 40) y4.toNatClampNeg) (tx15 : x15.toInt = ((σ.2.1 40) y4.toNatClampNeg).toInt) (ex16 : x16 = x14 + x15) (tx16 : x16.toInt = x14.toInt + x15.toInt) (c17 : y13.toInt < x16.toInt) (ex38 : x38 = y13 + (1 : Int32)) : x38.toInt = y13.toInt + 1 := by
  have q1 : (1 : Int32).toInt = 1 := by decide +kernel
  have q6 : (6 : Int32).toInt = 6 := by decide +kernel
  have cl_x15 := hpre_2 y4.toNatClampNeg (by rw [clampZ (by omega)]; omega)
  have z9 : (1 : Int32).toInt = 1 := by decide +kernel
  rw [ex38, z_add (by omega) (by omega)]; first | done | omega
-- inv@26 @26
theorem v_found_38 (σ : RS) (k0 : Int32) (y4 : Int32) (x9 : Int32) (y10 : Int32) (y11 : Int32) (y13 : Int32) (x14 : Int32) (x15 : Int32) (x16 : Int32) (r22 : Int32) (x38 : Int32) (hpre_0 : 0 ≤ (σ.1 35).toInt) (hpre_1 : (σ.1 35).toInt ≤ 5) (hpre_2 : CLS (σ.1 35).toInt (σ.2.1 36) (σ.2.1 37) (σ.2.1 40)) (hpre_6 : VALS (σ.2.1 51) (σ.2.2.1 52) (σ.1 35).toInt (σ.1 47).toInt) (hpre_7 : 0 ≤ k0.toInt) (hpre_8 : k0.toInt < (σ.1 35).toInt) (hi14_4 : -1 ≤ y4.toInt) (hi14_5 : y4.toInt < (σ.1 35).toInt) (c5 : 0 ≤ y4.toInt) (ex9 : x9 = (6 : Int32) * y4) (tx9 : x9.toInt = 6 * y4.toInt) (hi26_0 : -1 ≤ y10.toInt) (hi26_1 : y10.toInt < 30) (hi26_2 : y11.toInt ≤ 2000) (hi26_3 : y11.toInt < 2000 → 0 ≤ y10.toInt) (hi26_4 : 6 * y4.toInt ≤ y13.toInt) (hi26_5 : y13.toInt ≤ 6 * y4.toInt + 6) (ex14 : x14 = (6 : Int32) * y4) (tx14 : x14.toInt = 6 * y4.toInt) (ex15 : x15 = (σ.2.1 40) y4.toNatClampNeg) (tx15 : x15.toInt = ((σ.2.1 40) y4.toNatClampNeg).toInt) (ex16 : x16 = x14 + x15) (tx16 : x16.toInt = x14.toInt + x15.toInt) (c17 : y13.toInt < x16.toInt) (hr22_0 : -6 ≤ r22.toInt) (hr22_1 : r22.toInt ≤ 2000) (c23 : r22.toInt = 1000) (c33 : r22.toInt < y11.toInt) (c37 : y11.toInt ≤ r22.toInt) (ex38 : x38 = y13 + (1 : Int32)) (tx38 : x38.toInt = y13.toInt + 1) : -1 ≤ y13.toInt ∧ y13.toInt < 30 ∧ y11.toInt ≤ 2000 ∧ (y11.toInt < 2000 → 0 ≤ y13.toInt) ∧ 6 * y4.toInt ≤ x38.toInt ∧ x38.toInt ≤ 6 * y4.toInt + 6 := by
  have q1 : (1 : Int32).toInt = 1 := by decide +kernel
  have q6 : (6 : Int32).toInt = 6 := by decide +kernel
  have cl_x15 := hpre_2 y4.toNatClampNeg (by rw [clampZ (by omega)]; omega)
  refine ⟨?_, ?_, ?_, ?_, ?_, ?_⟩ <;> first | assumption | omega | (subst_vars; omega) | trivial
-- meas@26 @26
theorem v_found_39 (σ : RS) (k0 : Int32) (y4 : Int32) (x9 : Int32) (y13 : Int32) (x14 : Int32) (x15 : Int32) (x16 : Int32) (x38 : Int32) (hpre_0 : 0 ≤ (σ.1 35).toInt) (hpre_1 : (σ.1 35).toInt ≤ 5) (hpre_2 : CLS (σ.1 35).toInt (σ.2.1 36) (σ.2.1 37) (σ.2.1 40)) (hpre_6 : VALS (σ.2.1 51) (σ.2.2.1 52) (σ.1 35).toInt (σ.1 47).toInt) (hpre_7 : 0 ≤ k0.toInt) (hpre_8 : k0.toInt < (σ.1 35).toInt) (hi14_4 : -1 ≤ y4.toInt) (hi14_5 : y4.toInt < (σ.1 35).toInt) (c5 : 0 ≤ y4.toInt) (ex9 : x9 = (6 : Int32) * y4) (tx9 : x9.toInt = 6 * y4.toInt) (hi26_4 : 6 * y4.toInt ≤ y13.toInt) (hi26_5 : y13.toInt ≤ 6 * y4.toInt + 6) (ex14 : x14 = (6 : Int32) * y4) (tx14 : x14.toInt = 6 * y4.toInt) (ex15 : x15 = (σ.2.1 40) y4.toNatClampNeg) (tx15 : x15.toInt = ((σ.2.1 40) y4.toNatClampNeg).toInt) (ex16 : x16 = x14 + x15) (tx16 : x16.toInt = x14.toInt + x15.toInt) (c17 : y13.toInt < x16.toInt) (ex38 : x38 = y13 + (1 : Int32)) (tx38 : x38.toInt = y13.toInt + 1) : (6 * y4.toInt + 6 - x38.toInt).toNat < (6 * y4.toInt + 6 - y13.toInt).toNat := by
  have q1 : (1 : Int32).toInt = 1 := by decide +kernel
  have q6 : (6 : Int32).toInt = 6 := by decide +kernel
  have cl_x15 := hpre_2 y4.toNatClampNeg (by rw [clampZ (by omega)]; omega)
  first | assumption | omega | (subst_vars; omega) | trivial
-- nw@118 @118
theorem v_found_40 (σ : RS) (k0 : Int32) (y4 : Int32) (x9 : Int32) (y13 : Int32) (x14 : Int32) (x15 : Int32) (x16 : Int32) (x39 : Int32) (hpre_0 : 0 ≤ (σ.1 35).toInt) (hpre_1 : (σ.1 35).toInt ≤ 5) (hpre_2 : CLS (σ.1 35).toInt (σ.2.1 36) (σ.2.1 37) (σ.2.1 40)) (hpre_6 : VALS (σ.2.1 51) (σ.2.2.1 52) (σ.1 35).toInt (σ.1 47).toInt) (hpre_7 : 0 ≤ k0.toInt) (hpre_8 : k0.toInt < (σ.1 35).toInt) (hi14_4 : -1 ≤ y4.toInt) (hi14_5 : y4.toInt < (σ.1 35).toInt) (c5 : 0 ≤ y4.toInt) (ex9 : x9 = (6 : Int32) * y4) (tx9 : x9.toInt = 6 * y4.toInt) (hi26_4 : 6 * y4.toInt ≤ y13.toInt) (hi26_5 : y13.toInt ≤ 6 * y4.toInt + 6) (ex14 : x14 = (6 : Int32) * y4) (tx14 : x14.toInt = 6 * y4.toInt) (ex15 : x15 = (σ.2.1 40) y4.toNatClampNeg) (tx15 : x15.toInt = ((σ.2.1 40) y4.toNatClampNeg).toInt) (ex16 : x16 = x14 + x15) (tx16 : x16.toInt = x14.toInt + x15.toInt) (c17 : y13.toInt < x16.toInt) (ex39 : x39 = y13 + (1 : Int32)) : x39.toInt = y13.toInt + 1 := by
  have q1 : (1 : Int32).toInt = 1 := by decide +kernel
  have q6 : (6 : Int32).toInt = 6 := by decide +kernel
  have cl_x15 := hpre_2 y4.toNatClampNeg (by rw [clampZ (by omega)]; omega)
  have z9 : (1 : Int32).toInt = 1 := by decide +kernel
  rw [ex39, z_add (by omega) (by omega)]; first | done | omega
-- inv@26 @26
theorem v_found_41 (σ : RS) (k0 : Int32) (y4 : Int32) (x9 : Int32) (y10 : Int32) (y11 : Int32) (y13 : Int32) (x14 : Int32) (x15 : Int32) (x16 : Int32) (r22 : Int32) (x39 : Int32) (hpre_0 : 0 ≤ (σ.1 35).toInt) (hpre_1 : (σ.1 35).toInt ≤ 5) (hpre_2 : CLS (σ.1 35).toInt (σ.2.1 36) (σ.2.1 37) (σ.2.1 40)) (hpre_6 : VALS (σ.2.1 51) (σ.2.2.1 52) (σ.1 35).toInt (σ.1 47).toInt) (hpre_7 : 0 ≤ k0.toInt) (hpre_8 : k0.toInt < (σ.1 35).toInt) (hi14_4 : -1 ≤ y4.toInt) (hi14_5 : y4.toInt < (σ.1 35).toInt) (c5 : 0 ≤ y4.toInt) (ex9 : x9 = (6 : Int32) * y4) (tx9 : x9.toInt = 6 * y4.toInt) (hi26_0 : -1 ≤ y10.toInt) (hi26_1 : y10.toInt < 30) (hi26_2 : y11.toInt ≤ 2000) (hi26_3 : y11.toInt < 2000 → 0 ≤ y10.toInt) (hi26_4 : 6 * y4.toInt ≤ y13.toInt) (hi26_5 : y13.toInt ≤ 6 * y4.toInt + 6) (ex14 : x14 = (6 : Int32) * y4) (tx14 : x14.toInt = 6 * y4.toInt) (ex15 : x15 = (σ.2.1 40) y4.toNatClampNeg) (tx15 : x15.toInt = ((σ.2.1 40) y4.toNatClampNeg).toInt) (ex16 : x16 = x14 + x15) (tx16 : x16.toInt = x14.toInt + x15.toInt) (c17 : y13.toInt < x16.toInt) (hr22_0 : -6 ≤ r22.toInt) (hr22_1 : r22.toInt ≤ 2000) (c23 : r22.toInt = 1000) (c33 : r22.toInt < y11.toInt) (c37 : r22.toInt < y11.toInt) (ex39 : x39 = y13 + (1 : Int32)) (tx39 : x39.toInt = y13.toInt + 1) : -1 ≤ y13.toInt ∧ y13.toInt < 30 ∧ r22.toInt ≤ 2000 ∧ (r22.toInt < 2000 → 0 ≤ y13.toInt) ∧ 6 * y4.toInt ≤ x39.toInt ∧ x39.toInt ≤ 6 * y4.toInt + 6 := by
  have q1 : (1 : Int32).toInt = 1 := by decide +kernel
  have q6 : (6 : Int32).toInt = 6 := by decide +kernel
  have cl_x15 := hpre_2 y4.toNatClampNeg (by rw [clampZ (by omega)]; omega)
  refine ⟨?_, ?_, ?_, ?_, ?_, ?_⟩ <;> first | assumption | omega | (subst_vars; omega) | trivial
-- meas@26 @26
theorem v_found_42 (σ : RS) (k0 : Int32) (y4 : Int32) (x9 : Int32) (y13 : Int32) (x14 : Int32) (x15 : Int32) (x16 : Int32) (x39 : Int32) (hpre_0 : 0 ≤ (σ.1 35).toInt) (hpre_1 : (σ.1 35).toInt ≤ 5) (hpre_2 : CLS (σ.1 35).toInt (σ.2.1 36) (σ.2.1 37) (σ.2.1 40)) (hpre_6 : VALS (σ.2.1 51) (σ.2.2.1 52) (σ.1 35).toInt (σ.1 47).toInt) (hpre_7 : 0 ≤ k0.toInt) (hpre_8 : k0.toInt < (σ.1 35).toInt) (hi14_4 : -1 ≤ y4.toInt) (hi14_5 : y4.toInt < (σ.1 35).toInt) (c5 : 0 ≤ y4.toInt) (ex9 : x9 = (6 : Int32) * y4) (tx9 : x9.toInt = 6 * y4.toInt) (hi26_4 : 6 * y4.toInt ≤ y13.toInt) (hi26_5 : y13.toInt ≤ 6 * y4.toInt + 6) (ex14 : x14 = (6 : Int32) * y4) (tx14 : x14.toInt = 6 * y4.toInt) (ex15 : x15 = (σ.2.1 40) y4.toNatClampNeg) (tx15 : x15.toInt = ((σ.2.1 40) y4.toNatClampNeg).toInt) (ex16 : x16 = x14 + x15) (tx16 : x16.toInt = x14.toInt + x15.toInt) (c17 : y13.toInt < x16.toInt) (ex39 : x39 = y13 + (1 : Int32)) (tx39 : x39.toInt = y13.toInt + 1) : (6 * y4.toInt + 6 - x39.toInt).toNat < (6 * y4.toInt + 6 - y13.toInt).toNat := by
  have q1 : (1 : Int32).toInt = 1 := by decide +kernel
  have q6 : (6 : Int32).toInt = 6 := by decide +kernel
  have cl_x15 := hpre_2 y4.toNatClampNeg (by rw [clampZ (by omega)]; omega)
  first | assumption | omega | (subst_vars; omega) | trivial
set_option maxHeartbeats 4000000 in
set_option maxRecDepth 100000 in
theorem L_found_26_2 {p : Program} {e : Env} {s : State} {m : MethodId} {below : List Frame} {meth : Method} {c : Code} (l : Launch) (D : va_G) (cy : Nat → ClassId) (sz0 : Nat) (sa : Nat → Nat) (ad : Nat → Nat) (sz : Nat) (σ : RS) (k0 : Int32) (k1 : Int32) (k2 : Int32) (k3 : Int32) (y1 : Int32) (y2 : Int32) (y3 : Int32) (y4 : Int32) (x9 : Int32) (C : RC p s m #[.ref (ad 0), .int k0, .int k1, .int k2, .int k3] meth c cX12_found 11 (some .int) D cy sz0 sa ad (AR cy ad sz)) (hpre_0 : 0 ≤ (σ.1 35).toInt) (hpre_1 : (σ.1 35).toInt ≤ 5) (hpre_2 : CLS (σ.1 35).toInt (σ.2.1 36) (σ.2.1 37) (σ.2.1 40)) (hpre_3 : BLS (σ.2.1 46)) (hpre_4 : TYS (σ.2.1 42)) (hpre_5 : TYS (σ.2.1 43)) (hpre_6 : VALS (σ.2.1 51) (σ.2.2.1 52) (σ.1 35).toInt (σ.1 47).toInt) (hpre_7 : 0 ≤ k0.toInt) (hpre_8 : k0.toInt < (σ.1 35).toInt) (hpre_9 : 0 ≤ k2.toInt) (hpre_10 : k2.toInt ≤ 60) (hpre_11 : 0 ≤ k3.toInt) (hpre_12 : k3.toInt ≤ 3) (hpre_13 : (σ.1 56).toInt = 0) (hi14_0 : -1 ≤ y1.toInt) (hi14_1 : y1.toInt < 30) (hi14_2 : y2.toInt ≤ 2000) (hi14_3 : y2.toInt < 2000 → 0 ≤ y1.toInt) (hi14_4 : -1 ≤ y4.toInt) (hi14_5 : y4.toInt < (σ.1 35).toInt) (c5 : 0 ≤ y4.toInt) (ex9 : x9 = (6 : Int32) * y4) (tx9 : x9.toInt = 6 * y4.toInt) (n14 : Nat) (hn14 : (y4.toInt + 1).toNat < n14 + 1) (ih14 : ∀ (y1 : Int32) (y2 : Int32) (y3 : Int32) (y4 : Int32) (H : Heap) (locs : List Loc) (ls : Array Slot), (y4.toInt + 1).toNat < n14 → (-1 ≤ y1.toInt ∧ y1.toInt < 30 ∧ y2.toInt ≤ 2000 ∧ (y2.toInt < 2000 → 0 ≤ y1.toInt) ∧ -1 ≤ y4.toInt ∧ y4.toInt < (σ.1 35).toInt) → RP D cy ad σ H → va_S (AR cy ad sz) s.heap H locs → lv_has ls 11 [(8, .int y4), (7, .int y3), (6, .int y2), (5, .int y1), (0, .ref (ad 0)), (1, .int k0), (2, .int k1), (3, .int k2), (4, .int k3)] → W p l e (headSpec (Cond.code yX12_found cX12_found 11 (some .int) :: GWm) ({ frames := 3, cells := 0, slots := 0, locals := 76 })).room s m #[.ref (ad 0), .int k0, .int k1, .int k2, .int k3] below meth c H locs 0 0 (MQ below (va_Qi (fun (r : Int32) (u : Int32) => 0 ≤ u.toInt ∧ u.toInt ≤ 11 ∧ -1 ≤ r.toInt ∧ r.toInt < 30 ∧ (u.toInt = 0 → 0 ≤ r.toInt)) (fun (u : Int32) (t : State) => RP D cy ad (rS σ 56 u) t.heap) (AR cy ad sz)) #[.ref (ad 0), .int k0, .int k1, .int k2, .int k3] s 0 0 (AR cy ad sz)) (F0 m 14 ls [])) : ∀ (n : Nat) (y10 : Int32) (y11 : Int32) (y12 : Int32) (y13 : Int32) (H : Heap) (locs : List Loc) (ls : Array Slot), (6 * y4.toInt + 6 - y13.toInt).toNat < n → (-1 ≤ y10.toInt ∧ y10.toInt < 30 ∧ y11.toInt ≤ 2000 ∧ (y11.toInt < 2000 → 0 ≤ y10.toInt) ∧ 6 * y4.toInt ≤ y13.toInt ∧ y13.toInt ≤ 6 * y4.toInt + 6) → RP D cy ad σ H → va_S (AR cy ad sz) s.heap H locs → lv_has ls 11 [(9, .int y13), (8, .int y4), (7, .int y12), (6, .int y11), (5, .int y10), (0, .ref (ad 0)), (1, .int k0), (2, .int k1), (3, .int k2), (4, .int k3)] → W p l e (headSpec (Cond.code yX12_found cX12_found 11 (some .int) :: GWm) ({ frames := 3, cells := 0, slots := 0, locals := 76 })).room s m #[.ref (ad 0), .int k0, .int k1, .int k2, .int k3] below meth c H locs 0 0 (MQ below (va_Qi (fun (r : Int32) (u : Int32) => 0 ≤ u.toInt ∧ u.toInt ≤ 11 ∧ -1 ≤ r.toInt ∧ r.toInt < 30 ∧ (u.toInt = 0 → 0 ≤ r.toInt)) (fun (u : Int32) (t : State) => RP D cy ad (rS σ 56 u) t.heap) (AR cy ad sz)) #[.ref (ad 0), .int k0, .int k1, .int k2, .int k3] s 0 0 (AR cy ad sz)) (F0 m 26 ls []) := by
  have hx := C.1
  have hb := C.2.1
  have hown := C.2.2.2.2.1
  have hw := C.2.2.2.2.2.1
  intro n
  induction n with
  | zero => intro y10 y11 y12 y13 H locs ls hn; exact absurd hn (Nat.not_lt_zero _)
  | succ n26 ih26 =>
    intro y10 y11 y12 y13 H locs ls hn26 hi26 hP hS hl
    obtain ⟨hi26_0, hi26_1, hi26_2, hi26_3, hi26_4, hi26_5⟩ := hi26
    refine lv_iload hx hb dX12_found_26 (lv_at hl 0 rfl) ?_
    refine lv_bipush (v := 6) hx hb dX12_found_28 (by decide +kernel) ?_
    refine lv_iload hx hb dX12_found_30 (lv_at hl 1 rfl) ?_
    refine lv_imul hx hb dX12_found_32 ?_
    refine lv_topi (fun x14 ex14 => ?_)
    have tx14 : x14.toInt = 6 * y4.toInt := (v_found_8 σ k0 y4 x9 y13 x14 hpre_0 hpre_1 hpre_2 hpre_6 hpre_7 hpre_8 hi14_4 hi14_5 c5 ex9 tx9 hi26_4 hi26_5 ex14)
    refine lv_aload_n hx hb dX12_found_33 rfl (lv_at hl 5 rfl) ?_
    refine rg_40 C hP wm_194 dX12_found_34 ?_
    refine lv_iload hx hb dX12_found_37 (lv_at hl 1 rfl) ?_
    refine ra_40 (f := (σ.2.1 40)) C hP rfl (v_found_9 σ k0 y4 x9 y13 x14 hpre_0 hpre_1 hpre_2 hpre_6 hpre_7 hpre_8 hi14_4 hi14_5 c5 ex9 tx9 hi26_4 hi26_5 ex14 tx14) dX12_found_39 (fun x15 ex15 => ?_)
    have tx15 : x15.toInt = ((σ.2.1 40) y4.toNatClampNeg).toInt := by rw [ex15]
    refine lv_iadd hx hb dX12_found_40 ?_
    refine lv_topi (fun x16 ex16 => ?_)
    have tx16 : x16.toInt = x14.toInt + x15.toInt := (v_found_10 σ k0 y4 x9 y13 x14 x15 x16 hpre_0 hpre_1 hpre_2 hpre_6 hpre_7 hpre_8 hi14_4 hi14_5 c5 ex9 tx9 hi26_4 hi26_5 ex14 tx14 ex15 tx15 ex16)
    refine lv_icmp_ge (tgt := 124) hx hb dX12_found_41 (by decide) (fun c17 => ?_) (fun c17 => ?_)
    · have c17 : x16.toInt ≤ y13.toInt := by have h := z_le c17; exact h
      refine lv_aload_n hx hb dX12_found_124 rfl (lv_at hl 5 rfl) ?_
      refine rg_36 C hP wm_182 dX12_found_125 ?_
      refine lv_iload hx hb dX12_found_128 (lv_at hl 1 rfl) ?_
      refine ra_36 (f := (σ.2.1 36)) C hP rfl (v_found_11 σ k0 y4 x9 y13 x14 x15 x16 hpre_0 hpre_1 hpre_2 hpre_6 hpre_7 hpre_8 hi14_4 hi14_5 c5 ex9 tx9 hi26_4 hi26_5 ex14 tx14 ex15 tx15 ex16 tx16 c17) dX12_found_130 (fun x18 ex18 => ?_)
      have tx18 : x18.toInt = ((σ.2.1 36) y4.toNatClampNeg).toInt := by rw [ex18]
      refine lv_istore (lv' := [(8, .int x18), (9, .int y13), (7, .int y12), (6, .int y11), (5, .int y10), (0, .ref (ad 0)), (1, .int k0), (2, .int k1), (3, .int k2), (4, .int k3)]) hx hb dX12_found_131 hl (by decide) rfl (fun ls hl => ?_)
      refine lv_goto (tgt := 14) hx hb dX12_found_133 (by decide) ?_
      exact ih14 y10 y11 y12 x18 _ _ _ (Nat.lt_of_lt_of_le (v_found_13 σ k0 y4 x9 y13 x14 x15 x16 x18 hpre_0 hpre_1 hpre_2 hpre_6 hpre_7 hpre_8 hi14_4 hi14_5 c5 ex9 tx9 hi26_4 hi26_5 ex14 tx14 ex15 tx15 ex16 tx16 c17 ex18 tx18) (Nat.le_of_lt_succ hn14)) (v_found_12 σ k0 y4 x9 y10 y11 y13 x14 x15 x16 x18 hpre_0 hpre_1 hpre_2 hpre_6 hpre_7 hpre_8 hi14_4 hi14_5 c5 ex9 tx9 hi26_0 hi26_1 hi26_2 hi26_3 hi26_4 hi26_5 ex14 tx14 ex15 tx15 ex16 tx16 c17 ex18 tx18) hP hS (lv_sub hl [0, 2, 3, 4, 5, 6, 7, 8, 9] rfl)
    · have c17 : y13.toInt < x16.toInt := by have h := z_nle c17; exact h
      refine lv_aload_n hx hb dX12_found_44 rfl (lv_at hl 5 rfl) ?_
      refine lv_iload_n hx hb dX12_found_45 rfl (lv_at hl 6 rfl) ?_
      refine lv_iload hx hb dX12_found_46 (lv_at hl 0 rfl) ?_
      refine lv_iload_n hx hb dX12_found_48 rfl (lv_at hl 7 rfl) ?_
      refine lv_iload hx hb dX12_found_49 (lv_at hl 9 rfl) ?_
      refine r_callVi (As := [.int k0, .int y13, .int k1, .int k3]) (rest := []) C hP hS hl.1 ⟨Nat.zero_le _, Nat.zero_le _⟩ (M_stands l D cy sz0 sa ad σ H.size k0 y13 k1 k3 (v_found_14 σ k0 y4 x9 y13 x14 x15 x16 hpre_0 hpre_1 hpre_2 hpre_6 hpre_7 hpre_8 hi14_4 hi14_5 c5 ex9 tx9 hi26_4 hi26_5 ex14 tx14 ex15 tx15 ex16 tx16 c17)) (n := 4) ⟨wm_327, wm_318, by decide +kernel⟩ ⟨wm_328, wm_329, wm_10⟩ rfl rfl (lv_room (Nat.le_of_ble_eq_true rfl)) ⟨Nat.le_of_ble_eq_true rfl, Nat.le_of_ble_eq_true rfl⟩ dX12_found_51 (fun r19 u H locs hr19 hP hS => ?_)
      have hr19 : True := hr19
      refine lv_if_eq (tgt := 118) hx hb dX12_found_54 (by decide) (fun c20 => ?_) (fun c20 => ?_)
      · have c20 : r19.toInt = 0 := by have h := z_eq c20; rw [show (0 : Int32).toInt = 0 from by decide +kernel] at h; exact h
        obtain ⟨x21, ex21⟩ : ∃ y : Int32, y = y13 + (1 : Int32) := ⟨_, rfl⟩
        have tx21 : x21.toInt = y13.toInt + 1 := (v_found_15 σ k0 y4 x9 y13 x14 x15 x16 x21 hpre_0 hpre_1 hpre_2 hpre_6 hpre_7 hpre_8 hi14_4 hi14_5 c5 ex9 tx9 hi26_4 hi26_5 ex14 tx14 ex15 tx15 ex16 tx16 c17 ex21)
        refine lv_iinc (v := x21) (lv' := [(9, .int x21), (8, .int y4), (7, .int y12), (6, .int y11), (5, .int y10), (0, .ref (ad 0)), (1, .int k0), (2, .int k1), (3, .int k2), (4, .int k3)]) hx hb dX12_found_118 hl (k := 0) rfl (by rw [ex21]; rfl) (by decide) rfl (fun ls hl => ?_)
        refine lv_goto (tgt := 26) hx hb dX12_found_121 (by decide) ?_
        exact ih26 y10 y11 y12 x21 _ _ _ (Nat.lt_of_lt_of_le (v_found_17 σ k0 y4 x9 y13 x14 x15 x16 x21 hpre_0 hpre_1 hpre_2 hpre_6 hpre_7 hpre_8 hi14_4 hi14_5 c5 ex9 tx9 hi26_4 hi26_5 ex14 tx14 ex15 tx15 ex16 tx16 c17 ex21 tx21) (Nat.le_of_lt_succ hn26)) (v_found_16 σ k0 y4 x9 y10 y11 y13 x14 x15 x16 x21 hpre_0 hpre_1 hpre_2 hpre_6 hpre_7 hpre_8 hi14_4 hi14_5 c5 ex9 tx9 hi26_0 hi26_1 hi26_2 hi26_3 hi26_4 hi26_5 ex14 tx14 ex15 tx15 ex16 tx16 c17 ex21 tx21) hP hS (lv_sub hl [0, 1, 2, 3, 4, 5, 6, 7, 8, 9] rfl)
      · have c20 : ¬ r19.toInt = 0 := by have h := z_ne c20; rw [show (0 : Int32).toInt = 0 from by decide +kernel] at h; exact h
        refine lv_aload_n hx hb dX12_found_57 rfl (lv_at hl 5 rfl) ?_
        refine lv_iload hx hb dX12_found_58 (lv_at hl 0 rfl) ?_
        refine lv_iload_n hx hb dX12_found_60 rfl (lv_at hl 8 rfl) ?_
        refine lv_iload hx hb dX12_found_61 (lv_at hl 9 rfl) ?_
        refine r_callVi (As := [.int y13, .int k2, .int k3]) (rest := []) C hP hS hl.1 ⟨Nat.zero_le _, Nat.zero_le _⟩ (M_suits l D cy sz0 sa ad σ H.size y13 k2 k3 (v_found_18 σ k0 k2 k3 y4 x9 y13 x14 x15 x16 hpre_0 hpre_1 hpre_2 hpre_3 hpre_4 hpre_5 hpre_6 hpre_7 hpre_8 hpre_9 hpre_10 hpre_11 hpre_12 hi14_4 hi14_5 c5 ex9 tx9 hi26_4 hi26_5 ex14 tx14 ex15 tx15 ex16 tx16 c17)) (n := 3) ⟨wm_330, wm_322, by decide +kernel⟩ ⟨wm_331, wm_332, wm_10⟩ rfl rfl (lv_room (Nat.le_of_ble_eq_true rfl)) ⟨Nat.le_of_ble_eq_true rfl, Nat.le_of_ble_eq_true rfl⟩ dX12_found_63 (fun r22 u H locs hr22 hP hS => ?_)
        have hr22 : -6 ≤ r22.toInt ∧ r22.toInt ≤ 2000 := hr22
        obtain ⟨hr22_0, hr22_1⟩ := hr22
        refine lv_istore (lv' := [(10, .int r22), (9, .int y13), (8, .int y4), (7, .int y12), (6, .int y11), (5, .int y10), (0, .ref (ad 0)), (1, .int k0), (2, .int k1), (3, .int k2), (4, .int k3)]) hx hb dX12_found_66 hl (by decide) rfl (fun ls hl => ?_)
        refine lv_iload hx hb dX12_found_68 (lv_at hl 3 rfl) ?_
        refine lv_iload hx hb dX12_found_70 (lv_at hl 0 rfl) ?_
        refine lv_sipush (v := 1000) hx hb dX12_found_72 (by decide +kernel) ?_
        refine lv_icmp_ne (tgt := 82) hx hb dX12_found_75 (by decide) (fun c23 => ?_) (fun c23 => ?_)
        · have c23 : ¬ r22.toInt = 1000 := by have h := z_ne c23; rw [show (1000 : Int32).toInt = 1000 from by decide +kernel] at h; exact h
          refine lv_iconst (v := 0) hx hb dX12_found_82 (by decide +kernel) ?_
          refine lv_iadd hx hb dX12_found_83 ?_
          refine lv_topi (fun x24 ex24 => ?_)
          refine lv_istore (lv' := [(7, .int x24), (10, .int r22), (9, .int y13), (8, .int y4), (6, .int y11), (5, .int y10), (0, .ref (ad 0)), (1, .int k0), (2, .int k1), (3, .int k2), (4, .int k3)]) hx hb dX12_found_84 hl (by decide) rfl (fun ls hl => ?_)
          refine lv_iload hx hb dX12_found_86 (lv_at hl 1 rfl) ?_
          refine lv_iload hx hb dX12_found_88 (lv_at hl 4 rfl) ?_
          refine lv_icmp_ge (tgt := 98) hx hb dX12_found_90 (by decide) (fun c25 => ?_) (fun c25 => ?_)
          · have c25 : y11.toInt ≤ r22.toInt := by have h := z_le c25; exact h
            refine lv_iload hx hb dX12_found_98 (lv_at hl 5 rfl) ?_
            refine lv_istore (lv' := [(5, .int y10), (7, .int x24), (10, .int r22), (9, .int y13), (8, .int y4), (6, .int y11), (0, .ref (ad 0)), (1, .int k0), (2, .int k1), (3, .int k2), (4, .int k3)]) hx hb dX12_found_100 hl (by decide) rfl (fun ls hl => ?_)
            refine lv_iload hx hb dX12_found_102 (lv_at hl 2 rfl) ?_
            refine lv_iload hx hb dX12_found_104 (lv_at hl 5 rfl) ?_
            refine lv_icmp_ge (tgt := 114) hx hb dX12_found_106 (by decide) (fun c26 => ?_) (fun c26 => ?_)
            · have c26 : y11.toInt ≤ r22.toInt := by have h := z_le c26; exact h
              refine lv_iload hx hb dX12_found_114 (lv_at hl 5 rfl) ?_
              refine lv_istore (lv' := [(6, .int y11), (5, .int y10), (7, .int x24), (10, .int r22), (9, .int y13), (8, .int y4), (0, .ref (ad 0)), (1, .int k0), (2, .int k1), (3, .int k2), (4, .int k3)]) hx hb dX12_found_116 hl (by decide) rfl (fun ls hl => ?_)
              obtain ⟨x27, ex27⟩ : ∃ y : Int32, y = y13 + (1 : Int32) := ⟨_, rfl⟩
              have tx27 : x27.toInt = y13.toInt + 1 := (v_found_19 σ k0 y4 x9 y13 x14 x15 x16 x27 hpre_0 hpre_1 hpre_2 hpre_6 hpre_7 hpre_8 hi14_4 hi14_5 c5 ex9 tx9 hi26_4 hi26_5 ex14 tx14 ex15 tx15 ex16 tx16 c17 ex27)
              refine lv_iinc (v := x27) (lv' := [(9, .int x27), (6, .int y11), (5, .int y10), (7, .int x24), (10, .int r22), (8, .int y4), (0, .ref (ad 0)), (1, .int k0), (2, .int k1), (3, .int k2), (4, .int k3)]) hx hb dX12_found_118 hl (k := 4) rfl (by rw [ex27]; rfl) (by decide) rfl (fun ls hl => ?_)
              refine lv_goto (tgt := 26) hx hb dX12_found_121 (by decide) ?_
              exact ih26 y10 y11 x24 x27 _ _ _ (Nat.lt_of_lt_of_le (v_found_21 σ k0 y4 x9 y13 x14 x15 x16 x27 hpre_0 hpre_1 hpre_2 hpre_6 hpre_7 hpre_8 hi14_4 hi14_5 c5 ex9 tx9 hi26_4 hi26_5 ex14 tx14 ex15 tx15 ex16 tx16 c17 ex27 tx27) (Nat.le_of_lt_succ hn26)) (v_found_20 σ k0 y4 x9 y10 y11 y13 x14 x15 x16 r22 x27 hpre_0 hpre_1 hpre_2 hpre_6 hpre_7 hpre_8 hi14_4 hi14_5 c5 ex9 tx9 hi26_0 hi26_1 hi26_2 hi26_3 hi26_4 hi26_5 ex14 tx14 ex15 tx15 ex16 tx16 c17 hr22_0 hr22_1 c23 c25 c26 ex27 tx27) hP hS (lv_sub hl [0, 5, 3, 1, 2, 6, 7, 8, 9, 10] rfl)
            · have c26 : r22.toInt < y11.toInt := by have h := z_nle c26; exact h
              refine lv_iload hx hb dX12_found_109 (lv_at hl 2 rfl) ?_
              refine lv_goto (tgt := 116) hx hb dX12_found_111 (by decide) ?_
              refine lv_istore (lv' := [(6, .int r22), (5, .int y10), (7, .int x24), (10, .int r22), (9, .int y13), (8, .int y4), (0, .ref (ad 0)), (1, .int k0), (2, .int k1), (3, .int k2), (4, .int k3)]) hx hb dX12_found_116 hl (by decide) rfl (fun ls hl => ?_)
              obtain ⟨x28, ex28⟩ : ∃ y : Int32, y = y13 + (1 : Int32) := ⟨_, rfl⟩
              have tx28 : x28.toInt = y13.toInt + 1 := (v_found_22 σ k0 y4 x9 y13 x14 x15 x16 x28 hpre_0 hpre_1 hpre_2 hpre_6 hpre_7 hpre_8 hi14_4 hi14_5 c5 ex9 tx9 hi26_4 hi26_5 ex14 tx14 ex15 tx15 ex16 tx16 c17 ex28)
              refine lv_iinc (v := x28) (lv' := [(9, .int x28), (6, .int r22), (5, .int y10), (7, .int x24), (10, .int r22), (8, .int y4), (0, .ref (ad 0)), (1, .int k0), (2, .int k1), (3, .int k2), (4, .int k3)]) hx hb dX12_found_118 hl (k := 4) rfl (by rw [ex28]; rfl) (by decide) rfl (fun ls hl => ?_)
              refine lv_goto (tgt := 26) hx hb dX12_found_121 (by decide) ?_
              exact ih26 y10 r22 x24 x28 _ _ _ (Nat.lt_of_lt_of_le (v_found_24 σ k0 y4 x9 y13 x14 x15 x16 x28 hpre_0 hpre_1 hpre_2 hpre_6 hpre_7 hpre_8 hi14_4 hi14_5 c5 ex9 tx9 hi26_4 hi26_5 ex14 tx14 ex15 tx15 ex16 tx16 c17 ex28 tx28) (Nat.le_of_lt_succ hn26)) (v_found_23 σ k0 y4 x9 y10 y11 y13 x14 x15 x16 r22 x28 hpre_0 hpre_1 hpre_2 hpre_6 hpre_7 hpre_8 hi14_4 hi14_5 c5 ex9 tx9 hi26_0 hi26_1 hi26_2 hi26_3 hi26_4 hi26_5 ex14 tx14 ex15 tx15 ex16 tx16 c17 hr22_0 hr22_1 c23 c25 c26 ex28 tx28) hP hS (lv_sub hl [0, 5, 3, 1, 2, 6, 7, 8, 9, 10] rfl)
          · have c25 : r22.toInt < y11.toInt := by have h := z_nle c25; exact h
            refine lv_iload hx hb dX12_found_93 (lv_at hl 2 rfl) ?_
            refine lv_goto (tgt := 100) hx hb dX12_found_95 (by decide) ?_
            refine lv_istore (lv' := [(5, .int y13), (7, .int x24), (10, .int r22), (9, .int y13), (8, .int y4), (6, .int y11), (0, .ref (ad 0)), (1, .int k0), (2, .int k1), (3, .int k2), (4, .int k3)]) hx hb dX12_found_100 hl (by decide) rfl (fun ls hl => ?_)
            refine lv_iload hx hb dX12_found_102 (lv_at hl 2 rfl) ?_
            refine lv_iload hx hb dX12_found_104 (lv_at hl 5 rfl) ?_
            refine lv_icmp_ge (tgt := 114) hx hb dX12_found_106 (by decide) (fun c29 => ?_) (fun c29 => ?_)
            · have c29 : y11.toInt ≤ r22.toInt := by have h := z_le c29; exact h
              refine lv_iload hx hb dX12_found_114 (lv_at hl 5 rfl) ?_
              refine lv_istore (lv' := [(6, .int y11), (5, .int y13), (7, .int x24), (10, .int r22), (9, .int y13), (8, .int y4), (0, .ref (ad 0)), (1, .int k0), (2, .int k1), (3, .int k2), (4, .int k3)]) hx hb dX12_found_116 hl (by decide) rfl (fun ls hl => ?_)
              obtain ⟨x30, ex30⟩ : ∃ y : Int32, y = y13 + (1 : Int32) := ⟨_, rfl⟩
              have tx30 : x30.toInt = y13.toInt + 1 := (v_found_25 σ k0 y4 x9 y13 x14 x15 x16 x30 hpre_0 hpre_1 hpre_2 hpre_6 hpre_7 hpre_8 hi14_4 hi14_5 c5 ex9 tx9 hi26_4 hi26_5 ex14 tx14 ex15 tx15 ex16 tx16 c17 ex30)
              refine lv_iinc (v := x30) (lv' := [(9, .int x30), (6, .int y11), (5, .int y13), (7, .int x24), (10, .int r22), (8, .int y4), (0, .ref (ad 0)), (1, .int k0), (2, .int k1), (3, .int k2), (4, .int k3)]) hx hb dX12_found_118 hl (k := 4) rfl (by rw [ex30]; rfl) (by decide) rfl (fun ls hl => ?_)
              refine lv_goto (tgt := 26) hx hb dX12_found_121 (by decide) ?_
              exact ih26 y13 y11 x24 x30 _ _ _ (Nat.lt_of_lt_of_le (v_found_27 σ k0 y4 x9 y13 x14 x15 x16 x30 hpre_0 hpre_1 hpre_2 hpre_6 hpre_7 hpre_8 hi14_4 hi14_5 c5 ex9 tx9 hi26_4 hi26_5 ex14 tx14 ex15 tx15 ex16 tx16 c17 ex30 tx30) (Nat.le_of_lt_succ hn26)) (v_found_26 σ k0 y4 x9 y10 y11 y13 x14 x15 x16 r22 x30 hpre_0 hpre_1 hpre_2 hpre_6 hpre_7 hpre_8 hi14_4 hi14_5 c5 ex9 tx9 hi26_0 hi26_1 hi26_2 hi26_3 hi26_4 hi26_5 ex14 tx14 ex15 tx15 ex16 tx16 c17 hr22_0 hr22_1 c23 c25 c29 ex30 tx30) hP hS (lv_sub hl [0, 5, 3, 1, 2, 6, 7, 8, 9, 10] rfl)
            · have c29 : r22.toInt < y11.toInt := by have h := z_nle c29; exact h
              refine lv_iload hx hb dX12_found_109 (lv_at hl 2 rfl) ?_
              refine lv_goto (tgt := 116) hx hb dX12_found_111 (by decide) ?_
              refine lv_istore (lv' := [(6, .int r22), (5, .int y13), (7, .int x24), (10, .int r22), (9, .int y13), (8, .int y4), (0, .ref (ad 0)), (1, .int k0), (2, .int k1), (3, .int k2), (4, .int k3)]) hx hb dX12_found_116 hl (by decide) rfl (fun ls hl => ?_)
              obtain ⟨x31, ex31⟩ : ∃ y : Int32, y = y13 + (1 : Int32) := ⟨_, rfl⟩
              have tx31 : x31.toInt = y13.toInt + 1 := (v_found_28 σ k0 y4 x9 y13 x14 x15 x16 x31 hpre_0 hpre_1 hpre_2 hpre_6 hpre_7 hpre_8 hi14_4 hi14_5 c5 ex9 tx9 hi26_4 hi26_5 ex14 tx14 ex15 tx15 ex16 tx16 c17 ex31)
              refine lv_iinc (v := x31) (lv' := [(9, .int x31), (6, .int r22), (5, .int y13), (7, .int x24), (10, .int r22), (8, .int y4), (0, .ref (ad 0)), (1, .int k0), (2, .int k1), (3, .int k2), (4, .int k3)]) hx hb dX12_found_118 hl (k := 4) rfl (by rw [ex31]; rfl) (by decide) rfl (fun ls hl => ?_)
              refine lv_goto (tgt := 26) hx hb dX12_found_121 (by decide) ?_
              exact ih26 y13 r22 x24 x31 _ _ _ (Nat.lt_of_lt_of_le (v_found_30 σ k0 y4 x9 y13 x14 x15 x16 x31 hpre_0 hpre_1 hpre_2 hpre_6 hpre_7 hpre_8 hi14_4 hi14_5 c5 ex9 tx9 hi26_4 hi26_5 ex14 tx14 ex15 tx15 ex16 tx16 c17 ex31 tx31) (Nat.le_of_lt_succ hn26)) (v_found_29 σ k0 y4 x9 y10 y11 y13 x14 x15 x16 r22 x31 hpre_0 hpre_1 hpre_2 hpre_6 hpre_7 hpre_8 hi14_4 hi14_5 c5 ex9 tx9 hi26_0 hi26_1 hi26_2 hi26_3 hi26_4 hi26_5 ex14 tx14 ex15 tx15 ex16 tx16 c17 hr22_0 hr22_1 c23 c25 c29 ex31 tx31) hP hS (lv_sub hl [0, 5, 3, 1, 2, 6, 7, 8, 9, 10] rfl)
        · have c23 : r22.toInt = 1000 := by have h := z_eq c23; rw [show (1000 : Int32).toInt = 1000 from by decide +kernel] at h; exact h
          refine lv_iconst (v := 1) hx hb dX12_found_78 (by decide +kernel) ?_
          refine lv_goto (tgt := 83) hx hb dX12_found_79 (by decide) ?_
          refine lv_iadd hx hb dX12_found_83 ?_
          refine lv_topi (fun x32 ex32 => ?_)
          refine lv_istore (lv' := [(7, .int x32), (10, .int r22), (9, .int y13), (8, .int y4), (6, .int y11), (5, .int y10), (0, .ref (ad 0)), (1, .int k0), (2, .int k1), (3, .int k2), (4, .int k3)]) hx hb dX12_found_84 hl (by decide) rfl (fun ls hl => ?_)
          refine lv_iload hx hb dX12_found_86 (lv_at hl 1 rfl) ?_
          refine lv_iload hx hb dX12_found_88 (lv_at hl 4 rfl) ?_
          refine lv_icmp_ge (tgt := 98) hx hb dX12_found_90 (by decide) (fun c33 => ?_) (fun c33 => ?_)
          · have c33 : y11.toInt ≤ r22.toInt := by have h := z_le c33; exact h
            refine lv_iload hx hb dX12_found_98 (lv_at hl 5 rfl) ?_
            refine lv_istore (lv' := [(5, .int y10), (7, .int x32), (10, .int r22), (9, .int y13), (8, .int y4), (6, .int y11), (0, .ref (ad 0)), (1, .int k0), (2, .int k1), (3, .int k2), (4, .int k3)]) hx hb dX12_found_100 hl (by decide) rfl (fun ls hl => ?_)
            refine lv_iload hx hb dX12_found_102 (lv_at hl 2 rfl) ?_
            refine lv_iload hx hb dX12_found_104 (lv_at hl 5 rfl) ?_
            refine lv_icmp_ge (tgt := 114) hx hb dX12_found_106 (by decide) (fun c34 => ?_) (fun c34 => ?_)
            · have c34 : y11.toInt ≤ r22.toInt := by have h := z_le c34; exact h
              refine lv_iload hx hb dX12_found_114 (lv_at hl 5 rfl) ?_
              refine lv_istore (lv' := [(6, .int y11), (5, .int y10), (7, .int x32), (10, .int r22), (9, .int y13), (8, .int y4), (0, .ref (ad 0)), (1, .int k0), (2, .int k1), (3, .int k2), (4, .int k3)]) hx hb dX12_found_116 hl (by decide) rfl (fun ls hl => ?_)
              obtain ⟨x35, ex35⟩ : ∃ y : Int32, y = y13 + (1 : Int32) := ⟨_, rfl⟩
              have tx35 : x35.toInt = y13.toInt + 1 := (v_found_31 σ k0 y4 x9 y13 x14 x15 x16 x35 hpre_0 hpre_1 hpre_2 hpre_6 hpre_7 hpre_8 hi14_4 hi14_5 c5 ex9 tx9 hi26_4 hi26_5 ex14 tx14 ex15 tx15 ex16 tx16 c17 ex35)
              refine lv_iinc (v := x35) (lv' := [(9, .int x35), (6, .int y11), (5, .int y10), (7, .int x32), (10, .int r22), (8, .int y4), (0, .ref (ad 0)), (1, .int k0), (2, .int k1), (3, .int k2), (4, .int k3)]) hx hb dX12_found_118 hl (k := 4) rfl (by rw [ex35]; rfl) (by decide) rfl (fun ls hl => ?_)
              refine lv_goto (tgt := 26) hx hb dX12_found_121 (by decide) ?_
              exact ih26 y10 y11 x32 x35 _ _ _ (Nat.lt_of_lt_of_le (v_found_33 σ k0 y4 x9 y13 x14 x15 x16 x35 hpre_0 hpre_1 hpre_2 hpre_6 hpre_7 hpre_8 hi14_4 hi14_5 c5 ex9 tx9 hi26_4 hi26_5 ex14 tx14 ex15 tx15 ex16 tx16 c17 ex35 tx35) (Nat.le_of_lt_succ hn26)) (v_found_32 σ k0 y4 x9 y10 y11 y13 x14 x15 x16 r22 x35 hpre_0 hpre_1 hpre_2 hpre_6 hpre_7 hpre_8 hi14_4 hi14_5 c5 ex9 tx9 hi26_0 hi26_1 hi26_2 hi26_3 hi26_4 hi26_5 ex14 tx14 ex15 tx15 ex16 tx16 c17 hr22_0 hr22_1 c23 c33 c34 ex35 tx35) hP hS (lv_sub hl [0, 5, 3, 1, 2, 6, 7, 8, 9, 10] rfl)
            · have c34 : r22.toInt < y11.toInt := by have h := z_nle c34; exact h
              refine lv_iload hx hb dX12_found_109 (lv_at hl 2 rfl) ?_
              refine lv_goto (tgt := 116) hx hb dX12_found_111 (by decide) ?_
              refine lv_istore (lv' := [(6, .int r22), (5, .int y10), (7, .int x32), (10, .int r22), (9, .int y13), (8, .int y4), (0, .ref (ad 0)), (1, .int k0), (2, .int k1), (3, .int k2), (4, .int k3)]) hx hb dX12_found_116 hl (by decide) rfl (fun ls hl => ?_)
              obtain ⟨x36, ex36⟩ : ∃ y : Int32, y = y13 + (1 : Int32) := ⟨_, rfl⟩
              have tx36 : x36.toInt = y13.toInt + 1 := (v_found_34 σ k0 y4 x9 y13 x14 x15 x16 x36 hpre_0 hpre_1 hpre_2 hpre_6 hpre_7 hpre_8 hi14_4 hi14_5 c5 ex9 tx9 hi26_4 hi26_5 ex14 tx14 ex15 tx15 ex16 tx16 c17 ex36)
              refine lv_iinc (v := x36) (lv' := [(9, .int x36), (6, .int r22), (5, .int y10), (7, .int x32), (10, .int r22), (8, .int y4), (0, .ref (ad 0)), (1, .int k0), (2, .int k1), (3, .int k2), (4, .int k3)]) hx hb dX12_found_118 hl (k := 4) rfl (by rw [ex36]; rfl) (by decide) rfl (fun ls hl => ?_)
              refine lv_goto (tgt := 26) hx hb dX12_found_121 (by decide) ?_
              exact ih26 y10 r22 x32 x36 _ _ _ (Nat.lt_of_lt_of_le (v_found_36 σ k0 y4 x9 y13 x14 x15 x16 x36 hpre_0 hpre_1 hpre_2 hpre_6 hpre_7 hpre_8 hi14_4 hi14_5 c5 ex9 tx9 hi26_4 hi26_5 ex14 tx14 ex15 tx15 ex16 tx16 c17 ex36 tx36) (Nat.le_of_lt_succ hn26)) (v_found_35 σ k0 y4 x9 y10 y11 y13 x14 x15 x16 r22 x36 hpre_0 hpre_1 hpre_2 hpre_6 hpre_7 hpre_8 hi14_4 hi14_5 c5 ex9 tx9 hi26_0 hi26_1 hi26_2 hi26_3 hi26_4 hi26_5 ex14 tx14 ex15 tx15 ex16 tx16 c17 hr22_0 hr22_1 c23 c33 c34 ex36 tx36) hP hS (lv_sub hl [0, 5, 3, 1, 2, 6, 7, 8, 9, 10] rfl)
          · have c33 : r22.toInt < y11.toInt := by have h := z_nle c33; exact h
            refine lv_iload hx hb dX12_found_93 (lv_at hl 2 rfl) ?_
            refine lv_goto (tgt := 100) hx hb dX12_found_95 (by decide) ?_
            refine lv_istore (lv' := [(5, .int y13), (7, .int x32), (10, .int r22), (9, .int y13), (8, .int y4), (6, .int y11), (0, .ref (ad 0)), (1, .int k0), (2, .int k1), (3, .int k2), (4, .int k3)]) hx hb dX12_found_100 hl (by decide) rfl (fun ls hl => ?_)
            refine lv_iload hx hb dX12_found_102 (lv_at hl 2 rfl) ?_
            refine lv_iload hx hb dX12_found_104 (lv_at hl 5 rfl) ?_
            refine lv_icmp_ge (tgt := 114) hx hb dX12_found_106 (by decide) (fun c37 => ?_) (fun c37 => ?_)
            · have c37 : y11.toInt ≤ r22.toInt := by have h := z_le c37; exact h
              refine lv_iload hx hb dX12_found_114 (lv_at hl 5 rfl) ?_
              refine lv_istore (lv' := [(6, .int y11), (5, .int y13), (7, .int x32), (10, .int r22), (9, .int y13), (8, .int y4), (0, .ref (ad 0)), (1, .int k0), (2, .int k1), (3, .int k2), (4, .int k3)]) hx hb dX12_found_116 hl (by decide) rfl (fun ls hl => ?_)
              obtain ⟨x38, ex38⟩ : ∃ y : Int32, y = y13 + (1 : Int32) := ⟨_, rfl⟩
              have tx38 : x38.toInt = y13.toInt + 1 := (v_found_37 σ k0 y4 x9 y13 x14 x15 x16 x38 hpre_0 hpre_1 hpre_2 hpre_6 hpre_7 hpre_8 hi14_4 hi14_5 c5 ex9 tx9 hi26_4 hi26_5 ex14 tx14 ex15 tx15 ex16 tx16 c17 ex38)
              refine lv_iinc (v := x38) (lv' := [(9, .int x38), (6, .int y11), (5, .int y13), (7, .int x32), (10, .int r22), (8, .int y4), (0, .ref (ad 0)), (1, .int k0), (2, .int k1), (3, .int k2), (4, .int k3)]) hx hb dX12_found_118 hl (k := 4) rfl (by rw [ex38]; rfl) (by decide) rfl (fun ls hl => ?_)
              refine lv_goto (tgt := 26) hx hb dX12_found_121 (by decide) ?_
              exact ih26 y13 y11 x32 x38 _ _ _ (Nat.lt_of_lt_of_le (v_found_39 σ k0 y4 x9 y13 x14 x15 x16 x38 hpre_0 hpre_1 hpre_2 hpre_6 hpre_7 hpre_8 hi14_4 hi14_5 c5 ex9 tx9 hi26_4 hi26_5 ex14 tx14 ex15 tx15 ex16 tx16 c17 ex38 tx38) (Nat.le_of_lt_succ hn26)) (v_found_38 σ k0 y4 x9 y10 y11 y13 x14 x15 x16 r22 x38 hpre_0 hpre_1 hpre_2 hpre_6 hpre_7 hpre_8 hi14_4 hi14_5 c5 ex9 tx9 hi26_0 hi26_1 hi26_2 hi26_3 hi26_4 hi26_5 ex14 tx14 ex15 tx15 ex16 tx16 c17 hr22_0 hr22_1 c23 c33 c37 ex38 tx38) hP hS (lv_sub hl [0, 5, 3, 1, 2, 6, 7, 8, 9, 10] rfl)
            · have c37 : r22.toInt < y11.toInt := by have h := z_nle c37; exact h
              refine lv_iload hx hb dX12_found_109 (lv_at hl 2 rfl) ?_
              refine lv_goto (tgt := 116) hx hb dX12_found_111 (by decide) ?_
              refine lv_istore (lv' := [(6, .int r22), (5, .int y13), (7, .int x32), (10, .int r22), (9, .int y13), (8, .int y4), (0, .ref (ad 0)), (1, .int k0), (2, .int k1), (3, .int k2), (4, .int k3)]) hx hb dX12_found_116 hl (by decide) rfl (fun ls hl => ?_)
              obtain ⟨x39, ex39⟩ : ∃ y : Int32, y = y13 + (1 : Int32) := ⟨_, rfl⟩
              have tx39 : x39.toInt = y13.toInt + 1 := (v_found_40 σ k0 y4 x9 y13 x14 x15 x16 x39 hpre_0 hpre_1 hpre_2 hpre_6 hpre_7 hpre_8 hi14_4 hi14_5 c5 ex9 tx9 hi26_4 hi26_5 ex14 tx14 ex15 tx15 ex16 tx16 c17 ex39)
              refine lv_iinc (v := x39) (lv' := [(9, .int x39), (6, .int r22), (5, .int y13), (7, .int x32), (10, .int r22), (8, .int y4), (0, .ref (ad 0)), (1, .int k0), (2, .int k1), (3, .int k2), (4, .int k3)]) hx hb dX12_found_118 hl (k := 4) rfl (by rw [ex39]; rfl) (by decide) rfl (fun ls hl => ?_)
              refine lv_goto (tgt := 26) hx hb dX12_found_121 (by decide) ?_
              exact ih26 y13 r22 x32 x39 _ _ _ (Nat.lt_of_lt_of_le (v_found_42 σ k0 y4 x9 y13 x14 x15 x16 x39 hpre_0 hpre_1 hpre_2 hpre_6 hpre_7 hpre_8 hi14_4 hi14_5 c5 ex9 tx9 hi26_4 hi26_5 ex14 tx14 ex15 tx15 ex16 tx16 c17 ex39 tx39) (Nat.le_of_lt_succ hn26)) (v_found_41 σ k0 y4 x9 y10 y11 y13 x14 x15 x16 r22 x39 hpre_0 hpre_1 hpre_2 hpre_6 hpre_7 hpre_8 hi14_4 hi14_5 c5 ex9 tx9 hi26_0 hi26_1 hi26_2 hi26_3 hi26_4 hi26_5 ex14 tx14 ex15 tx15 ex16 tx16 c17 hr22_0 hr22_1 c23 c33 c37 ex39 tx39) hP hS (lv_sub hl [0, 5, 3, 1, 2, 6, 7, 8, 9, 10] rfl)
set_option maxHeartbeats 4000000 in
set_option maxRecDepth 100000 in
theorem L_found_14_1 {p : Program} {e : Env} {s : State} {m : MethodId} {below : List Frame} {meth : Method} {c : Code} (l : Launch) (D : va_G) (cy : Nat → ClassId) (sz0 : Nat) (sa : Nat → Nat) (ad : Nat → Nat) (sz : Nat) (σ : RS) (k0 : Int32) (k1 : Int32) (k2 : Int32) (k3 : Int32) (C : RC p s m #[.ref (ad 0), .int k0, .int k1, .int k2, .int k3] meth c cX12_found 11 (some .int) D cy sz0 sa ad (AR cy ad sz)) (hpre_0 : 0 ≤ (σ.1 35).toInt) (hpre_1 : (σ.1 35).toInt ≤ 5) (hpre_2 : CLS (σ.1 35).toInt (σ.2.1 36) (σ.2.1 37) (σ.2.1 40)) (hpre_3 : BLS (σ.2.1 46)) (hpre_4 : TYS (σ.2.1 42)) (hpre_5 : TYS (σ.2.1 43)) (hpre_6 : VALS (σ.2.1 51) (σ.2.2.1 52) (σ.1 35).toInt (σ.1 47).toInt) (hpre_7 : 0 ≤ k0.toInt) (hpre_8 : k0.toInt < (σ.1 35).toInt) (hpre_9 : 0 ≤ k2.toInt) (hpre_10 : k2.toInt ≤ 60) (hpre_11 : 0 ≤ k3.toInt) (hpre_12 : k3.toInt ≤ 3) (hpre_13 : (σ.1 56).toInt = 0) : ∀ (n : Nat) (y1 : Int32) (y2 : Int32) (y3 : Int32) (y4 : Int32) (H : Heap) (locs : List Loc) (ls : Array Slot), (y4.toInt + 1).toNat < n → (-1 ≤ y1.toInt ∧ y1.toInt < 30 ∧ y2.toInt ≤ 2000 ∧ (y2.toInt < 2000 → 0 ≤ y1.toInt) ∧ -1 ≤ y4.toInt ∧ y4.toInt < (σ.1 35).toInt) → RP D cy ad σ H → va_S (AR cy ad sz) s.heap H locs → lv_has ls 11 [(8, .int y4), (7, .int y3), (6, .int y2), (5, .int y1), (0, .ref (ad 0)), (1, .int k0), (2, .int k1), (3, .int k2), (4, .int k3)] → W p l e (headSpec (Cond.code yX12_found cX12_found 11 (some .int) :: GWm) ({ frames := 3, cells := 0, slots := 0, locals := 76 })).room s m #[.ref (ad 0), .int k0, .int k1, .int k2, .int k3] below meth c H locs 0 0 (MQ below (va_Qi (fun (r : Int32) (u : Int32) => 0 ≤ u.toInt ∧ u.toInt ≤ 11 ∧ -1 ≤ r.toInt ∧ r.toInt < 30 ∧ (u.toInt = 0 → 0 ≤ r.toInt)) (fun (u : Int32) (t : State) => RP D cy ad (rS σ 56 u) t.heap) (AR cy ad sz)) #[.ref (ad 0), .int k0, .int k1, .int k2, .int k3] s 0 0 (AR cy ad sz)) (F0 m 14 ls []) := by
  have hx := C.1
  have hb := C.2.1
  have hown := C.2.2.2.2.1
  have hw := C.2.2.2.2.2.1
  intro n
  induction n with
  | zero => intro y1 y2 y3 y4 H locs ls hn; exact absurd hn (Nat.not_lt_zero _)
  | succ n14 ih14 =>
    intro y1 y2 y3 y4 H locs ls hn14 hi14 hP hS hl
    obtain ⟨hi14_0, hi14_1, hi14_2, hi14_3, hi14_4, hi14_5⟩ := hi14
    refine lv_iload hx hb dX12_found_14 (lv_at hl 0 rfl) ?_
    refine lv_if_lt (tgt := 136) hx hb dX12_found_16 (by decide) (fun c5 => ?_) (fun c5 => ?_)
    · have c5 : y4.toInt < 0 := by have h := z_lt c5; rw [show (0 : Int32).toInt = 0 from by decide +kernel] at h; exact h
      refine lv_aload_n hx hb dX12_found_136 rfl (lv_at hl 4 rfl) ?_
      refine lv_iload hx hb dX12_found_137 (lv_at hl 2 rfl) ?_
      refine lv_sipush (v := 2000) hx hb dX12_found_139 (by decide +kernel) ?_
      refine lv_icmp_ne (tgt := 150) hx hb dX12_found_142 (by decide) (fun c6 => ?_) (fun c6 => ?_)
      · have c6 : ¬ y2.toInt = 2000 := by have h := z_ne c6; rw [show (2000 : Int32).toInt = 2000 from by decide +kernel] at h; exact h
        refine lv_iload hx hb dX12_found_150 (lv_at hl 2 rfl) ?_
        refine lv_sipush (v := 1000) hx hb dX12_found_152 (by decide +kernel) ?_
        refine lv_icmp_ne (tgt := 169) hx hb dX12_found_155 (by decide) (fun c7 => ?_) (fun c7 => ?_)
        · have c7 : ¬ y2.toInt = 1000 := by have h := z_ne c7; rw [show (1000 : Int32).toInt = 1000 from by decide +kernel] at h; exact h
          refine lv_aload_n hx hb dX12_found_169 rfl (lv_at hl 4 rfl) ?_
          refine rg_56 (v := (σ.1 56)) C hP rfl wm_242 dX12_found_170 ?_
          refine rp_56 C hP hS wm_242 dX12_found_173 (fun H locs hP hS => ?_)
          refine lv_iload hx hb dX12_found_176 (lv_at hl 3 rfl) ?_
          exact r_reti C (σ.1 56) (v_found_2 σ y1 y2 hpre_13 hi14_0 hi14_1 hi14_2 hi14_3 c6 c7) hP hS dX12_found_178
        · have c7 : y2.toInt = 1000 := by have h := z_eq c7; rw [show (1000 : Int32).toInt = 1000 from by decide +kernel] at h; exact h
          refine lv_iload hx hb dX12_found_158 (lv_at hl 1 rfl) ?_
          refine lv_iconst (v := 1) hx hb dX12_found_160 (by decide +kernel) ?_
          refine lv_icmp_le (tgt := 169) hx hb dX12_found_161 (by decide) (fun c8 => ?_) (fun c8 => ?_)
          · have c8 : y3.toInt ≤ 1 := by have h := z_le c8; rw [show (1 : Int32).toInt = 1 from by decide +kernel] at h; exact h
            refine lv_aload_n hx hb dX12_found_169 rfl (lv_at hl 4 rfl) ?_
            refine rg_56 (v := (σ.1 56)) C hP rfl wm_242 dX12_found_170 ?_
            refine rp_56 C hP hS wm_242 dX12_found_173 (fun H locs hP hS => ?_)
            refine lv_iload hx hb dX12_found_176 (lv_at hl 3 rfl) ?_
            exact r_reti C (σ.1 56) (v_found_3 σ y1 y2 hpre_13 hi14_0 hi14_1 hi14_2 hi14_3 c6 c7) hP hS dX12_found_178
          · have c8 : 1 < y3.toInt := by have h := z_nle c8; rw [show (1 : Int32).toInt = 1 from by decide +kernel] at h; exact h
            refine lv_bipush (v := 7) hx hb dX12_found_164 (by decide +kernel) ?_
            refine lv_goto (tgt := 173) hx hb dX12_found_166 (by decide) ?_
            refine rp_56 C hP hS wm_242 dX12_found_173 (fun H locs hP hS => ?_)
            refine lv_iload hx hb dX12_found_176 (lv_at hl 3 rfl) ?_
            exact r_reti C (7 : Int32) (v_found_4 y1 y2 hi14_0 hi14_1 hi14_2 hi14_3 c6 c7) hP hS dX12_found_178
      · have c6 : y2.toInt = 2000 := by have h := z_eq c6; rw [show (2000 : Int32).toInt = 2000 from by decide +kernel] at h; exact h
        refine lv_bipush (v := 8) hx hb dX12_found_145 (by decide +kernel) ?_
        refine lv_goto (tgt := 173) hx hb dX12_found_147 (by decide) ?_
        refine rp_56 C hP hS wm_242 dX12_found_173 (fun H locs hP hS => ?_)
        refine lv_iload hx hb dX12_found_176 (lv_at hl 3 rfl) ?_
        exact r_reti C (8 : Int32) (v_found_5 y1 y2 hi14_0 hi14_1 hi14_2 hi14_3 c6) hP hS dX12_found_178
    · have c5 : 0 ≤ y4.toInt := by have h := z_nlt c5; rw [show (0 : Int32).toInt = 0 from by decide +kernel] at h; exact h
      refine lv_bipush (v := 6) hx hb dX12_found_19 (by decide +kernel) ?_
      refine lv_iload hx hb dX12_found_21 (lv_at hl 0 rfl) ?_
      refine lv_imul hx hb dX12_found_23 ?_
      refine lv_topi (fun x9 ex9 => ?_)
      have tx9 : x9.toInt = 6 * y4.toInt := (v_found_6 σ k0 y4 x9 hpre_0 hpre_1 hpre_2 hpre_6 hpre_7 hpre_8 hi14_4 hi14_5 c5 ex9)
      refine lv_istore (lv' := [(9, .int x9), (8, .int y4), (7, .int y3), (6, .int y2), (5, .int y1), (0, .ref (ad 0)), (1, .int k0), (2, .int k1), (3, .int k2), (4, .int k3)]) hx hb dX12_found_24 hl (by decide) rfl (fun ls hl => ?_)
      exact L_found_26_2 l D cy sz0 sa ad sz σ k0 k1 k2 k3 y1 y2 y3 y4 x9 C hpre_0 hpre_1 hpre_2 hpre_3 hpre_4 hpre_5 hpre_6 hpre_7 hpre_8 hpre_9 hpre_10 hpre_11 hpre_12 hpre_13 hi14_0 hi14_1 hi14_2 hi14_3 hi14_4 hi14_5 c5 ex9 tx9 n14 hn14 ih14 ((6 * y4.toInt + 6 - x9.toInt).toNat + 1) y1 y2 y3 x9 _ _ _ (Nat.lt_succ_self _) (v_found_7 σ k0 y1 y2 y4 x9 hpre_0 hpre_1 hpre_2 hpre_6 hpre_7 hpre_8 hi14_0 hi14_1 hi14_2 hi14_3 hi14_4 hi14_5 c5 ex9 tx9) hP hS (lv_sub hl [0, 1, 2, 3, 4, 5, 6, 7, 8, 9] rfl)
set_option maxHeartbeats 4000000 in
set_option maxRecDepth 100000 in
theorem M_found (l : Launch) (D : va_G) (cy : Nat → ClassId) (sz0 : Nat) (sa : Nat → Nat) (ad : Nat → Nat) (σ : RS) (sz : Nat) (k0 : Int32) (k1 : Int32) (k2 : Int32) (k3 : Int32) (hpre : 0 ≤ (σ.1 35).toInt ∧ (σ.1 35).toInt ≤ 5 ∧ CLS (σ.1 35).toInt (σ.2.1 36) (σ.2.1 37) (σ.2.1 40) ∧ BLS (σ.2.1 46) ∧ TYS (σ.2.1 42) ∧ TYS (σ.2.1 43) ∧ VALS (σ.2.1 51) (σ.2.2.1 52) (σ.1 35).toInt (σ.1 47).toInt ∧ 0 ≤ k0.toInt ∧ k0.toInt < (σ.1 35).toInt ∧ 0 ≤ k2.toInt ∧ k2.toInt ≤ 60 ∧ 0 ≤ k3.toInt ∧ k3.toInt ≤ 3 ∧ (σ.1 56).toInt = 0) : Met l yX12_found (Cond.code yX12_found cX12_found 11 (some .int) :: GWm) ({ frames := 3, cells := 0, slots := 0, locals := 76 }) (PcR D cy sz0 sa ad [.ref (ad 0), .int k0, .int k1, .int k2, .int k3] σ sz) (va_Qi (fun (r : Int32) (u : Int32) => 0 ≤ u.toInt ∧ u.toInt ≤ 11 ∧ -1 ≤ r.toInt ∧ r.toInt < 30 ∧ (u.toInt = 0 → 0 ≤ r.toInt)) (fun (u : Int32) (t : State) => RP D cy ad (rS σ 56 u) t.heap) (AR cy ad sz)) 0 0 (AR cy ad sz) := by
  refine RM_of (loc0 := [(0, .ref (ad 0)), (1, .int k0), (2, .int k1), (3, .int k2), (4, .int k3)]) (by decide) rfl rfl (Nat.le_of_ble_eq_true rfl) ?_
  intro p e s m below meth c ls hsz C hP hS hl
  have hx := C.1
  have hb := C.2.1
  have hown := C.2.2.2.2.1
  have hw := C.2.2.2.2.2.1
  clear hsz
  obtain ⟨hpre_0, hpre_1, hpre_2, hpre_3, hpre_4, hpre_5, hpre_6, hpre_7, hpre_8, hpre_9, hpre_10, hpre_11, hpre_12, hpre_13⟩ := hpre
  refine lv_iconst (v := (-1)) hx hb dX12_found_0 (by decide +kernel) ?_
  refine lv_istore (lv' := [(5, .int (-1)), (0, .ref (ad 0)), (1, .int k0), (2, .int k1), (3, .int k2), (4, .int k3)]) hx hb dX12_found_1 hl (by decide) rfl (fun ls hl => ?_)
  refine lv_sipush (v := 2000) hx hb dX12_found_3 (by decide +kernel) ?_
  refine lv_istore (lv' := [(6, .int 2000), (5, .int (-1)), (0, .ref (ad 0)), (1, .int k0), (2, .int k1), (3, .int k2), (4, .int k3)]) hx hb dX12_found_6 hl (by decide) rfl (fun ls hl => ?_)
  refine lv_iconst (v := 0) hx hb dX12_found_8 (by decide +kernel) ?_
  refine lv_istore (lv' := [(7, .int 0), (6, .int 2000), (5, .int (-1)), (0, .ref (ad 0)), (1, .int k0), (2, .int k1), (3, .int k2), (4, .int k3)]) hx hb dX12_found_9 hl (by decide) rfl (fun ls hl => ?_)
  refine lv_iload_n hx hb dX12_found_11 rfl (lv_at hl 4 rfl) ?_
  refine lv_istore (lv' := [(8, .int k0), (7, .int 0), (6, .int 2000), (5, .int (-1)), (0, .ref (ad 0)), (1, .int k0), (2, .int k1), (3, .int k2), (4, .int k3)]) hx hb dX12_found_12 hl (by decide) rfl (fun ls hl => ?_)
  exact L_found_14_1 l D cy sz0 sa ad sz σ k0 k1 k2 k3 C hpre_0 hpre_1 hpre_2 hpre_3 hpre_4 hpre_5 hpre_6 hpre_7 hpre_8 hpre_9 hpre_10 hpre_11 hpre_12 hpre_13 ((k0.toInt + 1).toNat + 1) (-1 : Int32) (2000 : Int32) (0 : Int32) k0 _ _ _ (Nat.lt_succ_self _) (v_found_1 σ k0 hpre_0 hpre_1 hpre_2 hpre_6 hpre_7 hpre_8) hP hS (lv_sub hl [0, 1, 2, 3, 4, 5, 6, 7, 8] rfl)
