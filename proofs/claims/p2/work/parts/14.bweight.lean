-- in@5 @5
theorem v_stands_1 (k1 : Int32) (hpre_5 : 0 ≤ k1.toInt) (hpre_6 : k1.toInt < 30) : vp_in k1 30 := by
  exact vp_in_iff.mpr ⟨by omega, by omega⟩
-- bool@ret @31
theorem v_stands_2   : (0 : Int32) = 0 ∨ (0 : Int32) = 1 := by
  have q0 : (0 : Int32).toInt = 0 := by decide +kernel
  first | exact Or.inl rfl | exact Or.inr rfl | exact bool_of (by omega)
-- in@15 @15
theorem v_stands_3 (σ : RS) (k1 : Int32) (k2 : Int32) (x1 : Int32) (hpre_5 : 0 ≤ k1.toInt) (hpre_6 : k1.toInt < 30) (ex1 : x1 = (σ.2.1 41) k1.toNatClampNeg) (tx1 : x1.toInt = ((σ.2.1 41) k1.toNatClampNeg).toInt) (c2 : x1.toInt = k2.toInt) : vp_in k1 30 := by
  exact vp_in_iff.mpr ⟨by omega, by omega⟩
-- in@21 @21
theorem v_stands_4 (σ : RS) (k1 : Int32) (k2 : Int32) (x1 : Int32) (x3 : Int32) (hpre_5 : 0 ≤ k1.toInt) (hpre_6 : k1.toInt < 30) (ex1 : x1 = (σ.2.1 41) k1.toNatClampNeg) (tx1 : x1.toInt = ((σ.2.1 41) k1.toNatClampNeg).toInt) (c2 : x1.toInt = k2.toInt) (ex3 : x3 = (σ.2.1 42) k1.toNatClampNeg) (tx3 : x3.toInt = ((σ.2.1 42) k1.toNatClampNeg).toInt) : vp_in k1 30 := by
  exact vp_in_iff.mpr ⟨by omega, by omega⟩
-- init@41 @41
theorem v_stands_5 (σ : RS) (k0 : Int32) (hpre_0 : 0 ≤ (σ.1 35).toInt) (hpre_1 : (σ.1 35).toInt ≤ 5) (hpre_2 : CLS (σ.1 35).toInt (σ.2.1 36) (σ.2.1 37) (σ.2.1 40)) (hpre_3 : 0 ≤ k0.toInt) (hpre_4 : k0.toInt < (σ.1 35).toInt) : -1 ≤ k0.toInt ∧ k0.toInt < (σ.1 35).toInt ∧ ((1 : Int32).toInt = 0 ∨ (1 : Int32).toInt = 1) := by
  have q1 : (1 : Int32).toInt = 1 := by decide +kernel
  refine ⟨?_, ?_, ?_⟩ <;> first | assumption | omega | (subst_vars; omega) | trivial
-- bool@ret @174
theorem v_stands_6 (y7 : Int32) (hi41_2 : y7.toInt = 0 ∨ y7.toInt = 1) : y7 = 0 ∨ y7 = 1 := by
  first | exact Or.inl rfl | exact Or.inr rfl | exact bool_of (by omega)
-- nw@55 @55
theorem v_stands_7 (σ : RS) (k0 : Int32) (y8 : Int32) (x12 : Int32) (hpre_0 : 0 ≤ (σ.1 35).toInt) (hpre_1 : (σ.1 35).toInt ≤ 5) (hpre_2 : CLS (σ.1 35).toInt (σ.2.1 36) (σ.2.1 37) (σ.2.1 40)) (hpre_3 : 0 ≤ k0.toInt) (hpre_4 : k0.toInt < (σ.1 35).toInt) (hi41_0 : -1 ≤ y8.toInt) (hi41_1 : y8.toInt < (σ.1 35).toInt) (c10 : 0 ≤ y8.toInt) (ex12 : x12 = (6 : Int32) * y8) : x12.toInt = 6 * y8.toInt := by
  have q6 : (6 : Int32).toInt = 6 := by decide +kernel
  have w0 : (6 : Int32).toInt = 6 := by decide +kernel
  rw [ex12, z_mulc 6 w0 (by omega) (by omega)]
-- init@58 @58
theorem v_stands_8 (σ : RS) (k0 : Int32) (y7 : Int32) (y8 : Int32) (x12 : Int32) (hpre_0 : 0 ≤ (σ.1 35).toInt) (hpre_1 : (σ.1 35).toInt ≤ 5) (hpre_2 : CLS (σ.1 35).toInt (σ.2.1 36) (σ.2.1 37) (σ.2.1 40)) (hpre_3 : 0 ≤ k0.toInt) (hpre_4 : k0.toInt < (σ.1 35).toInt) (hi41_0 : -1 ≤ y8.toInt) (hi41_1 : y8.toInt < (σ.1 35).toInt) (hi41_2 : y7.toInt = 0 ∨ y7.toInt = 1) (c10 : 0 ≤ y8.toInt) (ex12 : x12 = (6 : Int32) * y8) (tx12 : x12.toInt = 6 * y8.toInt) : 6 * y8.toInt ≤ x12.toInt ∧ x12.toInt ≤ 6 * y8.toInt + 6 ∧ (y7.toInt = 0 ∨ y7.toInt = 1) := by
  have q6 : (6 : Int32).toInt = 6 := by decide +kernel
  refine ⟨?_, ?_, ?_⟩ <;> first | assumption | omega | (subst_vars; omega) | trivial
-- nw@64 @64
theorem v_stands_9 (σ : RS) (k0 : Int32) (y8 : Int32) (x12 : Int32) (y15 : Int32) (x16 : Int32) (hpre_0 : 0 ≤ (σ.1 35).toInt) (hpre_1 : (σ.1 35).toInt ≤ 5) (hpre_2 : CLS (σ.1 35).toInt (σ.2.1 36) (σ.2.1 37) (σ.2.1 40)) (hpre_3 : 0 ≤ k0.toInt) (hpre_4 : k0.toInt < (σ.1 35).toInt) (hi41_0 : -1 ≤ y8.toInt) (hi41_1 : y8.toInt < (σ.1 35).toInt) (c10 : 0 ≤ y8.toInt) (ex12 : x12 = (6 : Int32) * y8) (tx12 : x12.toInt = 6 * y8.toInt) (hi58_0 : 6 * y8.toInt ≤ y15.toInt) (hi58_1 : y15.toInt ≤ 6 * y8.toInt + 6) (ex16 : x16 = (6 : Int32) * y8) : x16.toInt = 6 * y8.toInt := by
  have q6 : (6 : Int32).toInt = 6 := by decide +kernel
  have w0 : (6 : Int32).toInt = 6 := by decide +kernel
  rw [ex16, z_mulc 6 w0 (by omega) (by omega)]
-- in@71 @71
theorem v_stands_10 (σ : RS) (k0 : Int32) (y8 : Int32) (x12 : Int32) (y15 : Int32) (x16 : Int32) (hpre_0 : 0 ≤ (σ.1 35).toInt) (hpre_1 : (σ.1 35).toInt ≤ 5) (hpre_2 : CLS (σ.1 35).toInt (σ.2.1 36) (σ.2.1 37) (σ.2.1 40)) (hpre_3 : 0 ≤ k0.toInt) (hpre_4 : k0.toInt < (σ.1 35).toInt) (hi41_0 : -1 ≤ y8.toInt) (hi41_1 : y8.toInt < (σ.1 35).toInt) (c10 : 0 ≤ y8.toInt) (ex12 : x12 = (6 : Int32) * y8) (tx12 : x12.toInt = 6 * y8.toInt) (hi58_0 : 6 * y8.toInt ≤ y15.toInt) (hi58_1 : y15.toInt ≤ 6 * y8.toInt + 6) (ex16 : x16 = (6 : Int32) * y8) (tx16 : x16.toInt = 6 * y8.toInt) : vp_in y8 5 := by
  have q6 : (6 : Int32).toInt = 6 := by decide +kernel
  exact vp_in_iff.mpr ⟨by omega, by omega⟩
-- nw@72 @72
theorem v_stands_11 (σ : RS) (k0 : Int32) (y8 : Int32) (x12 : Int32) (y15 : Int32) (x16 : Int32) (x17 : Int32) (x18 : Int32) (hpre_0 : 0 ≤ (σ.1 35).toInt) (hpre_1 : (σ.1 35).toInt ≤ 5) (hpre_2 : CLS (σ.1 35).toInt (σ.2.1 36) (σ.2.1 37) (σ.2.1 40)) (hpre_3 : 0 ≤ k0.toInt) (hpre_4 : k0.toInt < (σ.1 35).toInt) (hi41_0 : -1 ≤ y8.toInt) (hi41_1 : y8.toInt < (σ.1 35).toInt) (c10 : 0 ≤ y8.toInt) (ex12 : x12 = (6 : Int32) * y8) (tx12 : x12.toInt = 6 * y8.toInt) (hi58_0 : 6 * y8.toInt ≤ y15.toInt) (hi58_1 : y15.toInt ≤ 6 * y8.toInt + 6) (ex16 : x16 = (6 : Int32) * y8) (tx16 : x16.toInt = 6 * y8.toInt) (ex17 : x17 = (σ.2.1 40) y8.toNatClampNeg) (tx17 : x17.toInt = ((σ.2.1 40) y8.toNatClampNeg).toInt) (ex18 : x18 = x16 + x17) : x18.toInt = x16.toInt + x17.toInt := by
  have q6 : (6 : Int32).toInt = 6 := by decide +kernel
  have cl_x17 := hpre_2 y8.toNatClampNeg (by rw [clampZ (by omega)]; omega)
  rw [ex18, z_add (by omega) (by omega)]; first | done | omega
-- in@166 @166
theorem v_stands_12 (σ : RS) (k0 : Int32) (y8 : Int32) (x12 : Int32) (y15 : Int32) (x16 : Int32) (x17 : Int32) (x18 : Int32) (hpre_0 : 0 ≤ (σ.1 35).toInt) (hpre_1 : (σ.1 35).toInt ≤ 5) (hpre_2 : CLS (σ.1 35).toInt (σ.2.1 36) (σ.2.1 37) (σ.2.1 40)) (hpre_3 : 0 ≤ k0.toInt) (hpre_4 : k0.toInt < (σ.1 35).toInt) (hi41_0 : -1 ≤ y8.toInt) (hi41_1 : y8.toInt < (σ.1 35).toInt) (c10 : 0 ≤ y8.toInt) (ex12 : x12 = (6 : Int32) * y8) (tx12 : x12.toInt = 6 * y8.toInt) (hi58_0 : 6 * y8.toInt ≤ y15.toInt) (hi58_1 : y15.toInt ≤ 6 * y8.toInt + 6) (ex16 : x16 = (6 : Int32) * y8) (tx16 : x16.toInt = 6 * y8.toInt) (ex17 : x17 = (σ.2.1 40) y8.toNatClampNeg) (tx17 : x17.toInt = ((σ.2.1 40) y8.toNatClampNeg).toInt) (ex18 : x18 = x16 + x17) (tx18 : x18.toInt = x16.toInt + x17.toInt) (c19 : x18.toInt ≤ y15.toInt) : vp_in y8 5 := by
  have q6 : (6 : Int32).toInt = 6 := by decide +kernel
  have cl_x17 := hpre_2 y8.toNatClampNeg (by rw [clampZ (by omega)]; omega)
  exact vp_in_iff.mpr ⟨by omega, by omega⟩
-- inv@41 @41
theorem v_stands_13 (σ : RS) (k0 : Int32) (y8 : Int32) (x12 : Int32) (y13 : Int32) (y15 : Int32) (x16 : Int32) (x17 : Int32) (x18 : Int32) (x20 : Int32) (hpre_0 : 0 ≤ (σ.1 35).toInt) (hpre_1 : (σ.1 35).toInt ≤ 5) (hpre_2 : CLS (σ.1 35).toInt (σ.2.1 36) (σ.2.1 37) (σ.2.1 40)) (hpre_3 : 0 ≤ k0.toInt) (hpre_4 : k0.toInt < (σ.1 35).toInt) (hi41_0 : -1 ≤ y8.toInt) (hi41_1 : y8.toInt < (σ.1 35).toInt) (c10 : 0 ≤ y8.toInt) (ex12 : x12 = (6 : Int32) * y8) (tx12 : x12.toInt = 6 * y8.toInt) (hi58_0 : 6 * y8.toInt ≤ y15.toInt) (hi58_1 : y15.toInt ≤ 6 * y8.toInt + 6) (hi58_2 : y13.toInt = 0 ∨ y13.toInt = 1) (ex16 : x16 = (6 : Int32) * y8) (tx16 : x16.toInt = 6 * y8.toInt) (ex17 : x17 = (σ.2.1 40) y8.toNatClampNeg) (tx17 : x17.toInt = ((σ.2.1 40) y8.toNatClampNeg).toInt) (ex18 : x18 = x16 + x17) (tx18 : x18.toInt = x16.toInt + x17.toInt) (c19 : x18.toInt ≤ y15.toInt) (ex20 : x20 = (σ.2.1 36) y8.toNatClampNeg) (tx20 : x20.toInt = ((σ.2.1 36) y8.toNatClampNeg).toInt) : -1 ≤ x20.toInt ∧ x20.toInt < (σ.1 35).toInt ∧ (y13.toInt = 0 ∨ y13.toInt = 1) := by
  have q6 : (6 : Int32).toInt = 6 := by decide +kernel
  have cl_x20 := hpre_2 y8.toNatClampNeg (by rw [clampZ (by omega)]; omega)
  rw [clampZ (by omega)] at cl_x20
  have cl_x17 := hpre_2 y8.toNatClampNeg (by rw [clampZ (by omega)]; omega)
  refine ⟨?_, ?_, ?_⟩ <;> first | assumption | omega | (subst_vars; omega) | trivial
-- meas@41 @41
theorem v_stands_14 (σ : RS) (k0 : Int32) (y8 : Int32) (x12 : Int32) (y15 : Int32) (x16 : Int32) (x17 : Int32) (x18 : Int32) (x20 : Int32) (hpre_0 : 0 ≤ (σ.1 35).toInt) (hpre_1 : (σ.1 35).toInt ≤ 5) (hpre_2 : CLS (σ.1 35).toInt (σ.2.1 36) (σ.2.1 37) (σ.2.1 40)) (hpre_3 : 0 ≤ k0.toInt) (hpre_4 : k0.toInt < (σ.1 35).toInt) (hi41_0 : -1 ≤ y8.toInt) (hi41_1 : y8.toInt < (σ.1 35).toInt) (c10 : 0 ≤ y8.toInt) (ex12 : x12 = (6 : Int32) * y8) (tx12 : x12.toInt = 6 * y8.toInt) (hi58_0 : 6 * y8.toInt ≤ y15.toInt) (hi58_1 : y15.toInt ≤ 6 * y8.toInt + 6) (ex16 : x16 = (6 : Int32) * y8) (tx16 : x16.toInt = 6 * y8.toInt) (ex17 : x17 = (σ.2.1 40) y8.toNatClampNeg) (tx17 : x17.toInt = ((σ.2.1 40) y8.toNatClampNeg).toInt) (ex18 : x18 = x16 + x17) (tx18 : x18.toInt = x16.toInt + x17.toInt) (c19 : x18.toInt ≤ y15.toInt) (ex20 : x20 = (σ.2.1 36) y8.toNatClampNeg) (tx20 : x20.toInt = ((σ.2.1 36) y8.toNatClampNeg).toInt) : (x20.toInt + 1).toNat < (y8.toInt + 1).toNat := by
  have q6 : (6 : Int32).toInt = 6 := by decide +kernel
  have cl_x20 := hpre_2 y8.toNatClampNeg (by rw [clampZ (by omega)]; omega)
  rw [clampZ (by omega)] at cl_x20
  have cl_x17 := hpre_2 y8.toNatClampNeg (by rw [clampZ (by omega)]; omega)
  first | assumption | omega | (subst_vars; omega) | trivial
-- in@166 @166
theorem v_stands_15 (σ : RS) (k0 : Int32) (y8 : Int32) (x12 : Int32) (y15 : Int32) (x16 : Int32) (x17 : Int32) (x18 : Int32) (hpre_0 : 0 ≤ (σ.1 35).toInt) (hpre_1 : (σ.1 35).toInt ≤ 5) (hpre_2 : CLS (σ.1 35).toInt (σ.2.1 36) (σ.2.1 37) (σ.2.1 40)) (hpre_3 : 0 ≤ k0.toInt) (hpre_4 : k0.toInt < (σ.1 35).toInt) (hi41_0 : -1 ≤ y8.toInt) (hi41_1 : y8.toInt < (σ.1 35).toInt) (c10 : 0 ≤ y8.toInt) (ex12 : x12 = (6 : Int32) * y8) (tx12 : x12.toInt = 6 * y8.toInt) (hi58_0 : 6 * y8.toInt ≤ y15.toInt) (hi58_1 : y15.toInt ≤ 6 * y8.toInt + 6) (ex16 : x16 = (6 : Int32) * y8) (tx16 : x16.toInt = 6 * y8.toInt) (ex17 : x17 = (σ.2.1 40) y8.toNatClampNeg) (tx17 : x17.toInt = ((σ.2.1 40) y8.toNatClampNeg).toInt) (ex18 : x18 = x16 + x17) (tx18 : x18.toInt = x16.toInt + x17.toInt) (c19 : y15.toInt < x18.toInt) : vp_in y8 5 := by
  have q6 : (6 : Int32).toInt = 6 := by decide +kernel
  have cl_x17 := hpre_2 y8.toNatClampNeg (by rw [clampZ (by omega)]; omega)
  exact vp_in_iff.mpr ⟨by omega, by omega⟩
-- inv@41 @41
theorem v_stands_16 (σ : RS) (k0 : Int32) (y8 : Int32) (x12 : Int32) (y13 : Int32) (y15 : Int32) (x16 : Int32) (x17 : Int32) (x18 : Int32) (x22 : Int32) (hpre_0 : 0 ≤ (σ.1 35).toInt) (hpre_1 : (σ.1 35).toInt ≤ 5) (hpre_2 : CLS (σ.1 35).toInt (σ.2.1 36) (σ.2.1 37) (σ.2.1 40)) (hpre_3 : 0 ≤ k0.toInt) (hpre_4 : k0.toInt < (σ.1 35).toInt) (hi41_0 : -1 ≤ y8.toInt) (hi41_1 : y8.toInt < (σ.1 35).toInt) (c10 : 0 ≤ y8.toInt) (ex12 : x12 = (6 : Int32) * y8) (tx12 : x12.toInt = 6 * y8.toInt) (hi58_0 : 6 * y8.toInt ≤ y15.toInt) (hi58_1 : y15.toInt ≤ 6 * y8.toInt + 6) (hi58_2 : y13.toInt = 0 ∨ y13.toInt = 1) (ex16 : x16 = (6 : Int32) * y8) (tx16 : x16.toInt = 6 * y8.toInt) (ex17 : x17 = (σ.2.1 40) y8.toNatClampNeg) (tx17 : x17.toInt = ((σ.2.1 40) y8.toNatClampNeg).toInt) (ex18 : x18 = x16 + x17) (tx18 : x18.toInt = x16.toInt + x17.toInt) (c19 : y15.toInt < x18.toInt) (ex22 : x22 = (σ.2.1 36) y8.toNatClampNeg) (tx22 : x22.toInt = ((σ.2.1 36) y8.toNatClampNeg).toInt) : -1 ≤ x22.toInt ∧ x22.toInt < (σ.1 35).toInt ∧ (y13.toInt = 0 ∨ y13.toInt = 1) := by
  have q6 : (6 : Int32).toInt = 6 := by decide +kernel
  have cl_x22 := hpre_2 y8.toNatClampNeg (by rw [clampZ (by omega)]; omega)
  rw [clampZ (by omega)] at cl_x22
  have cl_x17 := hpre_2 y8.toNatClampNeg (by rw [clampZ (by omega)]; omega)
  refine ⟨?_, ?_, ?_⟩ <;> first | assumption | omega | (subst_vars; omega) | trivial
-- meas@41 @41
theorem v_stands_17 (σ : RS) (k0 : Int32) (y8 : Int32) (x12 : Int32) (y15 : Int32) (x16 : Int32) (x17 : Int32) (x18 : Int32) (x22 : Int32) (hpre_0 : 0 ≤ (σ.1 35).toInt) (hpre_1 : (σ.1 35).toInt ≤ 5) (hpre_2 : CLS (σ.1 35).toInt (σ.2.1 36) (σ.2.1 37) (σ.2.1 40)) (hpre_3 : 0 ≤ k0.toInt) (hpre_4 : k0.toInt < (σ.1 35).toInt) (hi41_0 : -1 ≤ y8.toInt) (hi41_1 : y8.toInt < (σ.1 35).toInt) (c10 : 0 ≤ y8.toInt) (ex12 : x12 = (6 : Int32) * y8) (tx12 : x12.toInt = 6 * y8.toInt) (hi58_0 : 6 * y8.toInt ≤ y15.toInt) (hi58_1 : y15.toInt ≤ 6 * y8.toInt + 6) (ex16 : x16 = (6 : Int32) * y8) (tx16 : x16.toInt = 6 * y8.toInt) (ex17 : x17 = (σ.2.1 40) y8.toNatClampNeg) (tx17 : x17.toInt = ((σ.2.1 40) y8.toNatClampNeg).toInt) (ex18 : x18 = x16 + x17) (tx18 : x18.toInt = x16.toInt + x17.toInt) (c19 : y15.toInt < x18.toInt) (ex22 : x22 = (σ.2.1 36) y8.toNatClampNeg) (tx22 : x22.toInt = ((σ.2.1 36) y8.toNatClampNeg).toInt) : (x22.toInt + 1).toNat < (y8.toInt + 1).toNat := by
  have q6 : (6 : Int32).toInt = 6 := by decide +kernel
  have cl_x22 := hpre_2 y8.toNatClampNeg (by rw [clampZ (by omega)]; omega)
  rw [clampZ (by omega)] at cl_x22
  have cl_x17 := hpre_2 y8.toNatClampNeg (by rw [clampZ (by omega)]; omega)
  first | assumption | omega | (subst_vars; omega) | trivial
-- nw@154 @154
theorem v_stands_18 (σ : RS) (k0 : Int32) (k1 : Int32) (k2 : Int32) (x1 : Int32) (x3 : Int32) (x4 : Int32) (y8 : Int32) (x12 : Int32) (y15 : Int32) (x16 : Int32) (x17 : Int32) (x18 : Int32) (x25 : Int32) (hpre_0 : 0 ≤ (σ.1 35).toInt) (hpre_1 : (σ.1 35).toInt ≤ 5) (hpre_2 : CLS (σ.1 35).toInt (σ.2.1 36) (σ.2.1 37) (σ.2.1 40)) (hpre_3 : 0 ≤ k0.toInt) (hpre_4 : k0.toInt < (σ.1 35).toInt) (hpre_5 : 0 ≤ k1.toInt) (hpre_6 : k1.toInt < 30) (ex1 : x1 = (σ.2.1 41) k1.toNatClampNeg) (tx1 : x1.toInt = ((σ.2.1 41) k1.toNatClampNeg).toInt) (c2 : x1.toInt = k2.toInt) (ex3 : x3 = (σ.2.1 42) k1.toNatClampNeg) (tx3 : x3.toInt = ((σ.2.1 42) k1.toNatClampNeg).toInt) (ex4 : x4 = (σ.2.1 43) k1.toNatClampNeg) (tx4 : x4.toInt = ((σ.2.1 43) k1.toNatClampNeg).toInt) (hi41_0 : -1 ≤ y8.toInt) (hi41_1 : y8.toInt < (σ.1 35).toInt) (c10 : 0 ≤ y8.toInt) (ex12 : x12 = (6 : Int32) * y8) (tx12 : x12.toInt = 6 * y8.toInt) (hi58_0 : 6 * y8.toInt ≤ y15.toInt) (hi58_1 : y15.toInt ≤ 6 * y8.toInt + 6) (ex16 : x16 = (6 : Int32) * y8) (tx16 : x16.toInt = 6 * y8.toInt) (ex17 : x17 = (σ.2.1 40) y8.toNatClampNeg) (tx17 : x17.toInt = ((σ.2.1 40) y8.toNatClampNeg).toInt) (ex18 : x18 = x16 + x17) (tx18 : x18.toInt = x16.toInt + x17.toInt) (c19 : y15.toInt < x18.toInt) (c23 : y15.toInt = k1.toInt) (ex25 : x25 = y15 + (1 : Int32)) : x25.toInt = y15.toInt + 1 := by
  have q1 : (1 : Int32).toInt = 1 := by decide +kernel
  have q6 : (6 : Int32).toInt = 6 := by decide +kernel
  have cl_x17 := hpre_2 y8.toNatClampNeg (by rw [clampZ (by omega)]; omega)
  have z9 : (1 : Int32).toInt = 1 := by decide +kernel
  rw [ex25, z_add (by omega) (by omega)]; first | done | omega
-- inv@58 @58
theorem v_stands_19 (σ : RS) (k0 : Int32) (k1 : Int32) (k2 : Int32) (x1 : Int32) (x3 : Int32) (x4 : Int32) (y8 : Int32) (x12 : Int32) (y15 : Int32) (x16 : Int32) (x17 : Int32) (x18 : Int32) (x25 : Int32) (hpre_0 : 0 ≤ (σ.1 35).toInt) (hpre_1 : (σ.1 35).toInt ≤ 5) (hpre_2 : CLS (σ.1 35).toInt (σ.2.1 36) (σ.2.1 37) (σ.2.1 40)) (hpre_3 : 0 ≤ k0.toInt) (hpre_4 : k0.toInt < (σ.1 35).toInt) (hpre_5 : 0 ≤ k1.toInt) (hpre_6 : k1.toInt < 30) (ex1 : x1 = (σ.2.1 41) k1.toNatClampNeg) (tx1 : x1.toInt = ((σ.2.1 41) k1.toNatClampNeg).toInt) (c2 : x1.toInt = k2.toInt) (ex3 : x3 = (σ.2.1 42) k1.toNatClampNeg) (tx3 : x3.toInt = ((σ.2.1 42) k1.toNatClampNeg).toInt) (ex4 : x4 = (σ.2.1 43) k1.toNatClampNeg) (tx4 : x4.toInt = ((σ.2.1 43) k1.toNatClampNeg).toInt) (hi41_0 : -1 ≤ y8.toInt) (hi41_1 : y8.toInt < (σ.1 35).toInt) (c10 : 0 ≤ y8.toInt) (ex12 : x12 = (6 : Int32) * y8) (tx12 : x12.toInt = 6 * y8.toInt) (hi58_0 : 6 * y8.toInt ≤ y15.toInt) (hi58_1 : y15.toInt ≤ 6 * y8.toInt + 6) (ex16 : x16 = (6 : Int32) * y8) (tx16 : x16.toInt = 6 * y8.toInt) (ex17 : x17 = (σ.2.1 40) y8.toNatClampNeg) (tx17 : x17.toInt = ((σ.2.1 40) y8.toNatClampNeg).toInt) (ex18 : x18 = x16 + x17) (tx18 : x18.toInt = x16.toInt + x17.toInt) (c19 : y15.toInt < x18.toInt) (c23 : y15.toInt = k1.toInt) (ex25 : x25 = y15 + (1 : Int32)) (tx25 : x25.toInt = y15.toInt + 1) : 6 * y8.toInt ≤ x25.toInt ∧ x25.toInt ≤ 6 * y8.toInt + 6 ∧ ((0 : Int32).toInt = 0 ∨ (0 : Int32).toInt = 1) := by
  have q0 : (0 : Int32).toInt = 0 := by decide +kernel
  have q1 : (1 : Int32).toInt = 1 := by decide +kernel
  have q6 : (6 : Int32).toInt = 6 := by decide +kernel
  have cl_x17 := hpre_2 y8.toNatClampNeg (by rw [clampZ (by omega)]; omega)
  refine ⟨?_, ?_, ?_⟩ <;> first | assumption | omega | (subst_vars; omega) | trivial
-- meas@58 @58
theorem v_stands_20 (σ : RS) (k0 : Int32) (k1 : Int32) (k2 : Int32) (x1 : Int32) (x3 : Int32) (x4 : Int32) (y8 : Int32) (x12 : Int32) (y15 : Int32) (x16 : Int32) (x17 : Int32) (x18 : Int32) (x25 : Int32) (hpre_0 : 0 ≤ (σ.1 35).toInt) (hpre_1 : (σ.1 35).toInt ≤ 5) (hpre_2 : CLS (σ.1 35).toInt (σ.2.1 36) (σ.2.1 37) (σ.2.1 40)) (hpre_3 : 0 ≤ k0.toInt) (hpre_4 : k0.toInt < (σ.1 35).toInt) (hpre_5 : 0 ≤ k1.toInt) (hpre_6 : k1.toInt < 30) (ex1 : x1 = (σ.2.1 41) k1.toNatClampNeg) (tx1 : x1.toInt = ((σ.2.1 41) k1.toNatClampNeg).toInt) (c2 : x1.toInt = k2.toInt) (ex3 : x3 = (σ.2.1 42) k1.toNatClampNeg) (tx3 : x3.toInt = ((σ.2.1 42) k1.toNatClampNeg).toInt) (ex4 : x4 = (σ.2.1 43) k1.toNatClampNeg) (tx4 : x4.toInt = ((σ.2.1 43) k1.toNatClampNeg).toInt) (hi41_0 : -1 ≤ y8.toInt) (hi41_1 : y8.toInt < (σ.1 35).toInt) (c10 : 0 ≤ y8.toInt) (ex12 : x12 = (6 : Int32) * y8) (tx12 : x12.toInt = 6 * y8.toInt) (hi58_0 : 6 * y8.toInt ≤ y15.toInt) (hi58_1 : y15.toInt ≤ 6 * y8.toInt + 6) (ex16 : x16 = (6 : Int32) * y8) (tx16 : x16.toInt = 6 * y8.toInt) (ex17 : x17 = (σ.2.1 40) y8.toNatClampNeg) (tx17 : x17.toInt = ((σ.2.1 40) y8.toNatClampNeg).toInt) (ex18 : x18 = x16 + x17) (tx18 : x18.toInt = x16.toInt + x17.toInt) (c19 : y15.toInt < x18.toInt) (c23 : y15.toInt = k1.toInt) (ex25 : x25 = y15 + (1 : Int32)) (tx25 : x25.toInt = y15.toInt + 1) : (6 * y8.toInt + 6 - x25.toInt).toNat < (6 * y8.toInt + 6 - y15.toInt).toNat := by
  have q1 : (1 : Int32).toInt = 1 := by decide +kernel
  have q6 : (6 : Int32).toInt = 6 := by decide +kernel
  have cl_x17 := hpre_2 y8.toNatClampNeg (by rw [clampZ (by omega)]; omega)
  first | assumption | omega | (subst_vars; omega) | trivial
-- nw@154 @154
theorem v_stands_21 (σ : RS) (k0 : Int32) (k1 : Int32) (k2 : Int32) (x1 : Int32) (x3 : Int32) (x4 : Int32) (y8 : Int32) (x12 : Int32) (y15 : Int32) (x16 : Int32) (x17 : Int32) (x18 : Int32) (x27 : Int32) (hpre_0 : 0 ≤ (σ.1 35).toInt) (hpre_1 : (σ.1 35).toInt ≤ 5) (hpre_2 : CLS (σ.1 35).toInt (σ.2.1 36) (σ.2.1 37) (σ.2.1 40)) (hpre_3 : 0 ≤ k0.toInt) (hpre_4 : k0.toInt < (σ.1 35).toInt) (hpre_5 : 0 ≤ k1.toInt) (hpre_6 : k1.toInt < 30) (ex1 : x1 = (σ.2.1 41) k1.toNatClampNeg) (tx1 : x1.toInt = ((σ.2.1 41) k1.toNatClampNeg).toInt) (c2 : x1.toInt = k2.toInt) (ex3 : x3 = (σ.2.1 42) k1.toNatClampNeg) (tx3 : x3.toInt = ((σ.2.1 42) k1.toNatClampNeg).toInt) (ex4 : x4 = (σ.2.1 43) k1.toNatClampNeg) (tx4 : x4.toInt = ((σ.2.1 43) k1.toNatClampNeg).toInt) (hi41_0 : -1 ≤ y8.toInt) (hi41_1 : y8.toInt < (σ.1 35).toInt) (c10 : 0 ≤ y8.toInt) (ex12 : x12 = (6 : Int32) * y8) (tx12 : x12.toInt = 6 * y8.toInt) (hi58_0 : 6 * y8.toInt ≤ y15.toInt) (hi58_1 : y15.toInt ≤ 6 * y8.toInt + 6) (ex16 : x16 = (6 : Int32) * y8) (tx16 : x16.toInt = 6 * y8.toInt) (ex17 : x17 = (σ.2.1 40) y8.toNatClampNeg) (tx17 : x17.toInt = ((σ.2.1 40) y8.toNatClampNeg).toInt) (ex18 : x18 = x16 + x17) (tx18 : x18.toInt = x16.toInt + x17.toInt) (c19 : y15.toInt < x18.toInt) (c23 : y15.toInt = k1.toInt) (ex27 : x27 = y15 + (1 : Int32)) : x27.toInt = y15.toInt + 1 := by
  have q1 : (1 : Int32).toInt = 1 := by decide +kernel
  have q6 : (6 : Int32).toInt = 6 := by decide +kernel
  have cl_x17 := hpre_2 y8.toNatClampNeg (by rw [clampZ (by omega)]; omega)
  have z9 : (1 : Int32).toInt = 1 := by decide +kernel
  rw [ex27, z_add (by omega) (by omega)]; first | done | omega
-- inv@58 @58
theorem v_stands_22 (σ : RS) (k0 : Int32) (k1 : Int32) (k2 : Int32) (x1 : Int32) (x3 : Int32) (x4 : Int32) (y8 : Int32) (x12 : Int32) (y15 : Int32) (x16 : Int32) (x17 : Int32) (x18 : Int32) (x27 : Int32) (hpre_0 : 0 ≤ (σ.1 35).toInt) (hpre_1 : (σ.1 35).toInt ≤ 5) (hpre_2 : CLS (σ.1 35).toInt (σ.2.1 36) (σ.2.1 37) (σ.2.1 40)) (hpre_3 : 0 ≤ k0.toInt) (hpre_4 : k0.toInt < (σ.1 35).toInt) (hpre_5 : 0 ≤ k1.toInt) (hpre_6 : k1.toInt < 30) (ex1 : x1 = (σ.2.1 41) k1.toNatClampNeg) (tx1 : x1.toInt = ((σ.2.1 41) k1.toNatClampNeg).toInt) (c2 : x1.toInt = k2.toInt) (ex3 : x3 = (σ.2.1 42) k1.toNatClampNeg) (tx3 : x3.toInt = ((σ.2.1 42) k1.toNatClampNeg).toInt) (ex4 : x4 = (σ.2.1 43) k1.toNatClampNeg) (tx4 : x4.toInt = ((σ.2.1 43) k1.toNatClampNeg).toInt) (hi41_0 : -1 ≤ y8.toInt) (hi41_1 : y8.toInt < (σ.1 35).toInt) (c10 : 0 ≤ y8.toInt) (ex12 : x12 = (6 : Int32) * y8) (tx12 : x12.toInt = 6 * y8.toInt) (hi58_0 : 6 * y8.toInt ≤ y15.toInt) (hi58_1 : y15.toInt ≤ 6 * y8.toInt + 6) (ex16 : x16 = (6 : Int32) * y8) (tx16 : x16.toInt = 6 * y8.toInt) (ex17 : x17 = (σ.2.1 40) y8.toNatClampNeg) (tx17 : x17.toInt = ((σ.2.1 40) y8.toNatClampNeg).toInt) (ex18 : x18 = x16 + x17) (tx18 : x18.toInt = x16.toInt + x17.toInt) (c19 : y15.toInt < x18.toInt) (c23 : y15.toInt = k1.toInt) (ex27 : x27 = y15 + (1 : Int32)) (tx27 : x27.toInt = y15.toInt + 1) : 6 * y8.toInt ≤ x27.toInt ∧ x27.toInt ≤ 6 * y8.toInt + 6 ∧ ((1 : Int32).toInt = 0 ∨ (1 : Int32).toInt = 1) := by
  have q1 : (1 : Int32).toInt = 1 := by decide +kernel
  have q6 : (6 : Int32).toInt = 6 := by decide +kernel
  have cl_x17 := hpre_2 y8.toNatClampNeg (by rw [clampZ (by omega)]; omega)
  refine ⟨?_, ?_, ?_⟩ <;> first | assumption | omega | (subst_vars; omega) | trivial
-- meas@58 @58
theorem v_stands_23 (σ : RS) (k0 : Int32) (k1 : Int32) (k2 : Int32) (x1 : Int32) (x3 : Int32) (x4 : Int32) (y8 : Int32) (x12 : Int32) (y15 : Int32) (x16 : Int32) (x17 : Int32) (x18 : Int32) (x27 : Int32) (hpre_0 : 0 ≤ (σ.1 35).toInt) (hpre_1 : (σ.1 35).toInt ≤ 5) (hpre_2 : CLS (σ.1 35).toInt (σ.2.1 36) (σ.2.1 37) (σ.2.1 40)) (hpre_3 : 0 ≤ k0.toInt) (hpre_4 : k0.toInt < (σ.1 35).toInt) (hpre_5 : 0 ≤ k1.toInt) (hpre_6 : k1.toInt < 30) (ex1 : x1 = (σ.2.1 41) k1.toNatClampNeg) (tx1 : x1.toInt = ((σ.2.1 41) k1.toNatClampNeg).toInt) (c2 : x1.toInt = k2.toInt) (ex3 : x3 = (σ.2.1 42) k1.toNatClampNeg) (tx3 : x3.toInt = ((σ.2.1 42) k1.toNatClampNeg).toInt) (ex4 : x4 = (σ.2.1 43) k1.toNatClampNeg) (tx4 : x4.toInt = ((σ.2.1 43) k1.toNatClampNeg).toInt) (hi41_0 : -1 ≤ y8.toInt) (hi41_1 : y8.toInt < (σ.1 35).toInt) (c10 : 0 ≤ y8.toInt) (ex12 : x12 = (6 : Int32) * y8) (tx12 : x12.toInt = 6 * y8.toInt) (hi58_0 : 6 * y8.toInt ≤ y15.toInt) (hi58_1 : y15.toInt ≤ 6 * y8.toInt + 6) (ex16 : x16 = (6 : Int32) * y8) (tx16 : x16.toInt = 6 * y8.toInt) (ex17 : x17 = (σ.2.1 40) y8.toNatClampNeg) (tx17 : x17.toInt = ((σ.2.1 40) y8.toNatClampNeg).toInt) (ex18 : x18 = x16 + x17) (tx18 : x18.toInt = x16.toInt + x17.toInt) (c19 : y15.toInt < x18.toInt) (c23 : y15.toInt = k1.toInt) (ex27 : x27 = y15 + (1 : Int32)) (tx27 : x27.toInt = y15.toInt + 1) : (6 * y8.toInt + 6 - x27.toInt).toNat < (6 * y8.toInt + 6 - y15.toInt).toNat := by
  have q1 : (1 : Int32).toInt = 1 := by decide +kernel
  have q6 : (6 : Int32).toInt = 6 := by decide +kernel
  have cl_x17 := hpre_2 y8.toNatClampNeg (by rw [clampZ (by omega)]; omega)
  first | assumption | omega | (subst_vars; omega) | trivial
-- nw@154 @154
theorem v_stands_24 (σ : RS) (k0 : Int32) (k1 : Int32) (k2 : Int32) (x1 : Int32) (x3 : Int32) (x4 : Int32) (y8 : Int32) (x12 : Int32) (y15 : Int32) (x16 : Int32) (x17 : Int32) (x18 : Int32) (x29 : Int32) (hpre_0 : 0 ≤ (σ.1 35).toInt) (hpre_1 : (σ.1 35).toInt ≤ 5) (hpre_2 : CLS (σ.1 35).toInt (σ.2.1 36) (σ.2.1 37) (σ.2.1 40)) (hpre_3 : 0 ≤ k0.toInt) (hpre_4 : k0.toInt < (σ.1 35).toInt) (hpre_5 : 0 ≤ k1.toInt) (hpre_6 : k1.toInt < 30) (ex1 : x1 = (σ.2.1 41) k1.toNatClampNeg) (tx1 : x1.toInt = ((σ.2.1 41) k1.toNatClampNeg).toInt) (c2 : x1.toInt = k2.toInt) (ex3 : x3 = (σ.2.1 42) k1.toNatClampNeg) (tx3 : x3.toInt = ((σ.2.1 42) k1.toNatClampNeg).toInt) (ex4 : x4 = (σ.2.1 43) k1.toNatClampNeg) (tx4 : x4.toInt = ((σ.2.1 43) k1.toNatClampNeg).toInt) (hi41_0 : -1 ≤ y8.toInt) (hi41_1 : y8.toInt < (σ.1 35).toInt) (c10 : 0 ≤ y8.toInt) (ex12 : x12 = (6 : Int32) * y8) (tx12 : x12.toInt = 6 * y8.toInt) (hi58_0 : 6 * y8.toInt ≤ y15.toInt) (hi58_1 : y15.toInt ≤ 6 * y8.toInt + 6) (ex16 : x16 = (6 : Int32) * y8) (tx16 : x16.toInt = 6 * y8.toInt) (ex17 : x17 = (σ.2.1 40) y8.toNatClampNeg) (tx17 : x17.toInt = ((σ.2.1 40) y8.toNatClampNeg).toInt) (ex18 : x18 = x16 + x17) (tx18 : x18.toInt = x16.toInt + x17.toInt) (c19 : y15.toInt < x18.toInt) (c23 : ¬ y15.toInt = k1.toInt) (ex29 : x29 = y15 + (1 : Int32)) : x29.toInt = y15.toInt + 1 := by
  have q1 : (1 : Int32).toInt = 1 := by decide +kernel
  have q6 : (6 : Int32).toInt = 6 := by decide +kernel
  have cl_x17 := hpre_2 y8.toNatClampNeg (by rw [clampZ (by omega)]; omega)
  have z9 : (1 : Int32).toInt = 1 := by decide +kernel
  rw [ex29, z_add (by omega) (by omega)]; first | done | omega
-- inv@58 @58
theorem v_stands_25 (σ : RS) (k0 : Int32) (k1 : Int32) (k2 : Int32) (x1 : Int32) (x3 : Int32) (x4 : Int32) (y8 : Int32) (x12 : Int32) (y15 : Int32) (x16 : Int32) (x17 : Int32) (x18 : Int32) (x29 : Int32) (hpre_0 : 0 ≤ (σ.1 35).toInt) (hpre_1 : (σ.1 35).toInt ≤ 5) (hpre_2 : CLS (σ.1 35).toInt (σ.2.1 36) (σ.2.1 37) (σ.2.1 40)) (hpre_3 : 0 ≤ k0.toInt) (hpre_4 : k0.toInt < (σ.1 35).toInt) (hpre_5 : 0 ≤ k1.toInt) (hpre_6 : k1.toInt < 30) (ex1 : x1 = (σ.2.1 41) k1.toNatClampNeg) (tx1 : x1.toInt = ((σ.2.1 41) k1.toNatClampNeg).toInt) (c2 : x1.toInt = k2.toInt) (ex3 : x3 = (σ.2.1 42) k1.toNatClampNeg) (tx3 : x3.toInt = ((σ.2.1 42) k1.toNatClampNeg).toInt) (ex4 : x4 = (σ.2.1 43) k1.toNatClampNeg) (tx4 : x4.toInt = ((σ.2.1 43) k1.toNatClampNeg).toInt) (hi41_0 : -1 ≤ y8.toInt) (hi41_1 : y8.toInt < (σ.1 35).toInt) (c10 : 0 ≤ y8.toInt) (ex12 : x12 = (6 : Int32) * y8) (tx12 : x12.toInt = 6 * y8.toInt) (hi58_0 : 6 * y8.toInt ≤ y15.toInt) (hi58_1 : y15.toInt ≤ 6 * y8.toInt + 6) (ex16 : x16 = (6 : Int32) * y8) (tx16 : x16.toInt = 6 * y8.toInt) (ex17 : x17 = (σ.2.1 40) y8.toNatClampNeg) (tx17 : x17.toInt = ((σ.2.1 40) y8.toNatClampNeg).toInt) (ex18 : x18 = x16 + x17) (tx18 : x18.toInt = x16.toInt + x17.toInt) (c19 : y15.toInt < x18.toInt) (c23 : ¬ y15.toInt = k1.toInt) (ex29 : x29 = y15 + (1 : Int32)) (tx29 : x29.toInt = y15.toInt + 1) : 6 * y8.toInt ≤ x29.toInt ∧ x29.toInt ≤ 6 * y8.toInt + 6 ∧ ((0 : Int32).toInt = 0 ∨ (0 : Int32).toInt = 1) := by
  have q0 : (0 : Int32).toInt = 0 := by decide +kernel
  have q1 : (1 : Int32).toInt = 1 := by decide +kernel
  have q6 : (6 : Int32).toInt = 6 := by decide +kernel
  have cl_x17 := hpre_2 y8.toNatClampNeg (by rw [clampZ (by omega)]; omega)
  refine ⟨?_, ?_, ?_⟩ <;> first | assumption | omega | (subst_vars; omega) | trivial
-- meas@58 @58
theorem v_stands_26 (σ : RS) (k0 : Int32) (k1 : Int32) (k2 : Int32) (x1 : Int32) (x3 : Int32) (x4 : Int32) (y8 : Int32) (x12 : Int32) (y15 : Int32) (x16 : Int32) (x17 : Int32) (x18 : Int32) (x29 : Int32) (hpre_0 : 0 ≤ (σ.1 35).toInt) (hpre_1 : (σ.1 35).toInt ≤ 5) (hpre_2 : CLS (σ.1 35).toInt (σ.2.1 36) (σ.2.1 37) (σ.2.1 40)) (hpre_3 : 0 ≤ k0.toInt) (hpre_4 : k0.toInt < (σ.1 35).toInt) (hpre_5 : 0 ≤ k1.toInt) (hpre_6 : k1.toInt < 30) (ex1 : x1 = (σ.2.1 41) k1.toNatClampNeg) (tx1 : x1.toInt = ((σ.2.1 41) k1.toNatClampNeg).toInt) (c2 : x1.toInt = k2.toInt) (ex3 : x3 = (σ.2.1 42) k1.toNatClampNeg) (tx3 : x3.toInt = ((σ.2.1 42) k1.toNatClampNeg).toInt) (ex4 : x4 = (σ.2.1 43) k1.toNatClampNeg) (tx4 : x4.toInt = ((σ.2.1 43) k1.toNatClampNeg).toInt) (hi41_0 : -1 ≤ y8.toInt) (hi41_1 : y8.toInt < (σ.1 35).toInt) (c10 : 0 ≤ y8.toInt) (ex12 : x12 = (6 : Int32) * y8) (tx12 : x12.toInt = 6 * y8.toInt) (hi58_0 : 6 * y8.toInt ≤ y15.toInt) (hi58_1 : y15.toInt ≤ 6 * y8.toInt + 6) (ex16 : x16 = (6 : Int32) * y8) (tx16 : x16.toInt = 6 * y8.toInt) (ex17 : x17 = (σ.2.1 40) y8.toNatClampNeg) (tx17 : x17.toInt = ((σ.2.1 40) y8.toNatClampNeg).toInt) (ex18 : x18 = x16 + x17) (tx18 : x18.toInt = x16.toInt + x17.toInt) (c19 : y15.toInt < x18.toInt) (c23 : ¬ y15.toInt = k1.toInt) (ex29 : x29 = y15 + (1 : Int32)) (tx29 : x29.toInt = y15.toInt + 1) : (6 * y8.toInt + 6 - x29.toInt).toNat < (6 * y8.toInt + 6 - y15.toInt).toNat := by
  have q1 : (1 : Int32).toInt = 1 := by decide +kernel
  have q6 : (6 : Int32).toInt = 6 := by decide +kernel
  have cl_x17 := hpre_2 y8.toNatClampNeg (by rw [clampZ (by omega)]; omega)
  first | assumption | omega | (subst_vars; omega) | trivial
-- in@110 @110
theorem v_stands_27 (σ : RS) (k0 : Int32) (k1 : Int32) (k2 : Int32) (x1 : Int32) (x3 : Int32) (x4 : Int32) (y8 : Int32) (x12 : Int32) (y15 : Int32) (x16 : Int32) (x17 : Int32) (x18 : Int32) (hpre_0 : 0 ≤ (σ.1 35).toInt) (hpre_1 : (σ.1 35).toInt ≤ 5) (hpre_2 : CLS (σ.1 35).toInt (σ.2.1 36) (σ.2.1 37) (σ.2.1 40)) (hpre_3 : 0 ≤ k0.toInt) (hpre_4 : k0.toInt < (σ.1 35).toInt) (hpre_5 : 0 ≤ k1.toInt) (hpre_6 : k1.toInt < 30) (ex1 : x1 = (σ.2.1 41) k1.toNatClampNeg) (tx1 : x1.toInt = ((σ.2.1 41) k1.toNatClampNeg).toInt) (c2 : x1.toInt = k2.toInt) (ex3 : x3 = (σ.2.1 42) k1.toNatClampNeg) (tx3 : x3.toInt = ((σ.2.1 42) k1.toNatClampNeg).toInt) (ex4 : x4 = (σ.2.1 43) k1.toNatClampNeg) (tx4 : x4.toInt = ((σ.2.1 43) k1.toNatClampNeg).toInt) (hi41_0 : -1 ≤ y8.toInt) (hi41_1 : y8.toInt < (σ.1 35).toInt) (c10 : 0 ≤ y8.toInt) (ex12 : x12 = (6 : Int32) * y8) (tx12 : x12.toInt = 6 * y8.toInt) (hi58_0 : 6 * y8.toInt ≤ y15.toInt) (hi58_1 : y15.toInt ≤ 6 * y8.toInt + 6) (ex16 : x16 = (6 : Int32) * y8) (tx16 : x16.toInt = 6 * y8.toInt) (ex17 : x17 = (σ.2.1 40) y8.toNatClampNeg) (tx17 : x17.toInt = ((σ.2.1 40) y8.toNatClampNeg).toInt) (ex18 : x18 = x16 + x17) (tx18 : x18.toInt = x16.toInt + x17.toInt) (c19 : y15.toInt < x18.toInt) (c23 : ¬ y15.toInt = k1.toInt) : vp_in y15 30 := by
  have q6 : (6 : Int32).toInt = 6 := by decide +kernel
  have cl_x17 := hpre_2 y8.toNatClampNeg (by rw [clampZ (by omega)]; omega)
  exact vp_in_iff.mpr ⟨by omega, by omega⟩
-- nw@154 @154
theorem v_stands_28 (σ : RS) (k0 : Int32) (k1 : Int32) (k2 : Int32) (x1 : Int32) (x3 : Int32) (x4 : Int32) (y8 : Int32) (x12 : Int32) (y15 : Int32) (x16 : Int32) (x17 : Int32) (x18 : Int32) (x31 : Int32) (x33 : Int32) (hpre_0 : 0 ≤ (σ.1 35).toInt) (hpre_1 : (σ.1 35).toInt ≤ 5) (hpre_2 : CLS (σ.1 35).toInt (σ.2.1 36) (σ.2.1 37) (σ.2.1 40)) (hpre_3 : 0 ≤ k0.toInt) (hpre_4 : k0.toInt < (σ.1 35).toInt) (hpre_5 : 0 ≤ k1.toInt) (hpre_6 : k1.toInt < 30) (ex1 : x1 = (σ.2.1 41) k1.toNatClampNeg) (tx1 : x1.toInt = ((σ.2.1 41) k1.toNatClampNeg).toInt) (c2 : x1.toInt = k2.toInt) (ex3 : x3 = (σ.2.1 42) k1.toNatClampNeg) (tx3 : x3.toInt = ((σ.2.1 42) k1.toNatClampNeg).toInt) (ex4 : x4 = (σ.2.1 43) k1.toNatClampNeg) (tx4 : x4.toInt = ((σ.2.1 43) k1.toNatClampNeg).toInt) (hi41_0 : -1 ≤ y8.toInt) (hi41_1 : y8.toInt < (σ.1 35).toInt) (c10 : 0 ≤ y8.toInt) (ex12 : x12 = (6 : Int32) * y8) (tx12 : x12.toInt = 6 * y8.toInt) (hi58_0 : 6 * y8.toInt ≤ y15.toInt) (hi58_1 : y15.toInt ≤ 6 * y8.toInt + 6) (ex16 : x16 = (6 : Int32) * y8) (tx16 : x16.toInt = 6 * y8.toInt) (ex17 : x17 = (σ.2.1 40) y8.toNatClampNeg) (tx17 : x17.toInt = ((σ.2.1 40) y8.toNatClampNeg).toInt) (ex18 : x18 = x16 + x17) (tx18 : x18.toInt = x16.toInt + x17.toInt) (c19 : y15.toInt < x18.toInt) (c23 : ¬ y15.toInt = k1.toInt) (ex31 : x31 = (σ.2.1 41) y15.toNatClampNeg) (tx31 : x31.toInt = ((σ.2.1 41) y15.toNatClampNeg).toInt) (c32 : ¬ x31.toInt = k2.toInt) (ex33 : x33 = y15 + (1 : Int32)) : x33.toInt = y15.toInt + 1 := by
  have q1 : (1 : Int32).toInt = 1 := by decide +kernel
  have q6 : (6 : Int32).toInt = 6 := by decide +kernel
  have cl_x17 := hpre_2 y8.toNatClampNeg (by rw [clampZ (by omega)]; omega)
  have z9 : (1 : Int32).toInt = 1 := by decide +kernel
  rw [ex33, z_add (by omega) (by omega)]; first | done | omega
-- inv@58 @58
theorem v_stands_29 (σ : RS) (k0 : Int32) (k1 : Int32) (k2 : Int32) (x1 : Int32) (x3 : Int32) (x4 : Int32) (y8 : Int32) (x12 : Int32) (y15 : Int32) (x16 : Int32) (x17 : Int32) (x18 : Int32) (x31 : Int32) (x33 : Int32) (hpre_0 : 0 ≤ (σ.1 35).toInt) (hpre_1 : (σ.1 35).toInt ≤ 5) (hpre_2 : CLS (σ.1 35).toInt (σ.2.1 36) (σ.2.1 37) (σ.2.1 40)) (hpre_3 : 0 ≤ k0.toInt) (hpre_4 : k0.toInt < (σ.1 35).toInt) (hpre_5 : 0 ≤ k1.toInt) (hpre_6 : k1.toInt < 30) (ex1 : x1 = (σ.2.1 41) k1.toNatClampNeg) (tx1 : x1.toInt = ((σ.2.1 41) k1.toNatClampNeg).toInt) (c2 : x1.toInt = k2.toInt) (ex3 : x3 = (σ.2.1 42) k1.toNatClampNeg) (tx3 : x3.toInt = ((σ.2.1 42) k1.toNatClampNeg).toInt) (ex4 : x4 = (σ.2.1 43) k1.toNatClampNeg) (tx4 : x4.toInt = ((σ.2.1 43) k1.toNatClampNeg).toInt) (hi41_0 : -1 ≤ y8.toInt) (hi41_1 : y8.toInt < (σ.1 35).toInt) (c10 : 0 ≤ y8.toInt) (ex12 : x12 = (6 : Int32) * y8) (tx12 : x12.toInt = 6 * y8.toInt) (hi58_0 : 6 * y8.toInt ≤ y15.toInt) (hi58_1 : y15.toInt ≤ 6 * y8.toInt + 6) (ex16 : x16 = (6 : Int32) * y8) (tx16 : x16.toInt = 6 * y8.toInt) (ex17 : x17 = (σ.2.1 40) y8.toNatClampNeg) (tx17 : x17.toInt = ((σ.2.1 40) y8.toNatClampNeg).toInt) (ex18 : x18 = x16 + x17) (tx18 : x18.toInt = x16.toInt + x17.toInt) (c19 : y15.toInt < x18.toInt) (c23 : ¬ y15.toInt = k1.toInt) (ex31 : x31 = (σ.2.1 41) y15.toNatClampNeg) (tx31 : x31.toInt = ((σ.2.1 41) y15.toNatClampNeg).toInt) (c32 : ¬ x31.toInt = k2.toInt) (ex33 : x33 = y15 + (1 : Int32)) (tx33 : x33.toInt = y15.toInt + 1) : 6 * y8.toInt ≤ x33.toInt ∧ x33.toInt ≤ 6 * y8.toInt + 6 ∧ ((1 : Int32).toInt = 0 ∨ (1 : Int32).toInt = 1) := by
  have q1 : (1 : Int32).toInt = 1 := by decide +kernel
  have q6 : (6 : Int32).toInt = 6 := by decide +kernel
  have cl_x17 := hpre_2 y8.toNatClampNeg (by rw [clampZ (by omega)]; omega)
  refine ⟨?_, ?_, ?_⟩ <;> first | assumption | omega | (subst_vars; omega) | trivial
-- meas@58 @58
theorem v_stands_30 (σ : RS) (k0 : Int32) (k1 : Int32) (k2 : Int32) (x1 : Int32) (x3 : Int32) (x4 : Int32) (y8 : Int32) (x12 : Int32) (y15 : Int32) (x16 : Int32) (x17 : Int32) (x18 : Int32) (x31 : Int32) (x33 : Int32) (hpre_0 : 0 ≤ (σ.1 35).toInt) (hpre_1 : (σ.1 35).toInt ≤ 5) (hpre_2 : CLS (σ.1 35).toInt (σ.2.1 36) (σ.2.1 37) (σ.2.1 40)) (hpre_3 : 0 ≤ k0.toInt) (hpre_4 : k0.toInt < (σ.1 35).toInt) (hpre_5 : 0 ≤ k1.toInt) (hpre_6 : k1.toInt < 30) (ex1 : x1 = (σ.2.1 41) k1.toNatClampNeg) (tx1 : x1.toInt = ((σ.2.1 41) k1.toNatClampNeg).toInt) (c2 : x1.toInt = k2.toInt) (ex3 : x3 = (σ.2.1 42) k1.toNatClampNeg) (tx3 : x3.toInt = ((σ.2.1 42) k1.toNatClampNeg).toInt) (ex4 : x4 = (σ.2.1 43) k1.toNatClampNeg) (tx4 : x4.toInt = ((σ.2.1 43) k1.toNatClampNeg).toInt) (hi41_0 : -1 ≤ y8.toInt) (hi41_1 : y8.toInt < (σ.1 35).toInt) (c10 : 0 ≤ y8.toInt) (ex12 : x12 = (6 : Int32) * y8) (tx12 : x12.toInt = 6 * y8.toInt) (hi58_0 : 6 * y8.toInt ≤ y15.toInt) (hi58_1 : y15.toInt ≤ 6 * y8.toInt + 6) (ex16 : x16 = (6 : Int32) * y8) (tx16 : x16.toInt = 6 * y8.toInt) (ex17 : x17 = (σ.2.1 40) y8.toNatClampNeg) (tx17 : x17.toInt = ((σ.2.1 40) y8.toNatClampNeg).toInt) (ex18 : x18 = x16 + x17) (tx18 : x18.toInt = x16.toInt + x17.toInt) (c19 : y15.toInt < x18.toInt) (c23 : ¬ y15.toInt = k1.toInt) (ex31 : x31 = (σ.2.1 41) y15.toNatClampNeg) (tx31 : x31.toInt = ((σ.2.1 41) y15.toNatClampNeg).toInt) (c32 : ¬ x31.toInt = k2.toInt) (ex33 : x33 = y15 + (1 : Int32)) (tx33 : x33.toInt = y15.toInt + 1) : (6 * y8.toInt + 6 - x33.toInt).toNat < (6 * y8.toInt + 6 - y15.toInt).toNat := by
  have q1 : (1 : Int32).toInt = 1 := by decide +kernel
  have q6 : (6 : Int32).toInt = 6 := by decide +kernel
  have cl_x17 := hpre_2 y8.toNatClampNeg (by rw [clampZ (by omega)]; omega)
  first | assumption | omega | (subst_vars; omega) | trivial
-- in@121 @121
theorem v_stands_31 (σ : RS) (k0 : Int32) (k1 : Int32) (k2 : Int32) (x1 : Int32) (x3 : Int32) (x4 : Int32) (y8 : Int32) (x12 : Int32) (y15 : Int32) (x16 : Int32) (x17 : Int32) (x18 : Int32) (x31 : Int32) (hpre_0 : 0 ≤ (σ.1 35).toInt) (hpre_1 : (σ.1 35).toInt ≤ 5) (hpre_2 : CLS (σ.1 35).toInt (σ.2.1 36) (σ.2.1 37) (σ.2.1 40)) (hpre_3 : 0 ≤ k0.toInt) (hpre_4 : k0.toInt < (σ.1 35).toInt) (hpre_5 : 0 ≤ k1.toInt) (hpre_6 : k1.toInt < 30) (ex1 : x1 = (σ.2.1 41) k1.toNatClampNeg) (tx1 : x1.toInt = ((σ.2.1 41) k1.toNatClampNeg).toInt) (c2 : x1.toInt = k2.toInt) (ex3 : x3 = (σ.2.1 42) k1.toNatClampNeg) (tx3 : x3.toInt = ((σ.2.1 42) k1.toNatClampNeg).toInt) (ex4 : x4 = (σ.2.1 43) k1.toNatClampNeg) (tx4 : x4.toInt = ((σ.2.1 43) k1.toNatClampNeg).toInt) (hi41_0 : -1 ≤ y8.toInt) (hi41_1 : y8.toInt < (σ.1 35).toInt) (c10 : 0 ≤ y8.toInt) (ex12 : x12 = (6 : Int32) * y8) (tx12 : x12.toInt = 6 * y8.toInt) (hi58_0 : 6 * y8.toInt ≤ y15.toInt) (hi58_1 : y15.toInt ≤ 6 * y8.toInt + 6) (ex16 : x16 = (6 : Int32) * y8) (tx16 : x16.toInt = 6 * y8.toInt) (ex17 : x17 = (σ.2.1 40) y8.toNatClampNeg) (tx17 : x17.toInt = ((σ.2.1 40) y8.toNatClampNeg).toInt) (ex18 : x18 = x16 + x17) (tx18 : x18.toInt = x16.toInt + x17.toInt) (c19 : y15.toInt < x18.toInt) (c23 : ¬ y15.toInt = k1.toInt) (ex31 : x31 = (σ.2.1 41) y15.toNatClampNeg) (tx31 : x31.toInt = ((σ.2.1 41) y15.toNatClampNeg).toInt) (c32 : x31.toInt = k2.toInt) : vp_in y15 30 := by
  have q6 : (6 : Int32).toInt = 6 := by decide +kernel
  have cl_x17 := hpre_2 y8.toNatClampNeg (by rw [clampZ (by omega)]; omega)
  exact vp_in_iff.mpr ⟨by omega, by omega⟩
-- in@127 @127
theorem v_stands_32 (σ : RS) (k0 : Int32) (k1 : Int32) (k2 : Int32) (k3 : Int32) (x1 : Int32) (x3 : Int32) (x4 : Int32) (r5 : Int32) (y8 : Int32) (x12 : Int32) (y15 : Int32) (x16 : Int32) (x17 : Int32) (x18 : Int32) (x31 : Int32) (x34 : Int32) (hpre_0 : 0 ≤ (σ.1 35).toInt) (hpre_1 : (σ.1 35).toInt ≤ 5) (hpre_2 : CLS (σ.1 35).toInt (σ.2.1 36) (σ.2.1 37) (σ.2.1 40)) (hpre_3 : 0 ≤ k0.toInt) (hpre_4 : k0.toInt < (σ.1 35).toInt) (hpre_5 : 0 ≤ k1.toInt) (hpre_6 : k1.toInt < 30) (ex1 : x1 = (σ.2.1 41) k1.toNatClampNeg) (tx1 : x1.toInt = ((σ.2.1 41) k1.toNatClampNeg).toInt) (c2 : x1.toInt = k2.toInt) (ex3 : x3 = (σ.2.1 42) k1.toNatClampNeg) (tx3 : x3.toInt = ((σ.2.1 42) k1.toNatClampNeg).toInt) (ex4 : x4 = (σ.2.1 43) k1.toNatClampNeg) (tx4 : x4.toInt = ((σ.2.1 43) k1.toNatClampNeg).toInt) (hr5_0 : 0 ≤ r5.toInt) (hr5_1 : r5.toInt ≤ 2) (hr5_2 : ¬ x3.toInt = 0 → 1 ≤ r5.toInt) (c6 : r5.toInt = k3.toInt) (hi41_0 : -1 ≤ y8.toInt) (hi41_1 : y8.toInt < (σ.1 35).toInt) (c10 : 0 ≤ y8.toInt) (ex12 : x12 = (6 : Int32) * y8) (tx12 : x12.toInt = 6 * y8.toInt) (hi58_0 : 6 * y8.toInt ≤ y15.toInt) (hi58_1 : y15.toInt ≤ 6 * y8.toInt + 6) (ex16 : x16 = (6 : Int32) * y8) (tx16 : x16.toInt = 6 * y8.toInt) (ex17 : x17 = (σ.2.1 40) y8.toNatClampNeg) (tx17 : x17.toInt = ((σ.2.1 40) y8.toNatClampNeg).toInt) (ex18 : x18 = x16 + x17) (tx18 : x18.toInt = x16.toInt + x17.toInt) (c19 : y15.toInt < x18.toInt) (c23 : ¬ y15.toInt = k1.toInt) (ex31 : x31 = (σ.2.1 41) y15.toNatClampNeg) (tx31 : x31.toInt = ((σ.2.1 41) y15.toNatClampNeg).toInt) (c32 : x31.toInt = k2.toInt) (ex34 : x34 = (σ.2.1 42) y15.toNatClampNeg) (tx34 : x34.toInt = ((σ.2.1 42) y15.toNatClampNeg).toInt) : vp_in k1 30 := by
  have q6 : (6 : Int32).toInt = 6 := by decide +kernel
  have cl_x17 := hpre_2 y8.toNatClampNeg (by rw [clampZ (by omega)]; omega)
  exact vp_in_iff.mpr ⟨by omega, by omega⟩
-- nw@154 @154
theorem v_stands_33 (σ : RS) (k0 : Int32) (k1 : Int32) (k2 : Int32) (x1 : Int32) (x3 : Int32) (x4 : Int32) (y8 : Int32) (x12 : Int32) (y15 : Int32) (x16 : Int32) (x17 : Int32) (x18 : Int32) (x31 : Int32) (x34 : Int32) (x35 : Int32) (x37 : Int32) (hpre_0 : 0 ≤ (σ.1 35).toInt) (hpre_1 : (σ.1 35).toInt ≤ 5) (hpre_2 : CLS (σ.1 35).toInt (σ.2.1 36) (σ.2.1 37) (σ.2.1 40)) (hpre_3 : 0 ≤ k0.toInt) (hpre_4 : k0.toInt < (σ.1 35).toInt) (hpre_5 : 0 ≤ k1.toInt) (hpre_6 : k1.toInt < 30) (ex1 : x1 = (σ.2.1 41) k1.toNatClampNeg) (tx1 : x1.toInt = ((σ.2.1 41) k1.toNatClampNeg).toInt) (c2 : x1.toInt = k2.toInt) (ex3 : x3 = (σ.2.1 42) k1.toNatClampNeg) (tx3 : x3.toInt = ((σ.2.1 42) k1.toNatClampNeg).toInt) (ex4 : x4 = (σ.2.1 43) k1.toNatClampNeg) (tx4 : x4.toInt = ((σ.2.1 43) k1.toNatClampNeg).toInt) (hi41_0 : -1 ≤ y8.toInt) (hi41_1 : y8.toInt < (σ.1 35).toInt) (c10 : 0 ≤ y8.toInt) (ex12 : x12 = (6 : Int32) * y8) (tx12 : x12.toInt = 6 * y8.toInt) (hi58_0 : 6 * y8.toInt ≤ y15.toInt) (hi58_1 : y15.toInt ≤ 6 * y8.toInt + 6) (ex16 : x16 = (6 : Int32) * y8) (tx16 : x16.toInt = 6 * y8.toInt) (ex17 : x17 = (σ.2.1 40) y8.toNatClampNeg) (tx17 : x17.toInt = ((σ.2.1 40) y8.toNatClampNeg).toInt) (ex18 : x18 = x16 + x17) (tx18 : x18.toInt = x16.toInt + x17.toInt) (c19 : y15.toInt < x18.toInt) (c23 : ¬ y15.toInt = k1.toInt) (ex31 : x31 = (σ.2.1 41) y15.toNatClampNeg) (tx31 : x31.toInt = ((σ.2.1 41) y15.toNatClampNeg).toInt) (c32 : x31.toInt = k2.toInt) (ex34 : x34 = (σ.2.1 42) y15.toNatClampNeg) (tx34 : x34.toInt = ((σ.2.1 42) y15.toNatClampNeg).toInt) (ex35 : x35 = (σ.2.1 42) k1.toNatClampNeg) (tx35 : x35.toInt = ((σ.2.1 42) k1.toNatClampNeg).toInt) (c36 : ¬ x34.toInt = x35.toInt) (ex37 : x37 = y15 + (1 : Int32)) : x37.toInt = y15.toInt + 1 := by
  have q1 : (1 : Int32).toInt = 1 := by decide +kernel
  have q6 : (6 : Int32).toInt = 6 := by decide +kernel
  have cl_x17 := hpre_2 y8.toNatClampNeg (by rw [clampZ (by omega)]; omega)
  have z9 : (1 : Int32).toInt = 1 := by decide +kernel
  rw [ex37, z_add (by omega) (by omega)]; first | done | omega
-- inv@58 @58
theorem v_stands_34 (σ : RS) (k0 : Int32) (k1 : Int32) (k2 : Int32) (x1 : Int32) (x3 : Int32) (x4 : Int32) (y8 : Int32) (x12 : Int32) (y15 : Int32) (x16 : Int32) (x17 : Int32) (x18 : Int32) (x31 : Int32) (x34 : Int32) (x35 : Int32) (x37 : Int32) (hpre_0 : 0 ≤ (σ.1 35).toInt) (hpre_1 : (σ.1 35).toInt ≤ 5) (hpre_2 : CLS (σ.1 35).toInt (σ.2.1 36) (σ.2.1 37) (σ.2.1 40)) (hpre_3 : 0 ≤ k0.toInt) (hpre_4 : k0.toInt < (σ.1 35).toInt) (hpre_5 : 0 ≤ k1.toInt) (hpre_6 : k1.toInt < 30) (ex1 : x1 = (σ.2.1 41) k1.toNatClampNeg) (tx1 : x1.toInt = ((σ.2.1 41) k1.toNatClampNeg).toInt) (c2 : x1.toInt = k2.toInt) (ex3 : x3 = (σ.2.1 42) k1.toNatClampNeg) (tx3 : x3.toInt = ((σ.2.1 42) k1.toNatClampNeg).toInt) (ex4 : x4 = (σ.2.1 43) k1.toNatClampNeg) (tx4 : x4.toInt = ((σ.2.1 43) k1.toNatClampNeg).toInt) (hi41_0 : -1 ≤ y8.toInt) (hi41_1 : y8.toInt < (σ.1 35).toInt) (c10 : 0 ≤ y8.toInt) (ex12 : x12 = (6 : Int32) * y8) (tx12 : x12.toInt = 6 * y8.toInt) (hi58_0 : 6 * y8.toInt ≤ y15.toInt) (hi58_1 : y15.toInt ≤ 6 * y8.toInt + 6) (ex16 : x16 = (6 : Int32) * y8) (tx16 : x16.toInt = 6 * y8.toInt) (ex17 : x17 = (σ.2.1 40) y8.toNatClampNeg) (tx17 : x17.toInt = ((σ.2.1 40) y8.toNatClampNeg).toInt) (ex18 : x18 = x16 + x17) (tx18 : x18.toInt = x16.toInt + x17.toInt) (c19 : y15.toInt < x18.toInt) (c23 : ¬ y15.toInt = k1.toInt) (ex31 : x31 = (σ.2.1 41) y15.toNatClampNeg) (tx31 : x31.toInt = ((σ.2.1 41) y15.toNatClampNeg).toInt) (c32 : x31.toInt = k2.toInt) (ex34 : x34 = (σ.2.1 42) y15.toNatClampNeg) (tx34 : x34.toInt = ((σ.2.1 42) y15.toNatClampNeg).toInt) (ex35 : x35 = (σ.2.1 42) k1.toNatClampNeg) (tx35 : x35.toInt = ((σ.2.1 42) k1.toNatClampNeg).toInt) (c36 : ¬ x34.toInt = x35.toInt) (ex37 : x37 = y15 + (1 : Int32)) (tx37 : x37.toInt = y15.toInt + 1) : 6 * y8.toInt ≤ x37.toInt ∧ x37.toInt ≤ 6 * y8.toInt + 6 ∧ ((1 : Int32).toInt = 0 ∨ (1 : Int32).toInt = 1) := by
  have q1 : (1 : Int32).toInt = 1 := by decide +kernel
  have q6 : (6 : Int32).toInt = 6 := by decide +kernel
  have cl_x17 := hpre_2 y8.toNatClampNeg (by rw [clampZ (by omega)]; omega)
  refine ⟨?_, ?_, ?_⟩ <;> first | assumption | omega | (subst_vars; omega) | trivial
-- meas@58 @58
theorem v_stands_35 (σ : RS) (k0 : Int32) (k1 : Int32) (k2 : Int32) (x1 : Int32) (x3 : Int32) (x4 : Int32) (y8 : Int32) (x12 : Int32) (y15 : Int32) (x16 : Int32) (x17 : Int32) (x18 : Int32) (x31 : Int32) (x34 : Int32) (x35 : Int32) (x37 : Int32) (hpre_0 : 0 ≤ (σ.1 35).toInt) (hpre_1 : (σ.1 35).toInt ≤ 5) (hpre_2 : CLS (σ.1 35).toInt (σ.2.1 36) (σ.2.1 37) (σ.2.1 40)) (hpre_3 : 0 ≤ k0.toInt) (hpre_4 : k0.toInt < (σ.1 35).toInt) (hpre_5 : 0 ≤ k1.toInt) (hpre_6 : k1.toInt < 30) (ex1 : x1 = (σ.2.1 41) k1.toNatClampNeg) (tx1 : x1.toInt = ((σ.2.1 41) k1.toNatClampNeg).toInt) (c2 : x1.toInt = k2.toInt) (ex3 : x3 = (σ.2.1 42) k1.toNatClampNeg) (tx3 : x3.toInt = ((σ.2.1 42) k1.toNatClampNeg).toInt) (ex4 : x4 = (σ.2.1 43) k1.toNatClampNeg) (tx4 : x4.toInt = ((σ.2.1 43) k1.toNatClampNeg).toInt) (hi41_0 : -1 ≤ y8.toInt) (hi41_1 : y8.toInt < (σ.1 35).toInt) (c10 : 0 ≤ y8.toInt) (ex12 : x12 = (6 : Int32) * y8) (tx12 : x12.toInt = 6 * y8.toInt) (hi58_0 : 6 * y8.toInt ≤ y15.toInt) (hi58_1 : y15.toInt ≤ 6 * y8.toInt + 6) (ex16 : x16 = (6 : Int32) * y8) (tx16 : x16.toInt = 6 * y8.toInt) (ex17 : x17 = (σ.2.1 40) y8.toNatClampNeg) (tx17 : x17.toInt = ((σ.2.1 40) y8.toNatClampNeg).toInt) (ex18 : x18 = x16 + x17) (tx18 : x18.toInt = x16.toInt + x17.toInt) (c19 : y15.toInt < x18.toInt) (c23 : ¬ y15.toInt = k1.toInt) (ex31 : x31 = (σ.2.1 41) y15.toNatClampNeg) (tx31 : x31.toInt = ((σ.2.1 41) y15.toNatClampNeg).toInt) (c32 : x31.toInt = k2.toInt) (ex34 : x34 = (σ.2.1 42) y15.toNatClampNeg) (tx34 : x34.toInt = ((σ.2.1 42) y15.toNatClampNeg).toInt) (ex35 : x35 = (σ.2.1 42) k1.toNatClampNeg) (tx35 : x35.toInt = ((σ.2.1 42) k1.toNatClampNeg).toInt) (c36 : ¬ x34.toInt = x35.toInt) (ex37 : x37 = y15 + (1 : Int32)) (tx37 : x37.toInt = y15.toInt + 1) : (6 * y8.toInt + 6 - x37.toInt).toNat < (6 * y8.toInt + 6 - y15.toInt).toNat := by
  have q1 : (1 : Int32).toInt = 1 := by decide +kernel
  have q6 : (6 : Int32).toInt = 6 := by decide +kernel
  have cl_x17 := hpre_2 y8.toNatClampNeg (by rw [clampZ (by omega)]; omega)
  first | assumption | omega | (subst_vars; omega) | trivial
-- in@137 @137
theorem v_stands_36 (σ : RS) (k0 : Int32) (k1 : Int32) (k2 : Int32) (x1 : Int32) (x3 : Int32) (x4 : Int32) (y8 : Int32) (x12 : Int32) (y15 : Int32) (x16 : Int32) (x17 : Int32) (x18 : Int32) (x31 : Int32) (x34 : Int32) (x35 : Int32) (hpre_0 : 0 ≤ (σ.1 35).toInt) (hpre_1 : (σ.1 35).toInt ≤ 5) (hpre_2 : CLS (σ.1 35).toInt (σ.2.1 36) (σ.2.1 37) (σ.2.1 40)) (hpre_3 : 0 ≤ k0.toInt) (hpre_4 : k0.toInt < (σ.1 35).toInt) (hpre_5 : 0 ≤ k1.toInt) (hpre_6 : k1.toInt < 30) (ex1 : x1 = (σ.2.1 41) k1.toNatClampNeg) (tx1 : x1.toInt = ((σ.2.1 41) k1.toNatClampNeg).toInt) (c2 : x1.toInt = k2.toInt) (ex3 : x3 = (σ.2.1 42) k1.toNatClampNeg) (tx3 : x3.toInt = ((σ.2.1 42) k1.toNatClampNeg).toInt) (ex4 : x4 = (σ.2.1 43) k1.toNatClampNeg) (tx4 : x4.toInt = ((σ.2.1 43) k1.toNatClampNeg).toInt) (hi41_0 : -1 ≤ y8.toInt) (hi41_1 : y8.toInt < (σ.1 35).toInt) (c10 : 0 ≤ y8.toInt) (ex12 : x12 = (6 : Int32) * y8) (tx12 : x12.toInt = 6 * y8.toInt) (hi58_0 : 6 * y8.toInt ≤ y15.toInt) (hi58_1 : y15.toInt ≤ 6 * y8.toInt + 6) (ex16 : x16 = (6 : Int32) * y8) (tx16 : x16.toInt = 6 * y8.toInt) (ex17 : x17 = (σ.2.1 40) y8.toNatClampNeg) (tx17 : x17.toInt = ((σ.2.1 40) y8.toNatClampNeg).toInt) (ex18 : x18 = x16 + x17) (tx18 : x18.toInt = x16.toInt + x17.toInt) (c19 : y15.toInt < x18.toInt) (c23 : ¬ y15.toInt = k1.toInt) (ex31 : x31 = (σ.2.1 41) y15.toNatClampNeg) (tx31 : x31.toInt = ((σ.2.1 41) y15.toNatClampNeg).toInt) (c32 : x31.toInt = k2.toInt) (ex34 : x34 = (σ.2.1 42) y15.toNatClampNeg) (tx34 : x34.toInt = ((σ.2.1 42) y15.toNatClampNeg).toInt) (ex35 : x35 = (σ.2.1 42) k1.toNatClampNeg) (tx35 : x35.toInt = ((σ.2.1 42) k1.toNatClampNeg).toInt) (c36 : x34.toInt = x35.toInt) : vp_in y15 30 := by
  have q6 : (6 : Int32).toInt = 6 := by decide +kernel
  have cl_x17 := hpre_2 y8.toNatClampNeg (by rw [clampZ (by omega)]; omega)
  exact vp_in_iff.mpr ⟨by omega, by omega⟩
-- in@143 @143
theorem v_stands_37 (σ : RS) (k0 : Int32) (k1 : Int32) (k2 : Int32) (k3 : Int32) (x1 : Int32) (x3 : Int32) (x4 : Int32) (r5 : Int32) (y8 : Int32) (x12 : Int32) (y15 : Int32) (x16 : Int32) (x17 : Int32) (x18 : Int32) (x31 : Int32) (x34 : Int32) (x35 : Int32) (x38 : Int32) (hpre_0 : 0 ≤ (σ.1 35).toInt) (hpre_1 : (σ.1 35).toInt ≤ 5) (hpre_2 : CLS (σ.1 35).toInt (σ.2.1 36) (σ.2.1 37) (σ.2.1 40)) (hpre_3 : 0 ≤ k0.toInt) (hpre_4 : k0.toInt < (σ.1 35).toInt) (hpre_5 : 0 ≤ k1.toInt) (hpre_6 : k1.toInt < 30) (ex1 : x1 = (σ.2.1 41) k1.toNatClampNeg) (tx1 : x1.toInt = ((σ.2.1 41) k1.toNatClampNeg).toInt) (c2 : x1.toInt = k2.toInt) (ex3 : x3 = (σ.2.1 42) k1.toNatClampNeg) (tx3 : x3.toInt = ((σ.2.1 42) k1.toNatClampNeg).toInt) (ex4 : x4 = (σ.2.1 43) k1.toNatClampNeg) (tx4 : x4.toInt = ((σ.2.1 43) k1.toNatClampNeg).toInt) (hr5_0 : 0 ≤ r5.toInt) (hr5_1 : r5.toInt ≤ 2) (hr5_2 : ¬ x3.toInt = 0 → 1 ≤ r5.toInt) (c6 : r5.toInt = k3.toInt) (hi41_0 : -1 ≤ y8.toInt) (hi41_1 : y8.toInt < (σ.1 35).toInt) (c10 : 0 ≤ y8.toInt) (ex12 : x12 = (6 : Int32) * y8) (tx12 : x12.toInt = 6 * y8.toInt) (hi58_0 : 6 * y8.toInt ≤ y15.toInt) (hi58_1 : y15.toInt ≤ 6 * y8.toInt + 6) (ex16 : x16 = (6 : Int32) * y8) (tx16 : x16.toInt = 6 * y8.toInt) (ex17 : x17 = (σ.2.1 40) y8.toNatClampNeg) (tx17 : x17.toInt = ((σ.2.1 40) y8.toNatClampNeg).toInt) (ex18 : x18 = x16 + x17) (tx18 : x18.toInt = x16.toInt + x17.toInt) (c19 : y15.toInt < x18.toInt) (c23 : ¬ y15.toInt = k1.toInt) (ex31 : x31 = (σ.2.1 41) y15.toNatClampNeg) (tx31 : x31.toInt = ((σ.2.1 41) y15.toNatClampNeg).toInt) (c32 : x31.toInt = k2.toInt) (ex34 : x34 = (σ.2.1 42) y15.toNatClampNeg) (tx34 : x34.toInt = ((σ.2.1 42) y15.toNatClampNeg).toInt) (ex35 : x35 = (σ.2.1 42) k1.toNatClampNeg) (tx35 : x35.toInt = ((σ.2.1 42) k1.toNatClampNeg).toInt) (c36 : x34.toInt = x35.toInt) (ex38 : x38 = (σ.2.1 43) y15.toNatClampNeg) (tx38 : x38.toInt = ((σ.2.1 43) y15.toNatClampNeg).toInt) : vp_in k1 30 := by
  have q6 : (6 : Int32).toInt = 6 := by decide +kernel
  have cl_x17 := hpre_2 y8.toNatClampNeg (by rw [clampZ (by omega)]; omega)
  exact vp_in_iff.mpr ⟨by omega, by omega⟩
-- nw@154 @154
theorem v_stands_38 (σ : RS) (k0 : Int32) (k1 : Int32) (k2 : Int32) (x1 : Int32) (x3 : Int32) (x4 : Int32) (y8 : Int32) (x12 : Int32) (y15 : Int32) (x16 : Int32) (x17 : Int32) (x18 : Int32) (x31 : Int32) (x34 : Int32) (x35 : Int32) (x38 : Int32) (x39 : Int32) (x41 : Int32) (hpre_0 : 0 ≤ (σ.1 35).toInt) (hpre_1 : (σ.1 35).toInt ≤ 5) (hpre_2 : CLS (σ.1 35).toInt (σ.2.1 36) (σ.2.1 37) (σ.2.1 40)) (hpre_3 : 0 ≤ k0.toInt) (hpre_4 : k0.toInt < (σ.1 35).toInt) (hpre_5 : 0 ≤ k1.toInt) (hpre_6 : k1.toInt < 30) (ex1 : x1 = (σ.2.1 41) k1.toNatClampNeg) (tx1 : x1.toInt = ((σ.2.1 41) k1.toNatClampNeg).toInt) (c2 : x1.toInt = k2.toInt) (ex3 : x3 = (σ.2.1 42) k1.toNatClampNeg) (tx3 : x3.toInt = ((σ.2.1 42) k1.toNatClampNeg).toInt) (ex4 : x4 = (σ.2.1 43) k1.toNatClampNeg) (tx4 : x4.toInt = ((σ.2.1 43) k1.toNatClampNeg).toInt) (hi41_0 : -1 ≤ y8.toInt) (hi41_1 : y8.toInt < (σ.1 35).toInt) (c10 : 0 ≤ y8.toInt) (ex12 : x12 = (6 : Int32) * y8) (tx12 : x12.toInt = 6 * y8.toInt) (hi58_0 : 6 * y8.toInt ≤ y15.toInt) (hi58_1 : y15.toInt ≤ 6 * y8.toInt + 6) (ex16 : x16 = (6 : Int32) * y8) (tx16 : x16.toInt = 6 * y8.toInt) (ex17 : x17 = (σ.2.1 40) y8.toNatClampNeg) (tx17 : x17.toInt = ((σ.2.1 40) y8.toNatClampNeg).toInt) (ex18 : x18 = x16 + x17) (tx18 : x18.toInt = x16.toInt + x17.toInt) (c19 : y15.toInt < x18.toInt) (c23 : ¬ y15.toInt = k1.toInt) (ex31 : x31 = (σ.2.1 41) y15.toNatClampNeg) (tx31 : x31.toInt = ((σ.2.1 41) y15.toNatClampNeg).toInt) (c32 : x31.toInt = k2.toInt) (ex34 : x34 = (σ.2.1 42) y15.toNatClampNeg) (tx34 : x34.toInt = ((σ.2.1 42) y15.toNatClampNeg).toInt) (ex35 : x35 = (σ.2.1 42) k1.toNatClampNeg) (tx35 : x35.toInt = ((σ.2.1 42) k1.toNatClampNeg).toInt) (c36 : x34.toInt = x35.toInt) (ex38 : x38 = (σ.2.1 43) y15.toNatClampNeg) (tx38 : x38.toInt = ((σ.2.1 43) y15.toNatClampNeg).toInt) (ex39 : x39 = (σ.2.1 43) k1.toNatClampNeg) (tx39 : x39.toInt = ((σ.2.1 43) k1.toNatClampNeg).toInt) (c40 : x38.toInt = x39.toInt) (ex41 : x41 = y15 + (1 : Int32)) : x41.toInt = y15.toInt + 1 := by
  have q1 : (1 : Int32).toInt = 1 := by decide +kernel
  have q6 : (6 : Int32).toInt = 6 := by decide +kernel
  have cl_x17 := hpre_2 y8.toNatClampNeg (by rw [clampZ (by omega)]; omega)
  have z9 : (1 : Int32).toInt = 1 := by decide +kernel
  rw [ex41, z_add (by omega) (by omega)]; first | done | omega
-- inv@58 @58
theorem v_stands_39 (σ : RS) (k0 : Int32) (k1 : Int32) (k2 : Int32) (x1 : Int32) (x3 : Int32) (x4 : Int32) (y8 : Int32) (x12 : Int32) (y15 : Int32) (x16 : Int32) (x17 : Int32) (x18 : Int32) (x31 : Int32) (x34 : Int32) (x35 : Int32) (x38 : Int32) (x39 : Int32) (x41 : Int32) (hpre_0 : 0 ≤ (σ.1 35).toInt) (hpre_1 : (σ.1 35).toInt ≤ 5) (hpre_2 : CLS (σ.1 35).toInt (σ.2.1 36) (σ.2.1 37) (σ.2.1 40)) (hpre_3 : 0 ≤ k0.toInt) (hpre_4 : k0.toInt < (σ.1 35).toInt) (hpre_5 : 0 ≤ k1.toInt) (hpre_6 : k1.toInt < 30) (ex1 : x1 = (σ.2.1 41) k1.toNatClampNeg) (tx1 : x1.toInt = ((σ.2.1 41) k1.toNatClampNeg).toInt) (c2 : x1.toInt = k2.toInt) (ex3 : x3 = (σ.2.1 42) k1.toNatClampNeg) (tx3 : x3.toInt = ((σ.2.1 42) k1.toNatClampNeg).toInt) (ex4 : x4 = (σ.2.1 43) k1.toNatClampNeg) (tx4 : x4.toInt = ((σ.2.1 43) k1.toNatClampNeg).toInt) (hi41_0 : -1 ≤ y8.toInt) (hi41_1 : y8.toInt < (σ.1 35).toInt) (c10 : 0 ≤ y8.toInt) (ex12 : x12 = (6 : Int32) * y8) (tx12 : x12.toInt = 6 * y8.toInt) (hi58_0 : 6 * y8.toInt ≤ y15.toInt) (hi58_1 : y15.toInt ≤ 6 * y8.toInt + 6) (ex16 : x16 = (6 : Int32) * y8) (tx16 : x16.toInt = 6 * y8.toInt) (ex17 : x17 = (σ.2.1 40) y8.toNatClampNeg) (tx17 : x17.toInt = ((σ.2.1 40) y8.toNatClampNeg).toInt) (ex18 : x18 = x16 + x17) (tx18 : x18.toInt = x16.toInt + x17.toInt) (c19 : y15.toInt < x18.toInt) (c23 : ¬ y15.toInt = k1.toInt) (ex31 : x31 = (σ.2.1 41) y15.toNatClampNeg) (tx31 : x31.toInt = ((σ.2.1 41) y15.toNatClampNeg).toInt) (c32 : x31.toInt = k2.toInt) (ex34 : x34 = (σ.2.1 42) y15.toNatClampNeg) (tx34 : x34.toInt = ((σ.2.1 42) y15.toNatClampNeg).toInt) (ex35 : x35 = (σ.2.1 42) k1.toNatClampNeg) (tx35 : x35.toInt = ((σ.2.1 42) k1.toNatClampNeg).toInt) (c36 : x34.toInt = x35.toInt) (ex38 : x38 = (σ.2.1 43) y15.toNatClampNeg) (tx38 : x38.toInt = ((σ.2.1 43) y15.toNatClampNeg).toInt) (ex39 : x39 = (σ.2.1 43) k1.toNatClampNeg) (tx39 : x39.toInt = ((σ.2.1 43) k1.toNatClampNeg).toInt) (c40 : x38.toInt = x39.toInt) (ex41 : x41 = y15 + (1 : Int32)) (tx41 : x41.toInt = y15.toInt + 1) : 6 * y8.toInt ≤ x41.toInt ∧ x41.toInt ≤ 6 * y8.toInt + 6 ∧ ((0 : Int32).toInt = 0 ∨ (0 : Int32).toInt = 1) := by
  have q0 : (0 : Int32).toInt = 0 := by decide +kernel
  have q1 : (1 : Int32).toInt = 1 := by decide +kernel
  have q6 : (6 : Int32).toInt = 6 := by decide +kernel
  have cl_x17 := hpre_2 y8.toNatClampNeg (by rw [clampZ (by omega)]; omega)
  refine ⟨?_, ?_, ?_⟩ <;> first | assumption | omega | (subst_vars; omega) | trivial
-- meas@58 @58
theorem v_stands_40 (σ : RS) (k0 : Int32) (k1 : Int32) (k2 : Int32) (x1 : Int32) (x3 : Int32) (x4 : Int32) (y8 : Int32) (x12 : Int32) (y15 : Int32) (x16 : Int32) (x17 : Int32) (x18 : Int32) (x31 : Int32) (x34 : Int32) (x35 : Int32) (x38 : Int32) (x39 : Int32) (x41 : Int32) (hpre_0 : 0 ≤ (σ.1 35).toInt) (hpre_1 : (σ.1 35).toInt ≤ 5) (hpre_2 : CLS (σ.1 35).toInt (σ.2.1 36) (σ.2.1 37) (σ.2.1 40)) (hpre_3 : 0 ≤ k0.toInt) (hpre_4 : k0.toInt < (σ.1 35).toInt) (hpre_5 : 0 ≤ k1.toInt) (hpre_6 : k1.toInt < 30) (ex1 : x1 = (σ.2.1 41) k1.toNatClampNeg) (tx1 : x1.toInt = ((σ.2.1 41) k1.toNatClampNeg).toInt) (c2 : x1.toInt = k2.toInt) (ex3 : x3 = (σ.2.1 42) k1.toNatClampNeg) (tx3 : x3.toInt = ((σ.2.1 42) k1.toNatClampNeg).toInt) (ex4 : x4 = (σ.2.1 43) k1.toNatClampNeg) (tx4 : x4.toInt = ((σ.2.1 43) k1.toNatClampNeg).toInt) (hi41_0 : -1 ≤ y8.toInt) (hi41_1 : y8.toInt < (σ.1 35).toInt) (c10 : 0 ≤ y8.toInt) (ex12 : x12 = (6 : Int32) * y8) (tx12 : x12.toInt = 6 * y8.toInt) (hi58_0 : 6 * y8.toInt ≤ y15.toInt) (hi58_1 : y15.toInt ≤ 6 * y8.toInt + 6) (ex16 : x16 = (6 : Int32) * y8) (tx16 : x16.toInt = 6 * y8.toInt) (ex17 : x17 = (σ.2.1 40) y8.toNatClampNeg) (tx17 : x17.toInt = ((σ.2.1 40) y8.toNatClampNeg).toInt) (ex18 : x18 = x16 + x17) (tx18 : x18.toInt = x16.toInt + x17.toInt) (c19 : y15.toInt < x18.toInt) (c23 : ¬ y15.toInt = k1.toInt) (ex31 : x31 = (σ.2.1 41) y15.toNatClampNeg) (tx31 : x31.toInt = ((σ.2.1 41) y15.toNatClampNeg).toInt) (c32 : x31.toInt = k2.toInt) (ex34 : x34 = (σ.2.1 42) y15.toNatClampNeg) (tx34 : x34.toInt = ((σ.2.1 42) y15.toNatClampNeg).toInt) (ex35 : x35 = (σ.2.1 42) k1.toNatClampNeg) (tx35 : x35.toInt = ((σ.2.1 42) k1.toNatClampNeg).toInt) (c36 : x34.toInt = x35.toInt) (ex38 : x38 = (σ.2.1 43) y15.toNatClampNeg) (tx38 : x38.toInt = ((σ.2.1 43) y15.toNatClampNeg).toInt) (ex39 : x39 = (σ.2.1 43) k1.toNatClampNeg) (tx39 : x39.toInt = ((σ.2.1 43) k1.toNatClampNeg).toInt) (c40 : x38.toInt = x39.toInt) (ex41 : x41 = y15 + (1 : Int32)) (tx41 : x41.toInt = y15.toInt + 1) : (6 * y8.toInt + 6 - x41.toInt).toNat < (6 * y8.toInt + 6 - y15.toInt).toNat := by
  have q1 : (1 : Int32).toInt = 1 := by decide +kernel
  have q6 : (6 : Int32).toInt = 6 := by decide +kernel
  have cl_x17 := hpre_2 y8.toNatClampNeg (by rw [clampZ (by omega)]; omega)
  first | assumption | omega | (subst_vars; omega) | trivial
-- nw@154 @154
theorem v_stands_41 (σ : RS) (k0 : Int32) (k1 : Int32) (k2 : Int32) (x1 : Int32) (x3 : Int32) (x4 : Int32) (y8 : Int32) (x12 : Int32) (y15 : Int32) (x16 : Int32) (x17 : Int32) (x18 : Int32) (x31 : Int32) (x34 : Int32) (x35 : Int32) (x38 : Int32) (x39 : Int32) (x42 : Int32) (hpre_0 : 0 ≤ (σ.1 35).toInt) (hpre_1 : (σ.1 35).toInt ≤ 5) (hpre_2 : CLS (σ.1 35).toInt (σ.2.1 36) (σ.2.1 37) (σ.2.1 40)) (hpre_3 : 0 ≤ k0.toInt) (hpre_4 : k0.toInt < (σ.1 35).toInt) (hpre_5 : 0 ≤ k1.toInt) (hpre_6 : k1.toInt < 30) (ex1 : x1 = (σ.2.1 41) k1.toNatClampNeg) (tx1 : x1.toInt = ((σ.2.1 41) k1.toNatClampNeg).toInt) (c2 : x1.toInt = k2.toInt) (ex3 : x3 = (σ.2.1 42) k1.toNatClampNeg) (tx3 : x3.toInt = ((σ.2.1 42) k1.toNatClampNeg).toInt) (ex4 : x4 = (σ.2.1 43) k1.toNatClampNeg) (tx4 : x4.toInt = ((σ.2.1 43) k1.toNatClampNeg).toInt) (hi41_0 : -1 ≤ y8.toInt) (hi41_1 : y8.toInt < (σ.1 35).toInt) (c10 : 0 ≤ y8.toInt) (ex12 : x12 = (6 : Int32) * y8) (tx12 : x12.toInt = 6 * y8.toInt) (hi58_0 : 6 * y8.toInt ≤ y15.toInt) (hi58_1 : y15.toInt ≤ 6 * y8.toInt + 6) (ex16 : x16 = (6 : Int32) * y8) (tx16 : x16.toInt = 6 * y8.toInt) (ex17 : x17 = (σ.2.1 40) y8.toNatClampNeg) (tx17 : x17.toInt = ((σ.2.1 40) y8.toNatClampNeg).toInt) (ex18 : x18 = x16 + x17) (tx18 : x18.toInt = x16.toInt + x17.toInt) (c19 : y15.toInt < x18.toInt) (c23 : ¬ y15.toInt = k1.toInt) (ex31 : x31 = (σ.2.1 41) y15.toNatClampNeg) (tx31 : x31.toInt = ((σ.2.1 41) y15.toNatClampNeg).toInt) (c32 : x31.toInt = k2.toInt) (ex34 : x34 = (σ.2.1 42) y15.toNatClampNeg) (tx34 : x34.toInt = ((σ.2.1 42) y15.toNatClampNeg).toInt) (ex35 : x35 = (σ.2.1 42) k1.toNatClampNeg) (tx35 : x35.toInt = ((σ.2.1 42) k1.toNatClampNeg).toInt) (c36 : x34.toInt = x35.toInt) (ex38 : x38 = (σ.2.1 43) y15.toNatClampNeg) (tx38 : x38.toInt = ((σ.2.1 43) y15.toNatClampNeg).toInt) (ex39 : x39 = (σ.2.1 43) k1.toNatClampNeg) (tx39 : x39.toInt = ((σ.2.1 43) k1.toNatClampNeg).toInt) (c40 : ¬ x38.toInt = x39.toInt) (ex42 : x42 = y15 + (1 : Int32)) : x42.toInt = y15.toInt + 1 := by
  have q1 : (1 : Int32).toInt = 1 := by decide +kernel
  have q6 : (6 : Int32).toInt = 6 := by decide +kernel
  have cl_x17 := hpre_2 y8.toNatClampNeg (by rw [clampZ (by omega)]; omega)
  have z9 : (1 : Int32).toInt = 1 := by decide +kernel
  rw [ex42, z_add (by omega) (by omega)]; first | done | omega
-- inv@58 @58
theorem v_stands_42 (σ : RS) (k0 : Int32) (k1 : Int32) (k2 : Int32) (x1 : Int32) (x3 : Int32) (x4 : Int32) (y8 : Int32) (x12 : Int32) (y15 : Int32) (x16 : Int32) (x17 : Int32) (x18 : Int32) (x31 : Int32) (x34 : Int32) (x35 : Int32) (x38 : Int32) (x39 : Int32) (x42 : Int32) (hpre_0 : 0 ≤ (σ.1 35).toInt) (hpre_1 : (σ.1 35).toInt ≤ 5) (hpre_2 : CLS (σ.1 35).toInt (σ.2.1 36) (σ.2.1 37) (σ.2.1 40)) (hpre_3 : 0 ≤ k0.toInt) (hpre_4 : k0.toInt < (σ.1 35).toInt) (hpre_5 : 0 ≤ k1.toInt) (hpre_6 : k1.toInt < 30) (ex1 : x1 = (σ.2.1 41) k1.toNatClampNeg) (tx1 : x1.toInt = ((σ.2.1 41) k1.toNatClampNeg).toInt) (c2 : x1.toInt = k2.toInt) (ex3 : x3 = (σ.2.1 42) k1.toNatClampNeg) (tx3 : x3.toInt = ((σ.2.1 42) k1.toNatClampNeg).toInt) (ex4 : x4 = (σ.2.1 43) k1.toNatClampNeg) (tx4 : x4.toInt = ((σ.2.1 43) k1.toNatClampNeg).toInt) (hi41_0 : -1 ≤ y8.toInt) (hi41_1 : y8.toInt < (σ.1 35).toInt) (c10 : 0 ≤ y8.toInt) (ex12 : x12 = (6 : Int32) * y8) (tx12 : x12.toInt = 6 * y8.toInt) (hi58_0 : 6 * y8.toInt ≤ y15.toInt) (hi58_1 : y15.toInt ≤ 6 * y8.toInt + 6) (ex16 : x16 = (6 : Int32) * y8) (tx16 : x16.toInt = 6 * y8.toInt) (ex17 : x17 = (σ.2.1 40) y8.toNatClampNeg) (tx17 : x17.toInt = ((σ.2.1 40) y8.toNatClampNeg).toInt) (ex18 : x18 = x16 + x17) (tx18 : x18.toInt = x16.toInt + x17.toInt) (c19 : y15.toInt < x18.toInt) (c23 : ¬ y15.toInt = k1.toInt) (ex31 : x31 = (σ.2.1 41) y15.toNatClampNeg) (tx31 : x31.toInt = ((σ.2.1 41) y15.toNatClampNeg).toInt) (c32 : x31.toInt = k2.toInt) (ex34 : x34 = (σ.2.1 42) y15.toNatClampNeg) (tx34 : x34.toInt = ((σ.2.1 42) y15.toNatClampNeg).toInt) (ex35 : x35 = (σ.2.1 42) k1.toNatClampNeg) (tx35 : x35.toInt = ((σ.2.1 42) k1.toNatClampNeg).toInt) (c36 : x34.toInt = x35.toInt) (ex38 : x38 = (σ.2.1 43) y15.toNatClampNeg) (tx38 : x38.toInt = ((σ.2.1 43) y15.toNatClampNeg).toInt) (ex39 : x39 = (σ.2.1 43) k1.toNatClampNeg) (tx39 : x39.toInt = ((σ.2.1 43) k1.toNatClampNeg).toInt) (c40 : ¬ x38.toInt = x39.toInt) (ex42 : x42 = y15 + (1 : Int32)) (tx42 : x42.toInt = y15.toInt + 1) : 6 * y8.toInt ≤ x42.toInt ∧ x42.toInt ≤ 6 * y8.toInt + 6 ∧ ((1 : Int32).toInt = 0 ∨ (1 : Int32).toInt = 1) := by
  have q1 : (1 : Int32).toInt = 1 := by decide +kernel
  have q6 : (6 : Int32).toInt = 6 := by decide +kernel
  have cl_x17 := hpre_2 y8.toNatClampNeg (by rw [clampZ (by omega)]; omega)
  refine ⟨?_, ?_, ?_⟩ <;> first | assumption | omega | (subst_vars; omega) | trivial
-- meas@58 @58
theorem v_stands_43 (σ : RS) (k0 : Int32) (k1 : Int32) (k2 : Int32) (x1 : Int32) (x3 : Int32) (x4 : Int32) (y8 : Int32) (x12 : Int32) (y15 : Int32) (x16 : Int32) (x17 : Int32) (x18 : Int32) (x31 : Int32) (x34 : Int32) (x35 : Int32) (x38 : Int32) (x39 : Int32) (x42 : Int32) (hpre_0 : 0 ≤ (σ.1 35).toInt) (hpre_1 : (σ.1 35).toInt ≤ 5) (hpre_2 : CLS (σ.1 35).toInt (σ.2.1 36) (σ.2.1 37) (σ.2.1 40)) (hpre_3 : 0 ≤ k0.toInt) (hpre_4 : k0.toInt < (σ.1 35).toInt) (hpre_5 : 0 ≤ k1.toInt) (hpre_6 : k1.toInt < 30) (ex1 : x1 = (σ.2.1 41) k1.toNatClampNeg) (tx1 : x1.toInt = ((σ.2.1 41) k1.toNatClampNeg).toInt) (c2 : x1.toInt = k2.toInt) (ex3 : x3 = (σ.2.1 42) k1.toNatClampNeg) (tx3 : x3.toInt = ((σ.2.1 42) k1.toNatClampNeg).toInt) (ex4 : x4 = (σ.2.1 43) k1.toNatClampNeg) (tx4 : x4.toInt = ((σ.2.1 43) k1.toNatClampNeg).toInt) (hi41_0 : -1 ≤ y8.toInt) (hi41_1 : y8.toInt < (σ.1 35).toInt) (c10 : 0 ≤ y8.toInt) (ex12 : x12 = (6 : Int32) * y8) (tx12 : x12.toInt = 6 * y8.toInt) (hi58_0 : 6 * y8.toInt ≤ y15.toInt) (hi58_1 : y15.toInt ≤ 6 * y8.toInt + 6) (ex16 : x16 = (6 : Int32) * y8) (tx16 : x16.toInt = 6 * y8.toInt) (ex17 : x17 = (σ.2.1 40) y8.toNatClampNeg) (tx17 : x17.toInt = ((σ.2.1 40) y8.toNatClampNeg).toInt) (ex18 : x18 = x16 + x17) (tx18 : x18.toInt = x16.toInt + x17.toInt) (c19 : y15.toInt < x18.toInt) (c23 : ¬ y15.toInt = k1.toInt) (ex31 : x31 = (σ.2.1 41) y15.toNatClampNeg) (tx31 : x31.toInt = ((σ.2.1 41) y15.toNatClampNeg).toInt) (c32 : x31.toInt = k2.toInt) (ex34 : x34 = (σ.2.1 42) y15.toNatClampNeg) (tx34 : x34.toInt = ((σ.2.1 42) y15.toNatClampNeg).toInt) (ex35 : x35 = (σ.2.1 42) k1.toNatClampNeg) (tx35 : x35.toInt = ((σ.2.1 42) k1.toNatClampNeg).toInt) (c36 : x34.toInt = x35.toInt) (ex38 : x38 = (σ.2.1 43) y15.toNatClampNeg) (tx38 : x38.toInt = ((σ.2.1 43) y15.toNatClampNeg).toInt) (ex39 : x39 = (σ.2.1 43) k1.toNatClampNeg) (tx39 : x39.toInt = ((σ.2.1 43) k1.toNatClampNeg).toInt) (c40 : ¬ x38.toInt = x39.toInt) (ex42 : x42 = y15 + (1 : Int32)) (tx42 : x42.toInt = y15.toInt + 1) : (6 * y8.toInt + 6 - x42.toInt).toNat < (6 * y8.toInt + 6 - y15.toInt).toNat := by
  have q1 : (1 : Int32).toInt = 1 := by decide +kernel
  have q6 : (6 : Int32).toInt = 6 := by decide +kernel
  have cl_x17 := hpre_2 y8.toNatClampNeg (by rw [clampZ (by omega)]; omega)
  first | assumption | omega | (subst_vars; omega) | trivial
set_option maxHeartbeats 4000000 in
set_option maxRecDepth 100000 in
theorem L_stands_58_2 {p : Program} {e : Env} {s : State} {m : MethodId} {below : List Frame} {meth : Method} {c : Code} (l : Launch) (D : va_G) (cy : Nat → ClassId) (sz0 : Nat) (sa : Nat → Nat) (ad : Nat → Nat) (sz : Nat) (σ : RS) (k0 : Int32) (k1 : Int32) (k2 : Int32) (k3 : Int32) (x1 : Int32) (x3 : Int32) (x4 : Int32) (r5 : Int32) (y7 : Int32) (y8 : Int32) (y9 : Int32) (x12 : Int32) (C : RC p s m #[.ref (ad 0), .int k0, .int k1, .int k2, .int k3] meth c cX12_stands 9 (some .boolean) D cy sz0 sa ad (AR cy ad sz)) (hpre_0 : 0 ≤ (σ.1 35).toInt) (hpre_1 : (σ.1 35).toInt ≤ 5) (hpre_2 : CLS (σ.1 35).toInt (σ.2.1 36) (σ.2.1 37) (σ.2.1 40)) (hpre_3 : 0 ≤ k0.toInt) (hpre_4 : k0.toInt < (σ.1 35).toInt) (hpre_5 : 0 ≤ k1.toInt) (hpre_6 : k1.toInt < 30) (ex1 : x1 = (σ.2.1 41) k1.toNatClampNeg) (tx1 : x1.toInt = ((σ.2.1 41) k1.toNatClampNeg).toInt) (c2 : x1.toInt = k2.toInt) (ex3 : x3 = (σ.2.1 42) k1.toNatClampNeg) (tx3 : x3.toInt = ((σ.2.1 42) k1.toNatClampNeg).toInt) (ex4 : x4 = (σ.2.1 43) k1.toNatClampNeg) (tx4 : x4.toInt = ((σ.2.1 43) k1.toNatClampNeg).toInt) (hr5_0 : 0 ≤ r5.toInt) (hr5_1 : r5.toInt ≤ 2) (hr5_2 : ¬ x3.toInt = 0 → 1 ≤ r5.toInt) (c6 : r5.toInt = k3.toInt) (hi41_0 : -1 ≤ y8.toInt) (hi41_1 : y8.toInt < (σ.1 35).toInt) (hi41_2 : y7.toInt = 0 ∨ y7.toInt = 1) (c10 : 0 ≤ y8.toInt) (c11 : ¬ y9.toInt = 0) (ex12 : x12 = (6 : Int32) * y8) (tx12 : x12.toInt = 6 * y8.toInt) (n41 : Nat) (hn41 : (y8.toInt + 1).toNat < n41 + 1) (ih41 : ∀ (y7 : Int32) (y8 : Int32) (y9 : Int32) (H : Heap) (locs : List Loc) (ls : Array Slot), (y8.toInt + 1).toNat < n41 → (-1 ≤ y8.toInt ∧ y8.toInt < (σ.1 35).toInt ∧ (y7.toInt = 0 ∨ y7.toInt = 1)) → RP D cy ad σ H → va_S (AR cy ad sz) s.heap H locs → lv_has ls 9 [(7, .int y9), (6, .int y8), (5, .int y7), (0, .ref (ad 0)), (1, .int k0), (2, .int k1), (3, .int k2), (4, .int k3)] → W p l e (headSpec (Cond.code yX12_stands cX12_stands 9 (some .boolean) :: GWm) ({ frames := 1, cells := 0, slots := 0, locals := 21 })).room s m #[.ref (ad 0), .int k0, .int k1, .int k2, .int k3] below meth c H locs 0 0 (MQ below (va_Qi (fun (r : Int32) (u : Unit) => True) (fun (u : Unit) (t : State) => RP D cy ad σ t.heap) (AR cy ad sz)) #[.ref (ad 0), .int k0, .int k1, .int k2, .int k3] s 0 0 (AR cy ad sz)) (F0 m 41 ls [])) : ∀ (n : Nat) (y13 : Int32) (y14 : Int32) (y15 : Int32) (H : Heap) (locs : List Loc) (ls : Array Slot), (6 * y8.toInt + 6 - y15.toInt).toNat < n → (6 * y8.toInt ≤ y15.toInt ∧ y15.toInt ≤ 6 * y8.toInt + 6 ∧ (y13.toInt = 0 ∨ y13.toInt = 1)) → RP D cy ad σ H → va_S (AR cy ad sz) s.heap H locs → lv_has ls 9 [(8, .int y15), (7, .int y14), (6, .int y8), (5, .int y13), (0, .ref (ad 0)), (1, .int k0), (2, .int k1), (3, .int k2), (4, .int k3)] → W p l e (headSpec (Cond.code yX12_stands cX12_stands 9 (some .boolean) :: GWm) ({ frames := 1, cells := 0, slots := 0, locals := 21 })).room s m #[.ref (ad 0), .int k0, .int k1, .int k2, .int k3] below meth c H locs 0 0 (MQ below (va_Qi (fun (r : Int32) (u : Unit) => True) (fun (u : Unit) (t : State) => RP D cy ad σ t.heap) (AR cy ad sz)) #[.ref (ad 0), .int k0, .int k1, .int k2, .int k3] s 0 0 (AR cy ad sz)) (F0 m 58 ls []) := by
  have hx := C.1
  have hb := C.2.1
  have hown := C.2.2.2.2.1
  have hw := C.2.2.2.2.2.1
  intro n
  induction n with
  | zero => intro y13 y14 y15 H locs ls hn; exact absurd hn (Nat.not_lt_zero _)
  | succ n58 ih58 =>
    intro y13 y14 y15 H locs ls hn58 hi58 hP hS hl
    obtain ⟨hi58_0, hi58_1, hi58_2⟩ := hi58
    refine lv_iload hx hb dX12_stands_58 (lv_at hl 0 rfl) ?_
    refine lv_bipush (v := 6) hx hb dX12_stands_60 (by decide +kernel) ?_
    refine lv_iload hx hb dX12_stands_62 (lv_at hl 2 rfl) ?_
    refine lv_imul hx hb dX12_stands_64 ?_
    refine lv_topi (fun x16 ex16 => ?_)
    have tx16 : x16.toInt = 6 * y8.toInt := (v_stands_9 σ k0 y8 x12 y15 x16 hpre_0 hpre_1 hpre_2 hpre_3 hpre_4 hi41_0 hi41_1 c10 ex12 tx12 hi58_0 hi58_1 ex16)
    refine lv_aload_n hx hb dX12_stands_65 rfl (lv_at hl 4 rfl) ?_
    refine rg_40 C hP wm_194 dX12_stands_66 ?_
    refine lv_iload hx hb dX12_stands_69 (lv_at hl 2 rfl) ?_
    refine ra_40 (f := (σ.2.1 40)) C hP rfl (v_stands_10 σ k0 y8 x12 y15 x16 hpre_0 hpre_1 hpre_2 hpre_3 hpre_4 hi41_0 hi41_1 c10 ex12 tx12 hi58_0 hi58_1 ex16 tx16) dX12_stands_71 (fun x17 ex17 => ?_)
    have tx17 : x17.toInt = ((σ.2.1 40) y8.toNatClampNeg).toInt := by rw [ex17]
    refine lv_iadd hx hb dX12_stands_72 ?_
    refine lv_topi (fun x18 ex18 => ?_)
    have tx18 : x18.toInt = x16.toInt + x17.toInt := (v_stands_11 σ k0 y8 x12 y15 x16 x17 x18 hpre_0 hpre_1 hpre_2 hpre_3 hpre_4 hi41_0 hi41_1 c10 ex12 tx12 hi58_0 hi58_1 ex16 tx16 ex17 tx17 ex18)
    refine lv_icmp_ge (tgt := 160) hx hb dX12_stands_73 (by decide) (fun c19 => ?_) (fun c19 => ?_)
    · have c19 : x18.toInt ≤ y15.toInt := by have h := z_le c19; exact h
      refine lv_aload_n hx hb dX12_stands_160 rfl (lv_at hl 4 rfl) ?_
      refine rg_36 C hP wm_182 dX12_stands_161 ?_
      refine lv_iload hx hb dX12_stands_164 (lv_at hl 2 rfl) ?_
      refine ra_36 (f := (σ.2.1 36)) C hP rfl (v_stands_12 σ k0 y8 x12 y15 x16 x17 x18 hpre_0 hpre_1 hpre_2 hpre_3 hpre_4 hi41_0 hi41_1 c10 ex12 tx12 hi58_0 hi58_1 ex16 tx16 ex17 tx17 ex18 tx18 c19) dX12_stands_166 (fun x20 ex20 => ?_)
      have tx20 : x20.toInt = ((σ.2.1 36) y8.toNatClampNeg).toInt := by rw [ex20]
      refine lv_istore (lv' := [(6, .int x20), (8, .int y15), (7, .int y14), (5, .int y13), (0, .ref (ad 0)), (1, .int k0), (2, .int k1), (3, .int k2), (4, .int k3)]) hx hb dX12_stands_167 hl (by decide) rfl (fun ls hl => ?_)
      refine lv_goto (tgt := 41) hx hb dX12_stands_169 (by decide) ?_
      exact ih41 y13 x20 y14 _ _ _ (Nat.lt_of_lt_of_le (v_stands_14 σ k0 y8 x12 y15 x16 x17 x18 x20 hpre_0 hpre_1 hpre_2 hpre_3 hpre_4 hi41_0 hi41_1 c10 ex12 tx12 hi58_0 hi58_1 ex16 tx16 ex17 tx17 ex18 tx18 c19 ex20 tx20) (Nat.le_of_lt_succ hn41)) (v_stands_13 σ k0 y8 x12 y13 y15 x16 x17 x18 x20 hpre_0 hpre_1 hpre_2 hpre_3 hpre_4 hi41_0 hi41_1 c10 ex12 tx12 hi58_0 hi58_1 hi58_2 ex16 tx16 ex17 tx17 ex18 tx18 c19 ex20 tx20) hP hS (lv_sub hl [2, 0, 3, 4, 5, 6, 7, 8] rfl)
    · have c19 : y15.toInt < x18.toInt := by have h := z_nle c19; exact h
      refine lv_iload hx hb dX12_stands_76 (lv_at hl 1 rfl) ?_
      refine lv_if_eq (tgt := 160) hx hb dX12_stands_78 (by decide) (fun c21 => ?_) (fun c21 => ?_)
      · have c21 : y14.toInt = 0 := by have h := z_eq c21; rw [show (0 : Int32).toInt = 0 from by decide +kernel] at h; exact h
        refine lv_aload_n hx hb dX12_stands_160 rfl (lv_at hl 4 rfl) ?_
        refine rg_36 C hP wm_182 dX12_stands_161 ?_
        refine lv_iload hx hb dX12_stands_164 (lv_at hl 2 rfl) ?_
        refine ra_36 (f := (σ.2.1 36)) C hP rfl (v_stands_15 σ k0 y8 x12 y15 x16 x17 x18 hpre_0 hpre_1 hpre_2 hpre_3 hpre_4 hi41_0 hi41_1 c10 ex12 tx12 hi58_0 hi58_1 ex16 tx16 ex17 tx17 ex18 tx18 c19) dX12_stands_166 (fun x22 ex22 => ?_)
        have tx22 : x22.toInt = ((σ.2.1 36) y8.toNatClampNeg).toInt := by rw [ex22]
        refine lv_istore (lv' := [(6, .int x22), (8, .int y15), (7, .int y14), (5, .int y13), (0, .ref (ad 0)), (1, .int k0), (2, .int k1), (3, .int k2), (4, .int k3)]) hx hb dX12_stands_167 hl (by decide) rfl (fun ls hl => ?_)
        refine lv_goto (tgt := 41) hx hb dX12_stands_169 (by decide) ?_
        exact ih41 y13 x22 y14 _ _ _ (Nat.lt_of_lt_of_le (v_stands_17 σ k0 y8 x12 y15 x16 x17 x18 x22 hpre_0 hpre_1 hpre_2 hpre_3 hpre_4 hi41_0 hi41_1 c10 ex12 tx12 hi58_0 hi58_1 ex16 tx16 ex17 tx17 ex18 tx18 c19 ex22 tx22) (Nat.le_of_lt_succ hn41)) (v_stands_16 σ k0 y8 x12 y13 y15 x16 x17 x18 x22 hpre_0 hpre_1 hpre_2 hpre_3 hpre_4 hi41_0 hi41_1 c10 ex12 tx12 hi58_0 hi58_1 hi58_2 ex16 tx16 ex17 tx17 ex18 tx18 c19 ex22 tx22) hP hS (lv_sub hl [2, 0, 3, 4, 5, 6, 7, 8] rfl)
      · have c21 : ¬ y14.toInt = 0 := by have h := z_ne c21; rw [show (0 : Int32).toInt = 0 from by decide +kernel] at h; exact h
        refine lv_iload hx hb dX12_stands_81 (lv_at hl 0 rfl) ?_
        refine lv_iload_n hx hb dX12_stands_83 rfl (lv_at hl 6 rfl) ?_
        refine lv_icmp_eq (tgt := 91) hx hb dX12_stands_84 (by decide) (fun c23 => ?_) (fun c23 => ?_)
        · have c23 : y15.toInt = k1.toInt := by have h := z_eq c23; exact h
          refine lv_iconst (v := 0) hx hb dX12_stands_91 (by decide +kernel) ?_
          refine lv_istore (lv' := [(7, .int 0), (8, .int y15), (6, .int y8), (5, .int y13), (0, .ref (ad 0)), (1, .int k0), (2, .int k1), (3, .int k2), (4, .int k3)]) hx hb dX12_stands_92 hl (by decide) rfl (fun ls hl => ?_)
          refine lv_iload hx hb dX12_stands_94 (lv_at hl 3 rfl) ?_
          refine lv_if_eq (tgt := 151) hx hb dX12_stands_96 (by decide) (fun c24 => ?_) (fun c24 => ?_)
          · have c24 : y13.toInt = 0 := by have h := z_eq c24; rw [show (0 : Int32).toInt = 0 from by decide +kernel] at h; exact h
            refine lv_iconst (v := 0) hx hb dX12_stands_151 (by decide +kernel) ?_
            refine lv_istore (lv' := [(5, .int 0), (7, .int 0), (8, .int y15), (6, .int y8), (0, .ref (ad 0)), (1, .int k0), (2, .int k1), (3, .int k2), (4, .int k3)]) hx hb dX12_stands_152 hl (by decide) rfl (fun ls hl => ?_)
            obtain ⟨x25, ex25⟩ : ∃ y : Int32, y = y15 + (1 : Int32) := ⟨_, rfl⟩
            have tx25 : x25.toInt = y15.toInt + 1 := (v_stands_18 σ k0 k1 k2 x1 x3 x4 y8 x12 y15 x16 x17 x18 x25 hpre_0 hpre_1 hpre_2 hpre_3 hpre_4 hpre_5 hpre_6 ex1 tx1 c2 ex3 tx3 ex4 tx4 hi41_0 hi41_1 c10 ex12 tx12 hi58_0 hi58_1 ex16 tx16 ex17 tx17 ex18 tx18 c19 c23 ex25)
            refine lv_iinc (v := x25) (lv' := [(8, .int x25), (5, .int 0), (7, .int 0), (6, .int y8), (0, .ref (ad 0)), (1, .int k0), (2, .int k1), (3, .int k2), (4, .int k3)]) hx hb dX12_stands_154 hl (k := 2) rfl (by rw [ex25]; rfl) (by decide) rfl (fun ls hl => ?_)
            refine lv_goto (tgt := 58) hx hb dX12_stands_157 (by decide) ?_
            exact ih58 (0 : Int32) (0 : Int32) x25 _ _ _ (Nat.lt_of_lt_of_le (v_stands_20 σ k0 k1 k2 x1 x3 x4 y8 x12 y15 x16 x17 x18 x25 hpre_0 hpre_1 hpre_2 hpre_3 hpre_4 hpre_5 hpre_6 ex1 tx1 c2 ex3 tx3 ex4 tx4 hi41_0 hi41_1 c10 ex12 tx12 hi58_0 hi58_1 ex16 tx16 ex17 tx17 ex18 tx18 c19 c23 ex25 tx25) (Nat.le_of_lt_succ hn58)) (v_stands_19 σ k0 k1 k2 x1 x3 x4 y8 x12 y15 x16 x17 x18 x25 hpre_0 hpre_1 hpre_2 hpre_3 hpre_4 hpre_5 hpre_6 ex1 tx1 c2 ex3 tx3 ex4 tx4 hi41_0 hi41_1 c10 ex12 tx12 hi58_0 hi58_1 ex16 tx16 ex17 tx17 ex18 tx18 c19 c23 ex25 tx25) hP hS (lv_sub hl [0, 2, 3, 1, 4, 5, 6, 7, 8] rfl)
          · have c24 : ¬ y13.toInt = 0 := by have h := z_ne c24; rw [show (0 : Int32).toInt = 0 from by decide +kernel] at h; exact h
            refine lv_iload hx hb dX12_stands_99 (lv_at hl 0 rfl) ?_
            refine lv_if_eq (tgt := 147) hx hb dX12_stands_101 (by decide) (fun _ => ?_) (fun c26 => absurd (by decide +kernel) c26)
            refine lv_iconst (v := 1) hx hb dX12_stands_147 (by decide +kernel) ?_
            refine lv_goto (tgt := 152) hx hb dX12_stands_148 (by decide) ?_
            refine lv_istore (lv' := [(5, .int 1), (7, .int 0), (8, .int y15), (6, .int y8), (0, .ref (ad 0)), (1, .int k0), (2, .int k1), (3, .int k2), (4, .int k3)]) hx hb dX12_stands_152 hl (by decide) rfl (fun ls hl => ?_)
            obtain ⟨x27, ex27⟩ : ∃ y : Int32, y = y15 + (1 : Int32) := ⟨_, rfl⟩
            have tx27 : x27.toInt = y15.toInt + 1 := (v_stands_21 σ k0 k1 k2 x1 x3 x4 y8 x12 y15 x16 x17 x18 x27 hpre_0 hpre_1 hpre_2 hpre_3 hpre_4 hpre_5 hpre_6 ex1 tx1 c2 ex3 tx3 ex4 tx4 hi41_0 hi41_1 c10 ex12 tx12 hi58_0 hi58_1 ex16 tx16 ex17 tx17 ex18 tx18 c19 c23 ex27)
            refine lv_iinc (v := x27) (lv' := [(8, .int x27), (5, .int 1), (7, .int 0), (6, .int y8), (0, .ref (ad 0)), (1, .int k0), (2, .int k1), (3, .int k2), (4, .int k3)]) hx hb dX12_stands_154 hl (k := 2) rfl (by rw [ex27]; rfl) (by decide) rfl (fun ls hl => ?_)
            refine lv_goto (tgt := 58) hx hb dX12_stands_157 (by decide) ?_
            exact ih58 (1 : Int32) (0 : Int32) x27 _ _ _ (Nat.lt_of_lt_of_le (v_stands_23 σ k0 k1 k2 x1 x3 x4 y8 x12 y15 x16 x17 x18 x27 hpre_0 hpre_1 hpre_2 hpre_3 hpre_4 hpre_5 hpre_6 ex1 tx1 c2 ex3 tx3 ex4 tx4 hi41_0 hi41_1 c10 ex12 tx12 hi58_0 hi58_1 ex16 tx16 ex17 tx17 ex18 tx18 c19 c23 ex27 tx27) (Nat.le_of_lt_succ hn58)) (v_stands_22 σ k0 k1 k2 x1 x3 x4 y8 x12 y15 x16 x17 x18 x27 hpre_0 hpre_1 hpre_2 hpre_3 hpre_4 hpre_5 hpre_6 ex1 tx1 c2 ex3 tx3 ex4 tx4 hi41_0 hi41_1 c10 ex12 tx12 hi58_0 hi58_1 ex16 tx16 ex17 tx17 ex18 tx18 c19 c23 ex27 tx27) hP hS (lv_sub hl [0, 2, 3, 1, 4, 5, 6, 7, 8] rfl)
        · have c23 : ¬ y15.toInt = k1.toInt := by have h := z_ne c23; exact h
          refine lv_iconst (v := 1) hx hb dX12_stands_87 (by decide +kernel) ?_
          refine lv_goto (tgt := 92) hx hb dX12_stands_88 (by decide) ?_
          refine lv_istore (lv' := [(7, .int 1), (8, .int y15), (6, .int y8), (5, .int y13), (0, .ref (ad 0)), (1, .int k0), (2, .int k1), (3, .int k2), (4, .int k3)]) hx hb dX12_stands_92 hl (by decide) rfl (fun ls hl => ?_)
          refine lv_iload hx hb dX12_stands_94 (lv_at hl 3 rfl) ?_
          refine lv_if_eq (tgt := 151) hx hb dX12_stands_96 (by decide) (fun c28 => ?_) (fun c28 => ?_)
          · have c28 : y13.toInt = 0 := by have h := z_eq c28; rw [show (0 : Int32).toInt = 0 from by decide +kernel] at h; exact h
            refine lv_iconst (v := 0) hx hb dX12_stands_151 (by decide +kernel) ?_
            refine lv_istore (lv' := [(5, .int 0), (7, .int 1), (8, .int y15), (6, .int y8), (0, .ref (ad 0)), (1, .int k0), (2, .int k1), (3, .int k2), (4, .int k3)]) hx hb dX12_stands_152 hl (by decide) rfl (fun ls hl => ?_)
            obtain ⟨x29, ex29⟩ : ∃ y : Int32, y = y15 + (1 : Int32) := ⟨_, rfl⟩
            have tx29 : x29.toInt = y15.toInt + 1 := (v_stands_24 σ k0 k1 k2 x1 x3 x4 y8 x12 y15 x16 x17 x18 x29 hpre_0 hpre_1 hpre_2 hpre_3 hpre_4 hpre_5 hpre_6 ex1 tx1 c2 ex3 tx3 ex4 tx4 hi41_0 hi41_1 c10 ex12 tx12 hi58_0 hi58_1 ex16 tx16 ex17 tx17 ex18 tx18 c19 c23 ex29)
            refine lv_iinc (v := x29) (lv' := [(8, .int x29), (5, .int 0), (7, .int 1), (6, .int y8), (0, .ref (ad 0)), (1, .int k0), (2, .int k1), (3, .int k2), (4, .int k3)]) hx hb dX12_stands_154 hl (k := 2) rfl (by rw [ex29]; rfl) (by decide) rfl (fun ls hl => ?_)
            refine lv_goto (tgt := 58) hx hb dX12_stands_157 (by decide) ?_
            exact ih58 (0 : Int32) (1 : Int32) x29 _ _ _ (Nat.lt_of_lt_of_le (v_stands_26 σ k0 k1 k2 x1 x3 x4 y8 x12 y15 x16 x17 x18 x29 hpre_0 hpre_1 hpre_2 hpre_3 hpre_4 hpre_5 hpre_6 ex1 tx1 c2 ex3 tx3 ex4 tx4 hi41_0 hi41_1 c10 ex12 tx12 hi58_0 hi58_1 ex16 tx16 ex17 tx17 ex18 tx18 c19 c23 ex29 tx29) (Nat.le_of_lt_succ hn58)) (v_stands_25 σ k0 k1 k2 x1 x3 x4 y8 x12 y15 x16 x17 x18 x29 hpre_0 hpre_1 hpre_2 hpre_3 hpre_4 hpre_5 hpre_6 ex1 tx1 c2 ex3 tx3 ex4 tx4 hi41_0 hi41_1 c10 ex12 tx12 hi58_0 hi58_1 ex16 tx16 ex17 tx17 ex18 tx18 c19 c23 ex29 tx29) hP hS (lv_sub hl [0, 2, 3, 1, 4, 5, 6, 7, 8] rfl)
          · have c28 : ¬ y13.toInt = 0 := by have h := z_ne c28; rw [show (0 : Int32).toInt = 0 from by decide +kernel] at h; exact h
            refine lv_iload hx hb dX12_stands_99 (lv_at hl 0 rfl) ?_
            refine lv_if_eq (tgt := 147) hx hb dX12_stands_101 (by decide) (fun c30 => absurd c30 (by decide +kernel)) (fun _ => ?_)
            refine lv_aload_n hx hb dX12_stands_104 rfl (lv_at hl 4 rfl) ?_
            refine rg_41 C hP wm_195 dX12_stands_105 ?_
            refine lv_iload hx hb dX12_stands_108 (lv_at hl 1 rfl) ?_
            refine ra_41 (f := (σ.2.1 41)) C hP rfl (v_stands_27 σ k0 k1 k2 x1 x3 x4 y8 x12 y15 x16 x17 x18 hpre_0 hpre_1 hpre_2 hpre_3 hpre_4 hpre_5 hpre_6 ex1 tx1 c2 ex3 tx3 ex4 tx4 hi41_0 hi41_1 c10 ex12 tx12 hi58_0 hi58_1 ex16 tx16 ex17 tx17 ex18 tx18 c19 c23) dX12_stands_110 (fun x31 ex31 => ?_)
            have tx31 : x31.toInt = ((σ.2.1 41) y15.toNatClampNeg).toInt := by rw [ex31]
            refine lv_iload_n hx hb dX12_stands_111 rfl (lv_at hl 7 rfl) ?_
            refine lv_icmp_ne (tgt := 147) hx hb dX12_stands_112 (by decide) (fun c32 => ?_) (fun c32 => ?_)
            · have c32 : ¬ x31.toInt = k2.toInt := by have h := z_ne c32; exact h
              refine lv_iconst (v := 1) hx hb dX12_stands_147 (by decide +kernel) ?_
              refine lv_goto (tgt := 152) hx hb dX12_stands_148 (by decide) ?_
              refine lv_istore (lv' := [(5, .int 1), (7, .int 1), (8, .int y15), (6, .int y8), (0, .ref (ad 0)), (1, .int k0), (2, .int k1), (3, .int k2), (4, .int k3)]) hx hb dX12_stands_152 hl (by decide) rfl (fun ls hl => ?_)
              obtain ⟨x33, ex33⟩ : ∃ y : Int32, y = y15 + (1 : Int32) := ⟨_, rfl⟩
              have tx33 : x33.toInt = y15.toInt + 1 := (v_stands_28 σ k0 k1 k2 x1 x3 x4 y8 x12 y15 x16 x17 x18 x31 x33 hpre_0 hpre_1 hpre_2 hpre_3 hpre_4 hpre_5 hpre_6 ex1 tx1 c2 ex3 tx3 ex4 tx4 hi41_0 hi41_1 c10 ex12 tx12 hi58_0 hi58_1 ex16 tx16 ex17 tx17 ex18 tx18 c19 c23 ex31 tx31 c32 ex33)
              refine lv_iinc (v := x33) (lv' := [(8, .int x33), (5, .int 1), (7, .int 1), (6, .int y8), (0, .ref (ad 0)), (1, .int k0), (2, .int k1), (3, .int k2), (4, .int k3)]) hx hb dX12_stands_154 hl (k := 2) rfl (by rw [ex33]; rfl) (by decide) rfl (fun ls hl => ?_)
              refine lv_goto (tgt := 58) hx hb dX12_stands_157 (by decide) ?_
              exact ih58 (1 : Int32) (1 : Int32) x33 _ _ _ (Nat.lt_of_lt_of_le (v_stands_30 σ k0 k1 k2 x1 x3 x4 y8 x12 y15 x16 x17 x18 x31 x33 hpre_0 hpre_1 hpre_2 hpre_3 hpre_4 hpre_5 hpre_6 ex1 tx1 c2 ex3 tx3 ex4 tx4 hi41_0 hi41_1 c10 ex12 tx12 hi58_0 hi58_1 ex16 tx16 ex17 tx17 ex18 tx18 c19 c23 ex31 tx31 c32 ex33 tx33) (Nat.le_of_lt_succ hn58)) (v_stands_29 σ k0 k1 k2 x1 x3 x4 y8 x12 y15 x16 x17 x18 x31 x33 hpre_0 hpre_1 hpre_2 hpre_3 hpre_4 hpre_5 hpre_6 ex1 tx1 c2 ex3 tx3 ex4 tx4 hi41_0 hi41_1 c10 ex12 tx12 hi58_0 hi58_1 ex16 tx16 ex17 tx17 ex18 tx18 c19 c23 ex31 tx31 c32 ex33 tx33) hP hS (lv_sub hl [0, 2, 3, 1, 4, 5, 6, 7, 8] rfl)
            · have c32 : x31.toInt = k2.toInt := by have h := z_eq c32; exact h
              refine lv_aload_n hx hb dX12_stands_115 rfl (lv_at hl 4 rfl) ?_
              refine rg_42 C hP wm_196 dX12_stands_116 ?_
              refine lv_iload hx hb dX12_stands_119 (lv_at hl 1 rfl) ?_
              refine ra_42 (f := (σ.2.1 42)) C hP rfl (v_stands_31 σ k0 k1 k2 x1 x3 x4 y8 x12 y15 x16 x17 x18 x31 hpre_0 hpre_1 hpre_2 hpre_3 hpre_4 hpre_5 hpre_6 ex1 tx1 c2 ex3 tx3 ex4 tx4 hi41_0 hi41_1 c10 ex12 tx12 hi58_0 hi58_1 ex16 tx16 ex17 tx17 ex18 tx18 c19 c23 ex31 tx31 c32) dX12_stands_121 (fun x34 ex34 => ?_)
              have tx34 : x34.toInt = ((σ.2.1 42) y15.toNatClampNeg).toInt := by rw [ex34]
              refine lv_aload_n hx hb dX12_stands_122 rfl (lv_at hl 4 rfl) ?_
              refine rg_42 C hP wm_196 dX12_stands_123 ?_
              refine lv_iload_n hx hb dX12_stands_126 rfl (lv_at hl 6 rfl) ?_
              refine ra_42 (f := (σ.2.1 42)) C hP rfl (v_stands_32 σ k0 k1 k2 k3 x1 x3 x4 r5 y8 x12 y15 x16 x17 x18 x31 x34 hpre_0 hpre_1 hpre_2 hpre_3 hpre_4 hpre_5 hpre_6 ex1 tx1 c2 ex3 tx3 ex4 tx4 hr5_0 hr5_1 hr5_2 c6 hi41_0 hi41_1 c10 ex12 tx12 hi58_0 hi58_1 ex16 tx16 ex17 tx17 ex18 tx18 c19 c23 ex31 tx31 c32 ex34 tx34) dX12_stands_127 (fun x35 ex35 => ?_)
              have tx35 : x35.toInt = ((σ.2.1 42) k1.toNatClampNeg).toInt := by rw [ex35]
              refine lv_icmp_ne (tgt := 147) hx hb dX12_stands_128 (by decide) (fun c36 => ?_) (fun c36 => ?_)
              · have c36 : ¬ x34.toInt = x35.toInt := by have h := z_ne c36; exact h
                refine lv_iconst (v := 1) hx hb dX12_stands_147 (by decide +kernel) ?_
                refine lv_goto (tgt := 152) hx hb dX12_stands_148 (by decide) ?_
                refine lv_istore (lv' := [(5, .int 1), (7, .int 1), (8, .int y15), (6, .int y8), (0, .ref (ad 0)), (1, .int k0), (2, .int k1), (3, .int k2), (4, .int k3)]) hx hb dX12_stands_152 hl (by decide) rfl (fun ls hl => ?_)
                obtain ⟨x37, ex37⟩ : ∃ y : Int32, y = y15 + (1 : Int32) := ⟨_, rfl⟩
                have tx37 : x37.toInt = y15.toInt + 1 := (v_stands_33 σ k0 k1 k2 x1 x3 x4 y8 x12 y15 x16 x17 x18 x31 x34 x35 x37 hpre_0 hpre_1 hpre_2 hpre_3 hpre_4 hpre_5 hpre_6 ex1 tx1 c2 ex3 tx3 ex4 tx4 hi41_0 hi41_1 c10 ex12 tx12 hi58_0 hi58_1 ex16 tx16 ex17 tx17 ex18 tx18 c19 c23 ex31 tx31 c32 ex34 tx34 ex35 tx35 c36 ex37)
                refine lv_iinc (v := x37) (lv' := [(8, .int x37), (5, .int 1), (7, .int 1), (6, .int y8), (0, .ref (ad 0)), (1, .int k0), (2, .int k1), (3, .int k2), (4, .int k3)]) hx hb dX12_stands_154 hl (k := 2) rfl (by rw [ex37]; rfl) (by decide) rfl (fun ls hl => ?_)
                refine lv_goto (tgt := 58) hx hb dX12_stands_157 (by decide) ?_
                exact ih58 (1 : Int32) (1 : Int32) x37 _ _ _ (Nat.lt_of_lt_of_le (v_stands_35 σ k0 k1 k2 x1 x3 x4 y8 x12 y15 x16 x17 x18 x31 x34 x35 x37 hpre_0 hpre_1 hpre_2 hpre_3 hpre_4 hpre_5 hpre_6 ex1 tx1 c2 ex3 tx3 ex4 tx4 hi41_0 hi41_1 c10 ex12 tx12 hi58_0 hi58_1 ex16 tx16 ex17 tx17 ex18 tx18 c19 c23 ex31 tx31 c32 ex34 tx34 ex35 tx35 c36 ex37 tx37) (Nat.le_of_lt_succ hn58)) (v_stands_34 σ k0 k1 k2 x1 x3 x4 y8 x12 y15 x16 x17 x18 x31 x34 x35 x37 hpre_0 hpre_1 hpre_2 hpre_3 hpre_4 hpre_5 hpre_6 ex1 tx1 c2 ex3 tx3 ex4 tx4 hi41_0 hi41_1 c10 ex12 tx12 hi58_0 hi58_1 ex16 tx16 ex17 tx17 ex18 tx18 c19 c23 ex31 tx31 c32 ex34 tx34 ex35 tx35 c36 ex37 tx37) hP hS (lv_sub hl [0, 2, 3, 1, 4, 5, 6, 7, 8] rfl)
              · have c36 : x34.toInt = x35.toInt := by have h := z_eq c36; exact h
                refine lv_aload_n hx hb dX12_stands_131 rfl (lv_at hl 4 rfl) ?_
                refine rg_43 C hP wm_197 dX12_stands_132 ?_
                refine lv_iload hx hb dX12_stands_135 (lv_at hl 1 rfl) ?_
                refine ra_43 (f := (σ.2.1 43)) C hP rfl (v_stands_36 σ k0 k1 k2 x1 x3 x4 y8 x12 y15 x16 x17 x18 x31 x34 x35 hpre_0 hpre_1 hpre_2 hpre_3 hpre_4 hpre_5 hpre_6 ex1 tx1 c2 ex3 tx3 ex4 tx4 hi41_0 hi41_1 c10 ex12 tx12 hi58_0 hi58_1 ex16 tx16 ex17 tx17 ex18 tx18 c19 c23 ex31 tx31 c32 ex34 tx34 ex35 tx35 c36) dX12_stands_137 (fun x38 ex38 => ?_)
                have tx38 : x38.toInt = ((σ.2.1 43) y15.toNatClampNeg).toInt := by rw [ex38]
                refine lv_aload_n hx hb dX12_stands_138 rfl (lv_at hl 4 rfl) ?_
                refine rg_43 C hP wm_197 dX12_stands_139 ?_
                refine lv_iload_n hx hb dX12_stands_142 rfl (lv_at hl 6 rfl) ?_
                refine ra_43 (f := (σ.2.1 43)) C hP rfl (v_stands_37 σ k0 k1 k2 k3 x1 x3 x4 r5 y8 x12 y15 x16 x17 x18 x31 x34 x35 x38 hpre_0 hpre_1 hpre_2 hpre_3 hpre_4 hpre_5 hpre_6 ex1 tx1 c2 ex3 tx3 ex4 tx4 hr5_0 hr5_1 hr5_2 c6 hi41_0 hi41_1 c10 ex12 tx12 hi58_0 hi58_1 ex16 tx16 ex17 tx17 ex18 tx18 c19 c23 ex31 tx31 c32 ex34 tx34 ex35 tx35 c36 ex38 tx38) dX12_stands_143 (fun x39 ex39 => ?_)
                have tx39 : x39.toInt = ((σ.2.1 43) k1.toNatClampNeg).toInt := by rw [ex39]
                refine lv_icmp_eq (tgt := 151) hx hb dX12_stands_144 (by decide) (fun c40 => ?_) (fun c40 => ?_)
                · have c40 : x38.toInt = x39.toInt := by have h := z_eq c40; exact h
                  refine lv_iconst (v := 0) hx hb dX12_stands_151 (by decide +kernel) ?_
                  refine lv_istore (lv' := [(5, .int 0), (7, .int 1), (8, .int y15), (6, .int y8), (0, .ref (ad 0)), (1, .int k0), (2, .int k1), (3, .int k2), (4, .int k3)]) hx hb dX12_stands_152 hl (by decide) rfl (fun ls hl => ?_)
                  obtain ⟨x41, ex41⟩ : ∃ y : Int32, y = y15 + (1 : Int32) := ⟨_, rfl⟩
                  have tx41 : x41.toInt = y15.toInt + 1 := (v_stands_38 σ k0 k1 k2 x1 x3 x4 y8 x12 y15 x16 x17 x18 x31 x34 x35 x38 x39 x41 hpre_0 hpre_1 hpre_2 hpre_3 hpre_4 hpre_5 hpre_6 ex1 tx1 c2 ex3 tx3 ex4 tx4 hi41_0 hi41_1 c10 ex12 tx12 hi58_0 hi58_1 ex16 tx16 ex17 tx17 ex18 tx18 c19 c23 ex31 tx31 c32 ex34 tx34 ex35 tx35 c36 ex38 tx38 ex39 tx39 c40 ex41)
                  refine lv_iinc (v := x41) (lv' := [(8, .int x41), (5, .int 0), (7, .int 1), (6, .int y8), (0, .ref (ad 0)), (1, .int k0), (2, .int k1), (3, .int k2), (4, .int k3)]) hx hb dX12_stands_154 hl (k := 2) rfl (by rw [ex41]; rfl) (by decide) rfl (fun ls hl => ?_)
                  refine lv_goto (tgt := 58) hx hb dX12_stands_157 (by decide) ?_
                  exact ih58 (0 : Int32) (1 : Int32) x41 _ _ _ (Nat.lt_of_lt_of_le (v_stands_40 σ k0 k1 k2 x1 x3 x4 y8 x12 y15 x16 x17 x18 x31 x34 x35 x38 x39 x41 hpre_0 hpre_1 hpre_2 hpre_3 hpre_4 hpre_5 hpre_6 ex1 tx1 c2 ex3 tx3 ex4 tx4 hi41_0 hi41_1 c10 ex12 tx12 hi58_0 hi58_1 ex16 tx16 ex17 tx17 ex18 tx18 c19 c23 ex31 tx31 c32 ex34 tx34 ex35 tx35 c36 ex38 tx38 ex39 tx39 c40 ex41 tx41) (Nat.le_of_lt_succ hn58)) (v_stands_39 σ k0 k1 k2 x1 x3 x4 y8 x12 y15 x16 x17 x18 x31 x34 x35 x38 x39 x41 hpre_0 hpre_1 hpre_2 hpre_3 hpre_4 hpre_5 hpre_6 ex1 tx1 c2 ex3 tx3 ex4 tx4 hi41_0 hi41_1 c10 ex12 tx12 hi58_0 hi58_1 ex16 tx16 ex17 tx17 ex18 tx18 c19 c23 ex31 tx31 c32 ex34 tx34 ex35 tx35 c36 ex38 tx38 ex39 tx39 c40 ex41 tx41) hP hS (lv_sub hl [0, 2, 3, 1, 4, 5, 6, 7, 8] rfl)
                · have c40 : ¬ x38.toInt = x39.toInt := by have h := z_ne c40; exact h
                  refine lv_iconst (v := 1) hx hb dX12_stands_147 (by decide +kernel) ?_
                  refine lv_goto (tgt := 152) hx hb dX12_stands_148 (by decide) ?_
                  refine lv_istore (lv' := [(5, .int 1), (7, .int 1), (8, .int y15), (6, .int y8), (0, .ref (ad 0)), (1, .int k0), (2, .int k1), (3, .int k2), (4, .int k3)]) hx hb dX12_stands_152 hl (by decide) rfl (fun ls hl => ?_)
                  obtain ⟨x42, ex42⟩ : ∃ y : Int32, y = y15 + (1 : Int32) := ⟨_, rfl⟩
                  have tx42 : x42.toInt = y15.toInt + 1 := (v_stands_41 σ k0 k1 k2 x1 x3 x4 y8 x12 y15 x16 x17 x18 x31 x34 x35 x38 x39 x42 hpre_0 hpre_1 hpre_2 hpre_3 hpre_4 hpre_5 hpre_6 ex1 tx1 c2 ex3 tx3 ex4 tx4 hi41_0 hi41_1 c10 ex12 tx12 hi58_0 hi58_1 ex16 tx16 ex17 tx17 ex18 tx18 c19 c23 ex31 tx31 c32 ex34 tx34 ex35 tx35 c36 ex38 tx38 ex39 tx39 c40 ex42)
                  refine lv_iinc (v := x42) (lv' := [(8, .int x42), (5, .int 1), (7, .int 1), (6, .int y8), (0, .ref (ad 0)), (1, .int k0), (2, .int k1), (3, .int k2), (4, .int k3)]) hx hb dX12_stands_154 hl (k := 2) rfl (by rw [ex42]; rfl) (by decide) rfl (fun ls hl => ?_)
                  refine lv_goto (tgt := 58) hx hb dX12_stands_157 (by decide) ?_
                  exact ih58 (1 : Int32) (1 : Int32) x42 _ _ _ (Nat.lt_of_lt_of_le (v_stands_43 σ k0 k1 k2 x1 x3 x4 y8 x12 y15 x16 x17 x18 x31 x34 x35 x38 x39 x42 hpre_0 hpre_1 hpre_2 hpre_3 hpre_4 hpre_5 hpre_6 ex1 tx1 c2 ex3 tx3 ex4 tx4 hi41_0 hi41_1 c10 ex12 tx12 hi58_0 hi58_1 ex16 tx16 ex17 tx17 ex18 tx18 c19 c23 ex31 tx31 c32 ex34 tx34 ex35 tx35 c36 ex38 tx38 ex39 tx39 c40 ex42 tx42) (Nat.le_of_lt_succ hn58)) (v_stands_42 σ k0 k1 k2 x1 x3 x4 y8 x12 y15 x16 x17 x18 x31 x34 x35 x38 x39 x42 hpre_0 hpre_1 hpre_2 hpre_3 hpre_4 hpre_5 hpre_6 ex1 tx1 c2 ex3 tx3 ex4 tx4 hi41_0 hi41_1 c10 ex12 tx12 hi58_0 hi58_1 ex16 tx16 ex17 tx17 ex18 tx18 c19 c23 ex31 tx31 c32 ex34 tx34 ex35 tx35 c36 ex38 tx38 ex39 tx39 c40 ex42 tx42) hP hS (lv_sub hl [0, 2, 3, 1, 4, 5, 6, 7, 8] rfl)
set_option maxHeartbeats 4000000 in
set_option maxRecDepth 100000 in
theorem L_stands_41_1 {p : Program} {e : Env} {s : State} {m : MethodId} {below : List Frame} {meth : Method} {c : Code} (l : Launch) (D : va_G) (cy : Nat → ClassId) (sz0 : Nat) (sa : Nat → Nat) (ad : Nat → Nat) (sz : Nat) (σ : RS) (k0 : Int32) (k1 : Int32) (k2 : Int32) (k3 : Int32) (x1 : Int32) (x3 : Int32) (x4 : Int32) (r5 : Int32) (C : RC p s m #[.ref (ad 0), .int k0, .int k1, .int k2, .int k3] meth c cX12_stands 9 (some .boolean) D cy sz0 sa ad (AR cy ad sz)) (hpre_0 : 0 ≤ (σ.1 35).toInt) (hpre_1 : (σ.1 35).toInt ≤ 5) (hpre_2 : CLS (σ.1 35).toInt (σ.2.1 36) (σ.2.1 37) (σ.2.1 40)) (hpre_3 : 0 ≤ k0.toInt) (hpre_4 : k0.toInt < (σ.1 35).toInt) (hpre_5 : 0 ≤ k1.toInt) (hpre_6 : k1.toInt < 30) (ex1 : x1 = (σ.2.1 41) k1.toNatClampNeg) (tx1 : x1.toInt = ((σ.2.1 41) k1.toNatClampNeg).toInt) (c2 : x1.toInt = k2.toInt) (ex3 : x3 = (σ.2.1 42) k1.toNatClampNeg) (tx3 : x3.toInt = ((σ.2.1 42) k1.toNatClampNeg).toInt) (ex4 : x4 = (σ.2.1 43) k1.toNatClampNeg) (tx4 : x4.toInt = ((σ.2.1 43) k1.toNatClampNeg).toInt) (hr5_0 : 0 ≤ r5.toInt) (hr5_1 : r5.toInt ≤ 2) (hr5_2 : ¬ x3.toInt = 0 → 1 ≤ r5.toInt) (c6 : r5.toInt = k3.toInt) : ∀ (n : Nat) (y7 : Int32) (y8 : Int32) (y9 : Int32) (H : Heap) (locs : List Loc) (ls : Array Slot), (y8.toInt + 1).toNat < n → (-1 ≤ y8.toInt ∧ y8.toInt < (σ.1 35).toInt ∧ (y7.toInt = 0 ∨ y7.toInt = 1)) → RP D cy ad σ H → va_S (AR cy ad sz) s.heap H locs → lv_has ls 9 [(7, .int y9), (6, .int y8), (5, .int y7), (0, .ref (ad 0)), (1, .int k0), (2, .int k1), (3, .int k2), (4, .int k3)] → W p l e (headSpec (Cond.code yX12_stands cX12_stands 9 (some .boolean) :: GWm) ({ frames := 1, cells := 0, slots := 0, locals := 21 })).room s m #[.ref (ad 0), .int k0, .int k1, .int k2, .int k3] below meth c H locs 0 0 (MQ below (va_Qi (fun (r : Int32) (u : Unit) => True) (fun (u : Unit) (t : State) => RP D cy ad σ t.heap) (AR cy ad sz)) #[.ref (ad 0), .int k0, .int k1, .int k2, .int k3] s 0 0 (AR cy ad sz)) (F0 m 41 ls []) := by
  have hx := C.1
  have hb := C.2.1
  have hown := C.2.2.2.2.1
  have hw := C.2.2.2.2.2.1
  intro n
  induction n with
  | zero => intro y7 y8 y9 H locs ls hn; exact absurd hn (Nat.not_lt_zero _)
  | succ n41 ih41 =>
    intro y7 y8 y9 H locs ls hn41 hi41 hP hS hl
    obtain ⟨hi41_0, hi41_1, hi41_2⟩ := hi41
    refine lv_iload hx hb dX12_stands_41 (lv_at hl 1 rfl) ?_
    refine lv_if_lt (tgt := 172) hx hb dX12_stands_43 (by decide) (fun c10 => ?_) (fun c10 => ?_)
    · have c10 : y8.toInt < 0 := by have h := z_lt c10; rw [show (0 : Int32).toInt = 0 from by decide +kernel] at h; exact h
      refine lv_iload hx hb dX12_stands_172 (lv_at hl 2 rfl) ?_
      exact r_retz C () (v_stands_6 y7 hi41_2) trivial hP hS dX12_stands_174
    · have c10 : 0 ≤ y8.toInt := by have h := z_nlt c10; rw [show (0 : Int32).toInt = 0 from by decide +kernel] at h; exact h
      refine lv_iload hx hb dX12_stands_46 (lv_at hl 0 rfl) ?_
      refine lv_if_eq (tgt := 172) hx hb dX12_stands_48 (by decide) (fun c11 => ?_) (fun c11 => ?_)
      · have c11 : y9.toInt = 0 := by have h := z_eq c11; rw [show (0 : Int32).toInt = 0 from by decide +kernel] at h; exact h
        refine lv_iload hx hb dX12_stands_172 (lv_at hl 2 rfl) ?_
        exact r_retz C () (v_stands_6 y7 hi41_2) trivial hP hS dX12_stands_174
      · have c11 : ¬ y9.toInt = 0 := by have h := z_ne c11; rw [show (0 : Int32).toInt = 0 from by decide +kernel] at h; exact h
        refine lv_bipush (v := 6) hx hb dX12_stands_51 (by decide +kernel) ?_
        refine lv_iload hx hb dX12_stands_53 (lv_at hl 1 rfl) ?_
        refine lv_imul hx hb dX12_stands_55 ?_
        refine lv_topi (fun x12 ex12 => ?_)
        have tx12 : x12.toInt = 6 * y8.toInt := (v_stands_7 σ k0 y8 x12 hpre_0 hpre_1 hpre_2 hpre_3 hpre_4 hi41_0 hi41_1 c10 ex12)
        refine lv_istore (lv' := [(8, .int x12), (7, .int y9), (6, .int y8), (5, .int y7), (0, .ref (ad 0)), (1, .int k0), (2, .int k1), (3, .int k2), (4, .int k3)]) hx hb dX12_stands_56 hl (by decide) rfl (fun ls hl => ?_)
        exact L_stands_58_2 l D cy sz0 sa ad sz σ k0 k1 k2 k3 x1 x3 x4 r5 y7 y8 y9 x12 C hpre_0 hpre_1 hpre_2 hpre_3 hpre_4 hpre_5 hpre_6 ex1 tx1 c2 ex3 tx3 ex4 tx4 hr5_0 hr5_1 hr5_2 c6 hi41_0 hi41_1 hi41_2 c10 c11 ex12 tx12 n41 hn41 ih41 ((6 * y8.toInt + 6 - x12.toInt).toNat + 1) y7 y9 x12 _ _ _ (Nat.lt_succ_self _) (v_stands_8 σ k0 y7 y8 x12 hpre_0 hpre_1 hpre_2 hpre_3 hpre_4 hi41_0 hi41_1 hi41_2 c10 ex12 tx12) hP hS (lv_sub hl [0, 1, 2, 3, 4, 5, 6, 7, 8] rfl)
set_option maxHeartbeats 4000000 in
set_option maxRecDepth 100000 in
theorem M_stands (l : Launch) (D : va_G) (cy : Nat → ClassId) (sz0 : Nat) (sa : Nat → Nat) (ad : Nat → Nat) (σ : RS) (sz : Nat) (k0 : Int32) (k1 : Int32) (k2 : Int32) (k3 : Int32) (hpre : 0 ≤ (σ.1 35).toInt ∧ (σ.1 35).toInt ≤ 5 ∧ CLS (σ.1 35).toInt (σ.2.1 36) (σ.2.1 37) (σ.2.1 40) ∧ 0 ≤ k0.toInt ∧ k0.toInt < (σ.1 35).toInt ∧ 0 ≤ k1.toInt ∧ k1.toInt < 30) : Met l yX12_stands (Cond.code yX12_stands cX12_stands 9 (some .boolean) :: GWm) ({ frames := 1, cells := 0, slots := 0, locals := 21 }) (PcR D cy sz0 sa ad [.ref (ad 0), .int k0, .int k1, .int k2, .int k3] σ sz) (va_Qi (fun (r : Int32) (u : Unit) => True) (fun (u : Unit) (t : State) => RP D cy ad σ t.heap) (AR cy ad sz)) 0 0 (AR cy ad sz) := by
  refine RM_of (loc0 := [(0, .ref (ad 0)), (1, .int k0), (2, .int k1), (3, .int k2), (4, .int k3)]) (by decide) rfl rfl (Nat.le_of_ble_eq_true rfl) ?_
  intro p e s m below meth c ls hsz C hP hS hl
  have hx := C.1
  have hb := C.2.1
  have hown := C.2.2.2.2.1
  have hw := C.2.2.2.2.2.1
  clear hsz
  obtain ⟨hpre_0, hpre_1, hpre_2, hpre_3, hpre_4, hpre_5, hpre_6⟩ := hpre
  refine lv_aload_n hx hb dX12_stands_0 rfl (lv_at hl 0 rfl) ?_
  refine rg_41 C hP wm_195 dX12_stands_1 ?_
  refine lv_iload_n hx hb dX12_stands_4 rfl (lv_at hl 2 rfl) ?_
  refine ra_41 (f := (σ.2.1 41)) C hP rfl (v_stands_1 k1 hpre_5 hpre_6) dX12_stands_5 (fun x1 ex1 => ?_)
  have tx1 : x1.toInt = ((σ.2.1 41) k1.toNatClampNeg).toInt := by rw [ex1]
  refine lv_iload_n hx hb dX12_stands_6 rfl (lv_at hl 3 rfl) ?_
  refine lv_icmp_ne (tgt := 30) hx hb dX12_stands_7 (by decide) (fun c2 => ?_) (fun c2 => ?_)
  · have c2 : ¬ x1.toInt = k2.toInt := by have h := z_ne c2; exact h
    refine lv_iconst (v := 0) hx hb dX12_stands_30 (by decide +kernel) ?_
    exact r_retz C () (v_stands_2  ) trivial hP hS dX12_stands_31
  · have c2 : x1.toInt = k2.toInt := by have h := z_eq c2; exact h
    refine lv_aload_n hx hb dX12_stands_10 rfl (lv_at hl 0 rfl) ?_
    refine rg_42 C hP wm_196 dX12_stands_11 ?_
    refine lv_iload_n hx hb dX12_stands_14 rfl (lv_at hl 2 rfl) ?_
    refine ra_42 (f := (σ.2.1 42)) C hP rfl (v_stands_3 σ k1 k2 x1 hpre_5 hpre_6 ex1 tx1 c2) dX12_stands_15 (fun x3 ex3 => ?_)
    have tx3 : x3.toInt = ((σ.2.1 42) k1.toNatClampNeg).toInt := by rw [ex3]
    refine lv_aload_n hx hb dX12_stands_16 rfl (lv_at hl 0 rfl) ?_
    refine rg_43 C hP wm_197 dX12_stands_17 ?_
    refine lv_iload_n hx hb dX12_stands_20 rfl (lv_at hl 2 rfl) ?_
    refine ra_43 (f := (σ.2.1 43)) C hP rfl (v_stands_4 σ k1 k2 x1 x3 hpre_5 hpre_6 ex1 tx1 c2 ex3 tx3) dX12_stands_21 (fun x4 ex4 => ?_)
    have tx4 : x4.toInt = ((σ.2.1 43) k1.toNatClampNeg).toInt := by rw [ex4]
    refine r_callSi (As := [.int x3, .int x4]) (rest := []) C hP hS hl.1 ⟨Nat.zero_le _, Nat.zero_le _⟩ (M_paramsOf l D cy sz0 sa ad σ s.heap.size x3 x4 trivial) (n := 2) ⟨wm_319, wm_317, by decide +kernel⟩ ⟨wm_320, wm_10⟩ rfl rfl (lv_room (Nat.le_of_ble_eq_true rfl)) ⟨Nat.le_of_ble_eq_true rfl, Nat.le_of_ble_eq_true rfl⟩ dX12_stands_22 (fun r5 u H locs hr5 hP hS => ?_)
    have hr5 : 0 ≤ r5.toInt ∧ r5.toInt ≤ 2 ∧ (¬ x3.toInt = 0 → 1 ≤ r5.toInt) := hr5
    obtain ⟨hr5_0, hr5_1, hr5_2⟩ := hr5
    refine lv_iload hx hb dX12_stands_25 (lv_at hl 4 rfl) ?_
    refine lv_icmp_eq (tgt := 32) hx hb dX12_stands_27 (by decide) (fun c6 => ?_) (fun c6 => ?_)
    · have c6 : r5.toInt = k3.toInt := by have h := z_eq c6; exact h
      refine lv_iconst (v := 1) hx hb dX12_stands_32 (by decide +kernel) ?_
      refine lv_istore (lv' := [(5, .int 1), (0, .ref (ad 0)), (1, .int k0), (2, .int k1), (3, .int k2), (4, .int k3)]) hx hb dX12_stands_33 hl (by decide) rfl (fun ls hl => ?_)
      refine lv_iload_n hx hb dX12_stands_35 rfl (lv_at hl 2 rfl) ?_
      refine lv_istore (lv' := [(6, .int k0), (5, .int 1), (0, .ref (ad 0)), (1, .int k0), (2, .int k1), (3, .int k2), (4, .int k3)]) hx hb dX12_stands_36 hl (by decide) rfl (fun ls hl => ?_)
      refine lv_iconst (v := 1) hx hb dX12_stands_38 (by decide +kernel) ?_
      refine lv_istore (lv' := [(7, .int 1), (6, .int k0), (5, .int 1), (0, .ref (ad 0)), (1, .int k0), (2, .int k1), (3, .int k2), (4, .int k3)]) hx hb dX12_stands_39 hl (by decide) rfl (fun ls hl => ?_)
      exact L_stands_41_1 l D cy sz0 sa ad sz σ k0 k1 k2 k3 x1 x3 x4 r5 C hpre_0 hpre_1 hpre_2 hpre_3 hpre_4 hpre_5 hpre_6 ex1 tx1 c2 ex3 tx3 ex4 tx4 hr5_0 hr5_1 hr5_2 c6 ((k0.toInt + 1).toNat + 1) (1 : Int32) k0 (1 : Int32) _ _ _ (Nat.lt_succ_self _) (v_stands_5 σ k0 hpre_0 hpre_1 hpre_2 hpre_3 hpre_4) hP hS (lv_sub hl [0, 1, 2, 3, 4, 5, 6, 7] rfl)
    · have c6 : ¬ r5.toInt = k3.toInt := by have h := z_ne c6; exact h
      refine lv_iconst (v := 0) hx hb dX12_stands_30 (by decide +kernel) ?_
      exact r_retz C () (v_stands_2  ) trivial hP hS dX12_stands_31

-- in@5 @5
theorem v_weight_1 (σ : RS) (k0 : Int32) (k1 : Int32) (hpre_0 : 0 ≤ (σ.1 35).toInt) (hpre_1 : (σ.1 35).toInt ≤ 5) (hpre_2 : CLS (σ.1 35).toInt (σ.2.1 36) (σ.2.1 37) (σ.2.1 40)) (hpre_3 : 0 ≤ k0.toInt) (hpre_4 : k0.toInt < 980) (hpre_5 : CV (σ.2.1 51) (σ.2.2.1 52) (σ.1 35).toInt (σ.1 47).toInt k0.toNatClampNeg) (hpre_6 : 0 ≤ k1.toInt) (hpre_7 : k1.toInt ≤ 12) (hpre_8 : k1.toInt = 5 ∨ ((σ.2.1 51) k0.toNatClampNeg).toInt = k1.toInt ∨ ((σ.2.1 51) k0.toNatClampNeg).toInt = 0 ∨ 8 ≤ ((σ.2.1 51) k0.toNatClampNeg).toInt) : vp_in k0 980 := by
  have cv_hpre_5 := id hpre_5
  unfold CV at cv_hpre_5
  exact vp_in_iff.mpr ⟨by omega, by omega⟩
-- post @20
theorem v_weight_2   : -2 ≤ (0 : Int32).toInt ∧ (0 : Int32).toInt ≤ 16 := by
  have q0 : (0 : Int32).toInt = 0 := by decide +kernel
  refine ⟨?_, ?_⟩ <;> first | assumption | omega | (subst_vars; omega) | trivial
-- in@15 @15
theorem v_weight_3 (σ : RS) (k0 : Int32) (k1 : Int32) (x1 : Int32) (hpre_0 : 0 ≤ (σ.1 35).toInt) (hpre_1 : (σ.1 35).toInt ≤ 5) (hpre_2 : CLS (σ.1 35).toInt (σ.2.1 36) (σ.2.1 37) (σ.2.1 40)) (hpre_3 : 0 ≤ k0.toInt) (hpre_4 : k0.toInt < 980) (hpre_5 : CV (σ.2.1 51) (σ.2.2.1 52) (σ.1 35).toInt (σ.1 47).toInt k0.toNatClampNeg) (hpre_6 : 0 ≤ k1.toInt) (hpre_7 : k1.toInt ≤ 12) (hpre_8 : k1.toInt = 5 ∨ ((σ.2.1 51) k0.toNatClampNeg).toInt = k1.toInt ∨ ((σ.2.1 51) k0.toNatClampNeg).toInt = 0 ∨ 8 ≤ ((σ.2.1 51) k0.toNatClampNeg).toInt) (ex1 : x1 = (σ.2.1 51) k0.toNatClampNeg) (tx1 : x1.toInt = ((σ.2.1 51) k0.toNatClampNeg).toInt) (c2 : ¬ x1.toInt = k1.toInt) : vp_in k0 980 := by
  have cv_hpre_5 := id hpre_5
  unfold CV at cv_hpre_5
  exact vp_in_iff.mpr ⟨by omega, by omega⟩
-- in@38 @38
theorem v_weight_4 (σ : RS) (k0 : Int32) (k1 : Int32) (x1 : Int32) (x3 : Int32) (hpre_0 : 0 ≤ (σ.1 35).toInt) (hpre_1 : (σ.1 35).toInt ≤ 5) (hpre_2 : CLS (σ.1 35).toInt (σ.2.1 36) (σ.2.1 37) (σ.2.1 40)) (hpre_3 : 0 ≤ k0.toInt) (hpre_4 : k0.toInt < 980) (hpre_5 : CV (σ.2.1 51) (σ.2.2.1 52) (σ.1 35).toInt (σ.1 47).toInt k0.toNatClampNeg) (hpre_6 : 0 ≤ k1.toInt) (hpre_7 : k1.toInt ≤ 12) (hpre_8 : k1.toInt = 5 ∨ ((σ.2.1 51) k0.toNatClampNeg).toInt = k1.toInt ∨ ((σ.2.1 51) k0.toNatClampNeg).toInt = 0 ∨ 8 ≤ ((σ.2.1 51) k0.toNatClampNeg).toInt) (ex1 : x1 = (σ.2.1 51) k0.toNatClampNeg) (tx1 : x1.toInt = ((σ.2.1 51) k0.toNatClampNeg).toInt) (c2 : ¬ x1.toInt = k1.toInt) (ex3 : x3 = (σ.2.1 51) k0.toNatClampNeg) (tx3 : x3.toInt = ((σ.2.1 51) k0.toNatClampNeg).toInt) (c4 : ¬ x3.toInt = 0) (c5 : ¬ k1.toInt = 5) : vp_in k0 980 := by
  have cv_hpre_5 := id hpre_5
  unfold CV at cv_hpre_5
  exact vp_in_iff.mpr ⟨by omega, by omega⟩
-- nw@41 @41
theorem v_weight_5 (σ : RS) (k0 : Int32) (k1 : Int32) (x1 : Int32) (x3 : Int32) (x6 : Int32) (x7 : Int32) (hpre_0 : 0 ≤ (σ.1 35).toInt) (hpre_1 : (σ.1 35).toInt ≤ 5) (hpre_2 : CLS (σ.1 35).toInt (σ.2.1 36) (σ.2.1 37) (σ.2.1 40)) (hpre_3 : 0 ≤ k0.toInt) (hpre_4 : k0.toInt < 980) (hpre_5 : CV (σ.2.1 51) (σ.2.2.1 52) (σ.1 35).toInt (σ.1 47).toInt k0.toNatClampNeg) (hpre_6 : 0 ≤ k1.toInt) (hpre_7 : k1.toInt ≤ 12) (hpre_8 : k1.toInt = 5 ∨ ((σ.2.1 51) k0.toNatClampNeg).toInt = k1.toInt ∨ ((σ.2.1 51) k0.toNatClampNeg).toInt = 0 ∨ 8 ≤ ((σ.2.1 51) k0.toNatClampNeg).toInt) (ex1 : x1 = (σ.2.1 51) k0.toNatClampNeg) (tx1 : x1.toInt = ((σ.2.1 51) k0.toNatClampNeg).toInt) (c2 : ¬ x1.toInt = k1.toInt) (ex3 : x3 = (σ.2.1 51) k0.toNatClampNeg) (tx3 : x3.toInt = ((σ.2.1 51) k0.toNatClampNeg).toInt) (c4 : ¬ x3.toInt = 0) (c5 : ¬ k1.toInt = 5) (ex6 : x6 = (σ.2.1 51) k0.toNatClampNeg) (tx6 : x6.toInt = ((σ.2.1 51) k0.toNatClampNeg).toInt) (ex7 : x7 = x6 - (8 : Int32)) : x7.toInt = x6.toInt - 8 := by
  have q8 : (8 : Int32).toInt = 8 := by decide +kernel
  have cv_hpre_5 := id hpre_5
  unfold CV at cv_hpre_5
  have w1 : (8 : Int32).toInt = 8 := by decide +kernel
  rw [ex7, z_sub (by omega) (by omega)]; first | done | omega
-- nw@45 @45
theorem v_weight_6 (σ : RS) (k0 : Int32) (k1 : Int32) (x1 : Int32) (x3 : Int32) (x6 : Int32) (x7 : Int32) (x8 : Int32) (hpre_0 : 0 ≤ (σ.1 35).toInt) (hpre_1 : (σ.1 35).toInt ≤ 5) (hpre_2 : CLS (σ.1 35).toInt (σ.2.1 36) (σ.2.1 37) (σ.2.1 40)) (hpre_3 : 0 ≤ k0.toInt) (hpre_4 : k0.toInt < 980) (hpre_5 : CV (σ.2.1 51) (σ.2.2.1 52) (σ.1 35).toInt (σ.1 47).toInt k0.toNatClampNeg) (hpre_6 : 0 ≤ k1.toInt) (hpre_7 : k1.toInt ≤ 12) (hpre_8 : k1.toInt = 5 ∨ ((σ.2.1 51) k0.toNatClampNeg).toInt = k1.toInt ∨ ((σ.2.1 51) k0.toNatClampNeg).toInt = 0 ∨ 8 ≤ ((σ.2.1 51) k0.toNatClampNeg).toInt) (ex1 : x1 = (σ.2.1 51) k0.toNatClampNeg) (tx1 : x1.toInt = ((σ.2.1 51) k0.toNatClampNeg).toInt) (c2 : ¬ x1.toInt = k1.toInt) (ex3 : x3 = (σ.2.1 51) k0.toNatClampNeg) (tx3 : x3.toInt = ((σ.2.1 51) k0.toNatClampNeg).toInt) (c4 : ¬ x3.toInt = 0) (c5 : ¬ k1.toInt = 5) (ex6 : x6 = (σ.2.1 51) k0.toNatClampNeg) (tx6 : x6.toInt = ((σ.2.1 51) k0.toNatClampNeg).toInt) (ex7 : x7 = x6 - (8 : Int32)) (tx7 : x7.toInt = x6.toInt - 8) (ex8 : x8 = k1 - (8 : Int32)) : x8.toInt = k1.toInt - 8 := by
  have q8 : (8 : Int32).toInt = 8 := by decide +kernel
  have cv_hpre_5 := id hpre_5
  unfold CV at cv_hpre_5
  have w1 : (8 : Int32).toInt = 8 := by decide +kernel
  rw [ex8, z_sub (by omega) (by omega)]; first | done | omega
-- pre:steps@46 @46
theorem v_weight_7 (σ : RS) (k0 : Int32) (k1 : Int32) (x1 : Int32) (x3 : Int32) (x6 : Int32) (x7 : Int32) (x8 : Int32) (hpre_0 : 0 ≤ (σ.1 35).toInt) (hpre_1 : (σ.1 35).toInt ≤ 5) (hpre_2 : CLS (σ.1 35).toInt (σ.2.1 36) (σ.2.1 37) (σ.2.1 40)) (hpre_3 : 0 ≤ k0.toInt) (hpre_4 : k0.toInt < 980) (hpre_5 : CV (σ.2.1 51) (σ.2.2.1 52) (σ.1 35).toInt (σ.1 47).toInt k0.toNatClampNeg) (hpre_6 : 0 ≤ k1.toInt) (hpre_7 : k1.toInt ≤ 12) (hpre_8 : k1.toInt = 5 ∨ ((σ.2.1 51) k0.toNatClampNeg).toInt = k1.toInt ∨ ((σ.2.1 51) k0.toNatClampNeg).toInt = 0 ∨ 8 ≤ ((σ.2.1 51) k0.toNatClampNeg).toInt) (ex1 : x1 = (σ.2.1 51) k0.toNatClampNeg) (tx1 : x1.toInt = ((σ.2.1 51) k0.toNatClampNeg).toInt) (c2 : ¬ x1.toInt = k1.toInt) (ex3 : x3 = (σ.2.1 51) k0.toNatClampNeg) (tx3 : x3.toInt = ((σ.2.1 51) k0.toNatClampNeg).toInt) (c4 : ¬ x3.toInt = 0) (c5 : ¬ k1.toInt = 5) (ex6 : x6 = (σ.2.1 51) k0.toNatClampNeg) (tx6 : x6.toInt = ((σ.2.1 51) k0.toNatClampNeg).toInt) (ex7 : x7 = x6 - (8 : Int32)) (tx7 : x7.toInt = x6.toInt - 8) (ex8 : x8 = k1 - (8 : Int32)) (tx8 : x8.toInt = k1.toInt - 8) : 0 ≤ (σ.1 35).toInt ∧ (σ.1 35).toInt ≤ 5 ∧ CLS (σ.1 35).toInt (σ.2.1 36) (σ.2.1 37) (σ.2.1 40) ∧ -1 ≤ x7.toInt ∧ x7.toInt < (σ.1 35).toInt := by
  have q8 : (8 : Int32).toInt = 8 := by decide +kernel
  have cv_hpre_5 := id hpre_5
  unfold CV at cv_hpre_5
  refine ⟨?_, ?_, ?_, ?_, ?_⟩ <;> first | assumption | omega | (subst_vars; omega) | trivial
-- nw@49 @49
theorem v_weight_8 (r9 : Int32) (x10 : Int32) (hr9_0 : -1 ≤ r9.toInt) (hr9_1 : r9.toInt ≤ 5) (ex10 : x10 = (2 : Int32) * r9) : x10.toInt = 2 * r9.toInt := by
  have q2 : (2 : Int32).toInt = 2 := by decide +kernel
  have w0 : (2 : Int32).toInt = 2 := by decide +kernel
  rw [ex10, z_mulc 2 w0 (by omega) (by omega)]
-- post @50
theorem v_weight_9 (r9 : Int32) (x10 : Int32) (hr9_0 : -1 ≤ r9.toInt) (hr9_1 : r9.toInt ≤ 5) (ex10 : x10 = (2 : Int32) * r9) (tx10 : x10.toInt = 2 * r9.toInt) : -2 ≤ x10.toInt ∧ x10.toInt ≤ 16 := by
  have q2 : (2 : Int32).toInt = 2 := by decide +kernel
  refine ⟨?_, ?_⟩ <;> first | assumption | omega | (subst_vars; omega) | trivial
-- post @50
theorem v_weight_10   : -2 ≤ (16 : Int32).toInt ∧ (16 : Int32).toInt ≤ 16 := by
  have q16 : (16 : Int32).toInt = 16 := by decide +kernel
  refine ⟨?_, ?_⟩ <;> first | assumption | omega | (subst_vars; omega) | trivial
set_option maxHeartbeats 4000000 in
set_option maxRecDepth 100000 in
theorem M_weight (l : Launch) (D : va_G) (cy : Nat → ClassId) (sz0 : Nat) (sa : Nat → Nat) (ad : Nat → Nat) (σ : RS) (sz : Nat) (k0 : Int32) (k1 : Int32) (hpre : 0 ≤ (σ.1 35).toInt ∧ (σ.1 35).toInt ≤ 5 ∧ CLS (σ.1 35).toInt (σ.2.1 36) (σ.2.1 37) (σ.2.1 40) ∧ 0 ≤ k0.toInt ∧ k0.toInt < 980 ∧ CV (σ.2.1 51) (σ.2.2.1 52) (σ.1 35).toInt (σ.1 47).toInt k0.toNatClampNeg ∧ 0 ≤ k1.toInt ∧ k1.toInt ≤ 12 ∧ (k1.toInt = 5 ∨ ((σ.2.1 51) k0.toNatClampNeg).toInt = k1.toInt ∨ ((σ.2.1 51) k0.toNatClampNeg).toInt = 0 ∨ 8 ≤ ((σ.2.1 51) k0.toNatClampNeg).toInt)) : Met l yX12_weight (Cond.code yX12_weight cX12_weight 3 (some .int) :: GWm) ({ frames := 1, cells := 0, slots := 0, locals := 24 }) (PcR D cy sz0 sa ad [.ref (ad 0), .int k0, .int k1] σ sz) (va_Qi (fun (r : Int32) (u : Unit) => -2 ≤ r.toInt ∧ r.toInt ≤ 16) (fun (u : Unit) (t : State) => RP D cy ad σ t.heap) (AR cy ad sz)) 0 0 (AR cy ad sz) := by
  refine RM_of (loc0 := [(0, .ref (ad 0)), (1, .int k0), (2, .int k1)]) (by decide) rfl rfl (Nat.le_of_ble_eq_true rfl) ?_
  intro p e s m below meth c ls hsz C hP hS hl
  have hx := C.1
  have hb := C.2.1
  have hown := C.2.2.2.2.1
  have hw := C.2.2.2.2.2.1
  clear hsz
  obtain ⟨hpre_0, hpre_1, hpre_2, hpre_3, hpre_4, hpre_5, hpre_6, hpre_7, hpre_8⟩ := hpre
  refine lv_aload_n hx hb dX12_weight_0 rfl (lv_at hl 0 rfl) ?_
  refine rg_51 C hP wm_205 dX12_weight_1 ?_
  refine lv_iload_n hx hb dX12_weight_4 rfl (lv_at hl 1 rfl) ?_
  refine ra_51 (f := (σ.2.1 51)) C hP rfl (v_weight_1 σ k0 k1 hpre_0 hpre_1 hpre_2 hpre_3 hpre_4 hpre_5 hpre_6 hpre_7 hpre_8) dX12_weight_5 (fun x1 ex1 => ?_)
  have tx1 : x1.toInt = ((σ.2.1 51) k0.toNatClampNeg).toInt := by rw [ex1]
  refine lv_iload_n hx hb dX12_weight_6 rfl (lv_at hl 2 rfl) ?_
  refine lv_icmp_eq (tgt := 19) hx hb dX12_weight_7 (by decide) (fun c2 => ?_) (fun c2 => ?_)
  · have c2 : x1.toInt = k1.toInt := by have h := z_eq c2; exact h
    refine lv_iconst (v := 0) hx hb dX12_weight_19 (by decide +kernel) ?_
    exact r_reti C () (v_weight_2  ) hP hS dX12_weight_20
  · have c2 : ¬ x1.toInt = k1.toInt := by have h := z_ne c2; exact h
    refine lv_aload_n hx hb dX12_weight_10 rfl (lv_at hl 0 rfl) ?_
    refine rg_51 C hP wm_205 dX12_weight_11 ?_
    refine lv_iload_n hx hb dX12_weight_14 rfl (lv_at hl 1 rfl) ?_
    refine ra_51 (f := (σ.2.1 51)) C hP rfl (v_weight_3 σ k0 k1 x1 hpre_0 hpre_1 hpre_2 hpre_3 hpre_4 hpre_5 hpre_6 hpre_7 hpre_8 ex1 tx1 c2) dX12_weight_15 (fun x3 ex3 => ?_)
    have tx3 : x3.toInt = ((σ.2.1 51) k0.toNatClampNeg).toInt := by rw [ex3]
    refine lv_if_ne (tgt := 21) hx hb dX12_weight_16 (by decide) (fun c4 => ?_) (fun c4 => ?_)
    · have c4 : ¬ x3.toInt = 0 := by have h := z_ne c4; rw [show (0 : Int32).toInt = 0 from by decide +kernel] at h; exact h
      refine lv_iload_n hx hb dX12_weight_21 rfl (lv_at hl 2 rfl) ?_
      refine lv_iconst (v := 5) hx hb dX12_weight_22 (by decide +kernel) ?_
      refine lv_icmp_ne (tgt := 31) hx hb dX12_weight_23 (by decide) (fun c5 => ?_) (fun c5 => ?_)
      · have c5 : ¬ k1.toInt = 5 := by have h := z_ne c5; rw [show (5 : Int32).toInt = 5 from by decide +kernel] at h; exact h
        refine lv_iconst (v := 2) hx hb dX12_weight_31 (by decide +kernel) ?_
        refine lv_aload_n hx hb dX12_weight_32 rfl (lv_at hl 0 rfl) ?_
        refine lv_aload_n hx hb dX12_weight_33 rfl (lv_at hl 0 rfl) ?_
        refine rg_51 C hP wm_205 dX12_weight_34 ?_
        refine lv_iload_n hx hb dX12_weight_37 rfl (lv_at hl 1 rfl) ?_
        refine ra_51 (f := (σ.2.1 51)) C hP rfl (v_weight_4 σ k0 k1 x1 x3 hpre_0 hpre_1 hpre_2 hpre_3 hpre_4 hpre_5 hpre_6 hpre_7 hpre_8 ex1 tx1 c2 ex3 tx3 c4 c5) dX12_weight_38 (fun x6 ex6 => ?_)
        have tx6 : x6.toInt = ((σ.2.1 51) k0.toNatClampNeg).toInt := by rw [ex6]
        refine lv_bipush (v := 8) hx hb dX12_weight_39 (by decide +kernel) ?_
        refine lv_isub hx hb dX12_weight_41 ?_
        refine lv_topi (fun x7 ex7 => ?_)
        have tx7 : x7.toInt = x6.toInt - 8 := (v_weight_5 σ k0 k1 x1 x3 x6 x7 hpre_0 hpre_1 hpre_2 hpre_3 hpre_4 hpre_5 hpre_6 hpre_7 hpre_8 ex1 tx1 c2 ex3 tx3 c4 c5 ex6 tx6 ex7)
        refine lv_iload_n hx hb dX12_weight_42 rfl (lv_at hl 2 rfl) ?_
        refine lv_bipush (v := 8) hx hb dX12_weight_43 (by decide +kernel) ?_
        refine lv_isub hx hb dX12_weight_45 ?_
        refine lv_topi (fun x8 ex8 => ?_)
        have tx8 : x8.toInt = k1.toInt - 8 := (v_weight_6 σ k0 k1 x1 x3 x6 x7 x8 hpre_0 hpre_1 hpre_2 hpre_3 hpre_4 hpre_5 hpre_6 hpre_7 hpre_8 ex1 tx1 c2 ex3 tx3 c4 c5 ex6 tx6 ex7 tx7 ex8)
        refine r_callVi (As := [.int x7, .int x8]) (rest := [.int 2]) C hP hS hl.1 ⟨Nat.zero_le _, Nat.zero_le _⟩ (M_steps l D cy sz0 sa ad σ s.heap.size x7 x8 (v_weight_7 σ k0 k1 x1 x3 x6 x7 x8 hpre_0 hpre_1 hpre_2 hpre_3 hpre_4 hpre_5 hpre_6 hpre_7 hpre_8 ex1 tx1 c2 ex3 tx3 c4 c5 ex6 tx6 ex7 tx7 ex8 tx8)) (n := 2) ⟨wm_267, wm_265, by decide +kernel⟩ ⟨wm_268, wm_269, wm_10⟩ rfl rfl (lv_room (Nat.le_of_ble_eq_true rfl)) ⟨Nat.le_of_ble_eq_true rfl, Nat.le_of_ble_eq_true rfl⟩ dX12_weight_46 (fun r9 u H locs hr9 hP hS => ?_)
        have hr9 : -1 ≤ r9.toInt ∧ r9.toInt ≤ 5 := hr9
        obtain ⟨hr9_0, hr9_1⟩ := hr9
        refine lv_imul hx hb dX12_weight_49 ?_
        refine lv_topi (fun x10 ex10 => ?_)
        have tx10 : x10.toInt = 2 * r9.toInt := (v_weight_8 r9 x10 hr9_0 hr9_1 ex10)
        exact r_reti C () (v_weight_9 r9 x10 hr9_0 hr9_1 ex10 tx10) hP hS dX12_weight_50
      · have c5 : k1.toInt = 5 := by have h := z_eq c5; rw [show (5 : Int32).toInt = 5 from by decide +kernel] at h; exact h
        refine lv_bipush (v := 16) hx hb dX12_weight_26 (by decide +kernel) ?_
        refine lv_goto (tgt := 50) hx hb dX12_weight_28 (by decide) ?_
        exact r_reti C () (v_weight_10  ) hP hS dX12_weight_50
    · have c4 : x3.toInt = 0 := by have h := z_eq c4; rw [show (0 : Int32).toInt = 0 from by decide +kernel] at h; exact h
      refine lv_iconst (v := 0) hx hb dX12_weight_19 (by decide +kernel) ?_
      exact r_reti C () (v_weight_2  ) hP hS dX12_weight_20
