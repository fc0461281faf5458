-- in@5 @5
theorem v_fieldOf_1 (σ : RS) (k0 : Int32) (hpre_0 : 0 ≤ (σ.1 35).toInt) (hpre_1 : (σ.1 35).toInt ≤ 5) (hpre_2 : CLS (σ.1 35).toInt (σ.2.1 36) (σ.2.1 37) (σ.2.1 40)) (hpre_3 : OBS (σ.1 47).toInt (σ.1 35).toInt (σ.2.1 48)) (hpre_4 : 0 ≤ (σ.1 47).toInt) (hpre_5 : (σ.1 47).toInt ≤ 30) (hpre_6 : 0 ≤ k0.toInt) (hpre_7 : k0.toInt < 980) (hpre_8 : CV (σ.2.1 51) (σ.2.2.1 52) (σ.1 35).toInt (σ.1 47).toInt k0.toNatClampNeg) : vp_in k0 980 := by
  have cv_hpre_8 := id hpre_8
  unfold CV at cv_hpre_8
  exact vp_in_iff.mpr ⟨by omega, by omega⟩
-- in@18 @18
theorem v_fieldOf_2 (σ : RS) (k0 : Int32) (x1 : Int32) (hpre_0 : 0 ≤ (σ.1 35).toInt) (hpre_1 : (σ.1 35).toInt ≤ 5) (hpre_2 : CLS (σ.1 35).toInt (σ.2.1 36) (σ.2.1 37) (σ.2.1 40)) (hpre_3 : OBS (σ.1 47).toInt (σ.1 35).toInt (σ.2.1 48)) (hpre_4 : 0 ≤ (σ.1 47).toInt) (hpre_5 : (σ.1 47).toInt ≤ 30) (hpre_6 : 0 ≤ k0.toInt) (hpre_7 : k0.toInt < 980) (hpre_8 : CV (σ.2.1 51) (σ.2.2.1 52) (σ.1 35).toInt (σ.1 47).toInt k0.toNatClampNeg) (ex1 : x1 = (σ.2.1 51) k0.toNatClampNeg) (tx1 : x1.toInt = ((σ.2.1 51) k0.toNatClampNeg).toInt) (c2 : 8 ≤ x1.toInt) : vp_in k0 980 := by
  have cv_hpre_8 := id hpre_8
  unfold CV at cv_hpre_8
  exact vp_in_iff.mpr ⟨by omega, by omega⟩
-- in@26 @26
theorem v_fieldOf_3 (σ : RS) (k0 : Int32) (x1 : Int32) (x3 : Int64) (x4 : Int32) (hpre_0 : 0 ≤ (σ.1 35).toInt) (hpre_1 : (σ.1 35).toInt ≤ 5) (hpre_2 : CLS (σ.1 35).toInt (σ.2.1 36) (σ.2.1 37) (σ.2.1 40)) (hpre_3 : OBS (σ.1 47).toInt (σ.1 35).toInt (σ.2.1 48)) (hpre_4 : 0 ≤ (σ.1 47).toInt) (hpre_5 : (σ.1 47).toInt ≤ 30) (hpre_6 : 0 ≤ k0.toInt) (hpre_7 : k0.toInt < 980) (hpre_8 : CV (σ.2.1 51) (σ.2.2.1 52) (σ.1 35).toInt (σ.1 47).toInt k0.toNatClampNeg) (ex1 : x1 = (σ.2.1 51) k0.toNatClampNeg) (tx1 : x1.toInt = ((σ.2.1 51) k0.toNatClampNeg).toInt) (c2 : 8 ≤ x1.toInt) (ex3 : x3 = (σ.2.2.1 52) k0.toNatClampNeg) (tx3 : x3.toInt = ((σ.2.2.1 52) k0.toNatClampNeg).toInt) (ex4 : x4 = Int64.toInt32 x3) (tx4 : -2147483648 ≤ x3.toInt → x3.toInt < 2147483648 → x4.toInt = x3.toInt) : vp_in x4 30 := by
  have cv_hpre_8 := id hpre_8
  unfold CV at cv_hpre_8
  exact vp_in_iff.mpr ⟨by omega, by omega⟩
-- init@29 @29
theorem v_fieldOf_4 (σ : RS) (k0 : Int32) (k1 : Int32) (x1 : Int32) (x3 : Int64) (x4 : Int32) (x5 : Int32) (hpre_0 : 0 ≤ (σ.1 35).toInt) (hpre_1 : (σ.1 35).toInt ≤ 5) (hpre_2 : CLS (σ.1 35).toInt (σ.2.1 36) (σ.2.1 37) (σ.2.1 40)) (hpre_3 : OBS (σ.1 47).toInt (σ.1 35).toInt (σ.2.1 48)) (hpre_4 : 0 ≤ (σ.1 47).toInt) (hpre_5 : (σ.1 47).toInt ≤ 30) (hpre_6 : 0 ≤ k0.toInt) (hpre_7 : k0.toInt < 980) (hpre_8 : CV (σ.2.1 51) (σ.2.2.1 52) (σ.1 35).toInt (σ.1 47).toInt k0.toNatClampNeg) (ex1 : x1 = (σ.2.1 51) k0.toNatClampNeg) (tx1 : x1.toInt = ((σ.2.1 51) k0.toNatClampNeg).toInt) (c2 : 8 ≤ x1.toInt) (ex3 : x3 = (σ.2.2.1 52) k0.toNatClampNeg) (tx3 : x3.toInt = ((σ.2.2.1 52) k0.toNatClampNeg).toInt) (ex4 : x4 = Int64.toInt32 x3) (tx4 : -2147483648 ≤ x3.toInt → x3.toInt < 2147483648 → x4.toInt = x3.toInt) (ex5 : x5 = (σ.2.1 48) x4.toNatClampNeg) (tx5 : x5.toInt = ((σ.2.1 48) x4.toNatClampNeg).toInt) : -1 ≤ x5.toInt ∧ x5.toInt < (σ.1 35).toInt ∧ SCAN (σ.2.1 36) (σ.2.1 37) (σ.2.1 38) ((σ.2.1 48) ((σ.2.2.1 52) k0.toNatClampNeg).toInt.toNat).toInt x5.toInt k1 := by
  have cv_hpre_8 := id hpre_8
  unfold CV at cv_hpre_8
  have ob_x5 := hpre_3 x4.toNatClampNeg (by rw [clampZ (by omega)]; omega)
  refine ⟨by omega, by omega, SCAN.start ?_⟩
  rw [tx5, clampN, tx4 (by omega) (by omega), tx3]
-- post @102
theorem v_fieldOf_5 (σ : RS) (k0 : Int32) (k1 : Int32) (x1 : Int32) (x3 : Int64) (x4 : Int32) (x5 : Int32) (y6 : Int32) (hpre_0 : 0 ≤ (σ.1 35).toInt) (hpre_1 : (σ.1 35).toInt ≤ 5) (hpre_2 : CLS (σ.1 35).toInt (σ.2.1 36) (σ.2.1 37) (σ.2.1 40)) (hpre_3 : OBS (σ.1 47).toInt (σ.1 35).toInt (σ.2.1 48)) (hpre_4 : 0 ≤ (σ.1 47).toInt) (hpre_5 : (σ.1 47).toInt ≤ 30) (hpre_6 : 0 ≤ k0.toInt) (hpre_7 : k0.toInt < 980) (hpre_8 : CV (σ.2.1 51) (σ.2.2.1 52) (σ.1 35).toInt (σ.1 47).toInt k0.toNatClampNeg) (ex1 : x1 = (σ.2.1 51) k0.toNatClampNeg) (tx1 : x1.toInt = ((σ.2.1 51) k0.toNatClampNeg).toInt) (c2 : 8 ≤ x1.toInt) (ex3 : x3 = (σ.2.2.1 52) k0.toNatClampNeg) (tx3 : x3.toInt = ((σ.2.2.1 52) k0.toNatClampNeg).toInt) (ex4 : x4 = Int64.toInt32 x3) (tx4 : -2147483648 ≤ x3.toInt → x3.toInt < 2147483648 → x4.toInt = x3.toInt) (ex5 : x5 = (σ.2.1 48) x4.toNatClampNeg) (tx5 : x5.toInt = ((σ.2.1 48) x4.toNatClampNeg).toInt) (hi29_0 : -1 ≤ y6.toInt) (hi29_1 : y6.toInt < (σ.1 35).toInt) (hi29_2 : SCAN (σ.2.1 36) (σ.2.1 37) (σ.2.1 38) ((σ.2.1 48) ((σ.2.2.1 52) k0.toNatClampNeg).toInt.toNat).toInt y6.toInt k1) (c7 : y6.toInt < 0) : ((-1 : Int32).toInt = -1 ∧ ¬ FLD (σ.2.1 51) (σ.2.2.1 52) (σ.2.1 48) (σ.2.1 36) (σ.2.1 37) (σ.2.1 38) k0.toNatClampNeg k1) ∨ (80 ≤ (-1 : Int32).toInt ∧ (-1 : Int32).toInt < 980 ∧ FLD (σ.2.1 51) (σ.2.2.1 52) (σ.2.1 48) (σ.2.1 36) (σ.2.1 37) (σ.2.1 38) k0.toNatClampNeg k1) := by
  have qm1 : (-1 : Int32).toInt = (-1) := by decide +kernel
  have cv_hpre_8 := id hpre_8
  unfold CV at cv_hpre_8
  have ob_x5 := hpre_3 x4.toNatClampNeg (by rw [clampZ (by omega)]; omega)
  exact Or.inl ⟨qm1, fun h => SCAN.miss hi29_2 c7 h.2⟩
-- init@37 @37
theorem v_fieldOf_6 (σ : RS) (k0 : Int32) (k1 : Int32) (x1 : Int32) (x3 : Int64) (x4 : Int32) (x5 : Int32) (y6 : Int32) (hpre_0 : 0 ≤ (σ.1 35).toInt) (hpre_1 : (σ.1 35).toInt ≤ 5) (hpre_2 : CLS (σ.1 35).toInt (σ.2.1 36) (σ.2.1 37) (σ.2.1 40)) (hpre_3 : OBS (σ.1 47).toInt (σ.1 35).toInt (σ.2.1 48)) (hpre_4 : 0 ≤ (σ.1 47).toInt) (hpre_5 : (σ.1 47).toInt ≤ 30) (hpre_6 : 0 ≤ k0.toInt) (hpre_7 : k0.toInt < 980) (hpre_8 : CV (σ.2.1 51) (σ.2.2.1 52) (σ.1 35).toInt (σ.1 47).toInt k0.toNatClampNeg) (ex1 : x1 = (σ.2.1 51) k0.toNatClampNeg) (tx1 : x1.toInt = ((σ.2.1 51) k0.toNatClampNeg).toInt) (c2 : 8 ≤ x1.toInt) (ex3 : x3 = (σ.2.2.1 52) k0.toNatClampNeg) (tx3 : x3.toInt = ((σ.2.2.1 52) k0.toNatClampNeg).toInt) (ex4 : x4 = Int64.toInt32 x3) (tx4 : -2147483648 ≤ x3.toInt → x3.toInt < 2147483648 → x4.toInt = x3.toInt) (ex5 : x5 = (σ.2.1 48) x4.toNatClampNeg) (tx5 : x5.toInt = ((σ.2.1 48) x4.toNatClampNeg).toInt) (hi29_0 : -1 ≤ y6.toInt) (hi29_1 : y6.toInt < (σ.1 35).toInt) (hi29_2 : SCAN (σ.2.1 36) (σ.2.1 37) (σ.2.1 38) ((σ.2.1 48) ((σ.2.2.1 52) k0.toNatClampNeg).toInt.toNat).toInt y6.toInt k1) (c7 : 0 ≤ y6.toInt) : 0 ≤ (0 : Int32).toInt ∧ (0 : Int32).toInt ≤ 6 ∧ NOWN (σ.2.1 38) y6.toInt (0 : Int32).toInt k1 := by
  have q0 : (0 : Int32).toInt = 0 := by decide +kernel
  have cv_hpre_8 := id hpre_8
  unfold CV at cv_hpre_8
  have ob_x5 := hpre_3 x4.toNatClampNeg (by rw [clampZ (by omega)]; omega)
  exact ⟨by omega, by omega, NOWN.zero (by omega)⟩
-- in@45 @45
theorem v_fieldOf_7 (σ : RS) (k0 : Int32) (k1 : Int32) (x1 : Int32) (x3 : Int64) (x4 : Int32) (x5 : Int32) (y6 : Int32) (y8 : Int32) (hpre_0 : 0 ≤ (σ.1 35).toInt) (hpre_1 : (σ.1 35).toInt ≤ 5) (hpre_2 : CLS (σ.1 35).toInt (σ.2.1 36) (σ.2.1 37) (σ.2.1 40)) (hpre_3 : OBS (σ.1 47).toInt (σ.1 35).toInt (σ.2.1 48)) (hpre_4 : 0 ≤ (σ.1 47).toInt) (hpre_5 : (σ.1 47).toInt ≤ 30) (hpre_6 : 0 ≤ k0.toInt) (hpre_7 : k0.toInt < 980) (hpre_8 : CV (σ.2.1 51) (σ.2.2.1 52) (σ.1 35).toInt (σ.1 47).toInt k0.toNatClampNeg) (ex1 : x1 = (σ.2.1 51) k0.toNatClampNeg) (tx1 : x1.toInt = ((σ.2.1 51) k0.toNatClampNeg).toInt) (c2 : 8 ≤ x1.toInt) (ex3 : x3 = (σ.2.2.1 52) k0.toNatClampNeg) (tx3 : x3.toInt = ((σ.2.2.1 52) k0.toNatClampNeg).toInt) (ex4 : x4 = Int64.toInt32 x3) (tx4 : -2147483648 ≤ x3.toInt → x3.toInt < 2147483648 → x4.toInt = x3.toInt) (ex5 : x5 = (σ.2.1 48) x4.toNatClampNeg) (tx5 : x5.toInt = ((σ.2.1 48) x4.toNatClampNeg).toInt) (hi29_0 : -1 ≤ y6.toInt) (hi29_1 : y6.toInt < (σ.1 35).toInt) (hi29_2 : SCAN (σ.2.1 36) (σ.2.1 37) (σ.2.1 38) ((σ.2.1 48) ((σ.2.2.1 52) k0.toNatClampNeg).toInt.toNat).toInt y6.toInt k1) (c7 : 0 ≤ y6.toInt) (hi37_0 : 0 ≤ y8.toInt) (hi37_1 : y8.toInt ≤ 6) (hi37_2 : NOWN (σ.2.1 38) y6.toInt y8.toInt k1) : vp_in y6 5 := by
  have cv_hpre_8 := id hpre_8
  unfold CV at cv_hpre_8
  have ob_x5 := hpre_3 x4.toNatClampNeg (by rw [clampZ (by omega)]; omega)
  exact vp_in_iff.mpr ⟨by omega, by omega⟩
-- in@95 @95
theorem v_fieldOf_8 (σ : RS) (k0 : Int32) (k1 : Int32) (x1 : Int32) (x3 : Int64) (x4 : Int32) (x5 : Int32) (y6 : Int32) (y8 : Int32) (x9 : Int32) (hpre_0 : 0 ≤ (σ.1 35).toInt) (hpre_1 : (σ.1 35).toInt ≤ 5) (hpre_2 : CLS (σ.1 35).toInt (σ.2.1 36) (σ.2.1 37) (σ.2.1 40)) (hpre_3 : OBS (σ.1 47).toInt (σ.1 35).toInt (σ.2.1 48)) (hpre_4 : 0 ≤ (σ.1 47).toInt) (hpre_5 : (σ.1 47).toInt ≤ 30) (hpre_6 : 0 ≤ k0.toInt) (hpre_7 : k0.toInt < 980) (hpre_8 : CV (σ.2.1 51) (σ.2.2.1 52) (σ.1 35).toInt (σ.1 47).toInt k0.toNatClampNeg) (ex1 : x1 = (σ.2.1 51) k0.toNatClampNeg) (tx1 : x1.toInt = ((σ.2.1 51) k0.toNatClampNeg).toInt) (c2 : 8 ≤ x1.toInt) (ex3 : x3 = (σ.2.2.1 52) k0.toNatClampNeg) (tx3 : x3.toInt = ((σ.2.2.1 52) k0.toNatClampNeg).toInt) (ex4 : x4 = Int64.toInt32 x3) (tx4 : -2147483648 ≤ x3.toInt → x3.toInt < 2147483648 → x4.toInt = x3.toInt) (ex5 : x5 = (σ.2.1 48) x4.toNatClampNeg) (tx5 : x5.toInt = ((σ.2.1 48) x4.toNatClampNeg).toInt) (hi29_0 : -1 ≤ y6.toInt) (hi29_1 : y6.toInt < (σ.1 35).toInt) (hi29_2 : SCAN (σ.2.1 36) (σ.2.1 37) (σ.2.1 38) ((σ.2.1 48) ((σ.2.2.1 52) k0.toNatClampNeg).toInt.toNat).toInt y6.toInt k1) (c7 : 0 ≤ y6.toInt) (hi37_0 : 0 ≤ y8.toInt) (hi37_1 : y8.toInt ≤ 6) (hi37_2 : NOWN (σ.2.1 38) y6.toInt y8.toInt k1) (ex9 : x9 = (σ.2.1 37) y6.toNatClampNeg) (tx9 : x9.toInt = ((σ.2.1 37) y6.toNatClampNeg).toInt) (c10 : x9.toInt ≤ y8.toInt) : vp_in y6 5 := by
  have cv_hpre_8 := id hpre_8
  unfold CV at cv_hpre_8
  have ob_x5 := hpre_3 x4.toNatClampNeg (by rw [clampZ (by omega)]; omega)
  have cl_x9 := hpre_2 y6.toNatClampNeg (by rw [clampZ (by omega)]; omega)
  exact vp_in_iff.mpr ⟨by omega, by omega⟩
-- inv@29 @29
theorem v_fieldOf_9 (σ : RS) (k0 : Int32) (k1 : Int32) (x1 : Int32) (x3 : Int64) (x4 : Int32) (x5 : Int32) (y6 : Int32) (y8 : Int32) (x9 : Int32) (x11 : Int32) (hpre_0 : 0 ≤ (σ.1 35).toInt) (hpre_1 : (σ.1 35).toInt ≤ 5) (hpre_2 : CLS (σ.1 35).toInt (σ.2.1 36) (σ.2.1 37) (σ.2.1 40)) (hpre_3 : OBS (σ.1 47).toInt (σ.1 35).toInt (σ.2.1 48)) (hpre_4 : 0 ≤ (σ.1 47).toInt) (hpre_5 : (σ.1 47).toInt ≤ 30) (hpre_6 : 0 ≤ k0.toInt) (hpre_7 : k0.toInt < 980) (hpre_8 : CV (σ.2.1 51) (σ.2.2.1 52) (σ.1 35).toInt (σ.1 47).toInt k0.toNatClampNeg) (ex1 : x1 = (σ.2.1 51) k0.toNatClampNeg) (tx1 : x1.toInt = ((σ.2.1 51) k0.toNatClampNeg).toInt) (c2 : 8 ≤ x1.toInt) (ex3 : x3 = (σ.2.2.1 52) k0.toNatClampNeg) (tx3 : x3.toInt = ((σ.2.2.1 52) k0.toNatClampNeg).toInt) (ex4 : x4 = Int64.toInt32 x3) (tx4 : -2147483648 ≤ x3.toInt → x3.toInt < 2147483648 → x4.toInt = x3.toInt) (ex5 : x5 = (σ.2.1 48) x4.toNatClampNeg) (tx5 : x5.toInt = ((σ.2.1 48) x4.toNatClampNeg).toInt) (hi29_0 : -1 ≤ y6.toInt) (hi29_1 : y6.toInt < (σ.1 35).toInt) (hi29_2 : SCAN (σ.2.1 36) (σ.2.1 37) (σ.2.1 38) ((σ.2.1 48) ((σ.2.2.1 52) k0.toNatClampNeg).toInt.toNat).toInt y6.toInt k1) (c7 : 0 ≤ y6.toInt) (hi37_0 : 0 ≤ y8.toInt) (hi37_1 : y8.toInt ≤ 6) (hi37_2 : NOWN (σ.2.1 38) y6.toInt y8.toInt k1) (ex9 : x9 = (σ.2.1 37) y6.toNatClampNeg) (tx9 : x9.toInt = ((σ.2.1 37) y6.toNatClampNeg).toInt) (c10 : x9.toInt ≤ y8.toInt) (ex11 : x11 = (σ.2.1 36) y6.toNatClampNeg) (tx11 : x11.toInt = ((σ.2.1 36) y6.toNatClampNeg).toInt) : -1 ≤ x11.toInt ∧ x11.toInt < (σ.1 35).toInt ∧ SCAN (σ.2.1 36) (σ.2.1 37) (σ.2.1 38) ((σ.2.1 48) ((σ.2.2.1 52) k0.toNatClampNeg).toInt.toNat).toInt x11.toInt k1 := by
  have cl_x11 := hpre_2 y6.toNatClampNeg (by rw [clampZ (by omega)]; omega)
  rw [clampZ (by omega)] at cl_x11
  have cv_hpre_8 := id hpre_8
  unfold CV at cv_hpre_8
  have ob_x5 := hpre_3 x4.toNatClampNeg (by rw [clampZ (by omega)]; omega)
  have cl_x9 := hpre_2 y6.toNatClampNeg (by rw [clampZ (by omega)]; omega)
  refine ⟨by omega, by omega, SCAN.next hi29_2 c7 hi37_2 (by rw [← clampN, ← tx9]; exact c10) (by rw [tx11, clampN])⟩
-- meas@29 @29
theorem v_fieldOf_10 (σ : RS) (k0 : Int32) (k1 : Int32) (x1 : Int32) (x3 : Int64) (x4 : Int32) (x5 : Int32) (y6 : Int32) (y8 : Int32) (x9 : Int32) (x11 : Int32) (hpre_0 : 0 ≤ (σ.1 35).toInt) (hpre_1 : (σ.1 35).toInt ≤ 5) (hpre_2 : CLS (σ.1 35).toInt (σ.2.1 36) (σ.2.1 37) (σ.2.1 40)) (hpre_3 : OBS (σ.1 47).toInt (σ.1 35).toInt (σ.2.1 48)) (hpre_4 : 0 ≤ (σ.1 47).toInt) (hpre_5 : (σ.1 47).toInt ≤ 30) (hpre_6 : 0 ≤ k0.toInt) (hpre_7 : k0.toInt < 980) (hpre_8 : CV (σ.2.1 51) (σ.2.2.1 52) (σ.1 35).toInt (σ.1 47).toInt k0.toNatClampNeg) (ex1 : x1 = (σ.2.1 51) k0.toNatClampNeg) (tx1 : x1.toInt = ((σ.2.1 51) k0.toNatClampNeg).toInt) (c2 : 8 ≤ x1.toInt) (ex3 : x3 = (σ.2.2.1 52) k0.toNatClampNeg) (tx3 : x3.toInt = ((σ.2.2.1 52) k0.toNatClampNeg).toInt) (ex4 : x4 = Int64.toInt32 x3) (tx4 : -2147483648 ≤ x3.toInt → x3.toInt < 2147483648 → x4.toInt = x3.toInt) (ex5 : x5 = (σ.2.1 48) x4.toNatClampNeg) (tx5 : x5.toInt = ((σ.2.1 48) x4.toNatClampNeg).toInt) (hi29_0 : -1 ≤ y6.toInt) (hi29_1 : y6.toInt < (σ.1 35).toInt) (hi29_2 : SCAN (σ.2.1 36) (σ.2.1 37) (σ.2.1 38) ((σ.2.1 48) ((σ.2.2.1 52) k0.toNatClampNeg).toInt.toNat).toInt y6.toInt k1) (c7 : 0 ≤ y6.toInt) (hi37_0 : 0 ≤ y8.toInt) (hi37_1 : y8.toInt ≤ 6) (hi37_2 : NOWN (σ.2.1 38) y6.toInt y8.toInt k1) (ex9 : x9 = (σ.2.1 37) y6.toNatClampNeg) (tx9 : x9.toInt = ((σ.2.1 37) y6.toNatClampNeg).toInt) (c10 : x9.toInt ≤ y8.toInt) (ex11 : x11 = (σ.2.1 36) y6.toNatClampNeg) (tx11 : x11.toInt = ((σ.2.1 36) y6.toNatClampNeg).toInt) : (x11.toInt + 1).toNat < (y6.toInt + 1).toNat := by
  have cl_x11 := hpre_2 y6.toNatClampNeg (by rw [clampZ (by omega)]; omega)
  rw [clampZ (by omega)] at cl_x11
  have cv_hpre_8 := id hpre_8
  unfold CV at cv_hpre_8
  have ob_x5 := hpre_3 x4.toNatClampNeg (by rw [clampZ (by omega)]; omega)
  have cl_x9 := hpre_2 y6.toNatClampNeg (by rw [clampZ (by omega)]; omega)
  first | assumption | omega | (subst_vars; omega) | trivial
-- nw@57 @57
theorem v_fieldOf_11 (σ : RS) (k0 : Int32) (k1 : Int32) (x1 : Int32) (x3 : Int64) (x4 : Int32) (x5 : Int32) (y6 : Int32) (y8 : Int32) (x9 : Int32) (x12 : Int32) (hpre_0 : 0 ≤ (σ.1 35).toInt) (hpre_1 : (σ.1 35).toInt ≤ 5) (hpre_2 : CLS (σ.1 35).toInt (σ.2.1 36) (σ.2.1 37) (σ.2.1 40)) (hpre_3 : OBS (σ.1 47).toInt (σ.1 35).toInt (σ.2.1 48)) (hpre_4 : 0 ≤ (σ.1 47).toInt) (hpre_5 : (σ.1 47).toInt ≤ 30) (hpre_6 : 0 ≤ k0.toInt) (hpre_7 : k0.toInt < 980) (hpre_8 : CV (σ.2.1 51) (σ.2.2.1 52) (σ.1 35).toInt (σ.1 47).toInt k0.toNatClampNeg) (ex1 : x1 = (σ.2.1 51) k0.toNatClampNeg) (tx1 : x1.toInt = ((σ.2.1 51) k0.toNatClampNeg).toInt) (c2 : 8 ≤ x1.toInt) (ex3 : x3 = (σ.2.2.1 52) k0.toNatClampNeg) (tx3 : x3.toInt = ((σ.2.2.1 52) k0.toNatClampNeg).toInt) (ex4 : x4 = Int64.toInt32 x3) (tx4 : -2147483648 ≤ x3.toInt → x3.toInt < 2147483648 → x4.toInt = x3.toInt) (ex5 : x5 = (σ.2.1 48) x4.toNatClampNeg) (tx5 : x5.toInt = ((σ.2.1 48) x4.toNatClampNeg).toInt) (hi29_0 : -1 ≤ y6.toInt) (hi29_1 : y6.toInt < (σ.1 35).toInt) (hi29_2 : SCAN (σ.2.1 36) (σ.2.1 37) (σ.2.1 38) ((σ.2.1 48) ((σ.2.2.1 52) k0.toNatClampNeg).toInt.toNat).toInt y6.toInt k1) (c7 : 0 ≤ y6.toInt) (hi37_0 : 0 ≤ y8.toInt) (hi37_1 : y8.toInt ≤ 6) (hi37_2 : NOWN (σ.2.1 38) y6.toInt y8.toInt k1) (ex9 : x9 = (σ.2.1 37) y6.toNatClampNeg) (tx9 : x9.toInt = ((σ.2.1 37) y6.toNatClampNeg).toInt) (c10 : y8.toInt < x9.toInt) (ex12 : x12 = (6 : Int32) * y6) : x12.toInt = 6 * y6.toInt := by
  have q6 : (6 : Int32).toInt = 6 := by decide +kernel
  have cv_hpre_8 := id hpre_8
  unfold CV at cv_hpre_8
  have ob_x5 := hpre_3 x4.toNatClampNeg (by rw [clampZ (by omega)]; omega)
  have cl_x9 := hpre_2 y6.toNatClampNeg (by rw [clampZ (by omega)]; omega)
  have w0 : (6 : Int32).toInt = 6 := by decide +kernel
  rw [ex12, z_mulc 6 w0 (by omega) (by omega)]
-- nw@60 @60
theorem v_fieldOf_12 (σ : RS) (k0 : Int32) (k1 : Int32) (x1 : Int32) (x3 : Int64) (x4 : Int32) (x5 : Int32) (y6 : Int32) (y8 : Int32) (x9 : Int32) (x12 : Int32) (x13 : Int32) (hpre_0 : 0 ≤ (σ.1 35).toInt) (hpre_1 : (σ.1 35).toInt ≤ 5) (hpre_2 : CLS (σ.1 35).toInt (σ.2.1 36) (σ.2.1 37) (σ.2.1 40)) (hpre_3 : OBS (σ.1 47).toInt (σ.1 35).toInt (σ.2.1 48)) (hpre_4 : 0 ≤ (σ.1 47).toInt) (hpre_5 : (σ.1 47).toInt ≤ 30) (hpre_6 : 0 ≤ k0.toInt) (hpre_7 : k0.toInt < 980) (hpre_8 : CV (σ.2.1 51) (σ.2.2.1 52) (σ.1 35).toInt (σ.1 47).toInt k0.toNatClampNeg) (ex1 : x1 = (σ.2.1 51) k0.toNatClampNeg) (tx1 : x1.toInt = ((σ.2.1 51) k0.toNatClampNeg).toInt) (c2 : 8 ≤ x1.toInt) (ex3 : x3 = (σ.2.2.1 52) k0.toNatClampNeg) (tx3 : x3.toInt = ((σ.2.2.1 52) k0.toNatClampNeg).toInt) (ex4 : x4 = Int64.toInt32 x3) (tx4 : -2147483648 ≤ x3.toInt → x3.toInt < 2147483648 → x4.toInt = x3.toInt) (ex5 : x5 = (σ.2.1 48) x4.toNatClampNeg) (tx5 : x5.toInt = ((σ.2.1 48) x4.toNatClampNeg).toInt) (hi29_0 : -1 ≤ y6.toInt) (hi29_1 : y6.toInt < (σ.1 35).toInt) (hi29_2 : SCAN (σ.2.1 36) (σ.2.1 37) (σ.2.1 38) ((σ.2.1 48) ((σ.2.2.1 52) k0.toNatClampNeg).toInt.toNat).toInt y6.toInt k1) (c7 : 0 ≤ y6.toInt) (hi37_0 : 0 ≤ y8.toInt) (hi37_1 : y8.toInt ≤ 6) (hi37_2 : NOWN (σ.2.1 38) y6.toInt y8.toInt k1) (ex9 : x9 = (σ.2.1 37) y6.toNatClampNeg) (tx9 : x9.toInt = ((σ.2.1 37) y6.toNatClampNeg).toInt) (c10 : y8.toInt < x9.toInt) (ex12 : x12 = (6 : Int32) * y6) (tx12 : x12.toInt = 6 * y6.toInt) (ex13 : x13 = x12 + y8) : x13.toInt = x12.toInt + y8.toInt := by
  have q6 : (6 : Int32).toInt = 6 := by decide +kernel
  have cv_hpre_8 := id hpre_8
  unfold CV at cv_hpre_8
  have ob_x5 := hpre_3 x4.toNatClampNeg (by rw [clampZ (by omega)]; omega)
  have cl_x9 := hpre_2 y6.toNatClampNeg (by rw [clampZ (by omega)]; omega)
  rw [ex13, z_add (by omega) (by omega)]; first | done | omega
-- in@61 @61
theorem v_fieldOf_13 (σ : RS) (k0 : Int32) (k1 : Int32) (x1 : Int32) (x3 : Int64) (x4 : Int32) (x5 : Int32) (y6 : Int32) (y8 : Int32) (x9 : Int32) (x12 : Int32) (x13 : Int32) (hpre_0 : 0 ≤ (σ.1 35).toInt) (hpre_1 : (σ.1 35).toInt ≤ 5) (hpre_2 : CLS (σ.1 35).toInt (σ.2.1 36) (σ.2.1 37) (σ.2.1 40)) (hpre_3 : OBS (σ.1 47).toInt (σ.1 35).toInt (σ.2.1 48)) (hpre_4 : 0 ≤ (σ.1 47).toInt) (hpre_5 : (σ.1 47).toInt ≤ 30) (hpre_6 : 0 ≤ k0.toInt) (hpre_7 : k0.toInt < 980) (hpre_8 : CV (σ.2.1 51) (σ.2.2.1 52) (σ.1 35).toInt (σ.1 47).toInt k0.toNatClampNeg) (ex1 : x1 = (σ.2.1 51) k0.toNatClampNeg) (tx1 : x1.toInt = ((σ.2.1 51) k0.toNatClampNeg).toInt) (c2 : 8 ≤ x1.toInt) (ex3 : x3 = (σ.2.2.1 52) k0.toNatClampNeg) (tx3 : x3.toInt = ((σ.2.2.1 52) k0.toNatClampNeg).toInt) (ex4 : x4 = Int64.toInt32 x3) (tx4 : -2147483648 ≤ x3.toInt → x3.toInt < 2147483648 → x4.toInt = x3.toInt) (ex5 : x5 = (σ.2.1 48) x4.toNatClampNeg) (tx5 : x5.toInt = ((σ.2.1 48) x4.toNatClampNeg).toInt) (hi29_0 : -1 ≤ y6.toInt) (hi29_1 : y6.toInt < (σ.1 35).toInt) (hi29_2 : SCAN (σ.2.1 36) (σ.2.1 37) (σ.2.1 38) ((σ.2.1 48) ((σ.2.2.1 52) k0.toNatClampNeg).toInt.toNat).toInt y6.toInt k1) (c7 : 0 ≤ y6.toInt) (hi37_0 : 0 ≤ y8.toInt) (hi37_1 : y8.toInt ≤ 6) (hi37_2 : NOWN (σ.2.1 38) y6.toInt y8.toInt k1) (ex9 : x9 = (σ.2.1 37) y6.toNatClampNeg) (tx9 : x9.toInt = ((σ.2.1 37) y6.toNatClampNeg).toInt) (c10 : y8.toInt < x9.toInt) (ex12 : x12 = (6 : Int32) * y6) (tx12 : x12.toInt = 6 * y6.toInt) (ex13 : x13 = x12 + y8) (tx13 : x13.toInt = x12.toInt + y8.toInt) : vp_in x13 30 := by
  have q6 : (6 : Int32).toInt = 6 := by decide +kernel
  have cv_hpre_8 := id hpre_8
  unfold CV at cv_hpre_8
  have ob_x5 := hpre_3 x4.toNatClampNeg (by rw [clampZ (by omega)]; omega)
  have cl_x9 := hpre_2 y6.toNatClampNeg (by rw [clampZ (by omega)]; omega)
  exact vp_in_iff.mpr ⟨by omega, by omega⟩
-- nw@83 @83
theorem v_fieldOf_14 (σ : RS) (k0 : Int32) (k1 : Int32) (x1 : Int32) (x3 : Int64) (x4 : Int32) (x5 : Int32) (y6 : Int32) (y8 : Int32) (x9 : Int32) (x12 : Int32) (x13 : Int32) (x14 : Int32) (x16 : Int32) (hpre_0 : 0 ≤ (σ.1 35).toInt) (hpre_1 : (σ.1 35).toInt ≤ 5) (hpre_2 : CLS (σ.1 35).toInt (σ.2.1 36) (σ.2.1 37) (σ.2.1 40)) (hpre_3 : OBS (σ.1 47).toInt (σ.1 35).toInt (σ.2.1 48)) (hpre_4 : 0 ≤ (σ.1 47).toInt) (hpre_5 : (σ.1 47).toInt ≤ 30) (hpre_6 : 0 ≤ k0.toInt) (hpre_7 : k0.toInt < 980) (hpre_8 : CV (σ.2.1 51) (σ.2.2.1 52) (σ.1 35).toInt (σ.1 47).toInt k0.toNatClampNeg) (ex1 : x1 = (σ.2.1 51) k0.toNatClampNeg) (tx1 : x1.toInt = ((σ.2.1 51) k0.toNatClampNeg).toInt) (c2 : 8 ≤ x1.toInt) (ex3 : x3 = (σ.2.2.1 52) k0.toNatClampNeg) (tx3 : x3.toInt = ((σ.2.2.1 52) k0.toNatClampNeg).toInt) (ex4 : x4 = Int64.toInt32 x3) (tx4 : -2147483648 ≤ x3.toInt → x3.toInt < 2147483648 → x4.toInt = x3.toInt) (ex5 : x5 = (σ.2.1 48) x4.toNatClampNeg) (tx5 : x5.toInt = ((σ.2.1 48) x4.toNatClampNeg).toInt) (hi29_0 : -1 ≤ y6.toInt) (hi29_1 : y6.toInt < (σ.1 35).toInt) (hi29_2 : SCAN (σ.2.1 36) (σ.2.1 37) (σ.2.1 38) ((σ.2.1 48) ((σ.2.2.1 52) k0.toNatClampNeg).toInt.toNat).toInt y6.toInt k1) (c7 : 0 ≤ y6.toInt) (hi37_0 : 0 ≤ y8.toInt) (hi37_1 : y8.toInt ≤ 6) (hi37_2 : NOWN (σ.2.1 38) y6.toInt y8.toInt k1) (ex9 : x9 = (σ.2.1 37) y6.toNatClampNeg) (tx9 : x9.toInt = ((σ.2.1 37) y6.toNatClampNeg).toInt) (c10 : y8.toInt < x9.toInt) (ex12 : x12 = (6 : Int32) * y6) (tx12 : x12.toInt = 6 * y6.toInt) (ex13 : x13 = x12 + y8) (tx13 : x13.toInt = x12.toInt + y8.toInt) (ex14 : x14 = (σ.2.1 38) x13.toNatClampNeg) (tx14 : x14.toInt = ((σ.2.1 38) (x12.toInt + y8.toInt).toNat).toInt) (c15 : ¬ x14.toInt = k1.toInt) (ex16 : x16 = y8 + (1 : Int32)) : x16.toInt = y8.toInt + 1 := by
  have q1 : (1 : Int32).toInt = 1 := by decide +kernel
  have q6 : (6 : Int32).toInt = 6 := by decide +kernel
  have cv_hpre_8 := id hpre_8
  unfold CV at cv_hpre_8
  have ob_x5 := hpre_3 x4.toNatClampNeg (by rw [clampZ (by omega)]; omega)
  have cl_x9 := hpre_2 y6.toNatClampNeg (by rw [clampZ (by omega)]; omega)
  have z9 : (1 : Int32).toInt = 1 := by decide +kernel
  rw [ex16, z_add (by omega) (by omega)]; first | done | omega
-- inv@37 @37
theorem v_fieldOf_15 (σ : RS) (k0 : Int32) (k1 : Int32) (x1 : Int32) (x3 : Int64) (x4 : Int32) (x5 : Int32) (y6 : Int32) (y8 : Int32) (x9 : Int32) (x12 : Int32) (x13 : Int32) (x14 : Int32) (x16 : Int32) (hpre_0 : 0 ≤ (σ.1 35).toInt) (hpre_1 : (σ.1 35).toInt ≤ 5) (hpre_2 : CLS (σ.1 35).toInt (σ.2.1 36) (σ.2.1 37) (σ.2.1 40)) (hpre_3 : OBS (σ.1 47).toInt (σ.1 35).toInt (σ.2.1 48)) (hpre_4 : 0 ≤ (σ.1 47).toInt) (hpre_5 : (σ.1 47).toInt ≤ 30) (hpre_6 : 0 ≤ k0.toInt) (hpre_7 : k0.toInt < 980) (hpre_8 : CV (σ.2.1 51) (σ.2.2.1 52) (σ.1 35).toInt (σ.1 47).toInt k0.toNatClampNeg) (ex1 : x1 = (σ.2.1 51) k0.toNatClampNeg) (tx1 : x1.toInt = ((σ.2.1 51) k0.toNatClampNeg).toInt) (c2 : 8 ≤ x1.toInt) (ex3 : x3 = (σ.2.2.1 52) k0.toNatClampNeg) (tx3 : x3.toInt = ((σ.2.2.1 52) k0.toNatClampNeg).toInt) (ex4 : x4 = Int64.toInt32 x3) (tx4 : -2147483648 ≤ x3.toInt → x3.toInt < 2147483648 → x4.toInt = x3.toInt) (ex5 : x5 = (σ.2.1 48) x4.toNatClampNeg) (tx5 : x5.toInt = ((σ.2.1 48) x4.toNatClampNeg).toInt) (hi29_0 : -1 ≤ y6.toInt) (hi29_1 : y6.toInt < (σ.1 35).toInt) (hi29_2 : SCAN (σ.2.1 36) (σ.2.1 37) (σ.2.1 38) ((σ.2.1 48) ((σ.2.2.1 52) k0.toNatClampNeg).toInt.toNat).toInt y6.toInt k1) (c7 : 0 ≤ y6.toInt) (hi37_0 : 0 ≤ y8.toInt) (hi37_1 : y8.toInt ≤ 6) (hi37_2 : NOWN (σ.2.1 38) y6.toInt y8.toInt k1) (ex9 : x9 = (σ.2.1 37) y6.toNatClampNeg) (tx9 : x9.toInt = ((σ.2.1 37) y6.toNatClampNeg).toInt) (c10 : y8.toInt < x9.toInt) (ex12 : x12 = (6 : Int32) * y6) (tx12 : x12.toInt = 6 * y6.toInt) (ex13 : x13 = x12 + y8) (tx13 : x13.toInt = x12.toInt + y8.toInt) (ex14 : x14 = (σ.2.1 38) x13.toNatClampNeg) (tx14 : x14.toInt = ((σ.2.1 38) (x12.toInt + y8.toInt).toNat).toInt) (c15 : ¬ x14.toInt = k1.toInt) (ex16 : x16 = y8 + (1 : Int32)) (tx16 : x16.toInt = y8.toInt + 1) : 0 ≤ x16.toInt ∧ x16.toInt ≤ 6 ∧ NOWN (σ.2.1 38) y6.toInt x16.toInt k1 := by
  have q1 : (1 : Int32).toInt = 1 := by decide +kernel
  have q6 : (6 : Int32).toInt = 6 := by decide +kernel
  have cv_hpre_8 := id hpre_8
  unfold CV at cv_hpre_8
  have ob_x5 := hpre_3 x4.toNatClampNeg (by rw [clampZ (by omega)]; omega)
  have cl_x9 := hpre_2 y6.toNatClampNeg (by rw [clampZ (by omega)]; omega)
  refine ⟨by omega, by omega, NOWN.step hi37_2 hi37_0 tx16 (fun h => c15 ?_)⟩
  rw [tx14, ← h, show (x12.toInt + y8.toInt).toNat = 6 * y6.toInt.toNat + y8.toInt.toNat by omega]
-- meas@37 @37
theorem v_fieldOf_16 (σ : RS) (k0 : Int32) (k1 : Int32) (x1 : Int32) (x3 : Int64) (x4 : Int32) (x5 : Int32) (y6 : Int32) (y8 : Int32) (x9 : Int32) (x12 : Int32) (x13 : Int32) (x14 : Int32) (x16 : Int32) (hpre_0 : 0 ≤ (σ.1 35).toInt) (hpre_1 : (σ.1 35).toInt ≤ 5) (hpre_2 : CLS (σ.1 35).toInt (σ.2.1 36) (σ.2.1 37) (σ.2.1 40)) (hpre_3 : OBS (σ.1 47).toInt (σ.1 35).toInt (σ.2.1 48)) (hpre_4 : 0 ≤ (σ.1 47).toInt) (hpre_5 : (σ.1 47).toInt ≤ 30) (hpre_6 : 0 ≤ k0.toInt) (hpre_7 : k0.toInt < 980) (hpre_8 : CV (σ.2.1 51) (σ.2.2.1 52) (σ.1 35).toInt (σ.1 47).toInt k0.toNatClampNeg) (ex1 : x1 = (σ.2.1 51) k0.toNatClampNeg) (tx1 : x1.toInt = ((σ.2.1 51) k0.toNatClampNeg).toInt) (c2 : 8 ≤ x1.toInt) (ex3 : x3 = (σ.2.2.1 52) k0.toNatClampNeg) (tx3 : x3.toInt = ((σ.2.2.1 52) k0.toNatClampNeg).toInt) (ex4 : x4 = Int64.toInt32 x3) (tx4 : -2147483648 ≤ x3.toInt → x3.toInt < 2147483648 → x4.toInt = x3.toInt) (ex5 : x5 = (σ.2.1 48) x4.toNatClampNeg) (tx5 : x5.toInt = ((σ.2.1 48) x4.toNatClampNeg).toInt) (hi29_0 : -1 ≤ y6.toInt) (hi29_1 : y6.toInt < (σ.1 35).toInt) (hi29_2 : SCAN (σ.2.1 36) (σ.2.1 37) (σ.2.1 38) ((σ.2.1 48) ((σ.2.2.1 52) k0.toNatClampNeg).toInt.toNat).toInt y6.toInt k1) (c7 : 0 ≤ y6.toInt) (hi37_0 : 0 ≤ y8.toInt) (hi37_1 : y8.toInt ≤ 6) (hi37_2 : NOWN (σ.2.1 38) y6.toInt y8.toInt k1) (ex9 : x9 = (σ.2.1 37) y6.toNatClampNeg) (tx9 : x9.toInt = ((σ.2.1 37) y6.toNatClampNeg).toInt) (c10 : y8.toInt < x9.toInt) (ex12 : x12 = (6 : Int32) * y6) (tx12 : x12.toInt = 6 * y6.toInt) (ex13 : x13 = x12 + y8) (tx13 : x13.toInt = x12.toInt + y8.toInt) (ex14 : x14 = (σ.2.1 38) x13.toNatClampNeg) (tx14 : x14.toInt = ((σ.2.1 38) (x12.toInt + y8.toInt).toNat).toInt) (c15 : ¬ x14.toInt = k1.toInt) (ex16 : x16 = y8 + (1 : Int32)) (tx16 : x16.toInt = y8.toInt + 1) : (6 - x16.toInt).toNat < (6 - y8.toInt).toNat := by
  have q1 : (1 : Int32).toInt = 1 := by decide +kernel
  have q6 : (6 : Int32).toInt = 6 := by decide +kernel
  have cv_hpre_8 := id hpre_8
  unfold CV at cv_hpre_8
  have ob_x5 := hpre_3 x4.toNatClampNeg (by rw [clampZ (by omega)]; omega)
  have cl_x9 := hpre_2 y6.toNatClampNeg (by rw [clampZ (by omega)]; omega)
  first | assumption | omega | (subst_vars; omega) | trivial
-- nw@71 @71
theorem v_fieldOf_17 (σ : RS) (k0 : Int32) (k1 : Int32) (x1 : Int32) (x3 : Int64) (x4 : Int32) (x5 : Int32) (y6 : Int32) (y8 : Int32) (x9 : Int32) (x12 : Int32) (x13 : Int32) (x14 : Int32) (x17 : Int32) (hpre_0 : 0 ≤ (σ.1 35).toInt) (hpre_1 : (σ.1 35).toInt ≤ 5) (hpre_2 : CLS (σ.1 35).toInt (σ.2.1 36) (σ.2.1 37) (σ.2.1 40)) (hpre_3 : OBS (σ.1 47).toInt (σ.1 35).toInt (σ.2.1 48)) (hpre_4 : 0 ≤ (σ.1 47).toInt) (hpre_5 : (σ.1 47).toInt ≤ 30) (hpre_6 : 0 ≤ k0.toInt) (hpre_7 : k0.toInt < 980) (hpre_8 : CV (σ.2.1 51) (σ.2.2.1 52) (σ.1 35).toInt (σ.1 47).toInt k0.toNatClampNeg) (ex1 : x1 = (σ.2.1 51) k0.toNatClampNeg) (tx1 : x1.toInt = ((σ.2.1 51) k0.toNatClampNeg).toInt) (c2 : 8 ≤ x1.toInt) (ex3 : x3 = (σ.2.2.1 52) k0.toNatClampNeg) (tx3 : x3.toInt = ((σ.2.2.1 52) k0.toNatClampNeg).toInt) (ex4 : x4 = Int64.toInt32 x3) (tx4 : -2147483648 ≤ x3.toInt → x3.toInt < 2147483648 → x4.toInt = x3.toInt) (ex5 : x5 = (σ.2.1 48) x4.toNatClampNeg) (tx5 : x5.toInt = ((σ.2.1 48) x4.toNatClampNeg).toInt) (hi29_0 : -1 ≤ y6.toInt) (hi29_1 : y6.toInt < (σ.1 35).toInt) (hi29_2 : SCAN (σ.2.1 36) (σ.2.1 37) (σ.2.1 38) ((σ.2.1 48) ((σ.2.2.1 52) k0.toNatClampNeg).toInt.toNat).toInt y6.toInt k1) (c7 : 0 ≤ y6.toInt) (hi37_0 : 0 ≤ y8.toInt) (hi37_1 : y8.toInt ≤ 6) (hi37_2 : NOWN (σ.2.1 38) y6.toInt y8.toInt k1) (ex9 : x9 = (σ.2.1 37) y6.toNatClampNeg) (tx9 : x9.toInt = ((σ.2.1 37) y6.toNatClampNeg).toInt) (c10 : y8.toInt < x9.toInt) (ex12 : x12 = (6 : Int32) * y6) (tx12 : x12.toInt = 6 * y6.toInt) (ex13 : x13 = x12 + y8) (tx13 : x13.toInt = x12.toInt + y8.toInt) (ex14 : x14 = (σ.2.1 38) x13.toNatClampNeg) (tx14 : x14.toInt = ((σ.2.1 38) (x12.toInt + y8.toInt).toNat).toInt) (c15 : x14.toInt = k1.toInt) (ex17 : x17 = (30 : Int32) * x4) : x17.toInt = 30 * x4.toInt := by
  have q6 : (6 : Int32).toInt = 6 := by decide +kernel
  have q30 : (30 : Int32).toInt = 30 := by decide +kernel
  have cv_hpre_8 := id hpre_8
  unfold CV at cv_hpre_8
  have ob_x5 := hpre_3 x4.toNatClampNeg (by rw [clampZ (by omega)]; omega)
  have cl_x9 := hpre_2 y6.toNatClampNeg (by rw [clampZ (by omega)]; omega)
  have w0 : (30 : Int32).toInt = 30 := by decide +kernel
  rw [ex17, z_mulc 30 w0 (by omega) (by omega)]
-- nw@72 @72
theorem v_fieldOf_18 (σ : RS) (k0 : Int32) (k1 : Int32) (x1 : Int32) (x3 : Int64) (x4 : Int32) (x5 : Int32) (y6 : Int32) (y8 : Int32) (x9 : Int32) (x12 : Int32) (x13 : Int32) (x14 : Int32) (x17 : Int32) (x18 : Int32) (hpre_0 : 0 ≤ (σ.1 35).toInt) (hpre_1 : (σ.1 35).toInt ≤ 5) (hpre_2 : CLS (σ.1 35).toInt (σ.2.1 36) (σ.2.1 37) (σ.2.1 40)) (hpre_3 : OBS (σ.1 47).toInt (σ.1 35).toInt (σ.2.1 48)) (hpre_4 : 0 ≤ (σ.1 47).toInt) (hpre_5 : (σ.1 47).toInt ≤ 30) (hpre_6 : 0 ≤ k0.toInt) (hpre_7 : k0.toInt < 980) (hpre_8 : CV (σ.2.1 51) (σ.2.2.1 52) (σ.1 35).toInt (σ.1 47).toInt k0.toNatClampNeg) (ex1 : x1 = (σ.2.1 51) k0.toNatClampNeg) (tx1 : x1.toInt = ((σ.2.1 51) k0.toNatClampNeg).toInt) (c2 : 8 ≤ x1.toInt) (ex3 : x3 = (σ.2.2.1 52) k0.toNatClampNeg) (tx3 : x3.toInt = ((σ.2.2.1 52) k0.toNatClampNeg).toInt) (ex4 : x4 = Int64.toInt32 x3) (tx4 : -2147483648 ≤ x3.toInt → x3.toInt < 2147483648 → x4.toInt = x3.toInt) (ex5 : x5 = (σ.2.1 48) x4.toNatClampNeg) (tx5 : x5.toInt = ((σ.2.1 48) x4.toNatClampNeg).toInt) (hi29_0 : -1 ≤ y6.toInt) (hi29_1 : y6.toInt < (σ.1 35).toInt) (hi29_2 : SCAN (σ.2.1 36) (σ.2.1 37) (σ.2.1 38) ((σ.2.1 48) ((σ.2.2.1 52) k0.toNatClampNeg).toInt.toNat).toInt y6.toInt k1) (c7 : 0 ≤ y6.toInt) (hi37_0 : 0 ≤ y8.toInt) (hi37_1 : y8.toInt ≤ 6) (hi37_2 : NOWN (σ.2.1 38) y6.toInt y8.toInt k1) (ex9 : x9 = (σ.2.1 37) y6.toNatClampNeg) (tx9 : x9.toInt = ((σ.2.1 37) y6.toNatClampNeg).toInt) (c10 : y8.toInt < x9.toInt) (ex12 : x12 = (6 : Int32) * y6) (tx12 : x12.toInt = 6 * y6.toInt) (ex13 : x13 = x12 + y8) (tx13 : x13.toInt = x12.toInt + y8.toInt) (ex14 : x14 = (σ.2.1 38) x13.toNatClampNeg) (tx14 : x14.toInt = ((σ.2.1 38) (x12.toInt + y8.toInt).toNat).toInt) (c15 : x14.toInt = k1.toInt) (ex17 : x17 = (30 : Int32) * x4) (tx17 : x17.toInt = 30 * x4.toInt) (ex18 : x18 = (80 : Int32) + x17) : x18.toInt = 80 + x17.toInt := by
  have q6 : (6 : Int32).toInt = 6 := by decide +kernel
  have q30 : (30 : Int32).toInt = 30 := by decide +kernel
  have q80 : (80 : Int32).toInt = 80 := by decide +kernel
  have cv_hpre_8 := id hpre_8
  unfold CV at cv_hpre_8
  have ob_x5 := hpre_3 x4.toNatClampNeg (by rw [clampZ (by omega)]; omega)
  have cl_x9 := hpre_2 y6.toNatClampNeg (by rw [clampZ (by omega)]; omega)
  have w0 : (80 : Int32).toInt = 80 := by decide +kernel
  rw [ex18, z_add (by omega) (by omega)]; first | done | omega
-- nw@77 @77
theorem v_fieldOf_19 (σ : RS) (k0 : Int32) (k1 : Int32) (x1 : Int32) (x3 : Int64) (x4 : Int32) (x5 : Int32) (y6 : Int32) (y8 : Int32) (x9 : Int32) (x12 : Int32) (x13 : Int32) (x14 : Int32) (x17 : Int32) (x18 : Int32) (x19 : Int32) (hpre_0 : 0 ≤ (σ.1 35).toInt) (hpre_1 : (σ.1 35).toInt ≤ 5) (hpre_2 : CLS (σ.1 35).toInt (σ.2.1 36) (σ.2.1 37) (σ.2.1 40)) (hpre_3 : OBS (σ.1 47).toInt (σ.1 35).toInt (σ.2.1 48)) (hpre_4 : 0 ≤ (σ.1 47).toInt) (hpre_5 : (σ.1 47).toInt ≤ 30) (hpre_6 : 0 ≤ k0.toInt) (hpre_7 : k0.toInt < 980) (hpre_8 : CV (σ.2.1 51) (σ.2.2.1 52) (σ.1 35).toInt (σ.1 47).toInt k0.toNatClampNeg) (ex1 : x1 = (σ.2.1 51) k0.toNatClampNeg) (tx1 : x1.toInt = ((σ.2.1 51) k0.toNatClampNeg).toInt) (c2 : 8 ≤ x1.toInt) (ex3 : x3 = (σ.2.2.1 52) k0.toNatClampNeg) (tx3 : x3.toInt = ((σ.2.2.1 52) k0.toNatClampNeg).toInt) (ex4 : x4 = Int64.toInt32 x3) (tx4 : -2147483648 ≤ x3.toInt → x3.toInt < 2147483648 → x4.toInt = x3.toInt) (ex5 : x5 = (σ.2.1 48) x4.toNatClampNeg) (tx5 : x5.toInt = ((σ.2.1 48) x4.toNatClampNeg).toInt) (hi29_0 : -1 ≤ y6.toInt) (hi29_1 : y6.toInt < (σ.1 35).toInt) (hi29_2 : SCAN (σ.2.1 36) (σ.2.1 37) (σ.2.1 38) ((σ.2.1 48) ((σ.2.2.1 52) k0.toNatClampNeg).toInt.toNat).toInt y6.toInt k1) (c7 : 0 ≤ y6.toInt) (hi37_0 : 0 ≤ y8.toInt) (hi37_1 : y8.toInt ≤ 6) (hi37_2 : NOWN (σ.2.1 38) y6.toInt y8.toInt k1) (ex9 : x9 = (σ.2.1 37) y6.toNatClampNeg) (tx9 : x9.toInt = ((σ.2.1 37) y6.toNatClampNeg).toInt) (c10 : y8.toInt < x9.toInt) (ex12 : x12 = (6 : Int32) * y6) (tx12 : x12.toInt = 6 * y6.toInt) (ex13 : x13 = x12 + y8) (tx13 : x13.toInt = x12.toInt + y8.toInt) (ex14 : x14 = (σ.2.1 38) x13.toNatClampNeg) (tx14 : x14.toInt = ((σ.2.1 38) (x12.toInt + y8.toInt).toNat).toInt) (c15 : x14.toInt = k1.toInt) (ex17 : x17 = (30 : Int32) * x4) (tx17 : x17.toInt = 30 * x4.toInt) (ex18 : x18 = (80 : Int32) + x17) (tx18 : x18.toInt = 80 + x17.toInt) (ex19 : x19 = (6 : Int32) * y6) : x19.toInt = 6 * y6.toInt := by
  have q6 : (6 : Int32).toInt = 6 := by decide +kernel
  have q30 : (30 : Int32).toInt = 30 := by decide +kernel
  have q80 : (80 : Int32).toInt = 80 := by decide +kernel
  have cv_hpre_8 := id hpre_8
  unfold CV at cv_hpre_8
  have ob_x5 := hpre_3 x4.toNatClampNeg (by rw [clampZ (by omega)]; omega)
  have cl_x9 := hpre_2 y6.toNatClampNeg (by rw [clampZ (by omega)]; omega)
  have w0 : (6 : Int32).toInt = 6 := by decide +kernel
  rw [ex19, z_mulc 6 w0 (by omega) (by omega)]
-- nw@78 @78
theorem v_fieldOf_20 (σ : RS) (k0 : Int32) (k1 : Int32) (x1 : Int32) (x3 : Int64) (x4 : Int32) (x5 : Int32) (y6 : Int32) (y8 : Int32) (x9 : Int32) (x12 : Int32) (x13 : Int32) (x14 : Int32) (x17 : Int32) (x18 : Int32) (x19 : Int32) (x20 : Int32) (hpre_0 : 0 ≤ (σ.1 35).toInt) (hpre_1 : (σ.1 35).toInt ≤ 5) (hpre_2 : CLS (σ.1 35).toInt (σ.2.1 36) (σ.2.1 37) (σ.2.1 40)) (hpre_3 : OBS (σ.1 47).toInt (σ.1 35).toInt (σ.2.1 48)) (hpre_4 : 0 ≤ (σ.1 47).toInt) (hpre_5 : (σ.1 47).toInt ≤ 30) (hpre_6 : 0 ≤ k0.toInt) (hpre_7 : k0.toInt < 980) (hpre_8 : CV (σ.2.1 51) (σ.2.2.1 52) (σ.1 35).toInt (σ.1 47).toInt k0.toNatClampNeg) (ex1 : x1 = (σ.2.1 51) k0.toNatClampNeg) (tx1 : x1.toInt = ((σ.2.1 51) k0.toNatClampNeg).toInt) (c2 : 8 ≤ x1.toInt) (ex3 : x3 = (σ.2.2.1 52) k0.toNatClampNeg) (tx3 : x3.toInt = ((σ.2.2.1 52) k0.toNatClampNeg).toInt) (ex4 : x4 = Int64.toInt32 x3) (tx4 : -2147483648 ≤ x3.toInt → x3.toInt < 2147483648 → x4.toInt = x3.toInt) (ex5 : x5 = (σ.2.1 48) x4.toNatClampNeg) (tx5 : x5.toInt = ((σ.2.1 48) x4.toNatClampNeg).toInt) (hi29_0 : -1 ≤ y6.toInt) (hi29_1 : y6.toInt < (σ.1 35).toInt) (hi29_2 : SCAN (σ.2.1 36) (σ.2.1 37) (σ.2.1 38) ((σ.2.1 48) ((σ.2.2.1 52) k0.toNatClampNeg).toInt.toNat).toInt y6.toInt k1) (c7 : 0 ≤ y6.toInt) (hi37_0 : 0 ≤ y8.toInt) (hi37_1 : y8.toInt ≤ 6) (hi37_2 : NOWN (σ.2.1 38) y6.toInt y8.toInt k1) (ex9 : x9 = (σ.2.1 37) y6.toNatClampNeg) (tx9 : x9.toInt = ((σ.2.1 37) y6.toNatClampNeg).toInt) (c10 : y8.toInt < x9.toInt) (ex12 : x12 = (6 : Int32) * y6) (tx12 : x12.toInt = 6 * y6.toInt) (ex13 : x13 = x12 + y8) (tx13 : x13.toInt = x12.toInt + y8.toInt) (ex14 : x14 = (σ.2.1 38) x13.toNatClampNeg) (tx14 : x14.toInt = ((σ.2.1 38) (x12.toInt + y8.toInt).toNat).toInt) (c15 : x14.toInt = k1.toInt) (ex17 : x17 = (30 : Int32) * x4) (tx17 : x17.toInt = 30 * x4.toInt) (ex18 : x18 = (80 : Int32) + x17) (tx18 : x18.toInt = 80 + x17.toInt) (ex19 : x19 = (6 : Int32) * y6) (tx19 : x19.toInt = 6 * y6.toInt) (ex20 : x20 = x18 + x19) : x20.toInt = x18.toInt + x19.toInt := by
  have q6 : (6 : Int32).toInt = 6 := by decide +kernel
  have q30 : (30 : Int32).toInt = 30 := by decide +kernel
  have q80 : (80 : Int32).toInt = 80 := by decide +kernel
  have cv_hpre_8 := id hpre_8
  unfold CV at cv_hpre_8
  have ob_x5 := hpre_3 x4.toNatClampNeg (by rw [clampZ (by omega)]; omega)
  have cl_x9 := hpre_2 y6.toNatClampNeg (by rw [clampZ (by omega)]; omega)
  rw [ex20, z_add (by omega) (by omega)]; first | done | omega
-- nw@81 @81
theorem v_fieldOf_21 (σ : RS) (k0 : Int32) (k1 : Int32) (x1 : Int32) (x3 : Int64) (x4 : Int32) (x5 : Int32) (y6 : Int32) (y8 : Int32) (x9 : Int32) (x12 : Int32) (x13 : Int32) (x14 : Int32) (x17 : Int32) (x18 : Int32) (x19 : Int32) (x20 : Int32) (x21 : Int32) (hpre_0 : 0 ≤ (σ.1 35).toInt) (hpre_1 : (σ.1 35).toInt ≤ 5) (hpre_2 : CLS (σ.1 35).toInt (σ.2.1 36) (σ.2.1 37) (σ.2.1 40)) (hpre_3 : OBS (σ.1 47).toInt (σ.1 35).toInt (σ.2.1 48)) (hpre_4 : 0 ≤ (σ.1 47).toInt) (hpre_5 : (σ.1 47).toInt ≤ 30) (hpre_6 : 0 ≤ k0.toInt) (hpre_7 : k0.toInt < 980) (hpre_8 : CV (σ.2.1 51) (σ.2.2.1 52) (σ.1 35).toInt (σ.1 47).toInt k0.toNatClampNeg) (ex1 : x1 = (σ.2.1 51) k0.toNatClampNeg) (tx1 : x1.toInt = ((σ.2.1 51) k0.toNatClampNeg).toInt) (c2 : 8 ≤ x1.toInt) (ex3 : x3 = (σ.2.2.1 52) k0.toNatClampNeg) (tx3 : x3.toInt = ((σ.2.2.1 52) k0.toNatClampNeg).toInt) (ex4 : x4 = Int64.toInt32 x3) (tx4 : -2147483648 ≤ x3.toInt → x3.toInt < 2147483648 → x4.toInt = x3.toInt) (ex5 : x5 = (σ.2.1 48) x4.toNatClampNeg) (tx5 : x5.toInt = ((σ.2.1 48) x4.toNatClampNeg).toInt) (hi29_0 : -1 ≤ y6.toInt) (hi29_1 : y6.toInt < (σ.1 35).toInt) (hi29_2 : SCAN (σ.2.1 36) (σ.2.1 37) (σ.2.1 38) ((σ.2.1 48) ((σ.2.2.1 52) k0.toNatClampNeg).toInt.toNat).toInt y6.toInt k1) (c7 : 0 ≤ y6.toInt) (hi37_0 : 0 ≤ y8.toInt) (hi37_1 : y8.toInt ≤ 6) (hi37_2 : NOWN (σ.2.1 38) y6.toInt y8.toInt k1) (ex9 : x9 = (σ.2.1 37) y6.toNatClampNeg) (tx9 : x9.toInt = ((σ.2.1 37) y6.toNatClampNeg).toInt) (c10 : y8.toInt < x9.toInt) (ex12 : x12 = (6 : Int32) * y6) (tx12 : x12.toInt = 6 * y6.toInt) (ex13 : x13 = x12 + y8) (tx13 : x13.toInt = x12.toInt + y8.toInt) (ex14 : x14 = (σ.2.1 38) x13.toNatClampNeg) (tx14 : x14.toInt = ((σ.2.1 38) (x12.toInt + y8.toInt).toNat).toInt) (c15 : x14.toInt = k1.toInt) (ex17 : x17 = (30 : Int32) * x4) (tx17 : x17.toInt = 30 * x4.toInt) (ex18 : x18 = (80 : Int32) + x17) (tx18 : x18.toInt = 80 + x17.toInt) (ex19 : x19 = (6 : Int32) * y6) (tx19 : x19.toInt = 6 * y6.toInt) (ex20 : x20 = x18 + x19) (tx20 : x20.toInt = x18.toInt + x19.toInt) (ex21 : x21 = x20 + y8) : x21.toInt = x20.toInt + y8.toInt := by
  have q6 : (6 : Int32).toInt = 6 := by decide +kernel
  have q30 : (30 : Int32).toInt = 30 := by decide +kernel
  have q80 : (80 : Int32).toInt = 80 := by decide +kernel
  have cv_hpre_8 := id hpre_8
  unfold CV at cv_hpre_8
  have ob_x5 := hpre_3 x4.toNatClampNeg (by rw [clampZ (by omega)]; omega)
  have cl_x9 := hpre_2 y6.toNatClampNeg (by rw [clampZ (by omega)]; omega)
  rw [ex21, z_add (by omega) (by omega)]; first | done | omega
-- post @82
theorem v_fieldOf_22 (σ : RS) (k0 : Int32) (k1 : Int32) (x1 : Int32) (x3 : Int64) (x4 : Int32) (x5 : Int32) (y6 : Int32) (y8 : Int32) (x9 : Int32) (x12 : Int32) (x13 : Int32) (x14 : Int32) (x17 : Int32) (x18 : Int32) (x19 : Int32) (x20 : Int32) (x21 : Int32) (hpre_0 : 0 ≤ (σ.1 35).toInt) (hpre_1 : (σ.1 35).toInt ≤ 5) (hpre_2 : CLS (σ.1 35).toInt (σ.2.1 36) (σ.2.1 37) (σ.2.1 40)) (hpre_3 : OBS (σ.1 47).toInt (σ.1 35).toInt (σ.2.1 48)) (hpre_4 : 0 ≤ (σ.1 47).toInt) (hpre_5 : (σ.1 47).toInt ≤ 30) (hpre_6 : 0 ≤ k0.toInt) (hpre_7 : k0.toInt < 980) (hpre_8 : CV (σ.2.1 51) (σ.2.2.1 52) (σ.1 35).toInt (σ.1 47).toInt k0.toNatClampNeg) (ex1 : x1 = (σ.2.1 51) k0.toNatClampNeg) (tx1 : x1.toInt = ((σ.2.1 51) k0.toNatClampNeg).toInt) (c2 : 8 ≤ x1.toInt) (ex3 : x3 = (σ.2.2.1 52) k0.toNatClampNeg) (tx3 : x3.toInt = ((σ.2.2.1 52) k0.toNatClampNeg).toInt) (ex4 : x4 = Int64.toInt32 x3) (tx4 : -2147483648 ≤ x3.toInt → x3.toInt < 2147483648 → x4.toInt = x3.toInt) (ex5 : x5 = (σ.2.1 48) x4.toNatClampNeg) (tx5 : x5.toInt = ((σ.2.1 48) x4.toNatClampNeg).toInt) (hi29_0 : -1 ≤ y6.toInt) (hi29_1 : y6.toInt < (σ.1 35).toInt) (hi29_2 : SCAN (σ.2.1 36) (σ.2.1 37) (σ.2.1 38) ((σ.2.1 48) ((σ.2.2.1 52) k0.toNatClampNeg).toInt.toNat).toInt y6.toInt k1) (c7 : 0 ≤ y6.toInt) (hi37_0 : 0 ≤ y8.toInt) (hi37_1 : y8.toInt ≤ 6) (hi37_2 : NOWN (σ.2.1 38) y6.toInt y8.toInt k1) (ex9 : x9 = (σ.2.1 37) y6.toNatClampNeg) (tx9 : x9.toInt = ((σ.2.1 37) y6.toNatClampNeg).toInt) (c10 : y8.toInt < x9.toInt) (ex12 : x12 = (6 : Int32) * y6) (tx12 : x12.toInt = 6 * y6.toInt) (ex13 : x13 = x12 + y8) (tx13 : x13.toInt = x12.toInt + y8.toInt) (ex14 : x14 = (σ.2.1 38) x13.toNatClampNeg) (tx14 : x14.toInt = ((σ.2.1 38) (x12.toInt + y8.toInt).toNat).toInt) (c15 : x14.toInt = k1.toInt) (ex17 : x17 = (30 : Int32) * x4) (tx17 : x17.toInt = 30 * x4.toInt) (ex18 : x18 = (80 : Int32) + x17) (tx18 : x18.toInt = 80 + x17.toInt) (ex19 : x19 = (6 : Int32) * y6) (tx19 : x19.toInt = 6 * y6.toInt) (ex20 : x20 = x18 + x19) (tx20 : x20.toInt = x18.toInt + x19.toInt) (ex21 : x21 = x20 + y8) (tx21 : x21.toInt = x20.toInt + y8.toInt) : (x21.toInt = -1 ∧ ¬ FLD (σ.2.1 51) (σ.2.2.1 52) (σ.2.1 48) (σ.2.1 36) (σ.2.1 37) (σ.2.1 38) k0.toNatClampNeg k1) ∨ (80 ≤ x21.toInt ∧ x21.toInt < 980 ∧ FLD (σ.2.1 51) (σ.2.2.1 52) (σ.2.1 48) (σ.2.1 36) (σ.2.1 37) (σ.2.1 38) k0.toNatClampNeg k1) := by
  have q6 : (6 : Int32).toInt = 6 := by decide +kernel
  have q30 : (30 : Int32).toInt = 30 := by decide +kernel
  have q80 : (80 : Int32).toInt = 80 := by decide +kernel
  have cv_hpre_8 := id hpre_8
  unfold CV at cv_hpre_8
  have ob_x5 := hpre_3 x4.toNatClampNeg (by rw [clampZ (by omega)]; omega)
  have cl_x9 := hpre_2 y6.toNatClampNeg (by rw [clampZ (by omega)]; omega)
  refine Or.inr ⟨by omega, by omega, by omega, SCAN.hit hi29_2 c7 (k := y8.toInt.toNat) ?_ ?_⟩
  · have z : y6.toNatClampNeg = y6.toInt.toNat := by rw [clampN]
    rw [← z, ← tx9]; omega
  · exact Int32.toInt_inj.mp (by rw [← c15, tx14, show (x12.toInt + y8.toInt).toNat = 6 * y6.toInt.toNat + y8.toInt.toNat by omega])
-- post @12
theorem v_fieldOf_23 (σ : RS) (k0 : Int32) (k1 : Int32) (x1 : Int32) (hpre_0 : 0 ≤ (σ.1 35).toInt) (hpre_1 : (σ.1 35).toInt ≤ 5) (hpre_2 : CLS (σ.1 35).toInt (σ.2.1 36) (σ.2.1 37) (σ.2.1 40)) (hpre_3 : OBS (σ.1 47).toInt (σ.1 35).toInt (σ.2.1 48)) (hpre_4 : 0 ≤ (σ.1 47).toInt) (hpre_5 : (σ.1 47).toInt ≤ 30) (hpre_6 : 0 ≤ k0.toInt) (hpre_7 : k0.toInt < 980) (hpre_8 : CV (σ.2.1 51) (σ.2.2.1 52) (σ.1 35).toInt (σ.1 47).toInt k0.toNatClampNeg) (ex1 : x1 = (σ.2.1 51) k0.toNatClampNeg) (tx1 : x1.toInt = ((σ.2.1 51) k0.toNatClampNeg).toInt) (c2 : x1.toInt < 8) : ((-1 : Int32).toInt = -1 ∧ ¬ FLD (σ.2.1 51) (σ.2.2.1 52) (σ.2.1 48) (σ.2.1 36) (σ.2.1 37) (σ.2.1 38) k0.toNatClampNeg k1) ∨ (80 ≤ (-1 : Int32).toInt ∧ (-1 : Int32).toInt < 980 ∧ FLD (σ.2.1 51) (σ.2.2.1 52) (σ.2.1 48) (σ.2.1 36) (σ.2.1 37) (σ.2.1 38) k0.toNatClampNeg k1) := by
  have qm1 : (-1 : Int32).toInt = (-1) := by decide +kernel
  have cv_hpre_8 := id hpre_8
  unfold CV at cv_hpre_8
  exact Or.inl ⟨qm1, fun h => absurd h.1 (by omega)⟩
set_option maxHeartbeats 4000000 in
set_option maxRecDepth 100000 in
theorem L_fieldOf_37_2 {p : Program} {e : Env} {s : State} {m : MethodId} {below : List Frame} {meth : Method} {c : Code} (l : Launch) (D : va_G) (cy : Nat → ClassId) (sz0 : Nat) (sa : Nat → Nat) (ad : Nat → Nat) (sz : Nat) (σ : RS) (k0 : Int32) (k1 : Int32) (x1 : Int32) (x3 : Int64) (x4 : Int32) (x5 : Int32) (y6 : Int32) (C : RC p s m #[.ref (ad 0), .int k0, .int k1] meth c cX12_fieldOf 6 (some .int) D cy sz0 sa ad (AR cy ad sz)) (hpre_0 : 0 ≤ (σ.1 35).toInt) (hpre_1 : (σ.1 35).toInt ≤ 5) (hpre_2 : CLS (σ.1 35).toInt (σ.2.1 36) (σ.2.1 37) (σ.2.1 40)) (hpre_3 : OBS (σ.1 47).toInt (σ.1 35).toInt (σ.2.1 48)) (hpre_4 : 0 ≤ (σ.1 47).toInt) (hpre_5 : (σ.1 47).toInt ≤ 30) (hpre_6 : 0 ≤ k0.toInt) (hpre_7 : k0.toInt < 980) (hpre_8 : CV (σ.2.1 51) (σ.2.2.1 52) (σ.1 35).toInt (σ.1 47).toInt k0.toNatClampNeg) (ex1 : x1 = (σ.2.1 51) k0.toNatClampNeg) (tx1 : x1.toInt = ((σ.2.1 51) k0.toNatClampNeg).toInt) (c2 : 8 ≤ x1.toInt) (ex3 : x3 = (σ.2.2.1 52) k0.toNatClampNeg) (tx3 : x3.toInt = ((σ.2.2.1 52) k0.toNatClampNeg).toInt) (ex4 : x4 = Int64.toInt32 x3) (tx4 : -2147483648 ≤ x3.toInt → x3.toInt < 2147483648 → x4.toInt = x3.toInt) (ex5 : x5 = (σ.2.1 48) x4.toNatClampNeg) (tx5 : x5.toInt = ((σ.2.1 48) x4.toNatClampNeg).toInt) (hi29_0 : -1 ≤ y6.toInt) (hi29_1 : y6.toInt < (σ.1 35).toInt) (hi29_2 : SCAN (σ.2.1 36) (σ.2.1 37) (σ.2.1 38) ((σ.2.1 48) ((σ.2.2.1 52) k0.toNatClampNeg).toInt.toNat).toInt y6.toInt k1) (c7 : 0 ≤ y6.toInt) (n29 : Nat) (hn29 : (y6.toInt + 1).toNat < n29 + 1) (ih29 : ∀ (y6 : Int32) (H : Heap) (locs : List Loc) (ls : Array Slot), (y6.toInt + 1).toNat < n29 → (-1 ≤ y6.toInt ∧ y6.toInt < (σ.1 35).toInt ∧ SCAN (σ.2.1 36) (σ.2.1 37) (σ.2.1 38) ((σ.2.1 48) ((σ.2.2.1 52) k0.toNatClampNeg).toInt.toNat).toInt y6.toInt k1) → RP D cy ad σ H → va_S (AR cy ad sz) s.heap H locs → lv_has ls 6 [(4, .int y6), (3, .int x4), (0, .ref (ad 0)), (1, .int k0), (2, .int k1)] → W p l e (headSpec (Cond.code yX12_fieldOf cX12_fieldOf 6 (some .int) :: GWm) ({ frames := 0, cells := 0, slots := 0, locals := 0 })).room s m #[.ref (ad 0), .int k0, .int k1] below meth c H locs 0 0 (MQ below (va_Qi (fun (r : Int32) (u : Unit) => (r.toInt = -1 ∧ ¬ FLD (σ.2.1 51) (σ.2.2.1 52) (σ.2.1 48) (σ.2.1 36) (σ.2.1 37) (σ.2.1 38) k0.toNatClampNeg k1) ∨ (80 ≤ r.toInt ∧ r.toInt < 980 ∧ FLD (σ.2.1 51) (σ.2.2.1 52) (σ.2.1 48) (σ.2.1 36) (σ.2.1 37) (σ.2.1 38) k0.toNatClampNeg k1)) (fun (u : Unit) (t : State) => RP D cy ad σ t.heap) (AR cy ad sz)) #[.ref (ad 0), .int k0, .int k1] s 0 0 (AR cy ad sz)) (F0 m 29 ls [])) : ∀ (n : Nat) (y8 : Int32) (H : Heap) (locs : List Loc) (ls : Array Slot), (6 - y8.toInt).toNat < n → (0 ≤ y8.toInt ∧ y8.toInt ≤ 6 ∧ NOWN (σ.2.1 38) y6.toInt y8.toInt k1) → RP D cy ad σ H → va_S (AR cy ad sz) s.heap H locs → lv_has ls 6 [(5, .int y8), (4, .int y6), (3, .int x4), (0, .ref (ad 0)), (1, .int k0), (2, .int k1)] → W p l e (headSpec (Cond.code yX12_fieldOf cX12_fieldOf 6 (some .int) :: GWm) ({ frames := 0, cells := 0, slots := 0, locals := 0 })).room s m #[.ref (ad 0), .int k0, .int k1] below meth c H locs 0 0 (MQ below (va_Qi (fun (r : Int32) (u : Unit) => (r.toInt = -1 ∧ ¬ FLD (σ.2.1 51) (σ.2.2.1 52) (σ.2.1 48) (σ.2.1 36) (σ.2.1 37) (σ.2.1 38) k0.toNatClampNeg k1) ∨ (80 ≤ r.toInt ∧ r.toInt < 980 ∧ FLD (σ.2.1 51) (σ.2.2.1 52) (σ.2.1 48) (σ.2.1 36) (σ.2.1 37) (σ.2.1 38) k0.toNatClampNeg k1)) (fun (u : Unit) (t : State) => RP D cy ad σ t.heap) (AR cy ad sz)) #[.ref (ad 0), .int k0, .int k1] s 0 0 (AR cy ad sz)) (F0 m 37 ls []) := by
  have hx := C.1
  have hb := C.2.1
  have hown := C.2.2.2.2.1
  have hw := C.2.2.2.2.2.1
  intro n
  induction n with
  | zero => intro y8 H locs ls hn; exact absurd hn (Nat.not_lt_zero _)
  | succ n37 ih37 =>
    intro y8 H locs ls hn37 hi37 hP hS hl
    obtain ⟨hi37_0, hi37_1, hi37_2⟩ := hi37
    refine lv_iload hx hb dX12_fieldOf_37 (lv_at hl 0 rfl) ?_
    refine lv_aload_n hx hb dX12_fieldOf_39 rfl (lv_at hl 3 rfl) ?_
    refine rg_37 C hP wm_184 dX12_fieldOf_40 ?_
    refine lv_iload hx hb dX12_fieldOf_43 (lv_at hl 1 rfl) ?_
    refine ra_37 (f := (σ.2.1 37)) C hP rfl (v_fieldOf_7 σ k0 k1 x1 x3 x4 x5 y6 y8 hpre_0 hpre_1 hpre_2 hpre_3 hpre_4 hpre_5 hpre_6 hpre_7 hpre_8 ex1 tx1 c2 ex3 tx3 ex4 tx4 ex5 tx5 hi29_0 hi29_1 hi29_2 c7 hi37_0 hi37_1 hi37_2) dX12_fieldOf_45 (fun x9 ex9 => ?_)
    have tx9 : x9.toInt = ((σ.2.1 37) y6.toNatClampNeg).toInt := by rw [ex9]
    refine lv_icmp_ge (tgt := 89) hx hb dX12_fieldOf_46 (by decide) (fun c10 => ?_) (fun c10 => ?_)
    · have c10 : x9.toInt ≤ y8.toInt := by have h := z_le c10; exact h
      refine lv_aload_n hx hb dX12_fieldOf_89 rfl (lv_at hl 3 rfl) ?_
      refine rg_36 C hP wm_182 dX12_fieldOf_90 ?_
      refine lv_iload hx hb dX12_fieldOf_93 (lv_at hl 1 rfl) ?_
      refine ra_36 (f := (σ.2.1 36)) C hP rfl (v_fieldOf_8 σ k0 k1 x1 x3 x4 x5 y6 y8 x9 hpre_0 hpre_1 hpre_2 hpre_3 hpre_4 hpre_5 hpre_6 hpre_7 hpre_8 ex1 tx1 c2 ex3 tx3 ex4 tx4 ex5 tx5 hi29_0 hi29_1 hi29_2 c7 hi37_0 hi37_1 hi37_2 ex9 tx9 c10) dX12_fieldOf_95 (fun x11 ex11 => ?_)
      have tx11 : x11.toInt = ((σ.2.1 36) y6.toNatClampNeg).toInt := by rw [ex11]
      refine lv_istore (lv' := [(4, .int x11), (5, .int y8), (3, .int x4), (0, .ref (ad 0)), (1, .int k0), (2, .int k1)]) hx hb dX12_fieldOf_96 hl (by decide) rfl (fun ls hl => ?_)
      refine lv_goto (tgt := 29) hx hb dX12_fieldOf_98 (by decide) ?_
      exact ih29 x11 _ _ _ (Nat.lt_of_lt_of_le (v_fieldOf_10 σ k0 k1 x1 x3 x4 x5 y6 y8 x9 x11 hpre_0 hpre_1 hpre_2 hpre_3 hpre_4 hpre_5 hpre_6 hpre_7 hpre_8 ex1 tx1 c2 ex3 tx3 ex4 tx4 ex5 tx5 hi29_0 hi29_1 hi29_2 c7 hi37_0 hi37_1 hi37_2 ex9 tx9 c10 ex11 tx11) (Nat.le_of_lt_succ hn29)) (v_fieldOf_9 σ k0 k1 x1 x3 x4 x5 y6 y8 x9 x11 hpre_0 hpre_1 hpre_2 hpre_3 hpre_4 hpre_5 hpre_6 hpre_7 hpre_8 ex1 tx1 c2 ex3 tx3 ex4 tx4 ex5 tx5 hi29_0 hi29_1 hi29_2 c7 hi37_0 hi37_1 hi37_2 ex9 tx9 c10 ex11 tx11) hP hS (lv_sub hl [0, 2, 3, 4, 5] rfl)
    · have c10 : y8.toInt < x9.toInt := by have h := z_nle c10; exact h
      refine lv_aload_n hx hb dX12_fieldOf_49 rfl (lv_at hl 3 rfl) ?_
      refine rg_38 C hP wm_185 dX12_fieldOf_50 ?_
      refine lv_bipush (v := 6) hx hb dX12_fieldOf_53 (by decide +kernel) ?_
      refine lv_iload hx hb dX12_fieldOf_55 (lv_at hl 1 rfl) ?_
      refine lv_imul hx hb dX12_fieldOf_57 ?_
      refine lv_topi (fun x12 ex12 => ?_)
      have tx12 : x12.toInt = 6 * y6.toInt := (v_fieldOf_11 σ k0 k1 x1 x3 x4 x5 y6 y8 x9 x12 hpre_0 hpre_1 hpre_2 hpre_3 hpre_4 hpre_5 hpre_6 hpre_7 hpre_8 ex1 tx1 c2 ex3 tx3 ex4 tx4 ex5 tx5 hi29_0 hi29_1 hi29_2 c7 hi37_0 hi37_1 hi37_2 ex9 tx9 c10 ex12)
      refine lv_iload hx hb dX12_fieldOf_58 (lv_at hl 0 rfl) ?_
      refine lv_iadd hx hb dX12_fieldOf_60 ?_
      refine lv_topi (fun x13 ex13 => ?_)
      have tx13 : x13.toInt = x12.toInt + y8.toInt := (v_fieldOf_12 σ k0 k1 x1 x3 x4 x5 y6 y8 x9 x12 x13 hpre_0 hpre_1 hpre_2 hpre_3 hpre_4 hpre_5 hpre_6 hpre_7 hpre_8 ex1 tx1 c2 ex3 tx3 ex4 tx4 ex5 tx5 hi29_0 hi29_1 hi29_2 c7 hi37_0 hi37_1 hi37_2 ex9 tx9 c10 ex12 tx12 ex13)
      refine ra_38 (f := (σ.2.1 38)) C hP rfl (v_fieldOf_13 σ k0 k1 x1 x3 x4 x5 y6 y8 x9 x12 x13 hpre_0 hpre_1 hpre_2 hpre_3 hpre_4 hpre_5 hpre_6 hpre_7 hpre_8 ex1 tx1 c2 ex3 tx3 ex4 tx4 ex5 tx5 hi29_0 hi29_1 hi29_2 c7 hi37_0 hi37_1 hi37_2 ex9 tx9 c10 ex12 tx12 ex13 tx13) dX12_fieldOf_61 (fun x14 ex14 => ?_)
      have tx14 : x14.toInt = ((σ.2.1 38) (x12.toInt + y8.toInt).toNat).toInt := by rw [ex14, clampN, tx13]
      refine lv_iload_n hx hb dX12_fieldOf_62 rfl (lv_at hl 5 rfl) ?_
      refine lv_icmp_ne (tgt := 83) hx hb dX12_fieldOf_63 (by decide) (fun c15 => ?_) (fun c15 => ?_)
      · have c15 : ¬ x14.toInt = k1.toInt := by have h := z_ne c15; exact h
        obtain ⟨x16, ex16⟩ : ∃ y : Int32, y = y8 + (1 : Int32) := ⟨_, rfl⟩
        have tx16 : x16.toInt = y8.toInt + 1 := (v_fieldOf_14 σ k0 k1 x1 x3 x4 x5 y6 y8 x9 x12 x13 x14 x16 hpre_0 hpre_1 hpre_2 hpre_3 hpre_4 hpre_5 hpre_6 hpre_7 hpre_8 ex1 tx1 c2 ex3 tx3 ex4 tx4 ex5 tx5 hi29_0 hi29_1 hi29_2 c7 hi37_0 hi37_1 hi37_2 ex9 tx9 c10 ex12 tx12 ex13 tx13 ex14 tx14 c15 ex16)
        refine lv_iinc (v := x16) (lv' := [(5, .int x16), (4, .int y6), (3, .int x4), (0, .ref (ad 0)), (1, .int k0), (2, .int k1)]) hx hb dX12_fieldOf_83 hl (k := 0) rfl (by rw [ex16]; rfl) (by decide) rfl (fun ls hl => ?_)
        refine lv_goto (tgt := 37) hx hb dX12_fieldOf_86 (by decide) ?_
        exact ih37 x16 _ _ _ (Nat.lt_of_lt_of_le (v_fieldOf_16 σ k0 k1 x1 x3 x4 x5 y6 y8 x9 x12 x13 x14 x16 hpre_0 hpre_1 hpre_2 hpre_3 hpre_4 hpre_5 hpre_6 hpre_7 hpre_8 ex1 tx1 c2 ex3 tx3 ex4 tx4 ex5 tx5 hi29_0 hi29_1 hi29_2 c7 hi37_0 hi37_1 hi37_2 ex9 tx9 c10 ex12 tx12 ex13 tx13 ex14 tx14 c15 ex16 tx16) (Nat.le_of_lt_succ hn37)) (v_fieldOf_15 σ k0 k1 x1 x3 x4 x5 y6 y8 x9 x12 x13 x14 x16 hpre_0 hpre_1 hpre_2 hpre_3 hpre_4 hpre_5 hpre_6 hpre_7 hpre_8 ex1 tx1 c2 ex3 tx3 ex4 tx4 ex5 tx5 hi29_0 hi29_1 hi29_2 c7 hi37_0 hi37_1 hi37_2 ex9 tx9 c10 ex12 tx12 ex13 tx13 ex14 tx14 c15 ex16 tx16) hP hS (lv_sub hl [0, 1, 2, 3, 4, 5] rfl)
      · have c15 : x14.toInt = k1.toInt := by have h := z_eq c15; exact h
        refine lv_bipush (v := 80) hx hb dX12_fieldOf_66 (by decide +kernel) ?_
        refine lv_bipush (v := 30) hx hb dX12_fieldOf_68 (by decide +kernel) ?_
        refine lv_iload_n hx hb dX12_fieldOf_70 rfl (lv_at hl 2 rfl) ?_
        refine lv_imul hx hb dX12_fieldOf_71 ?_
        refine lv_topi (fun x17 ex17 => ?_)
        have tx17 : x17.toInt = 30 * x4.toInt := (v_fieldOf_17 σ k0 k1 x1 x3 x4 x5 y6 y8 x9 x12 x13 x14 x17 hpre_0 hpre_1 hpre_2 hpre_3 hpre_4 hpre_5 hpre_6 hpre_7 hpre_8 ex1 tx1 c2 ex3 tx3 ex4 tx4 ex5 tx5 hi29_0 hi29_1 hi29_2 c7 hi37_0 hi37_1 hi37_2 ex9 tx9 c10 ex12 tx12 ex13 tx13 ex14 tx14 c15 ex17)
        refine lv_iadd hx hb dX12_fieldOf_72 ?_
        refine lv_topi (fun x18 ex18 => ?_)
        have tx18 : x18.toInt = 80 + x17.toInt := (v_fieldOf_18 σ k0 k1 x1 x3 x4 x5 y6 y8 x9 x12 x13 x14 x17 x18 hpre_0 hpre_1 hpre_2 hpre_3 hpre_4 hpre_5 hpre_6 hpre_7 hpre_8 ex1 tx1 c2 ex3 tx3 ex4 tx4 ex5 tx5 hi29_0 hi29_1 hi29_2 c7 hi37_0 hi37_1 hi37_2 ex9 tx9 c10 ex12 tx12 ex13 tx13 ex14 tx14 c15 ex17 tx17 ex18)
        refine lv_bipush (v := 6) hx hb dX12_fieldOf_73 (by decide +kernel) ?_
        refine lv_iload hx hb dX12_fieldOf_75 (lv_at hl 1 rfl) ?_
        refine lv_imul hx hb dX12_fieldOf_77 ?_
        refine lv_topi (fun x19 ex19 => ?_)
        have tx19 : x19.toInt = 6 * y6.toInt := (v_fieldOf_19 σ k0 k1 x1 x3 x4 x5 y6 y8 x9 x12 x13 x14 x17 x18 x19 hpre_0 hpre_1 hpre_2 hpre_3 hpre_4 hpre_5 hpre_6 hpre_7 hpre_8 ex1 tx1 c2 ex3 tx3 ex4 tx4 ex5 tx5 hi29_0 hi29_1 hi29_2 c7 hi37_0 hi37_1 hi37_2 ex9 tx9 c10 ex12 tx12 ex13 tx13 ex14 tx14 c15 ex17 tx17 ex18 tx18 ex19)
        refine lv_iadd hx hb dX12_fieldOf_78 ?_
        refine lv_topi (fun x20 ex20 => ?_)
        have tx20 : x20.toInt = x18.toInt + x19.toInt := (v_fieldOf_20 σ k0 k1 x1 x3 x4 x5 y6 y8 x9 x12 x13 x14 x17 x18 x19 x20 hpre_0 hpre_1 hpre_2 hpre_3 hpre_4 hpre_5 hpre_6 hpre_7 hpre_8 ex1 tx1 c2 ex3 tx3 ex4 tx4 ex5 tx5 hi29_0 hi29_1 hi29_2 c7 hi37_0 hi37_1 hi37_2 ex9 tx9 c10 ex12 tx12 ex13 tx13 ex14 tx14 c15 ex17 tx17 ex18 tx18 ex19 tx19 ex20)
        refine lv_iload hx hb dX12_fieldOf_79 (lv_at hl 0 rfl) ?_
        refine lv_iadd hx hb dX12_fieldOf_81 ?_
        refine lv_topi (fun x21 ex21 => ?_)
        have tx21 : x21.toInt = x20.toInt + y8.toInt := (v_fieldOf_21 σ k0 k1 x1 x3 x4 x5 y6 y8 x9 x12 x13 x14 x17 x18 x19 x20 x21 hpre_0 hpre_1 hpre_2 hpre_3 hpre_4 hpre_5 hpre_6 hpre_7 hpre_8 ex1 tx1 c2 ex3 tx3 ex4 tx4 ex5 tx5 hi29_0 hi29_1 hi29_2 c7 hi37_0 hi37_1 hi37_2 ex9 tx9 c10 ex12 tx12 ex13 tx13 ex14 tx14 c15 ex17 tx17 ex18 tx18 ex19 tx19 ex20 tx20 ex21)
        exact r_reti C () (v_fieldOf_22 σ k0 k1 x1 x3 x4 x5 y6 y8 x9 x12 x13 x14 x17 x18 x19 x20 x21 hpre_0 hpre_1 hpre_2 hpre_3 hpre_4 hpre_5 hpre_6 hpre_7 hpre_8 ex1 tx1 c2 ex3 tx3 ex4 tx4 ex5 tx5 hi29_0 hi29_1 hi29_2 c7 hi37_0 hi37_1 hi37_2 ex9 tx9 c10 ex12 tx12 ex13 tx13 ex14 tx14 c15 ex17 tx17 ex18 tx18 ex19 tx19 ex20 tx20 ex21 tx21) hP hS dX12_fieldOf_82
set_option maxHeartbeats 4000000 in
set_option maxRecDepth 100000 in
theorem L_fieldOf_29_1 {p : Program} {e : Env} {s : State} {m : MethodId} {below : List Frame} {meth : Method} {c : Code} (l : Launch) (D : va_G) (cy : Nat → ClassId) (sz0 : Nat) (sa : Nat → Nat) (ad : Nat → Nat) (sz : Nat) (σ : RS) (k0 : Int32) (k1 : Int32) (x1 : Int32) (x3 : Int64) (x4 : Int32) (x5 : Int32) (C : RC p s m #[.ref (ad 0), .int k0, .int k1] meth c cX12_fieldOf 6 (some .int) D cy sz0 sa ad (AR cy ad sz)) (hpre_0 : 0 ≤ (σ.1 35).toInt) (hpre_1 : (σ.1 35).toInt ≤ 5) (hpre_2 : CLS (σ.1 35).toInt (σ.2.1 36) (σ.2.1 37) (σ.2.1 40)) (hpre_3 : OBS (σ.1 47).toInt (σ.1 35).toInt (σ.2.1 48)) (hpre_4 : 0 ≤ (σ.1 47).toInt) (hpre_5 : (σ.1 47).toInt ≤ 30) (hpre_6 : 0 ≤ k0.toInt) (hpre_7 : k0.toInt < 980) (hpre_8 : CV (σ.2.1 51) (σ.2.2.1 52) (σ.1 35).toInt (σ.1 47).toInt k0.toNatClampNeg) (ex1 : x1 = (σ.2.1 51) k0.toNatClampNeg) (tx1 : x1.toInt = ((σ.2.1 51) k0.toNatClampNeg).toInt) (c2 : 8 ≤ x1.toInt) (ex3 : x3 = (σ.2.2.1 52) k0.toNatClampNeg) (tx3 : x3.toInt = ((σ.2.2.1 52) k0.toNatClampNeg).toInt) (ex4 : x4 = Int64.toInt32 x3) (tx4 : -2147483648 ≤ x3.toInt → x3.toInt < 2147483648 → x4.toInt = x3.toInt) (ex5 : x5 = (σ.2.1 48) x4.toNatClampNeg) (tx5 : x5.toInt = ((σ.2.1 48) x4.toNatClampNeg).toInt) : ∀ (n : Nat) (y6 : Int32) (H : Heap) (locs : List Loc) (ls : Array Slot), (y6.toInt + 1).toNat < n → (-1 ≤ y6.toInt ∧ y6.toInt < (σ.1 35).toInt ∧ SCAN (σ.2.1 36) (σ.2.1 37) (σ.2.1 38) ((σ.2.1 48) ((σ.2.2.1 52) k0.toNatClampNeg).toInt.toNat).toInt y6.toInt k1) → RP D cy ad σ H → va_S (AR cy ad sz) s.heap H locs → lv_has ls 6 [(4, .int y6), (3, .int x4), (0, .ref (ad 0)), (1, .int k0), (2, .int k1)] → W p l e (headSpec (Cond.code yX12_fieldOf cX12_fieldOf 6 (some .int) :: GWm) ({ frames := 0, cells := 0, slots := 0, locals := 0 })).room s m #[.ref (ad 0), .int k0, .int k1] below meth c H locs 0 0 (MQ below (va_Qi (fun (r : Int32) (u : Unit) => (r.toInt = -1 ∧ ¬ FLD (σ.2.1 51) (σ.2.2.1 52) (σ.2.1 48) (σ.2.1 36) (σ.2.1 37) (σ.2.1 38) k0.toNatClampNeg k1) ∨ (80 ≤ r.toInt ∧ r.toInt < 980 ∧ FLD (σ.2.1 51) (σ.2.2.1 52) (σ.2.1 48) (σ.2.1 36) (σ.2.1 37) (σ.2.1 38) k0.toNatClampNeg k1)) (fun (u : Unit) (t : State) => RP D cy ad σ t.heap) (AR cy ad sz)) #[.ref (ad 0), .int k0, .int k1] s 0 0 (AR cy ad sz)) (F0 m 29 ls []) := by
  have hx := C.1
  have hb := C.2.1
  have hown := C.2.2.2.2.1
  have hw := C.2.2.2.2.2.1
  intro n
  induction n with
  | zero => intro y6 H locs ls hn; exact absurd hn (Nat.not_lt_zero _)
  | succ n29 ih29 =>
    intro y6 H locs ls hn29 hi29 hP hS hl
    obtain ⟨hi29_0, hi29_1, hi29_2⟩ := hi29
    refine lv_iload hx hb dX12_fieldOf_29 (lv_at hl 0 rfl) ?_
    refine lv_if_lt (tgt := 101) hx hb dX12_fieldOf_31 (by decide) (fun c7 => ?_) (fun c7 => ?_)
    · have c7 : y6.toInt < 0 := by have h := z_lt c7; rw [show (0 : Int32).toInt = 0 from by decide +kernel] at h; exact h
      refine lv_iconst (v := (-1)) hx hb dX12_fieldOf_101 (by decide +kernel) ?_
      exact r_reti C () (v_fieldOf_5 σ k0 k1 x1 x3 x4 x5 y6 hpre_0 hpre_1 hpre_2 hpre_3 hpre_4 hpre_5 hpre_6 hpre_7 hpre_8 ex1 tx1 c2 ex3 tx3 ex4 tx4 ex5 tx5 hi29_0 hi29_1 hi29_2 c7) hP hS dX12_fieldOf_102
    · have c7 : 0 ≤ y6.toInt := by have h := z_nlt c7; rw [show (0 : Int32).toInt = 0 from by decide +kernel] at h; exact h
      refine lv_iconst (v := 0) hx hb dX12_fieldOf_34 (by decide +kernel) ?_
      refine lv_istore (lv' := [(5, .int 0), (4, .int y6), (3, .int x4), (0, .ref (ad 0)), (1, .int k0), (2, .int k1)]) hx hb dX12_fieldOf_35 hl (by decide) rfl (fun ls hl => ?_)
      exact L_fieldOf_37_2 l D cy sz0 sa ad sz σ k0 k1 x1 x3 x4 x5 y6 C hpre_0 hpre_1 hpre_2 hpre_3 hpre_4 hpre_5 hpre_6 hpre_7 hpre_8 ex1 tx1 c2 ex3 tx3 ex4 tx4 ex5 tx5 hi29_0 hi29_1 hi29_2 c7 n29 hn29 ih29 ((6 - (0 : Int32).toInt).toNat + 1) (0 : Int32) _ _ _ (Nat.lt_succ_self _) (v_fieldOf_6 σ k0 k1 x1 x3 x4 x5 y6 hpre_0 hpre_1 hpre_2 hpre_3 hpre_4 hpre_5 hpre_6 hpre_7 hpre_8 ex1 tx1 c2 ex3 tx3 ex4 tx4 ex5 tx5 hi29_0 hi29_1 hi29_2 c7) hP hS (lv_sub hl [0, 1, 2, 3, 4, 5] rfl)
set_option maxHeartbeats 4000000 in
set_option maxRecDepth 100000 in
theorem M_fieldOf (l : Launch) (D : va_G) (cy : Nat → ClassId) (sz0 : Nat) (sa : Nat → Nat) (ad : Nat → Nat) (σ : RS) (sz : Nat) (k0 : Int32) (k1 : Int32) (hpre : 0 ≤ (σ.1 35).toInt ∧ (σ.1 35).toInt ≤ 5 ∧ CLS (σ.1 35).toInt (σ.2.1 36) (σ.2.1 37) (σ.2.1 40) ∧ OBS (σ.1 47).toInt (σ.1 35).toInt (σ.2.1 48) ∧ 0 ≤ (σ.1 47).toInt ∧ (σ.1 47).toInt ≤ 30 ∧ 0 ≤ k0.toInt ∧ k0.toInt < 980 ∧ CV (σ.2.1 51) (σ.2.2.1 52) (σ.1 35).toInt (σ.1 47).toInt k0.toNatClampNeg) : Met l yX12_fieldOf (Cond.code yX12_fieldOf cX12_fieldOf 6 (some .int) :: GWm) ({ frames := 0, cells := 0, slots := 0, locals := 0 }) (PcR D cy sz0 sa ad [.ref (ad 0), .int k0, .int k1] σ sz) (va_Qi (fun (r : Int32) (u : Unit) => (r.toInt = -1 ∧ ¬ FLD (σ.2.1 51) (σ.2.2.1 52) (σ.2.1 48) (σ.2.1 36) (σ.2.1 37) (σ.2.1 38) k0.toNatClampNeg k1) ∨ (80 ≤ r.toInt ∧ r.toInt < 980 ∧ FLD (σ.2.1 51) (σ.2.2.1 52) (σ.2.1 48) (σ.2.1 36) (σ.2.1 37) (σ.2.1 38) k0.toNatClampNeg k1)) (fun (u : Unit) (t : State) => RP D cy ad σ t.heap) (AR cy ad sz)) 0 0 (AR cy ad sz) := by
  refine RM_of (loc0 := [(0, .ref (ad 0)), (1, .int k0), (2, .int k1)]) (by decide) rfl rfl (Nat.le_of_ble_eq_true rfl) ?_
  intro p e s m below meth c ls hsz C hP hS hl
  have hx := C.1
  have hb := C.2.1
  have hown := C.2.2.2.2.1
  have hw := C.2.2.2.2.2.1
  clear hsz
  obtain ⟨hpre_0, hpre_1, hpre_2, hpre_3, hpre_4, hpre_5, hpre_6, hpre_7, hpre_8⟩ := hpre
  refine lv_aload_n hx hb dX12_fieldOf_0 rfl (lv_at hl 0 rfl) ?_
  refine rg_51 C hP wm_205 dX12_fieldOf_1 ?_
  refine lv_iload_n hx hb dX12_fieldOf_4 rfl (lv_at hl 1 rfl) ?_
  refine ra_51 (f := (σ.2.1 51)) C hP rfl (v_fieldOf_1 σ k0 hpre_0 hpre_1 hpre_2 hpre_3 hpre_4 hpre_5 hpre_6 hpre_7 hpre_8) dX12_fieldOf_5 (fun x1 ex1 => ?_)
  have tx1 : x1.toInt = ((σ.2.1 51) k0.toNatClampNeg).toInt := by rw [ex1]
  refine lv_bipush (v := 8) hx hb dX12_fieldOf_6 (by decide +kernel) ?_
  refine lv_icmp_ge (tgt := 13) hx hb dX12_fieldOf_8 (by decide) (fun c2 => ?_) (fun c2 => ?_)
  · have c2 : 8 ≤ x1.toInt := by have h := z_le c2; rw [show (8 : Int32).toInt = 8 from by decide +kernel] at h; exact h
    refine lv_aload_n hx hb dX12_fieldOf_13 rfl (lv_at hl 0 rfl) ?_
    refine rg_52 C hP wm_206 dX12_fieldOf_14 ?_
    refine lv_iload_n hx hb dX12_fieldOf_17 rfl (lv_at hl 1 rfl) ?_
    refine ra_52 (f := (σ.2.2.1 52)) C hP rfl (v_fieldOf_2 σ k0 x1 hpre_0 hpre_1 hpre_2 hpre_3 hpre_4 hpre_5 hpre_6 hpre_7 hpre_8 ex1 tx1 c2) dX12_fieldOf_18 (fun x3 ex3 => ?_)
    have tx3 : x3.toInt = ((σ.2.2.1 52) k0.toNatClampNeg).toInt := by rw [ex3]
    refine lv_l2i hx hb dX12_fieldOf_19 rfl ?_
    refine lv_topi (fun x4 ex4 => ?_)
    have tx4 : -2147483648 ≤ x3.toInt → x3.toInt < 2147483648 → x4.toInt = x3.toInt := z_l2i ex4
    refine lv_istore_n (lv' := [(3, .int x4), (0, .ref (ad 0)), (1, .int k0), (2, .int k1)]) hx hb dX12_fieldOf_20 rfl hl (by decide) rfl (fun ls hl => ?_)
    refine lv_aload_n hx hb dX12_fieldOf_21 rfl (lv_at hl 1 rfl) ?_
    refine rg_48 C hP wm_201 dX12_fieldOf_22 ?_
    refine lv_iload_n hx hb dX12_fieldOf_25 rfl (lv_at hl 0 rfl) ?_
    refine ra_48 (f := (σ.2.1 48)) C hP rfl (v_fieldOf_3 σ k0 x1 x3 x4 hpre_0 hpre_1 hpre_2 hpre_3 hpre_4 hpre_5 hpre_6 hpre_7 hpre_8 ex1 tx1 c2 ex3 tx3 ex4 tx4) dX12_fieldOf_26 (fun x5 ex5 => ?_)
    have tx5 : x5.toInt = ((σ.2.1 48) x4.toNatClampNeg).toInt := by rw [ex5]
    refine lv_istore (lv' := [(4, .int x5), (3, .int x4), (0, .ref (ad 0)), (1, .int k0), (2, .int k1)]) hx hb dX12_fieldOf_27 hl (by decide) rfl (fun ls hl => ?_)
    exact L_fieldOf_29_1 l D cy sz0 sa ad sz σ k0 k1 x1 x3 x4 x5 C hpre_0 hpre_1 hpre_2 hpre_3 hpre_4 hpre_5 hpre_6 hpre_7 hpre_8 ex1 tx1 c2 ex3 tx3 ex4 tx4 ex5 tx5 ((x5.toInt + 1).toNat + 1) x5 _ _ _ (Nat.lt_succ_self _) (v_fieldOf_4 σ k0 k1 x1 x3 x4 x5 hpre_0 hpre_1 hpre_2 hpre_3 hpre_4 hpre_5 hpre_6 hpre_7 hpre_8 ex1 tx1 c2 ex3 tx3 ex4 tx4 ex5 tx5) hP hS (lv_sub hl [0, 1, 2, 3, 4] rfl)
  · have c2 : x1.toInt < 8 := by have h := z_nle c2; rw [show (8 : Int32).toInt = 8 from by decide +kernel] at h; exact h
    refine lv_iconst (v := (-1)) hx hb dX12_fieldOf_11 (by decide +kernel) ?_
    exact r_reti C () (v_fieldOf_23 σ k0 k1 x1 hpre_0 hpre_1 hpre_2 hpre_3 hpre_4 hpre_5 hpre_6 hpre_7 hpre_8 ex1 tx1 c2) hP hS dX12_fieldOf_12
