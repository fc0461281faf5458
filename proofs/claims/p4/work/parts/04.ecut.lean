-- init@7 @7
theorem v_cut_1 (σ : RS) (hpre_0 : 0 ≤ (σ.1 1).toInt) (hpre_1 : (σ.1 1).toInt ≤ 40) : 0 ≤ (0 : Int32).toInt ∧ (0 : Int32).toInt ≤ (σ.1 1).toInt ∧ 0 ≤ (0 : Int32).toInt ∧ (0 : Int32).toInt ≤ (0 : Int32).toInt ∧ TKok (σ.2.1 4) (σ.2.2.1 6) (σ.2.1 7) (0 : Int32).toInt := by
  have q0 : (0 : Int32).toInt = 0 := by decide +kernel
  and_intros <;> first | omega | (intro i hi; exfalso; omega)
-- pre:add@104 @104
theorem v_cut_2 (σ : RS) (y1 : Int32) (n2 : Int32) (F3 : (Nat → Int32)) (G5 : (Nat → Int64)) (F6 : (Nat → Int32)) (hpre_0 : 0 ≤ (σ.1 1).toInt) (hpre_1 : (σ.1 1).toInt ≤ 40) (hi7_0 : 0 ≤ y1.toInt) (hi7_1 : y1.toInt ≤ (σ.1 1).toInt) (hi7_2 : 0 ≤ n2.toInt) (hi7_3 : n2.toInt ≤ y1.toInt) (hi7_4 : TKok F3 G5 F6 n2.toInt) (c9 : (σ.1 1).toInt ≤ y1.toInt) : 0 ≤ n2.toInt ∧ n2.toInt ≤ 41 := by
  ((try and_intros) <;> first | assumption | omega | (subst_vars; omega) | trivial)
-- post @107
theorem v_cut_3 (σ : RS) (y1 : Int32) (n2 : Int32) (F3 : (Nat → Int32)) (G5 : (Nat → Int64)) (F6 : (Nat → Int32)) (n11 : Int32) (hpre_0 : 0 ≤ (σ.1 1).toInt) (hpre_1 : (σ.1 1).toInt ≤ 40) (hi7_0 : 0 ≤ y1.toInt) (hi7_1 : y1.toInt ≤ (σ.1 1).toInt) (hi7_2 : 0 ≤ n2.toInt) (hi7_3 : n2.toInt ≤ y1.toInt) (hi7_4 : TKok F3 G5 F6 n2.toInt) (c9 : (σ.1 1).toInt ≤ y1.toInt) (hr10 : n11.toInt = n2.toInt + 1) : 1 ≤ n11.toInt ∧ n11.toInt ≤ (σ.1 1).toInt + 1 ∧ TKok (upd F3 n2.toNatClampNeg (0 : Int32)) (vp_updL G5 n2.toNatClampNeg (0 : Int64)) (upd F6 n2.toNatClampNeg (0 : Int32)) (n11.toInt - 1) ∧ ((upd F3 n2.toNatClampNeg (0 : Int32)) (n11.toInt - 1).toNat).toInt = 0 := by
  have q0 : (0 : Int32).toInt = 0 := by decide +kernel
  have ql0 : (0 : Int64).toInt = 0 := by decide +kernel
  have hz := hi7_4
  refine ⟨by omega, by omega, tk_end2 hz (clampZ (by omega)) (by omega), ?_⟩
  rw [upd_at (by rw [clampN]; omega)]; exact q0
-- pre:add@104 @104
theorem v_cut_4 (σ : RS) (y1 : Int32) (n2 : Int32) (F3 : (Nat → Int32)) (G5 : (Nat → Int64)) (F6 : (Nat → Int32)) (hpre_0 : 0 ≤ (σ.1 1).toInt) (hpre_1 : (σ.1 1).toInt ≤ 40) (hi7_0 : 0 ≤ y1.toInt) (hi7_1 : y1.toInt ≤ (σ.1 1).toInt) (hi7_2 : 0 ≤ n2.toInt) (hi7_3 : n2.toInt ≤ y1.toInt) (hi7_4 : TKok F3 G5 F6 n2.toInt) (c9 : y1.toInt < (σ.1 1).toInt) : 0 ≤ n2.toInt ∧ n2.toInt ≤ 41 := by
  ((try and_intros) <;> first | assumption | omega | (subst_vars; omega) | trivial)
-- post @107
theorem v_cut_5 (σ : RS) (y1 : Int32) (n2 : Int32) (F3 : (Nat → Int32)) (G5 : (Nat → Int64)) (F6 : (Nat → Int32)) (n14 : Int32) (hpre_0 : 0 ≤ (σ.1 1).toInt) (hpre_1 : (σ.1 1).toInt ≤ 40) (hi7_0 : 0 ≤ y1.toInt) (hi7_1 : y1.toInt ≤ (σ.1 1).toInt) (hi7_2 : 0 ≤ n2.toInt) (hi7_3 : n2.toInt ≤ y1.toInt) (hi7_4 : TKok F3 G5 F6 n2.toInt) (c9 : y1.toInt < (σ.1 1).toInt) (hr13 : n14.toInt = n2.toInt + 1) : 1 ≤ n14.toInt ∧ n14.toInt ≤ (σ.1 1).toInt + 1 ∧ TKok (upd F3 n2.toNatClampNeg (0 : Int32)) (vp_updL G5 n2.toNatClampNeg (0 : Int64)) (upd F6 n2.toNatClampNeg (0 : Int32)) (n14.toInt - 1) ∧ ((upd F3 n2.toNatClampNeg (0 : Int32)) (n14.toInt - 1).toNat).toInt = 0 := by
  have q0 : (0 : Int32).toInt = 0 := by decide +kernel
  have ql0 : (0 : Int64).toInt = 0 := by decide +kernel
  have hz := hi7_4
  refine ⟨by omega, by omega, tk_end2 hz (clampZ (by omega)) (by omega), ?_⟩
  rw [upd_at (by rw [clampN]; omega)]; exact q0
-- pre:at@24 @24
theorem v_cut_6 (σ : RS) (y1 : Int32) (n2 : Int32) (F3 : (Nat → Int32)) (G5 : (Nat → Int64)) (F6 : (Nat → Int32)) (hpre_0 : 0 ≤ (σ.1 1).toInt) (hpre_1 : (σ.1 1).toInt ≤ 40) (hi7_0 : 0 ≤ y1.toInt) (hi7_1 : y1.toInt ≤ (σ.1 1).toInt) (hi7_2 : 0 ≤ n2.toInt) (hi7_3 : n2.toInt ≤ y1.toInt) (hi7_4 : TKok F3 G5 F6 n2.toInt) (c9 : y1.toInt < (σ.1 1).toInt) : 0 ≤ (σ.1 1).toInt ∧ (σ.1 1).toInt ≤ 40 ∧ 0 ≤ y1.toInt := by
  ((try and_intros) <;> first | assumption | omega | (subst_vars; omega) | trivial)
-- pre:digit@40 @40
theorem v_cut_7 (σ : RS) (y1 : Int32) (n2 : Int32) (F3 : (Nat → Int32)) (G5 : (Nat → Int64)) (F6 : (Nat → Int32)) (r15 : Int32) (hpre_0 : 0 ≤ (σ.1 1).toInt) (hpre_1 : (σ.1 1).toInt ≤ 40) (hi7_0 : 0 ≤ y1.toInt) (hi7_1 : y1.toInt ≤ (σ.1 1).toInt) (hi7_2 : 0 ≤ n2.toInt) (hi7_3 : n2.toInt ≤ y1.toInt) (hi7_4 : TKok F3 G5 F6 n2.toInt) (c9 : y1.toInt < (σ.1 1).toInt) (hr15 : (y1.toInt < (σ.1 1).toInt ∧ r15.toInt = ((σ.2.1 2) y1.toNatClampNeg).toInt) ∨ ((σ.1 1).toInt ≤ y1.toInt ∧ r15.toInt = 0)) (c16 : ¬ r15.toInt = 32) : 0 ≤ (σ.1 1).toInt ∧ (σ.1 1).toInt ≤ 40 ∧ 0 ≤ y1.toInt := by
  ((try and_intros) <;> first | assumption | omega | (subst_vars; omega) | trivial)
-- pre:lower@56 @56
theorem v_cut_8 (σ : RS) (y1 : Int32) (n2 : Int32) (F3 : (Nat → Int32)) (G5 : (Nat → Int64)) (F6 : (Nat → Int32)) (r15 : Int32) (hpre_0 : 0 ≤ (σ.1 1).toInt) (hpre_1 : (σ.1 1).toInt ≤ 40) (hi7_0 : 0 ≤ y1.toInt) (hi7_1 : y1.toInt ≤ (σ.1 1).toInt) (hi7_2 : 0 ≤ n2.toInt) (hi7_3 : n2.toInt ≤ y1.toInt) (hi7_4 : TKok F3 G5 F6 n2.toInt) (c9 : y1.toInt < (σ.1 1).toInt) (hr15 : (y1.toInt < (σ.1 1).toInt ∧ r15.toInt = ((σ.2.1 2) y1.toNatClampNeg).toInt) ∨ ((σ.1 1).toInt ≤ y1.toInt ∧ r15.toInt = 0)) (c16 : ¬ r15.toInt = 32) (hr17 : ¬ ((y1.toInt < (σ.1 1).toInt ∧ 48 ≤ ((σ.2.1 2) y1.toNatClampNeg).toInt ∧ ((σ.2.1 2) y1.toNatClampNeg).toInt ≤ 57))) : 0 ≤ (σ.1 1).toInt ∧ (σ.1 1).toInt ≤ 40 ∧ 0 ≤ y1.toInt := by
  ((try and_intros) <;> first | assumption | omega | (subst_vars; omega) | trivial)
-- pre:at@72 @72
theorem v_cut_9 (σ : RS) (y1 : Int32) (n2 : Int32) (F3 : (Nat → Int32)) (G5 : (Nat → Int64)) (F6 : (Nat → Int32)) (r15 : Int32) (hpre_0 : 0 ≤ (σ.1 1).toInt) (hpre_1 : (σ.1 1).toInt ≤ 40) (hi7_0 : 0 ≤ y1.toInt) (hi7_1 : y1.toInt ≤ (σ.1 1).toInt) (hi7_2 : 0 ≤ n2.toInt) (hi7_3 : n2.toInt ≤ y1.toInt) (hi7_4 : TKok F3 G5 F6 n2.toInt) (c9 : y1.toInt < (σ.1 1).toInt) (hr15 : (y1.toInt < (σ.1 1).toInt ∧ r15.toInt = ((σ.2.1 2) y1.toNatClampNeg).toInt) ∨ ((σ.1 1).toInt ≤ y1.toInt ∧ r15.toInt = 0)) (c16 : ¬ r15.toInt = 32) (hr17 : ¬ ((y1.toInt < (σ.1 1).toInt ∧ 48 ≤ ((σ.2.1 2) y1.toNatClampNeg).toInt ∧ ((σ.2.1 2) y1.toNatClampNeg).toInt ≤ 57))) (hr19 : ¬ ((y1.toInt < (σ.1 1).toInt ∧ 97 ≤ ((σ.2.1 2) y1.toNatClampNeg).toInt ∧ ((σ.2.1 2) y1.toNatClampNeg).toInt ≤ 122))) : 0 ≤ (σ.1 1).toInt ∧ (σ.1 1).toInt ≤ 40 ∧ 0 ≤ y1.toInt := by
  ((try and_intros) <;> first | assumption | omega | (subst_vars; omega) | trivial)
-- pre:sign@90 @90
theorem v_cut_10 (σ : RS) (y1 : Int32) (n2 : Int32) (F3 : (Nat → Int32)) (G5 : (Nat → Int64)) (F6 : (Nat → Int32)) (r15 : Int32) (r21 : Int32) (hpre_0 : 0 ≤ (σ.1 1).toInt) (hpre_1 : (σ.1 1).toInt ≤ 40) (hi7_0 : 0 ≤ y1.toInt) (hi7_1 : y1.toInt ≤ (σ.1 1).toInt) (hi7_2 : 0 ≤ n2.toInt) (hi7_3 : n2.toInt ≤ y1.toInt) (hi7_4 : TKok F3 G5 F6 n2.toInt) (c9 : y1.toInt < (σ.1 1).toInt) (hr15 : (y1.toInt < (σ.1 1).toInt ∧ r15.toInt = ((σ.2.1 2) y1.toNatClampNeg).toInt) ∨ ((σ.1 1).toInt ≤ y1.toInt ∧ r15.toInt = 0)) (c16 : ¬ r15.toInt = 32) (hr17 : ¬ ((y1.toInt < (σ.1 1).toInt ∧ 48 ≤ ((σ.2.1 2) y1.toNatClampNeg).toInt ∧ ((σ.2.1 2) y1.toNatClampNeg).toInt ≤ 57))) (hr19 : ¬ ((y1.toInt < (σ.1 1).toInt ∧ 97 ≤ ((σ.2.1 2) y1.toNatClampNeg).toInt ∧ ((σ.2.1 2) y1.toNatClampNeg).toInt ≤ 122))) (hr21 : (y1.toInt < (σ.1 1).toInt ∧ r21.toInt = ((σ.2.1 2) y1.toNatClampNeg).toInt) ∨ ((σ.1 1).toInt ≤ y1.toInt ∧ r21.toInt = 0)) (c22 : ¬ r21.toInt = 39) : 0 ≤ (σ.1 1).toInt ∧ (σ.1 1).toInt ≤ 40 ∧ 0 ≤ n2.toInt ∧ n2.toInt ≤ y1.toInt ∧ y1.toInt < (σ.1 1).toInt ∧ TKok F3 G5 F6 n2.toInt := by
  ((try and_intros) <;> first | assumption | omega | (subst_vars; omega) | trivial)
-- inv@7 @7
theorem v_cut_11 (σ : RS) (y1 : Int32) (n2 : Int32) (F3 : (Nat → Int32)) (G5 : (Nat → Int64)) (F6 : (Nat → Int32)) (r15 : Int32) (r21 : Int32) (n24 : Int32) (F25 : (Nat → Int32)) (G27 : (Nat → Int64)) (F28 : (Nat → Int32)) (r23 : Int32) (hpre_0 : 0 ≤ (σ.1 1).toInt) (hpre_1 : (σ.1 1).toInt ≤ 40) (hi7_0 : 0 ≤ y1.toInt) (hi7_1 : y1.toInt ≤ (σ.1 1).toInt) (hi7_2 : 0 ≤ n2.toInt) (hi7_3 : n2.toInt ≤ y1.toInt) (hi7_4 : TKok F3 G5 F6 n2.toInt) (c9 : y1.toInt < (σ.1 1).toInt) (hr15 : (y1.toInt < (σ.1 1).toInt ∧ r15.toInt = ((σ.2.1 2) y1.toNatClampNeg).toInt) ∨ ((σ.1 1).toInt ≤ y1.toInt ∧ r15.toInt = 0)) (c16 : ¬ r15.toInt = 32) (hr17 : ¬ ((y1.toInt < (σ.1 1).toInt ∧ 48 ≤ ((σ.2.1 2) y1.toNatClampNeg).toInt ∧ ((σ.2.1 2) y1.toNatClampNeg).toInt ≤ 57))) (hr19 : ¬ ((y1.toInt < (σ.1 1).toInt ∧ 97 ≤ ((σ.2.1 2) y1.toNatClampNeg).toInt ∧ ((σ.2.1 2) y1.toNatClampNeg).toInt ≤ 122))) (hr21 : (y1.toInt < (σ.1 1).toInt ∧ r21.toInt = ((σ.2.1 2) y1.toNatClampNeg).toInt) ∨ ((σ.1 1).toInt ≤ y1.toInt ∧ r21.toInt = 0)) (c22 : ¬ r21.toInt = 39) (hr23_0 : y1.toInt < r23.toInt) (hr23_1 : r23.toInt ≤ (σ.1 1).toInt) (hr23_2 : 0 ≤ n24.toInt) (hr23_3 : n24.toInt ≤ r23.toInt) (hr23_4 : TKok F25 G27 F28 n24.toInt) : 0 ≤ r23.toInt ∧ r23.toInt ≤ (σ.1 1).toInt ∧ 0 ≤ n24.toInt ∧ n24.toInt ≤ r23.toInt ∧ TKok F25 G27 F28 n24.toInt := by
  ((try and_intros) <;> first | assumption | omega | (subst_vars; omega) | trivial)
-- meas@7 @7
theorem v_cut_12 (σ : RS) (y1 : Int32) (n2 : Int32) (F3 : (Nat → Int32)) (G5 : (Nat → Int64)) (F6 : (Nat → Int32)) (r15 : Int32) (r21 : Int32) (n24 : Int32) (F25 : (Nat → Int32)) (G27 : (Nat → Int64)) (F28 : (Nat → Int32)) (r23 : Int32) (hpre_0 : 0 ≤ (σ.1 1).toInt) (hpre_1 : (σ.1 1).toInt ≤ 40) (hi7_0 : 0 ≤ y1.toInt) (hi7_1 : y1.toInt ≤ (σ.1 1).toInt) (hi7_2 : 0 ≤ n2.toInt) (hi7_3 : n2.toInt ≤ y1.toInt) (hi7_4 : TKok F3 G5 F6 n2.toInt) (c9 : y1.toInt < (σ.1 1).toInt) (hr15 : (y1.toInt < (σ.1 1).toInt ∧ r15.toInt = ((σ.2.1 2) y1.toNatClampNeg).toInt) ∨ ((σ.1 1).toInt ≤ y1.toInt ∧ r15.toInt = 0)) (c16 : ¬ r15.toInt = 32) (hr17 : ¬ ((y1.toInt < (σ.1 1).toInt ∧ 48 ≤ ((σ.2.1 2) y1.toNatClampNeg).toInt ∧ ((σ.2.1 2) y1.toNatClampNeg).toInt ≤ 57))) (hr19 : ¬ ((y1.toInt < (σ.1 1).toInt ∧ 97 ≤ ((σ.2.1 2) y1.toNatClampNeg).toInt ∧ ((σ.2.1 2) y1.toNatClampNeg).toInt ≤ 122))) (hr21 : (y1.toInt < (σ.1 1).toInt ∧ r21.toInt = ((σ.2.1 2) y1.toNatClampNeg).toInt) ∨ ((σ.1 1).toInt ≤ y1.toInt ∧ r21.toInt = 0)) (c22 : ¬ r21.toInt = 39) (hr23_0 : y1.toInt < r23.toInt) (hr23_1 : r23.toInt ≤ (σ.1 1).toInt) (hr23_2 : 0 ≤ n24.toInt) (hr23_3 : n24.toInt ≤ r23.toInt) (hr23_4 : TKok F25 G27 F28 n24.toInt) : ((σ.1 1).toInt - r23.toInt).toNat < ((σ.1 1).toInt - y1.toInt).toNat := by
  ((try and_intros) <;> first | assumption | omega | (subst_vars; omega) | trivial)
-- pre:quoted@82 @82
theorem v_cut_13 (σ : RS) (y1 : Int32) (n2 : Int32) (F3 : (Nat → Int32)) (G5 : (Nat → Int64)) (F6 : (Nat → Int32)) (r15 : Int32) (r21 : Int32) (hpre_0 : 0 ≤ (σ.1 1).toInt) (hpre_1 : (σ.1 1).toInt ≤ 40) (hi7_0 : 0 ≤ y1.toInt) (hi7_1 : y1.toInt ≤ (σ.1 1).toInt) (hi7_2 : 0 ≤ n2.toInt) (hi7_3 : n2.toInt ≤ y1.toInt) (hi7_4 : TKok F3 G5 F6 n2.toInt) (c9 : y1.toInt < (σ.1 1).toInt) (hr15 : (y1.toInt < (σ.1 1).toInt ∧ r15.toInt = ((σ.2.1 2) y1.toNatClampNeg).toInt) ∨ ((σ.1 1).toInt ≤ y1.toInt ∧ r15.toInt = 0)) (c16 : ¬ r15.toInt = 32) (hr17 : ¬ ((y1.toInt < (σ.1 1).toInt ∧ 48 ≤ ((σ.2.1 2) y1.toNatClampNeg).toInt ∧ ((σ.2.1 2) y1.toNatClampNeg).toInt ≤ 57))) (hr19 : ¬ ((y1.toInt < (σ.1 1).toInt ∧ 97 ≤ ((σ.2.1 2) y1.toNatClampNeg).toInt ∧ ((σ.2.1 2) y1.toNatClampNeg).toInt ≤ 122))) (hr21 : (y1.toInt < (σ.1 1).toInt ∧ r21.toInt = ((σ.2.1 2) y1.toNatClampNeg).toInt) ∨ ((σ.1 1).toInt ≤ y1.toInt ∧ r21.toInt = 0)) (c22 : r21.toInt = 39) : 0 ≤ (σ.1 1).toInt ∧ (σ.1 1).toInt ≤ 40 ∧ 0 ≤ n2.toInt ∧ n2.toInt ≤ y1.toInt ∧ y1.toInt < (σ.1 1).toInt ∧ TKok F3 G5 F6 n2.toInt := by
  ((try and_intros) <;> first | assumption | omega | (subst_vars; omega) | trivial)
-- inv@7 @7
theorem v_cut_14 (σ : RS) (y1 : Int32) (n2 : Int32) (F3 : (Nat → Int32)) (G5 : (Nat → Int64)) (F6 : (Nat → Int32)) (r15 : Int32) (r21 : Int32) (n32 : Int32) (F33 : (Nat → Int32)) (G35 : (Nat → Int64)) (F36 : (Nat → Int32)) (r31 : Int32) (hpre_0 : 0 ≤ (σ.1 1).toInt) (hpre_1 : (σ.1 1).toInt ≤ 40) (hi7_0 : 0 ≤ y1.toInt) (hi7_1 : y1.toInt ≤ (σ.1 1).toInt) (hi7_2 : 0 ≤ n2.toInt) (hi7_3 : n2.toInt ≤ y1.toInt) (hi7_4 : TKok F3 G5 F6 n2.toInt) (c9 : y1.toInt < (σ.1 1).toInt) (hr15 : (y1.toInt < (σ.1 1).toInt ∧ r15.toInt = ((σ.2.1 2) y1.toNatClampNeg).toInt) ∨ ((σ.1 1).toInt ≤ y1.toInt ∧ r15.toInt = 0)) (c16 : ¬ r15.toInt = 32) (hr17 : ¬ ((y1.toInt < (σ.1 1).toInt ∧ 48 ≤ ((σ.2.1 2) y1.toNatClampNeg).toInt ∧ ((σ.2.1 2) y1.toNatClampNeg).toInt ≤ 57))) (hr19 : ¬ ((y1.toInt < (σ.1 1).toInt ∧ 97 ≤ ((σ.2.1 2) y1.toNatClampNeg).toInt ∧ ((σ.2.1 2) y1.toNatClampNeg).toInt ≤ 122))) (hr21 : (y1.toInt < (σ.1 1).toInt ∧ r21.toInt = ((σ.2.1 2) y1.toNatClampNeg).toInt) ∨ ((σ.1 1).toInt ≤ y1.toInt ∧ r21.toInt = 0)) (c22 : r21.toInt = 39) (hr31_0 : y1.toInt < r31.toInt) (hr31_1 : r31.toInt ≤ (σ.1 1).toInt) (hr31_2 : 0 ≤ n32.toInt) (hr31_3 : n32.toInt ≤ r31.toInt) (hr31_4 : TKok F33 G35 F36 n32.toInt) : 0 ≤ r31.toInt ∧ r31.toInt ≤ (σ.1 1).toInt ∧ 0 ≤ n32.toInt ∧ n32.toInt ≤ r31.toInt ∧ TKok F33 G35 F36 n32.toInt := by
  ((try and_intros) <;> first | assumption | omega | (subst_vars; omega) | trivial)
-- meas@7 @7
theorem v_cut_15 (σ : RS) (y1 : Int32) (n2 : Int32) (F3 : (Nat → Int32)) (G5 : (Nat → Int64)) (F6 : (Nat → Int32)) (r15 : Int32) (r21 : Int32) (n32 : Int32) (F33 : (Nat → Int32)) (G35 : (Nat → Int64)) (F36 : (Nat → Int32)) (r31 : Int32) (hpre_0 : 0 ≤ (σ.1 1).toInt) (hpre_1 : (σ.1 1).toInt ≤ 40) (hi7_0 : 0 ≤ y1.toInt) (hi7_1 : y1.toInt ≤ (σ.1 1).toInt) (hi7_2 : 0 ≤ n2.toInt) (hi7_3 : n2.toInt ≤ y1.toInt) (hi7_4 : TKok F3 G5 F6 n2.toInt) (c9 : y1.toInt < (σ.1 1).toInt) (hr15 : (y1.toInt < (σ.1 1).toInt ∧ r15.toInt = ((σ.2.1 2) y1.toNatClampNeg).toInt) ∨ ((σ.1 1).toInt ≤ y1.toInt ∧ r15.toInt = 0)) (c16 : ¬ r15.toInt = 32) (hr17 : ¬ ((y1.toInt < (σ.1 1).toInt ∧ 48 ≤ ((σ.2.1 2) y1.toNatClampNeg).toInt ∧ ((σ.2.1 2) y1.toNatClampNeg).toInt ≤ 57))) (hr19 : ¬ ((y1.toInt < (σ.1 1).toInt ∧ 97 ≤ ((σ.2.1 2) y1.toNatClampNeg).toInt ∧ ((σ.2.1 2) y1.toNatClampNeg).toInt ≤ 122))) (hr21 : (y1.toInt < (σ.1 1).toInt ∧ r21.toInt = ((σ.2.1 2) y1.toNatClampNeg).toInt) ∨ ((σ.1 1).toInt ≤ y1.toInt ∧ r21.toInt = 0)) (c22 : r21.toInt = 39) (hr31_0 : y1.toInt < r31.toInt) (hr31_1 : r31.toInt ≤ (σ.1 1).toInt) (hr31_2 : 0 ≤ n32.toInt) (hr31_3 : n32.toInt ≤ r31.toInt) (hr31_4 : TKok F33 G35 F36 n32.toInt) : ((σ.1 1).toInt - r31.toInt).toNat < ((σ.1 1).toInt - y1.toInt).toNat := by
  ((try and_intros) <;> first | assumption | omega | (subst_vars; omega) | trivial)
-- pre:name@64 @64
theorem v_cut_16 (σ : RS) (y1 : Int32) (n2 : Int32) (F3 : (Nat → Int32)) (G5 : (Nat → Int64)) (F6 : (Nat → Int32)) (r15 : Int32) (hpre_0 : 0 ≤ (σ.1 1).toInt) (hpre_1 : (σ.1 1).toInt ≤ 40) (hi7_0 : 0 ≤ y1.toInt) (hi7_1 : y1.toInt ≤ (σ.1 1).toInt) (hi7_2 : 0 ≤ n2.toInt) (hi7_3 : n2.toInt ≤ y1.toInt) (hi7_4 : TKok F3 G5 F6 n2.toInt) (c9 : y1.toInt < (σ.1 1).toInt) (hr15 : (y1.toInt < (σ.1 1).toInt ∧ r15.toInt = ((σ.2.1 2) y1.toNatClampNeg).toInt) ∨ ((σ.1 1).toInt ≤ y1.toInt ∧ r15.toInt = 0)) (c16 : ¬ r15.toInt = 32) (hr17 : ¬ ((y1.toInt < (σ.1 1).toInt ∧ 48 ≤ ((σ.2.1 2) y1.toNatClampNeg).toInt ∧ ((σ.2.1 2) y1.toNatClampNeg).toInt ≤ 57))) (hr19_0 : y1.toInt < (σ.1 1).toInt) (hr19_1 : 97 ≤ ((σ.2.1 2) y1.toNatClampNeg).toInt) (hr19_2 : ((σ.2.1 2) y1.toNatClampNeg).toInt ≤ 122) : 0 ≤ (σ.1 1).toInt ∧ (σ.1 1).toInt ≤ 40 ∧ 0 ≤ n2.toInt ∧ n2.toInt ≤ y1.toInt ∧ y1.toInt < (σ.1 1).toInt ∧ TKok F3 G5 F6 n2.toInt ∧ (y1.toInt < (σ.1 1).toInt ∧ 97 ≤ ((σ.2.1 2) y1.toNatClampNeg).toInt ∧ ((σ.2.1 2) y1.toNatClampNeg).toInt ≤ 122) := by
  ((try and_intros) <;> first | assumption | omega | (subst_vars; omega) | trivial)
-- inv@7 @7
theorem v_cut_17 (σ : RS) (y1 : Int32) (n2 : Int32) (F3 : (Nat → Int32)) (G5 : (Nat → Int64)) (F6 : (Nat → Int32)) (r15 : Int32) (n40 : Int32) (F41 : (Nat → Int32)) (G43 : (Nat → Int64)) (F44 : (Nat → Int32)) (r39 : Int32) (hpre_0 : 0 ≤ (σ.1 1).toInt) (hpre_1 : (σ.1 1).toInt ≤ 40) (hi7_0 : 0 ≤ y1.toInt) (hi7_1 : y1.toInt ≤ (σ.1 1).toInt) (hi7_2 : 0 ≤ n2.toInt) (hi7_3 : n2.toInt ≤ y1.toInt) (hi7_4 : TKok F3 G5 F6 n2.toInt) (c9 : y1.toInt < (σ.1 1).toInt) (hr15 : (y1.toInt < (σ.1 1).toInt ∧ r15.toInt = ((σ.2.1 2) y1.toNatClampNeg).toInt) ∨ ((σ.1 1).toInt ≤ y1.toInt ∧ r15.toInt = 0)) (c16 : ¬ r15.toInt = 32) (hr17 : ¬ ((y1.toInt < (σ.1 1).toInt ∧ 48 ≤ ((σ.2.1 2) y1.toNatClampNeg).toInt ∧ ((σ.2.1 2) y1.toNatClampNeg).toInt ≤ 57))) (hr19_0 : y1.toInt < (σ.1 1).toInt) (hr19_1 : 97 ≤ ((σ.2.1 2) y1.toNatClampNeg).toInt) (hr19_2 : ((σ.2.1 2) y1.toNatClampNeg).toInt ≤ 122) (hr39_0 : y1.toInt < r39.toInt) (hr39_1 : r39.toInt ≤ (σ.1 1).toInt) (hr39_2 : 0 ≤ n40.toInt) (hr39_3 : n40.toInt ≤ r39.toInt) (hr39_4 : TKok F41 G43 F44 n40.toInt) : 0 ≤ r39.toInt ∧ r39.toInt ≤ (σ.1 1).toInt ∧ 0 ≤ n40.toInt ∧ n40.toInt ≤ r39.toInt ∧ TKok F41 G43 F44 n40.toInt := by
  ((try and_intros) <;> first | assumption | omega | (subst_vars; omega) | trivial)
-- meas@7 @7
theorem v_cut_18 (σ : RS) (y1 : Int32) (n2 : Int32) (F3 : (Nat → Int32)) (G5 : (Nat → Int64)) (F6 : (Nat → Int32)) (r15 : Int32) (n40 : Int32) (F41 : (Nat → Int32)) (G43 : (Nat → Int64)) (F44 : (Nat → Int32)) (r39 : Int32) (hpre_0 : 0 ≤ (σ.1 1).toInt) (hpre_1 : (σ.1 1).toInt ≤ 40) (hi7_0 : 0 ≤ y1.toInt) (hi7_1 : y1.toInt ≤ (σ.1 1).toInt) (hi7_2 : 0 ≤ n2.toInt) (hi7_3 : n2.toInt ≤ y1.toInt) (hi7_4 : TKok F3 G5 F6 n2.toInt) (c9 : y1.toInt < (σ.1 1).toInt) (hr15 : (y1.toInt < (σ.1 1).toInt ∧ r15.toInt = ((σ.2.1 2) y1.toNatClampNeg).toInt) ∨ ((σ.1 1).toInt ≤ y1.toInt ∧ r15.toInt = 0)) (c16 : ¬ r15.toInt = 32) (hr17 : ¬ ((y1.toInt < (σ.1 1).toInt ∧ 48 ≤ ((σ.2.1 2) y1.toNatClampNeg).toInt ∧ ((σ.2.1 2) y1.toNatClampNeg).toInt ≤ 57))) (hr19_0 : y1.toInt < (σ.1 1).toInt) (hr19_1 : 97 ≤ ((σ.2.1 2) y1.toNatClampNeg).toInt) (hr19_2 : ((σ.2.1 2) y1.toNatClampNeg).toInt ≤ 122) (hr39_0 : y1.toInt < r39.toInt) (hr39_1 : r39.toInt ≤ (σ.1 1).toInt) (hr39_2 : 0 ≤ n40.toInt) (hr39_3 : n40.toInt ≤ r39.toInt) (hr39_4 : TKok F41 G43 F44 n40.toInt) : ((σ.1 1).toInt - r39.toInt).toNat < ((σ.1 1).toInt - y1.toInt).toNat := by
  ((try and_intros) <;> first | assumption | omega | (subst_vars; omega) | trivial)
-- pre:number@48 @48
theorem v_cut_19 (σ : RS) (y1 : Int32) (n2 : Int32) (F3 : (Nat → Int32)) (G5 : (Nat → Int64)) (F6 : (Nat → Int32)) (r15 : Int32) (hpre_0 : 0 ≤ (σ.1 1).toInt) (hpre_1 : (σ.1 1).toInt ≤ 40) (hi7_0 : 0 ≤ y1.toInt) (hi7_1 : y1.toInt ≤ (σ.1 1).toInt) (hi7_2 : 0 ≤ n2.toInt) (hi7_3 : n2.toInt ≤ y1.toInt) (hi7_4 : TKok F3 G5 F6 n2.toInt) (c9 : y1.toInt < (σ.1 1).toInt) (hr15 : (y1.toInt < (σ.1 1).toInt ∧ r15.toInt = ((σ.2.1 2) y1.toNatClampNeg).toInt) ∨ ((σ.1 1).toInt ≤ y1.toInt ∧ r15.toInt = 0)) (c16 : ¬ r15.toInt = 32) (hr17_0 : y1.toInt < (σ.1 1).toInt) (hr17_1 : 48 ≤ ((σ.2.1 2) y1.toNatClampNeg).toInt) (hr17_2 : ((σ.2.1 2) y1.toNatClampNeg).toInt ≤ 57) : 0 ≤ (σ.1 1).toInt ∧ (σ.1 1).toInt ≤ 40 ∧ 0 ≤ n2.toInt ∧ n2.toInt ≤ y1.toInt ∧ y1.toInt < (σ.1 1).toInt ∧ TKok F3 G5 F6 n2.toInt ∧ (y1.toInt < (σ.1 1).toInt ∧ 48 ≤ ((σ.2.1 2) y1.toNatClampNeg).toInt ∧ ((σ.2.1 2) y1.toNatClampNeg).toInt ≤ 57) := by
  ((try and_intros) <;> first | assumption | omega | (subst_vars; omega) | trivial)
-- inv@7 @7
theorem v_cut_20 (σ : RS) (y1 : Int32) (n2 : Int32) (F3 : (Nat → Int32)) (G5 : (Nat → Int64)) (F6 : (Nat → Int32)) (r15 : Int32) (n48 : Int32) (F49 : (Nat → Int32)) (G51 : (Nat → Int64)) (F52 : (Nat → Int32)) (r47 : Int32) (hpre_0 : 0 ≤ (σ.1 1).toInt) (hpre_1 : (σ.1 1).toInt ≤ 40) (hi7_0 : 0 ≤ y1.toInt) (hi7_1 : y1.toInt ≤ (σ.1 1).toInt) (hi7_2 : 0 ≤ n2.toInt) (hi7_3 : n2.toInt ≤ y1.toInt) (hi7_4 : TKok F3 G5 F6 n2.toInt) (c9 : y1.toInt < (σ.1 1).toInt) (hr15 : (y1.toInt < (σ.1 1).toInt ∧ r15.toInt = ((σ.2.1 2) y1.toNatClampNeg).toInt) ∨ ((σ.1 1).toInt ≤ y1.toInt ∧ r15.toInt = 0)) (c16 : ¬ r15.toInt = 32) (hr17_0 : y1.toInt < (σ.1 1).toInt) (hr17_1 : 48 ≤ ((σ.2.1 2) y1.toNatClampNeg).toInt) (hr17_2 : ((σ.2.1 2) y1.toNatClampNeg).toInt ≤ 57) (hr47_0 : y1.toInt < r47.toInt) (hr47_1 : r47.toInt ≤ (σ.1 1).toInt) (hr47_2 : 0 ≤ n48.toInt) (hr47_3 : n48.toInt ≤ r47.toInt) (hr47_4 : TKok F49 G51 F52 n48.toInt) : 0 ≤ r47.toInt ∧ r47.toInt ≤ (σ.1 1).toInt ∧ 0 ≤ n48.toInt ∧ n48.toInt ≤ r47.toInt ∧ TKok F49 G51 F52 n48.toInt := by
  ((try and_intros) <;> first | assumption | omega | (subst_vars; omega) | trivial)
-- meas@7 @7
theorem v_cut_21 (σ : RS) (y1 : Int32) (n2 : Int32) (F3 : (Nat → Int32)) (G5 : (Nat → Int64)) (F6 : (Nat → Int32)) (r15 : Int32) (n48 : Int32) (F49 : (Nat → Int32)) (G51 : (Nat → Int64)) (F52 : (Nat → Int32)) (r47 : Int32) (hpre_0 : 0 ≤ (σ.1 1).toInt) (hpre_1 : (σ.1 1).toInt ≤ 40) (hi7_0 : 0 ≤ y1.toInt) (hi7_1 : y1.toInt ≤ (σ.1 1).toInt) (hi7_2 : 0 ≤ n2.toInt) (hi7_3 : n2.toInt ≤ y1.toInt) (hi7_4 : TKok F3 G5 F6 n2.toInt) (c9 : y1.toInt < (σ.1 1).toInt) (hr15 : (y1.toInt < (σ.1 1).toInt ∧ r15.toInt = ((σ.2.1 2) y1.toNatClampNeg).toInt) ∨ ((σ.1 1).toInt ≤ y1.toInt ∧ r15.toInt = 0)) (c16 : ¬ r15.toInt = 32) (hr17_0 : y1.toInt < (σ.1 1).toInt) (hr17_1 : 48 ≤ ((σ.2.1 2) y1.toNatClampNeg).toInt) (hr17_2 : ((σ.2.1 2) y1.toNatClampNeg).toInt ≤ 57) (hr47_0 : y1.toInt < r47.toInt) (hr47_1 : r47.toInt ≤ (σ.1 1).toInt) (hr47_2 : 0 ≤ n48.toInt) (hr47_3 : n48.toInt ≤ r47.toInt) (hr47_4 : TKok F49 G51 F52 n48.toInt) : ((σ.1 1).toInt - r47.toInt).toNat < ((σ.1 1).toInt - y1.toInt).toNat := by
  ((try and_intros) <;> first | assumption | omega | (subst_vars; omega) | trivial)
-- nw@32 @32
theorem v_cut_22 (σ : RS) (y1 : Int32) (n2 : Int32) (F3 : (Nat → Int32)) (G5 : (Nat → Int64)) (F6 : (Nat → Int32)) (r15 : Int32) (x55 : Int32) (hpre_0 : 0 ≤ (σ.1 1).toInt) (hpre_1 : (σ.1 1).toInt ≤ 40) (hi7_0 : 0 ≤ y1.toInt) (hi7_1 : y1.toInt ≤ (σ.1 1).toInt) (hi7_2 : 0 ≤ n2.toInt) (hi7_3 : n2.toInt ≤ y1.toInt) (hi7_4 : TKok F3 G5 F6 n2.toInt) (c9 : y1.toInt < (σ.1 1).toInt) (hr15 : (y1.toInt < (σ.1 1).toInt ∧ r15.toInt = ((σ.2.1 2) y1.toNatClampNeg).toInt) ∨ ((σ.1 1).toInt ≤ y1.toInt ∧ r15.toInt = 0)) (c16 : r15.toInt = 32) (ex55 : x55 = y1 + (1 : Int32)) : x55.toInt = y1.toInt + 1 := by
  have q1 : (1 : Int32).toInt = 1 := by decide +kernel
  have z9 : (1 : Int32).toInt = 1 := by decide +kernel
  rw [ex55, z_add (by omega) (by omega)]; first | done | omega
-- inv@7 @7
theorem v_cut_23 (σ : RS) (y1 : Int32) (n2 : Int32) (F3 : (Nat → Int32)) (G5 : (Nat → Int64)) (F6 : (Nat → Int32)) (r15 : Int32) (x55 : Int32) (hpre_0 : 0 ≤ (σ.1 1).toInt) (hpre_1 : (σ.1 1).toInt ≤ 40) (hi7_0 : 0 ≤ y1.toInt) (hi7_1 : y1.toInt ≤ (σ.1 1).toInt) (hi7_2 : 0 ≤ n2.toInt) (hi7_3 : n2.toInt ≤ y1.toInt) (hi7_4 : TKok F3 G5 F6 n2.toInt) (c9 : y1.toInt < (σ.1 1).toInt) (hr15 : (y1.toInt < (σ.1 1).toInt ∧ r15.toInt = ((σ.2.1 2) y1.toNatClampNeg).toInt) ∨ ((σ.1 1).toInt ≤ y1.toInt ∧ r15.toInt = 0)) (c16 : r15.toInt = 32) (ex55 : x55 = y1 + (1 : Int32)) (tx55 : x55.toInt = y1.toInt + 1) : 0 ≤ x55.toInt ∧ x55.toInt ≤ (σ.1 1).toInt ∧ 0 ≤ n2.toInt ∧ n2.toInt ≤ x55.toInt ∧ TKok F3 G5 F6 n2.toInt := by
  have q1 : (1 : Int32).toInt = 1 := by decide +kernel
  ((try and_intros) <;> first | assumption | omega | (subst_vars; omega) | trivial)
-- meas@7 @7
theorem v_cut_24 (σ : RS) (y1 : Int32) (n2 : Int32) (F3 : (Nat → Int32)) (G5 : (Nat → Int64)) (F6 : (Nat → Int32)) (r15 : Int32) (x55 : Int32) (hpre_0 : 0 ≤ (σ.1 1).toInt) (hpre_1 : (σ.1 1).toInt ≤ 40) (hi7_0 : 0 ≤ y1.toInt) (hi7_1 : y1.toInt ≤ (σ.1 1).toInt) (hi7_2 : 0 ≤ n2.toInt) (hi7_3 : n2.toInt ≤ y1.toInt) (hi7_4 : TKok F3 G5 F6 n2.toInt) (c9 : y1.toInt < (σ.1 1).toInt) (hr15 : (y1.toInt < (σ.1 1).toInt ∧ r15.toInt = ((σ.2.1 2) y1.toNatClampNeg).toInt) ∨ ((σ.1 1).toInt ≤ y1.toInt ∧ r15.toInt = 0)) (c16 : r15.toInt = 32) (ex55 : x55 = y1 + (1 : Int32)) (tx55 : x55.toInt = y1.toInt + 1) : ((σ.1 1).toInt - x55.toInt).toNat < ((σ.1 1).toInt - y1.toInt).toNat := by
  have q1 : (1 : Int32).toInt = 1 := by decide +kernel
  ((try and_intros) <;> first | assumption | omega | (subst_vars; omega) | trivial)
set_option maxHeartbeats 4000000 in
set_option maxRecDepth 100000 in
theorem L_cut_7_1 {p : Program} {e : Env} {s : State} {m : MethodId} {below : List Frame} {meth : Method} {c : Code} (l : Launch) (D : va_G) (cy : Nat → ClassId) (sz0 : Nat) (sa : Nat → Nat) (ad : Nat → Nat) (sz : Nat) (σ : RS) (C : RC p s m #[.ref (ad 0)] meth c cX12_cut 2 none D cy sz0 sa ad (AR cy ad sz)) (hpre_0 : 0 ≤ (σ.1 1).toInt) (hpre_1 : (σ.1 1).toInt ≤ 40) : ∀ (n : Nat) (y1 : Int32) (n2 : Int32) (F3 : (Nat → Int32)) (F4 : (Nat → Int32)) (G5 : (Nat → Int64)) (F6 : (Nat → Int32)) (n7 : Int32) (n8 : Int32) (H : Heap) (locs : List Loc) (ls : Array Slot), ((σ.1 1).toInt - y1.toInt).toNat < n → (0 ≤ y1.toInt ∧ y1.toInt ≤ (σ.1 1).toInt ∧ 0 ≤ n2.toInt ∧ n2.toInt ≤ y1.toInt ∧ TKok F3 G5 F6 n2.toInt) → RP D cy ad (rS (rS (rA (rJ (rA (rA (rS (rS σ 3 (0 : Int32)) 3 n2) 4 F3) 5 F4) 6 G5) 7 F6) 8 n7) 9 n8) H → va_S (AR cy ad sz) s.heap H locs → lv_has ls 2 [(1, .int y1), (0, .ref (ad 0))] → W p l e (headSpec (Cond.code yX12_cut cX12_cut 2 none :: GWm) ({ frames := 3, cells := 0, slots := 0, locals := 68 })).room s m #[.ref (ad 0)] below meth c H locs 0 0 (MQ below (va_Qv (fun (u : Int32 × (Nat → Int32) × (Nat → Int32) × (Nat → Int64) × (Nat → Int32) × Int32 × Int32) => 1 ≤ u.1.toInt ∧ u.1.toInt ≤ (σ.1 1).toInt + 1 ∧ TKok u.2.1 u.2.2.2.1 u.2.2.2.2.1 (u.1.toInt - 1) ∧ (u.2.1 (u.1.toInt - 1).toNat).toInt = 0) (fun (u : Int32 × (Nat → Int32) × (Nat → Int32) × (Nat → Int64) × (Nat → Int32) × Int32 × Int32) (t : State) => RP D cy ad (rS (rS (rA (rJ (rA (rA (rS σ 3 u.1) 4 u.2.1) 5 u.2.2.1) 6 u.2.2.2.1) 7 u.2.2.2.2.1) 8 u.2.2.2.2.2.1) 9 u.2.2.2.2.2.2) t.heap) (AR cy ad sz)) #[.ref (ad 0)] s 0 0 (AR cy ad sz)) (F0 m 7 ls []) := by
  have hx := C.1
  have hb := C.2.1
  have hown := C.2.2.2.2.1
  have hw := C.2.2.2.2.2.1
  intro n
  induction n with
  | zero => intro y1 n2 F3 F4 G5 F6 n7 n8 H locs ls hn; exact absurd hn (Nat.not_lt_zero _)
  | succ n ih7 =>
    intro y1 n2 F3 F4 G5 F6 n7 n8 H locs ls hn7 hi7 hP hS hl
    obtain ⟨hi7_0, hi7_1, hi7_2, hi7_3, hi7_4⟩ := hi7
    refine lv_iload_n hx hb dX12_cut_7 rfl (lv_at hl 0 rfl) ?_
    refine lv_aload_n hx hb dX12_cut_8 rfl (lv_at hl 1 rfl) ?_
    refine rg_1 (v := (σ.1 1)) C hP rfl wm_3 dX12_cut_9 ?_
    refine lv_icmp_ge (tgt := 97) hx hb dX12_cut_12 (by decide) (fun c9 => ?_) (fun c9 => ?_)
    · have c9 : (σ.1 1).toInt ≤ y1.toInt := by have h := z_le c9; exact h
      refine lv_aload_n hx hb dX12_cut_97 rfl (lv_at hl 1 rfl) ?_
      refine lv_iconst (v := 0) hx hb dX12_cut_98 (by decide +kernel) ?_
      refine lv_aload_n hx hb dX12_cut_99 rfl (lv_at hl 1 rfl) ?_
      refine rg_1 (v := (σ.1 1)) C hP rfl wm_3 dX12_cut_100 ?_
      refine lv_lconst (v := 0) hx hb dX12_cut_103 rfl ?_
      refine r_callVv (As := [.int 0, .int (σ.1 1), .long 0]) (rest := []) C hP hS hl.1 ⟨Nat.zero_le _, Nat.zero_le _⟩ (M_add l D cy sz0 sa ad (rS (rS (rA (rJ (rA (rA (rS (rS σ 3 (0 : Int32)) 3 n2) 4 F3) 5 F4) 6 G5) 7 F6) 8 n7) 9 n8) H.size (0 : Int32) (σ.1 1) (0 : Int64) (v_cut_2 σ y1 n2 F3 G5 F6 hpre_0 hpre_1 hi7_0 hi7_1 hi7_2 hi7_3 hi7_4 c9)) (n := 3) ⟨wm_30, wm_15, by decide +kernel⟩ ⟨wm_31, wm_32, wm_10⟩ rfl rfl (lv_room (Nat.le_of_ble_eq_true rfl)) ⟨Nat.le_of_ble_eq_true rfl, Nat.le_of_ble_eq_true rfl⟩ dX12_cut_104 (fun u H locs hr10 hP hS => ?_)
      obtain ⟨n11, rfl⟩ : ∃ z, z = u := ⟨_, rfl⟩
      have hr10 : n11.toInt = n2.toInt + 1 := hr10
      have hP : RP D cy ad (rS (rA (rJ (rA (rA (rS (rS (rA (rJ (rA (rA (rS (rS σ 3 (0 : Int32)) 3 n2) 4 F3) 5 F4) 6 G5) 7 F6) 8 n7) 9 n8) 4 (upd F3 n2.toNatClampNeg (0 : Int32))) 5 (upd F4 n2.toNatClampNeg (σ.1 1))) 6 (vp_updL G5 n2.toNatClampNeg (0 : Int64))) 7 (upd F6 n2.toNatClampNeg (0 : Int32))) 3 n11) H := hP
      have hP : RP D cy ad (rS (rS (rA (rJ (rA (rA (rS σ 3 n11) 4 (upd F3 n2.toNatClampNeg (0 : Int32))) 5 (upd F4 n2.toNatClampNeg (σ.1 1))) 6 (vp_updL G5 n2.toNatClampNeg (0 : Int64))) 7 (upd F6 n2.toNatClampNeg (0 : Int32))) 8 n7) 9 n8) H := hP
      exact r_retv C ⟨n11, (upd F3 n2.toNatClampNeg (0 : Int32)), (upd F4 n2.toNatClampNeg (σ.1 1)), (vp_updL G5 n2.toNatClampNeg (0 : Int64)), (upd F6 n2.toNatClampNeg (0 : Int32)), n7, n8⟩ (v_cut_3 σ y1 n2 F3 G5 F6 n11 hpre_0 hpre_1 hi7_0 hi7_1 hi7_2 hi7_3 hi7_4 c9 hr10) hP hS dX12_cut_107
    · have c9 : y1.toInt < (σ.1 1).toInt := by have h := z_nle c9; exact h
      refine lv_aload_n hx hb dX12_cut_15 rfl (lv_at hl 1 rfl) ?_
      refine rg_8 (v := n7) C hP rfl wm_13 dX12_cut_16 ?_
      refine lv_if_ne (tgt := 97) hx hb dX12_cut_19 (by decide) (fun c12 => ?_) (fun c12 => ?_)
      · have c12 : ¬ n7.toInt = 0 := by have h := z_ne c12; rw [show (0 : Int32).toInt = 0 from by decide +kernel] at h; exact h
        refine lv_aload_n hx hb dX12_cut_97 rfl (lv_at hl 1 rfl) ?_
        refine lv_iconst (v := 0) hx hb dX12_cut_98 (by decide +kernel) ?_
        refine lv_aload_n hx hb dX12_cut_99 rfl (lv_at hl 1 rfl) ?_
        refine rg_1 (v := (σ.1 1)) C hP rfl wm_3 dX12_cut_100 ?_
        refine lv_lconst (v := 0) hx hb dX12_cut_103 rfl ?_
        refine r_callVv (As := [.int 0, .int (σ.1 1), .long 0]) (rest := []) C hP hS hl.1 ⟨Nat.zero_le _, Nat.zero_le _⟩ (M_add l D cy sz0 sa ad (rS (rS (rA (rJ (rA (rA (rS (rS σ 3 (0 : Int32)) 3 n2) 4 F3) 5 F4) 6 G5) 7 F6) 8 n7) 9 n8) H.size (0 : Int32) (σ.1 1) (0 : Int64) (v_cut_4 σ y1 n2 F3 G5 F6 hpre_0 hpre_1 hi7_0 hi7_1 hi7_2 hi7_3 hi7_4 c9)) (n := 3) ⟨wm_30, wm_15, by decide +kernel⟩ ⟨wm_31, wm_32, wm_10⟩ rfl rfl (lv_room (Nat.le_of_ble_eq_true rfl)) ⟨Nat.le_of_ble_eq_true rfl, Nat.le_of_ble_eq_true rfl⟩ dX12_cut_104 (fun u H locs hr13 hP hS => ?_)
        obtain ⟨n14, rfl⟩ : ∃ z, z = u := ⟨_, rfl⟩
        have hr13 : n14.toInt = n2.toInt + 1 := hr13
        have hP : RP D cy ad (rS (rA (rJ (rA (rA (rS (rS (rA (rJ (rA (rA (rS (rS σ 3 (0 : Int32)) 3 n2) 4 F3) 5 F4) 6 G5) 7 F6) 8 n7) 9 n8) 4 (upd F3 n2.toNatClampNeg (0 : Int32))) 5 (upd F4 n2.toNatClampNeg (σ.1 1))) 6 (vp_updL G5 n2.toNatClampNeg (0 : Int64))) 7 (upd F6 n2.toNatClampNeg (0 : Int32))) 3 n14) H := hP
        have hP : RP D cy ad (rS (rS (rA (rJ (rA (rA (rS σ 3 n14) 4 (upd F3 n2.toNatClampNeg (0 : Int32))) 5 (upd F4 n2.toNatClampNeg (σ.1 1))) 6 (vp_updL G5 n2.toNatClampNeg (0 : Int64))) 7 (upd F6 n2.toNatClampNeg (0 : Int32))) 8 n7) 9 n8) H := hP
        exact r_retv C ⟨n14, (upd F3 n2.toNatClampNeg (0 : Int32)), (upd F4 n2.toNatClampNeg (σ.1 1)), (vp_updL G5 n2.toNatClampNeg (0 : Int64)), (upd F6 n2.toNatClampNeg (0 : Int32)), n7, n8⟩ (v_cut_5 σ y1 n2 F3 G5 F6 n14 hpre_0 hpre_1 hi7_0 hi7_1 hi7_2 hi7_3 hi7_4 c9 hr13) hP hS dX12_cut_107
      · have c12 : n7.toInt = 0 := by have h := z_eq c12; rw [show (0 : Int32).toInt = 0 from by decide +kernel] at h; exact h
        refine lv_aload_n hx hb dX12_cut_22 rfl (lv_at hl 1 rfl) ?_
        refine lv_iload_n hx hb dX12_cut_23 rfl (lv_at hl 0 rfl) ?_
        refine r_callVi (As := [.int y1]) (rest := []) C hP hS hl.1 ⟨Nat.zero_le _, Nat.zero_le _⟩ (M_at l D cy sz0 sa ad (rS (rS (rA (rJ (rA (rA (rS (rS σ 3 (0 : Int32)) 3 n2) 4 F3) 5 F4) 6 G5) 7 F6) 8 n7) 9 n8) H.size y1 (v_cut_6 σ y1 n2 F3 G5 F6 hpre_0 hpre_1 hi7_0 hi7_1 hi7_2 hi7_3 hi7_4 c9)) (n := 1) ⟨wm_7, wm_5, by decide +kernel⟩ ⟨wm_8, wm_9, wm_10⟩ rfl rfl (lv_room (Nat.le_of_ble_eq_true rfl)) ⟨Nat.le_of_ble_eq_true rfl, Nat.le_of_ble_eq_true rfl⟩ dX12_cut_24 (fun r15 u H locs hr15 hP hS => ?_)
        have hr15 : (y1.toInt < (σ.1 1).toInt ∧ r15.toInt = ((σ.2.1 2) y1.toNatClampNeg).toInt) ∨ ((σ.1 1).toInt ≤ y1.toInt ∧ r15.toInt = 0) := hr15
        refine lv_bipush (v := 32) hx hb dX12_cut_27 (by decide +kernel) ?_
        refine lv_icmp_ne (tgt := 38) hx hb dX12_cut_29 (by decide) (fun c16 => ?_) (fun c16 => ?_)
        · have c16 : ¬ r15.toInt = 32 := by have h := z_ne c16; rw [show (32 : Int32).toInt = 32 from by decide +kernel] at h; exact h
          refine lv_aload_n hx hb dX12_cut_38 rfl (lv_at hl 1 rfl) ?_
          refine lv_iload_n hx hb dX12_cut_39 rfl (lv_at hl 0 rfl) ?_
          refine r_callVi (As := [.int y1]) (rest := []) C hP hS hl.1 ⟨Nat.zero_le _, Nat.zero_le _⟩ (M_digit l D cy sz0 sa ad (rS (rS (rA (rJ (rA (rA (rS (rS σ 3 (0 : Int32)) 3 n2) 4 F3) 5 F4) 6 G5) 7 F6) 8 n7) 9 n8) H.size y1 (v_cut_7 σ y1 n2 F3 G5 F6 r15 hpre_0 hpre_1 hi7_0 hi7_1 hi7_2 hi7_3 hi7_4 c9 hr15 c16)) (n := 1) ⟨wm_24, wm_6, by decide +kernel⟩ ⟨wm_25, wm_26, wm_10⟩ rfl rfl (lv_room (Nat.le_of_ble_eq_true rfl)) ⟨Nat.le_of_ble_eq_true rfl, Nat.le_of_ble_eq_true rfl⟩ dX12_cut_40 (fun r17 u H locs hr17 hP hS => ?_)
          have hr17 : (r17.toInt = 0 ∧ ¬ ((y1.toInt < (σ.1 1).toInt ∧ 48 ≤ ((σ.2.1 2) y1.toNatClampNeg).toInt ∧ ((σ.2.1 2) y1.toNatClampNeg).toInt ≤ 57))) ∨ (r17.toInt = 1 ∧ ((y1.toInt < (σ.1 1).toInt ∧ 48 ≤ ((σ.2.1 2) y1.toNatClampNeg).toInt ∧ ((σ.2.1 2) y1.toNatClampNeg).toInt ≤ 57))) := hr17
          refine lv_if_eq (tgt := 54) hx hb dX12_cut_43 (by decide) (fun c18 => ?_) (fun c18 => ?_)
          · have c18 : r17.toInt = 0 := by have h := z_eq c18; rw [show (0 : Int32).toInt = 0 from by decide +kernel] at h; exact h
            have hr17 : ¬ ((y1.toInt < (σ.1 1).toInt ∧ 48 ≤ ((σ.2.1 2) y1.toNatClampNeg).toInt ∧ ((σ.2.1 2) y1.toNatClampNeg).toInt ≤ 57)) := bq_f hr17 c18
            refine lv_aload_n hx hb dX12_cut_54 rfl (lv_at hl 1 rfl) ?_
            refine lv_iload_n hx hb dX12_cut_55 rfl (lv_at hl 0 rfl) ?_
            refine r_callVi (As := [.int y1]) (rest := []) C hP hS hl.1 ⟨Nat.zero_le _, Nat.zero_le _⟩ (M_lower l D cy sz0 sa ad (rS (rS (rA (rJ (rA (rA (rS (rS σ 3 (0 : Int32)) 3 n2) 4 F3) 5 F4) 6 G5) 7 F6) 8 n7) 9 n8) H.size y1 (v_cut_8 σ y1 n2 F3 G5 F6 r15 hpre_0 hpre_1 hi7_0 hi7_1 hi7_2 hi7_3 hi7_4 c9 hr15 c16 hr17)) (n := 1) ⟨wm_36, wm_11, by decide +kernel⟩ ⟨wm_37, wm_38, wm_10⟩ rfl rfl (lv_room (Nat.le_of_ble_eq_true rfl)) ⟨Nat.le_of_ble_eq_true rfl, Nat.le_of_ble_eq_true rfl⟩ dX12_cut_56 (fun r19 u H locs hr19 hP hS => ?_)
            have hr19 : (r19.toInt = 0 ∧ ¬ ((y1.toInt < (σ.1 1).toInt ∧ 97 ≤ ((σ.2.1 2) y1.toNatClampNeg).toInt ∧ ((σ.2.1 2) y1.toNatClampNeg).toInt ≤ 122))) ∨ (r19.toInt = 1 ∧ ((y1.toInt < (σ.1 1).toInt ∧ 97 ≤ ((σ.2.1 2) y1.toNatClampNeg).toInt ∧ ((σ.2.1 2) y1.toNatClampNeg).toInt ≤ 122))) := hr19
            refine lv_if_eq (tgt := 70) hx hb dX12_cut_59 (by decide) (fun c20 => ?_) (fun c20 => ?_)
            · have c20 : r19.toInt = 0 := by have h := z_eq c20; rw [show (0 : Int32).toInt = 0 from by decide +kernel] at h; exact h
              have hr19 : ¬ ((y1.toInt < (σ.1 1).toInt ∧ 97 ≤ ((σ.2.1 2) y1.toNatClampNeg).toInt ∧ ((σ.2.1 2) y1.toNatClampNeg).toInt ≤ 122)) := bq_f hr19 c20
              refine lv_aload_n hx hb dX12_cut_70 rfl (lv_at hl 1 rfl) ?_
              refine lv_iload_n hx hb dX12_cut_71 rfl (lv_at hl 0 rfl) ?_
              refine r_callVi (As := [.int y1]) (rest := []) C hP hS hl.1 ⟨Nat.zero_le _, Nat.zero_le _⟩ (M_at l D cy sz0 sa ad (rS (rS (rA (rJ (rA (rA (rS (rS σ 3 (0 : Int32)) 3 n2) 4 F3) 5 F4) 6 G5) 7 F6) 8 n7) 9 n8) H.size y1 (v_cut_9 σ y1 n2 F3 G5 F6 r15 hpre_0 hpre_1 hi7_0 hi7_1 hi7_2 hi7_3 hi7_4 c9 hr15 c16 hr17 hr19)) (n := 1) ⟨wm_7, wm_5, by decide +kernel⟩ ⟨wm_8, wm_9, wm_10⟩ rfl rfl (lv_room (Nat.le_of_ble_eq_true rfl)) ⟨Nat.le_of_ble_eq_true rfl, Nat.le_of_ble_eq_true rfl⟩ dX12_cut_72 (fun r21 u H locs hr21 hP hS => ?_)
              have hr21 : (y1.toInt < (σ.1 1).toInt ∧ r21.toInt = ((σ.2.1 2) y1.toNatClampNeg).toInt) ∨ ((σ.1 1).toInt ≤ y1.toInt ∧ r21.toInt = 0) := hr21
              refine lv_bipush (v := 39) hx hb dX12_cut_75 (by decide +kernel) ?_
              refine lv_icmp_ne (tgt := 88) hx hb dX12_cut_77 (by decide) (fun c22 => ?_) (fun c22 => ?_)
              · have c22 : ¬ r21.toInt = 39 := by have h := z_ne c22; rw [show (39 : Int32).toInt = 39 from by decide +kernel] at h; exact h
                refine lv_aload_n hx hb dX12_cut_88 rfl (lv_at hl 1 rfl) ?_
                refine lv_iload_n hx hb dX12_cut_89 rfl (lv_at hl 0 rfl) ?_
                refine r_callVi (As := [.int y1]) (rest := []) C hP hS hl.1 ⟨Nat.zero_le _, Nat.zero_le _⟩ (M_sign l D cy sz0 sa ad (rS (rS (rA (rJ (rA (rA (rS (rS σ 3 (0 : Int32)) 3 n2) 4 F3) 5 F4) 6 G5) 7 F6) 8 n7) 9 n8) H.size y1 (v_cut_10 σ y1 n2 F3 G5 F6 r15 r21 hpre_0 hpre_1 hi7_0 hi7_1 hi7_2 hi7_3 hi7_4 c9 hr15 c16 hr17 hr19 hr21 c22)) (n := 1) ⟨wm_58, wm_42, by decide +kernel⟩ ⟨wm_59, wm_60, wm_10⟩ rfl rfl (lv_room (Nat.le_of_ble_eq_true rfl)) ⟨Nat.le_of_ble_eq_true rfl, Nat.le_of_ble_eq_true rfl⟩ dX12_cut_90 (fun r23 u H locs hr23 hP hS => ?_)
                obtain ⟨n24, F25, F26, G27, F28, n29, n30⟩ := u
                have hr23 : y1.toInt < r23.toInt ∧ r23.toInt ≤ (σ.1 1).toInt ∧ 0 ≤ n24.toInt ∧ n24.toInt ≤ r23.toInt ∧ TKok F25 G27 F28 n24.toInt := hr23
                obtain ⟨hr23_0, hr23_1, hr23_2, hr23_3, hr23_4⟩ := hr23
                have hP : RP D cy ad (rS (rS (rA (rJ (rA (rA (rS (rS (rS (rA (rJ (rA (rA (rS (rS σ 3 (0 : Int32)) 3 n2) 4 F3) 5 F4) 6 G5) 7 F6) 8 n7) 9 n8) 3 n24) 4 F25) 5 F26) 6 G27) 7 F28) 8 n29) 9 n30) H := hP
                refine lv_istore_n (lv' := [(1, .int r23), (0, .ref (ad 0))]) hx hb dX12_cut_93 rfl hl (by decide) rfl (fun ls hl => ?_)
                refine lv_goto (tgt := 7) hx hb dX12_cut_94 (by decide) ?_
                have hP : RP D cy ad (rS (rS (rA (rJ (rA (rA (rS (rS σ 3 (0 : Int32)) 3 n24) 4 F25) 5 F26) 6 G27) 7 F28) 8 n29) 9 n30) H := hP
                exact ih7 r23 n24 F25 F26 G27 F28 n29 n30 _ _ _ (Nat.lt_of_lt_of_le (v_cut_12 σ y1 n2 F3 G5 F6 r15 r21 n24 F25 G27 F28 r23 hpre_0 hpre_1 hi7_0 hi7_1 hi7_2 hi7_3 hi7_4 c9 hr15 c16 hr17 hr19 hr21 c22 hr23_0 hr23_1 hr23_2 hr23_3 hr23_4) (Nat.le_of_lt_succ hn7)) (v_cut_11 σ y1 n2 F3 G5 F6 r15 r21 n24 F25 G27 F28 r23 hpre_0 hpre_1 hi7_0 hi7_1 hi7_2 hi7_3 hi7_4 c9 hr15 c16 hr17 hr19 hr21 c22 hr23_0 hr23_1 hr23_2 hr23_3 hr23_4) hP hS (lv_sub hl [0, 1] rfl)
              · have c22 : r21.toInt = 39 := by have h := z_eq c22; rw [show (39 : Int32).toInt = 39 from by decide +kernel] at h; exact h
                refine lv_aload_n hx hb dX12_cut_80 rfl (lv_at hl 1 rfl) ?_
                refine lv_iload_n hx hb dX12_cut_81 rfl (lv_at hl 0 rfl) ?_
                refine r_callVi (As := [.int y1]) (rest := []) C hP hS hl.1 ⟨Nat.zero_le _, Nat.zero_le _⟩ (M_quoted l D cy sz0 sa ad (rS (rS (rA (rJ (rA (rA (rS (rS σ 3 (0 : Int32)) 3 n2) 4 F3) 5 F4) 6 G5) 7 F6) 8 n7) 9 n8) H.size y1 (v_cut_13 σ y1 n2 F3 G5 F6 r15 r21 hpre_0 hpre_1 hi7_0 hi7_1 hi7_2 hi7_3 hi7_4 c9 hr15 c16 hr17 hr19 hr21 c22)) (n := 1) ⟨wm_55, wm_39, by decide +kernel⟩ ⟨wm_56, wm_57, wm_10⟩ rfl rfl (lv_room (Nat.le_of_ble_eq_true rfl)) ⟨Nat.le_of_ble_eq_true rfl, Nat.le_of_ble_eq_true rfl⟩ dX12_cut_82 (fun r31 u H locs hr31 hP hS => ?_)
                obtain ⟨n32, F33, F34, G35, F36, n37, n38⟩ := u
                have hr31 : y1.toInt < r31.toInt ∧ r31.toInt ≤ (σ.1 1).toInt ∧ 0 ≤ n32.toInt ∧ n32.toInt ≤ r31.toInt ∧ TKok F33 G35 F36 n32.toInt := hr31
                obtain ⟨hr31_0, hr31_1, hr31_2, hr31_3, hr31_4⟩ := hr31
                have hP : RP D cy ad (rS (rS (rA (rJ (rA (rA (rS (rS (rS (rA (rJ (rA (rA (rS (rS σ 3 (0 : Int32)) 3 n2) 4 F3) 5 F4) 6 G5) 7 F6) 8 n7) 9 n8) 3 n32) 4 F33) 5 F34) 6 G35) 7 F36) 8 n37) 9 n38) H := hP
                refine lv_goto (tgt := 93) hx hb dX12_cut_85 (by decide) ?_
                refine lv_istore_n (lv' := [(1, .int r31), (0, .ref (ad 0))]) hx hb dX12_cut_93 rfl hl (by decide) rfl (fun ls hl => ?_)
                refine lv_goto (tgt := 7) hx hb dX12_cut_94 (by decide) ?_
                have hP : RP D cy ad (rS (rS (rA (rJ (rA (rA (rS (rS σ 3 (0 : Int32)) 3 n32) 4 F33) 5 F34) 6 G35) 7 F36) 8 n37) 9 n38) H := hP
                exact ih7 r31 n32 F33 F34 G35 F36 n37 n38 _ _ _ (Nat.lt_of_lt_of_le (v_cut_15 σ y1 n2 F3 G5 F6 r15 r21 n32 F33 G35 F36 r31 hpre_0 hpre_1 hi7_0 hi7_1 hi7_2 hi7_3 hi7_4 c9 hr15 c16 hr17 hr19 hr21 c22 hr31_0 hr31_1 hr31_2 hr31_3 hr31_4) (Nat.le_of_lt_succ hn7)) (v_cut_14 σ y1 n2 F3 G5 F6 r15 r21 n32 F33 G35 F36 r31 hpre_0 hpre_1 hi7_0 hi7_1 hi7_2 hi7_3 hi7_4 c9 hr15 c16 hr17 hr19 hr21 c22 hr31_0 hr31_1 hr31_2 hr31_3 hr31_4) hP hS (lv_sub hl [0, 1] rfl)
            · have c20 : ¬ r19.toInt = 0 := by have h := z_ne c20; rw [show (0 : Int32).toInt = 0 from by decide +kernel] at h; exact h
              have hr19 : (y1.toInt < (σ.1 1).toInt ∧ 97 ≤ ((σ.2.1 2) y1.toNatClampNeg).toInt ∧ ((σ.2.1 2) y1.toNatClampNeg).toInt ≤ 122) := bq_t hr19 c20
              obtain ⟨hr19_0, hr19_1, hr19_2⟩ := hr19
              refine lv_aload_n hx hb dX12_cut_62 rfl (lv_at hl 1 rfl) ?_
              refine lv_iload_n hx hb dX12_cut_63 rfl (lv_at hl 0 rfl) ?_
              refine r_callVi (As := [.int y1]) (rest := []) C hP hS hl.1 ⟨Nat.zero_le _, Nat.zero_le _⟩ (M_name l D cy sz0 sa ad (rS (rS (rA (rJ (rA (rA (rS (rS σ 3 (0 : Int32)) 3 n2) 4 F3) 5 F4) 6 G5) 7 F6) 8 n7) 9 n8) H.size y1 (v_cut_16 σ y1 n2 F3 G5 F6 r15 hpre_0 hpre_1 hi7_0 hi7_1 hi7_2 hi7_3 hi7_4 c9 hr15 c16 hr17 hr19_0 hr19_1 hr19_2)) (n := 1) ⟨wm_52, wm_33, by decide +kernel⟩ ⟨wm_53, wm_54, wm_10⟩ rfl rfl (lv_room (Nat.le_of_ble_eq_true rfl)) ⟨Nat.le_of_ble_eq_true rfl, Nat.le_of_ble_eq_true rfl⟩ dX12_cut_64 (fun r39 u H locs hr39 hP hS => ?_)
              obtain ⟨n40, F41, F42, G43, F44, n45, n46⟩ := u
              have hr39 : y1.toInt < r39.toInt ∧ r39.toInt ≤ (σ.1 1).toInt ∧ 0 ≤ n40.toInt ∧ n40.toInt ≤ r39.toInt ∧ TKok F41 G43 F44 n40.toInt := hr39
              obtain ⟨hr39_0, hr39_1, hr39_2, hr39_3, hr39_4⟩ := hr39
              have hP : RP D cy ad (rS (rS (rA (rJ (rA (rA (rS (rS (rS (rA (rJ (rA (rA (rS (rS σ 3 (0 : Int32)) 3 n2) 4 F3) 5 F4) 6 G5) 7 F6) 8 n7) 9 n8) 3 n40) 4 F41) 5 F42) 6 G43) 7 F44) 8 n45) 9 n46) H := hP
              refine lv_goto (tgt := 93) hx hb dX12_cut_67 (by decide) ?_
              refine lv_istore_n (lv' := [(1, .int r39), (0, .ref (ad 0))]) hx hb dX12_cut_93 rfl hl (by decide) rfl (fun ls hl => ?_)
              refine lv_goto (tgt := 7) hx hb dX12_cut_94 (by decide) ?_
              have hP : RP D cy ad (rS (rS (rA (rJ (rA (rA (rS (rS σ 3 (0 : Int32)) 3 n40) 4 F41) 5 F42) 6 G43) 7 F44) 8 n45) 9 n46) H := hP
              exact ih7 r39 n40 F41 F42 G43 F44 n45 n46 _ _ _ (Nat.lt_of_lt_of_le (v_cut_18 σ y1 n2 F3 G5 F6 r15 n40 F41 G43 F44 r39 hpre_0 hpre_1 hi7_0 hi7_1 hi7_2 hi7_3 hi7_4 c9 hr15 c16 hr17 hr19_0 hr19_1 hr19_2 hr39_0 hr39_1 hr39_2 hr39_3 hr39_4) (Nat.le_of_lt_succ hn7)) (v_cut_17 σ y1 n2 F3 G5 F6 r15 n40 F41 G43 F44 r39 hpre_0 hpre_1 hi7_0 hi7_1 hi7_2 hi7_3 hi7_4 c9 hr15 c16 hr17 hr19_0 hr19_1 hr19_2 hr39_0 hr39_1 hr39_2 hr39_3 hr39_4) hP hS (lv_sub hl [0, 1] rfl)
          · have c18 : ¬ r17.toInt = 0 := by have h := z_ne c18; rw [show (0 : Int32).toInt = 0 from by decide +kernel] at h; exact h
            have hr17 : (y1.toInt < (σ.1 1).toInt ∧ 48 ≤ ((σ.2.1 2) y1.toNatClampNeg).toInt ∧ ((σ.2.1 2) y1.toNatClampNeg).toInt ≤ 57) := bq_t hr17 c18
            obtain ⟨hr17_0, hr17_1, hr17_2⟩ := hr17
            refine lv_aload_n hx hb dX12_cut_46 rfl (lv_at hl 1 rfl) ?_
            refine lv_iload_n hx hb dX12_cut_47 rfl (lv_at hl 0 rfl) ?_
            refine r_callVi (As := [.int y1]) (rest := []) C hP hS hl.1 ⟨Nat.zero_le _, Nat.zero_le _⟩ (M_number l D cy sz0 sa ad (rS (rS (rA (rJ (rA (rA (rS (rS σ 3 (0 : Int32)) 3 n2) 4 F3) 5 F4) 6 G5) 7 F6) 8 n7) 9 n8) H.size y1 (v_cut_19 σ y1 n2 F3 G5 F6 r15 hpre_0 hpre_1 hi7_0 hi7_1 hi7_2 hi7_3 hi7_4 c9 hr15 c16 hr17_0 hr17_1 hr17_2)) (n := 1) ⟨wm_49, wm_21, by decide +kernel⟩ ⟨wm_50, wm_51, wm_10⟩ rfl rfl (lv_room (Nat.le_of_ble_eq_true rfl)) ⟨Nat.le_of_ble_eq_true rfl, Nat.le_of_ble_eq_true rfl⟩ dX12_cut_48 (fun r47 u H locs hr47 hP hS => ?_)
            obtain ⟨n48, F49, F50, G51, F52, n53, n54⟩ := u
            have hr47 : y1.toInt < r47.toInt ∧ r47.toInt ≤ (σ.1 1).toInt ∧ 0 ≤ n48.toInt ∧ n48.toInt ≤ r47.toInt ∧ TKok F49 G51 F52 n48.toInt := hr47
            obtain ⟨hr47_0, hr47_1, hr47_2, hr47_3, hr47_4⟩ := hr47
            have hP : RP D cy ad (rS (rS (rA (rJ (rA (rA (rS (rS (rS (rA (rJ (rA (rA (rS (rS σ 3 (0 : Int32)) 3 n2) 4 F3) 5 F4) 6 G5) 7 F6) 8 n7) 9 n8) 3 n48) 4 F49) 5 F50) 6 G51) 7 F52) 8 n53) 9 n54) H := hP
            refine lv_goto (tgt := 93) hx hb dX12_cut_51 (by decide) ?_
            refine lv_istore_n (lv' := [(1, .int r47), (0, .ref (ad 0))]) hx hb dX12_cut_93 rfl hl (by decide) rfl (fun ls hl => ?_)
            refine lv_goto (tgt := 7) hx hb dX12_cut_94 (by decide) ?_
            have hP : RP D cy ad (rS (rS (rA (rJ (rA (rA (rS (rS σ 3 (0 : Int32)) 3 n48) 4 F49) 5 F50) 6 G51) 7 F52) 8 n53) 9 n54) H := hP
            exact ih7 r47 n48 F49 F50 G51 F52 n53 n54 _ _ _ (Nat.lt_of_lt_of_le (v_cut_21 σ y1 n2 F3 G5 F6 r15 n48 F49 G51 F52 r47 hpre_0 hpre_1 hi7_0 hi7_1 hi7_2 hi7_3 hi7_4 c9 hr15 c16 hr17_0 hr17_1 hr17_2 hr47_0 hr47_1 hr47_2 hr47_3 hr47_4) (Nat.le_of_lt_succ hn7)) (v_cut_20 σ y1 n2 F3 G5 F6 r15 n48 F49 G51 F52 r47 hpre_0 hpre_1 hi7_0 hi7_1 hi7_2 hi7_3 hi7_4 c9 hr15 c16 hr17_0 hr17_1 hr17_2 hr47_0 hr47_1 hr47_2 hr47_3 hr47_4) hP hS (lv_sub hl [0, 1] rfl)
        · have c16 : r15.toInt = 32 := by have h := z_eq c16; rw [show (32 : Int32).toInt = 32 from by decide +kernel] at h; exact h
          obtain ⟨x55, ex55⟩ : ∃ y : Int32, y = y1 + (1 : Int32) := ⟨_, rfl⟩
          have tx55 : x55.toInt = y1.toInt + 1 := (v_cut_22 σ y1 n2 F3 G5 F6 r15 x55 hpre_0 hpre_1 hi7_0 hi7_1 hi7_2 hi7_3 hi7_4 c9 hr15 c16 ex55)
          refine lv_iinc (v := x55) (lv' := [(1, .int x55), (0, .ref (ad 0))]) hx hb dX12_cut_32 hl (k := 0) rfl (by rw [ex55]; rfl) (by decide) rfl (fun ls hl => ?_)
          refine lv_goto (tgt := 7) hx hb dX12_cut_35 (by decide) ?_
          exact ih7 x55 n2 F3 F4 G5 F6 n7 n8 _ _ _ (Nat.lt_of_lt_of_le (v_cut_24 σ y1 n2 F3 G5 F6 r15 x55 hpre_0 hpre_1 hi7_0 hi7_1 hi7_2 hi7_3 hi7_4 c9 hr15 c16 ex55 tx55) (Nat.le_of_lt_succ hn7)) (v_cut_23 σ y1 n2 F3 G5 F6 r15 x55 hpre_0 hpre_1 hi7_0 hi7_1 hi7_2 hi7_3 hi7_4 c9 hr15 c16 ex55 tx55) hP hS (lv_sub hl [0, 1] rfl)
set_option maxHeartbeats 4000000 in
set_option maxRecDepth 100000 in
theorem M_cut (l : Launch) (D : va_G) (cy : Nat → ClassId) (sz0 : Nat) (sa : Nat → Nat) (ad : Nat → Nat) (σ : RS) (sz : Nat)  (hpre : 0 ≤ (σ.1 1).toInt ∧ (σ.1 1).toInt ≤ 40) : Met l yX12_cut (Cond.code yX12_cut cX12_cut 2 none :: GWm) ({ frames := 3, cells := 0, slots := 0, locals := 68 }) (PcR D cy sz0 sa ad [.ref (ad 0)] σ sz) (va_Qv (fun (u : Int32 × (Nat → Int32) × (Nat → Int32) × (Nat → Int64) × (Nat → Int32) × Int32 × Int32) => 1 ≤ u.1.toInt ∧ u.1.toInt ≤ (σ.1 1).toInt + 1 ∧ TKok u.2.1 u.2.2.2.1 u.2.2.2.2.1 (u.1.toInt - 1) ∧ (u.2.1 (u.1.toInt - 1).toNat).toInt = 0) (fun (u : Int32 × (Nat → Int32) × (Nat → Int32) × (Nat → Int64) × (Nat → Int32) × Int32 × Int32) (t : State) => RP D cy ad (rS (rS (rA (rJ (rA (rA (rS σ 3 u.1) 4 u.2.1) 5 u.2.2.1) 6 u.2.2.2.1) 7 u.2.2.2.2.1) 8 u.2.2.2.2.2.1) 9 u.2.2.2.2.2.2) t.heap) (AR cy ad sz)) 0 0 (AR cy ad sz) := by
  refine RM_of (loc0 := [(0, .ref (ad 0))]) (by decide) rfl rfl (Nat.le_of_ble_eq_true rfl) ?_
  intro p e s m below meth c ls hsz C hP hS hl
  have hx := C.1
  have hb := C.2.1
  have hown := C.2.2.2.2.1
  have hw := C.2.2.2.2.2.1
  clear hsz
  obtain ⟨hpre_0, hpre_1⟩ := hpre
  refine lv_aload_n hx hb dX12_cut_0 rfl (lv_at hl 0 rfl) ?_
  refine lv_iconst (v := 0) hx hb dX12_cut_1 (by decide +kernel) ?_
  refine rp_3 C hP hS wm_17 dX12_cut_2 (fun H locs hP hS => ?_)
  refine lv_iconst (v := 0) hx hb dX12_cut_5 (by decide +kernel) ?_
  refine lv_istore_n (lv' := [(1, .int 0), (0, .ref (ad 0))]) hx hb dX12_cut_6 rfl hl (by decide) rfl (fun ls hl => ?_)
  have hP : RP D cy ad (rS (rS (rA (rJ (rA (rA (rS (rS σ 3 (0 : Int32)) 3 (0 : Int32)) 4 (σ.2.1 4)) 5 (σ.2.1 5)) 6 (σ.2.2.1 6)) 7 (σ.2.1 7)) 8 (σ.1 8)) 9 (σ.1 9)) H := hP
  exact L_cut_7_1 l D cy sz0 sa ad sz σ C hpre_0 hpre_1 (((σ.1 1).toInt - (0 : Int32).toInt).toNat + 1) (0 : Int32) (0 : Int32) (σ.2.1 4) (σ.2.1 5) (σ.2.2.1 6) (σ.2.1 7) (σ.1 8) (σ.1 9) _ _ _ (Nat.lt_succ_self _) (v_cut_1 σ hpre_0 hpre_1) hP hS (lv_sub hl [0, 1] rfl)
