-- slen @42
theorem vX0_asText_1 (n3 : Nat) (len3 : n3 ≤ 40) : n3 ≤ 40 := by
  first | assumption | omega | (subst_vars; omega) | trivial
-- slen @58
theorem vX0_asText_2 (n6 : Nat) (len6 : n6 ≤ 40) : n6 ≤ 40 := by
  first | assumption | omega | (subst_vars; omega) | trivial
-- slen @58
theorem vX0_asText_3 (n7 : Nat) (len7 : n7 ≤ 40) : n7 ≤ 40 := by
  first | assumption | omega | (subst_vars; omega) | trivial
-- pre:J4_setLength_d00df@69 @69
theorem vX0_asText_4   : (0 : Int32).toInt = 0 := by
  have q0 : (0 : Int32).toInt = 0 := by decide +kernel
  first | assumption | omega | (subst_vars; omega) | trivial
-- pre:J4_append_bf812@97 @97
theorem vX0_asText_5 (ad : Nat → Nat) (κ : KS) (k0 : Nat) (x1 : Int32) (P9 : PL) (x12 : Int32) (ex1 : oI κ.2.2.2.2 0 k0 = x1) (c2_0 : ¬ x1.toInt = 0) (c2_1 : ¬ x1.toInt = 1) (c2_2 : x1.toInt = 2) (hr8_2 : (oI P9 25 (ad 19)).toInt = 0) (ex12 : oI P9 1 k0 = x12) : (oI P9 25 (ad 19)).toInt ≤ 1 := by
  first | assumption | omega | (subst_vars; omega) | trivial
-- pre:J4_toString_0e30d@105 @105
theorem vX0_asText_6 (ad : Nat → Nat) (κ : KS) (k0 : Nat) (x1 : Int32) (P9 : PL) (x12 : Int32) (P14 : PL) (ex1 : oI κ.2.2.2.2 0 k0 = x1) (c2_0 : ¬ x1.toInt = 0) (c2_1 : ¬ x1.toInt = 1) (c2_2 : x1.toInt = 2) (hr8_2 : (oI P9 25 (ad 19)).toInt = 0) (ex12 : oI P9 1 k0 = x12) (hr13_3_0 : (oI P9 25 (ad 19)).toInt < (oI P14 25 (ad 19)).toInt) (hr13_3_1 : (oI P14 25 (ad 19)).toInt ≤ (oI P9 25 (ad 19)).toInt + 11) : (oI P14 25 (ad 19)).toInt ≤ 40 := by
  first | assumption | omega | (subst_vars; omega) | trivial
-- room @105
theorem vX0_asText_7 (ad : Nat → Nat) (κ : KS) (k0 : Nat) (x1 : Int32) (P9 : PL) (x12 : Int32) (P14 : PL) (ex1 : oI κ.2.2.2.2 0 k0 = x1) (c2_0 : ¬ x1.toInt = 0) (c2_1 : ¬ x1.toInt = 1) (c2_2 : x1.toInt = 2) (hr8_2 : (oI P9 25 (ad 19)).toInt = 0) (ex12 : oI P9 1 k0 = x12) (hr13_3_0 : (oI P9 25 (ad 19)).toInt < (oI P14 25 (ad 19)).toInt) (hr13_3_1 : (oI P14 25 (ad 19)).toInt ≤ (oI P9 25 (ad 19)).toInt + 11) : 0 + 0 + 0 + (4 + (oI P14 25 (ad 19)).toInt.toNat) ≤ 16 := by
  first | assumption | omega | (subst_vars; omega) | trivial
-- slen @108
theorem vX0_asText_8 (ad : Nat → Nat) (κ : KS) (k0 : Nat) (x1 : Int32) (P9 : PL) (x12 : Int32) (P14 : PL) (nb18 : Nat) (ex1 : oI κ.2.2.2.2 0 k0 = x1) (c2_0 : ¬ x1.toInt = 0) (c2_1 : ¬ x1.toInt = 1) (c2_2 : x1.toInt = 2) (hr8_2 : (oI P9 25 (ad 19)).toInt = 0) (ex12 : oI P9 1 k0 = x12) (hr13_3_0 : (oI P9 25 (ad 19)).toInt < (oI P14 25 (ad 19)).toInt) (hr13_3_1 : (oI P14 25 (ad 19)).toInt ≤ (oI P9 25 (ad 19)).toInt + 11) (leb18 : ((nb18 : Nat) : Int) = (oI P14 25 (ad 19)).toInt) : nb18 ≤ 40 := by
  first | assumption | omega | (subst_vars; omega) | trivial
-- grow @108
theorem vX0_asText_9 (ad : Nat → Nat) (κ : KS) (k0 : Nat) (x1 : Int32) (P9 : PL) (x12 : Int32) (P14 : PL) (nb18 : Nat) (ex1 : oI κ.2.2.2.2 0 k0 = x1) (c2_0 : ¬ x1.toInt = 0) (c2_1 : ¬ x1.toInt = 1) (c2_2 : x1.toInt = 2) (hr8_2 : (oI P9 25 (ad 19)).toInt = 0) (ex12 : oI P9 1 k0 = x12) (hr13_3_0 : (oI P9 25 (ad 19)).toInt < (oI P14 25 (ad 19)).toInt) (hr13_3_1 : (oI P14 25 (ad 19)).toInt ≤ (oI P9 25 (ad 19)).toInt + 11) (leb18 : ((nb18 : Nat) : Int) = (oI P14 25 (ad 19)).toInt) : 0 + 0 + 0 + (4 + (oI P14 25 (ad 19)).toInt.toNat) ≤ 16 := by
  first | assumption | omega | (subst_vars; omega) | trivial
-- pre:J4_append_cf468@85 @85
theorem vX0_asText_10 (ad : Nat → Nat) (P9 : PL) (hr8_2 : (oI P9 25 (ad 19)).toInt = 0) : 0 ≤ (111 : Int32).toInt ∧ (111 : Int32).toInt ≤ 255 ∧ (oI P9 25 (ad 19)).toInt < 70 := by
  have q111 : (111 : Int32).toInt = 111 := by decide +kernel
  refine ⟨?_, ?_, ?_⟩ <;> first | assumption | omega | (subst_vars; omega) | trivial
-- room @85
theorem vX0_asText_11 (ad : Nat → Nat) (P9 : PL) (hr8_2 : (oI P9 25 (ad 19)).toInt = 0) : 0 + 0 + (gr1 ((oI P9 25 (ad 19)).toInt + 1)) ≤ 2 := by
  have zg0 := gr_spec ((oI P9 25 (ad 19)).toInt + 1)
  first | assumption | omega | (subst_vars; omega) | trivial
-- room @85
theorem vX0_asText_12 (ad : Nat → Nat) (P9 : PL) (hr8_2 : (oI P9 25 (ad 19)).toInt = 0) : 0 + 0 + (gr70 ((oI P9 25 (ad 19)).toInt + 1)) ≤ 16 := by
  have zg0 := gr_spec ((oI P9 25 (ad 19)).toInt + 1)
  first | assumption | omega | (subst_vars; omega) | trivial
-- pre:J4_append_bf812@97 @97
theorem vX0_asText_13 (ad : Nat → Nat) (κ : KS) (k0 : Nat) (x1 : Int32) (P9 : PL) (P20 : PL) (x22 : Int32) (ex1 : oI κ.2.2.2.2 0 k0 = x1) (c2_0 : ¬ x1.toInt = 0) (c2_1 : ¬ x1.toInt = 1) (c2_2 : x1.toInt = 2) (hr8_2 : (oI P9 25 (ad 19)).toInt = 0) (hr19_3_0 : (oI P20 25 (ad 19)).toInt = (oI P9 25 (ad 19)).toInt + 1) (hr19_3_1 : gr1 ((oI P9 25 (ad 19)).toInt + 1) ≤ 1) (hr19_3_2 : gr70 ((oI P9 25 (ad 19)).toInt + 1) ≤ 70) (hr19_3_3 : (oI P9 25 (ad 19)).toInt + 1 ≤ 16 → gr1 ((oI P9 25 (ad 19)).toInt + 1) = 0 ∧ gr70 ((oI P9 25 (ad 19)).toInt + 1) = 0) (hr19_3_4 : 16 < (oI P9 25 (ad 19)).toInt + 1 → gr1 ((oI P9 25 (ad 19)).toInt + 1) = 1 ∧ gr70 ((oI P9 25 (ad 19)).toInt + 1) = 70) (ex22 : oI P20 1 k0 = x22) : (oI P20 25 (ad 19)).toInt ≤ 1 := by
  first | assumption | omega | (subst_vars; omega) | trivial
-- room @97
theorem vX0_asText_14 (ad : Nat → Nat) (κ : KS) (k0 : Nat) (x1 : Int32) (P9 : PL) (P20 : PL) (x22 : Int32) (ex1 : oI κ.2.2.2.2 0 k0 = x1) (c2_0 : ¬ x1.toInt = 0) (c2_1 : ¬ x1.toInt = 1) (c2_2 : x1.toInt = 2) (hr8_2 : (oI P9 25 (ad 19)).toInt = 0) (hr19_3_0 : (oI P20 25 (ad 19)).toInt = (oI P9 25 (ad 19)).toInt + 1) (hr19_3_1 : gr1 ((oI P9 25 (ad 19)).toInt + 1) ≤ 1) (hr19_3_2 : gr70 ((oI P9 25 (ad 19)).toInt + 1) ≤ 70) (hr19_3_3 : (oI P9 25 (ad 19)).toInt + 1 ≤ 16 → gr1 ((oI P9 25 (ad 19)).toInt + 1) = 0 ∧ gr70 ((oI P9 25 (ad 19)).toInt + 1) = 0) (hr19_3_4 : 16 < (oI P9 25 (ad 19)).toInt + 1 → gr1 ((oI P9 25 (ad 19)).toInt + 1) = 1 ∧ gr70 ((oI P9 25 (ad 19)).toInt + 1) = 70) (ex22 : oI P20 1 k0 = x22) : 0 + 0 + (gr1 ((oI P9 25 (ad 19)).toInt + 1)) + 0 ≤ 2 := by
  have zg0 := gr_spec ((oI P9 25 (ad 19)).toInt + 1)
  first | assumption | omega | (subst_vars; omega) | trivial
-- room @97
theorem vX0_asText_15 (ad : Nat → Nat) (κ : KS) (k0 : Nat) (x1 : Int32) (P9 : PL) (P20 : PL) (x22 : Int32) (ex1 : oI κ.2.2.2.2 0 k0 = x1) (c2_0 : ¬ x1.toInt = 0) (c2_1 : ¬ x1.toInt = 1) (c2_2 : x1.toInt = 2) (hr8_2 : (oI P9 25 (ad 19)).toInt = 0) (hr19_3_0 : (oI P20 25 (ad 19)).toInt = (oI P9 25 (ad 19)).toInt + 1) (hr19_3_1 : gr1 ((oI P9 25 (ad 19)).toInt + 1) ≤ 1) (hr19_3_2 : gr70 ((oI P9 25 (ad 19)).toInt + 1) ≤ 70) (hr19_3_3 : (oI P9 25 (ad 19)).toInt + 1 ≤ 16 → gr1 ((oI P9 25 (ad 19)).toInt + 1) = 0 ∧ gr70 ((oI P9 25 (ad 19)).toInt + 1) = 0) (hr19_3_4 : 16 < (oI P9 25 (ad 19)).toInt + 1 → gr1 ((oI P9 25 (ad 19)).toInt + 1) = 1 ∧ gr70 ((oI P9 25 (ad 19)).toInt + 1) = 70) (ex22 : oI P20 1 k0 = x22) : 0 + 0 + (gr70 ((oI P9 25 (ad 19)).toInt + 1)) + 0 ≤ 16 := by
  have zg0 := gr_spec ((oI P9 25 (ad 19)).toInt + 1)
  first | assumption | omega | (subst_vars; omega) | trivial
-- pre:J4_toString_0e30d@105 @105
theorem vX0_asText_16 (ad : Nat → Nat) (κ : KS) (k0 : Nat) (x1 : Int32) (P9 : PL) (P20 : PL) (x22 : Int32) (P24 : PL) (ex1 : oI κ.2.2.2.2 0 k0 = x1) (c2_0 : ¬ x1.toInt = 0) (c2_1 : ¬ x1.toInt = 1) (c2_2 : x1.toInt = 2) (hr8_2 : (oI P9 25 (ad 19)).toInt = 0) (hr19_3_0 : (oI P20 25 (ad 19)).toInt = (oI P9 25 (ad 19)).toInt + 1) (hr19_3_1 : gr1 ((oI P9 25 (ad 19)).toInt + 1) ≤ 1) (hr19_3_2 : gr70 ((oI P9 25 (ad 19)).toInt + 1) ≤ 70) (ex22 : oI P20 1 k0 = x22) (hr23_3_0 : (oI P20 25 (ad 19)).toInt < (oI P24 25 (ad 19)).toInt) (hr23_3_1 : (oI P24 25 (ad 19)).toInt ≤ (oI P20 25 (ad 19)).toInt + 11) : (oI P24 25 (ad 19)).toInt ≤ 40 := by
  first | assumption | omega | (subst_vars; omega) | trivial
-- room @105
theorem vX0_asText_17 (ad : Nat → Nat) (κ : KS) (k0 : Nat) (x1 : Int32) (P9 : PL) (P20 : PL) (x22 : Int32) (P24 : PL) (ex1 : oI κ.2.2.2.2 0 k0 = x1) (c2_0 : ¬ x1.toInt = 0) (c2_1 : ¬ x1.toInt = 1) (c2_2 : x1.toInt = 2) (hr8_2 : (oI P9 25 (ad 19)).toInt = 0) (hr19_3_0 : (oI P20 25 (ad 19)).toInt = (oI P9 25 (ad 19)).toInt + 1) (hr19_3_1 : gr1 ((oI P9 25 (ad 19)).toInt + 1) ≤ 1) (hr19_3_2 : gr70 ((oI P9 25 (ad 19)).toInt + 1) ≤ 70) (hr19_3_3 : (oI P9 25 (ad 19)).toInt + 1 ≤ 16 → gr1 ((oI P9 25 (ad 19)).toInt + 1) = 0 ∧ gr70 ((oI P9 25 (ad 19)).toInt + 1) = 0) (hr19_3_4 : 16 < (oI P9 25 (ad 19)).toInt + 1 → gr1 ((oI P9 25 (ad 19)).toInt + 1) = 1 ∧ gr70 ((oI P9 25 (ad 19)).toInt + 1) = 70) (ex22 : oI P20 1 k0 = x22) (hr23_3_0 : (oI P20 25 (ad 19)).toInt < (oI P24 25 (ad 19)).toInt) (hr23_3_1 : (oI P24 25 (ad 19)).toInt ≤ (oI P20 25 (ad 19)).toInt + 11) : 0 + 0 + (gr1 ((oI P9 25 (ad 19)).toInt + 1)) + 0 + 2 ≤ 2 := by
  have zg0 := gr_spec ((oI P9 25 (ad 19)).toInt + 1)
  first | assumption | omega | (subst_vars; omega) | trivial
-- room @105
theorem vX0_asText_18 (ad : Nat → Nat) (κ : KS) (k0 : Nat) (x1 : Int32) (P9 : PL) (P20 : PL) (x22 : Int32) (P24 : PL) (ex1 : oI κ.2.2.2.2 0 k0 = x1) (c2_0 : ¬ x1.toInt = 0) (c2_1 : ¬ x1.toInt = 1) (c2_2 : x1.toInt = 2) (hr8_2 : (oI P9 25 (ad 19)).toInt = 0) (hr19_3_0 : (oI P20 25 (ad 19)).toInt = (oI P9 25 (ad 19)).toInt + 1) (hr19_3_1 : gr1 ((oI P9 25 (ad 19)).toInt + 1) ≤ 1) (hr19_3_2 : gr70 ((oI P9 25 (ad 19)).toInt + 1) ≤ 70) (hr19_3_3 : (oI P9 25 (ad 19)).toInt + 1 ≤ 16 → gr1 ((oI P9 25 (ad 19)).toInt + 1) = 0 ∧ gr70 ((oI P9 25 (ad 19)).toInt + 1) = 0) (hr19_3_4 : 16 < (oI P9 25 (ad 19)).toInt + 1 → gr1 ((oI P9 25 (ad 19)).toInt + 1) = 1 ∧ gr70 ((oI P9 25 (ad 19)).toInt + 1) = 70) (ex22 : oI P20 1 k0 = x22) (hr23_3_0 : (oI P20 25 (ad 19)).toInt < (oI P24 25 (ad 19)).toInt) (hr23_3_1 : (oI P24 25 (ad 19)).toInt ≤ (oI P20 25 (ad 19)).toInt + 11) : 0 + 0 + (gr70 ((oI P9 25 (ad 19)).toInt + 1)) + 0 + (4 + (oI P24 25 (ad 19)).toInt.toNat) ≤ 16 := by
  have zg0 := gr_spec ((oI P9 25 (ad 19)).toInt + 1)
  first | assumption | omega | (subst_vars; omega) | trivial
-- slen @108
theorem vX0_asText_19 (ad : Nat → Nat) (κ : KS) (k0 : Nat) (x1 : Int32) (P9 : PL) (P20 : PL) (x22 : Int32) (P24 : PL) (nb28 : Nat) (ex1 : oI κ.2.2.2.2 0 k0 = x1) (c2_0 : ¬ x1.toInt = 0) (c2_1 : ¬ x1.toInt = 1) (c2_2 : x1.toInt = 2) (hr8_2 : (oI P9 25 (ad 19)).toInt = 0) (hr19_3_0 : (oI P20 25 (ad 19)).toInt = (oI P9 25 (ad 19)).toInt + 1) (hr19_3_1 : gr1 ((oI P9 25 (ad 19)).toInt + 1) ≤ 1) (hr19_3_2 : gr70 ((oI P9 25 (ad 19)).toInt + 1) ≤ 70) (ex22 : oI P20 1 k0 = x22) (hr23_3_0 : (oI P20 25 (ad 19)).toInt < (oI P24 25 (ad 19)).toInt) (hr23_3_1 : (oI P24 25 (ad 19)).toInt ≤ (oI P20 25 (ad 19)).toInt + 11) (leb28 : ((nb28 : Nat) : Int) = (oI P24 25 (ad 19)).toInt) : nb28 ≤ 40 := by
  first | assumption | omega | (subst_vars; omega) | trivial
-- grow @108
theorem vX0_asText_20 (ad : Nat → Nat) (κ : KS) (k0 : Nat) (x1 : Int32) (P9 : PL) (P20 : PL) (x22 : Int32) (P24 : PL) (nb28 : Nat) (ex1 : oI κ.2.2.2.2 0 k0 = x1) (c2_0 : ¬ x1.toInt = 0) (c2_1 : ¬ x1.toInt = 1) (c2_2 : x1.toInt = 2) (hr8_2 : (oI P9 25 (ad 19)).toInt = 0) (hr19_3_0 : (oI P20 25 (ad 19)).toInt = (oI P9 25 (ad 19)).toInt + 1) (hr19_3_1 : gr1 ((oI P9 25 (ad 19)).toInt + 1) ≤ 1) (hr19_3_2 : gr70 ((oI P9 25 (ad 19)).toInt + 1) ≤ 70) (hr19_3_3 : (oI P9 25 (ad 19)).toInt + 1 ≤ 16 → gr1 ((oI P9 25 (ad 19)).toInt + 1) = 0 ∧ gr70 ((oI P9 25 (ad 19)).toInt + 1) = 0) (hr19_3_4 : 16 < (oI P9 25 (ad 19)).toInt + 1 → gr1 ((oI P9 25 (ad 19)).toInt + 1) = 1 ∧ gr70 ((oI P9 25 (ad 19)).toInt + 1) = 70) (ex22 : oI P20 1 k0 = x22) (hr23_3_0 : (oI P20 25 (ad 19)).toInt < (oI P24 25 (ad 19)).toInt) (hr23_3_1 : (oI P24 25 (ad 19)).toInt ≤ (oI P20 25 (ad 19)).toInt + 11) (leb28 : ((nb28 : Nat) : Int) = (oI P24 25 (ad 19)).toInt) : 0 + 0 + (gr1 ((oI P9 25 (ad 19)).toInt + 1)) + 0 + 2 ≤ 2 := by
  have zg0 := gr_spec ((oI P9 25 (ad 19)).toInt + 1)
  first | assumption | omega | (subst_vars; omega) | trivial
-- grow @108
theorem vX0_asText_21 (ad : Nat → Nat) (κ : KS) (k0 : Nat) (x1 : Int32) (P9 : PL) (P20 : PL) (x22 : Int32) (P24 : PL) (nb28 : Nat) (ex1 : oI κ.2.2.2.2 0 k0 = x1) (c2_0 : ¬ x1.toInt = 0) (c2_1 : ¬ x1.toInt = 1) (c2_2 : x1.toInt = 2) (hr8_2 : (oI P9 25 (ad 19)).toInt = 0) (hr19_3_0 : (oI P20 25 (ad 19)).toInt = (oI P9 25 (ad 19)).toInt + 1) (hr19_3_1 : gr1 ((oI P9 25 (ad 19)).toInt + 1) ≤ 1) (hr19_3_2 : gr70 ((oI P9 25 (ad 19)).toInt + 1) ≤ 70) (hr19_3_3 : (oI P9 25 (ad 19)).toInt + 1 ≤ 16 → gr1 ((oI P9 25 (ad 19)).toInt + 1) = 0 ∧ gr70 ((oI P9 25 (ad 19)).toInt + 1) = 0) (hr19_3_4 : 16 < (oI P9 25 (ad 19)).toInt + 1 → gr1 ((oI P9 25 (ad 19)).toInt + 1) = 1 ∧ gr70 ((oI P9 25 (ad 19)).toInt + 1) = 70) (ex22 : oI P20 1 k0 = x22) (hr23_3_0 : (oI P20 25 (ad 19)).toInt < (oI P24 25 (ad 19)).toInt) (hr23_3_1 : (oI P24 25 (ad 19)).toInt ≤ (oI P20 25 (ad 19)).toInt + 11) (leb28 : ((nb28 : Nat) : Int) = (oI P24 25 (ad 19)).toInt) : 0 + 0 + (gr70 ((oI P9 25 (ad 19)).toInt + 1)) + 0 + (4 + (oI P24 25 (ad 19)).toInt.toNat) ≤ 16 := by
  have zg0 := gr_spec ((oI P9 25 (ad 19)).toInt + 1)
  first | assumption | omega | (subst_vars; omega) | trivial
-- pre:J4_append_bf812@97 @97
theorem vX0_asText_22 (ad : Nat → Nat) (κ : KS) (k0 : Nat) (x1 : Int32) (P30 : PL) (x33 : Int32) (ex1 : oI κ.2.2.2.2 0 k0 = x1) (c2_0 : ¬ x1.toInt = 0) (c2_1 : ¬ x1.toInt = 1) (c2_2 : ¬ x1.toInt = 2) (c2_3 : x1.toInt = 3) (hr29_2 : (oI P30 25 (ad 19)).toInt = 0) (ex33 : oI P30 1 k0 = x33) : (oI P30 25 (ad 19)).toInt ≤ 1 := by
  first | assumption | omega | (subst_vars; omega) | trivial
-- pre:J4_toString_0e30d@105 @105
theorem vX0_asText_23 (ad : Nat → Nat) (κ : KS) (k0 : Nat) (x1 : Int32) (P30 : PL) (x33 : Int32) (P35 : PL) (ex1 : oI κ.2.2.2.2 0 k0 = x1) (c2_0 : ¬ x1.toInt = 0) (c2_1 : ¬ x1.toInt = 1) (c2_2 : ¬ x1.toInt = 2) (c2_3 : x1.toInt = 3) (hr29_2 : (oI P30 25 (ad 19)).toInt = 0) (ex33 : oI P30 1 k0 = x33) (hr34_3_0 : (oI P30 25 (ad 19)).toInt < (oI P35 25 (ad 19)).toInt) (hr34_3_1 : (oI P35 25 (ad 19)).toInt ≤ (oI P30 25 (ad 19)).toInt + 11) : (oI P35 25 (ad 19)).toInt ≤ 40 := by
  first | assumption | omega | (subst_vars; omega) | trivial
-- room @105
theorem vX0_asText_24 (ad : Nat → Nat) (κ : KS) (k0 : Nat) (x1 : Int32) (P30 : PL) (x33 : Int32) (P35 : PL) (ex1 : oI κ.2.2.2.2 0 k0 = x1) (c2_0 : ¬ x1.toInt = 0) (c2_1 : ¬ x1.toInt = 1) (c2_2 : ¬ x1.toInt = 2) (c2_3 : x1.toInt = 3) (hr29_2 : (oI P30 25 (ad 19)).toInt = 0) (ex33 : oI P30 1 k0 = x33) (hr34_3_0 : (oI P30 25 (ad 19)).toInt < (oI P35 25 (ad 19)).toInt) (hr34_3_1 : (oI P35 25 (ad 19)).toInt ≤ (oI P30 25 (ad 19)).toInt + 11) : 0 + 0 + 0 + (4 + (oI P35 25 (ad 19)).toInt.toNat) ≤ 16 := by
  first | assumption | omega | (subst_vars; omega) | trivial
-- slen @108
theorem vX0_asText_25 (ad : Nat → Nat) (κ : KS) (k0 : Nat) (x1 : Int32) (P30 : PL) (x33 : Int32) (P35 : PL) (nb39 : Nat) (ex1 : oI κ.2.2.2.2 0 k0 = x1) (c2_0 : ¬ x1.toInt = 0) (c2_1 : ¬ x1.toInt = 1) (c2_2 : ¬ x1.toInt = 2) (c2_3 : x1.toInt = 3) (hr29_2 : (oI P30 25 (ad 19)).toInt = 0) (ex33 : oI P30 1 k0 = x33) (hr34_3_0 : (oI P30 25 (ad 19)).toInt < (oI P35 25 (ad 19)).toInt) (hr34_3_1 : (oI P35 25 (ad 19)).toInt ≤ (oI P30 25 (ad 19)).toInt + 11) (leb39 : ((nb39 : Nat) : Int) = (oI P35 25 (ad 19)).toInt) : nb39 ≤ 40 := by
  first | assumption | omega | (subst_vars; omega) | trivial
-- grow @108
theorem vX0_asText_26 (ad : Nat → Nat) (κ : KS) (k0 : Nat) (x1 : Int32) (P30 : PL) (x33 : Int32) (P35 : PL) (nb39 : Nat) (ex1 : oI κ.2.2.2.2 0 k0 = x1) (c2_0 : ¬ x1.toInt = 0) (c2_1 : ¬ x1.toInt = 1) (c2_2 : ¬ x1.toInt = 2) (c2_3 : x1.toInt = 3) (hr29_2 : (oI P30 25 (ad 19)).toInt = 0) (ex33 : oI P30 1 k0 = x33) (hr34_3_0 : (oI P30 25 (ad 19)).toInt < (oI P35 25 (ad 19)).toInt) (hr34_3_1 : (oI P35 25 (ad 19)).toInt ≤ (oI P30 25 (ad 19)).toInt + 11) (leb39 : ((nb39 : Nat) : Int) = (oI P35 25 (ad 19)).toInt) : 0 + 0 + 0 + (4 + (oI P35 25 (ad 19)).toInt.toNat) ≤ 16 := by
  first | assumption | omega | (subst_vars; omega) | trivial
-- pre:J4_append_cf468@85 @85
theorem vX0_asText_27 (ad : Nat → Nat) (P30 : PL) (hr29_2 : (oI P30 25 (ad 19)).toInt = 0) : 0 ≤ (111 : Int32).toInt ∧ (111 : Int32).toInt ≤ 255 ∧ (oI P30 25 (ad 19)).toInt < 70 := by
  have q111 : (111 : Int32).toInt = 111 := by decide +kernel
  refine ⟨?_, ?_, ?_⟩ <;> first | assumption | omega | (subst_vars; omega) | trivial
-- room @85
theorem vX0_asText_28 (ad : Nat → Nat) (P30 : PL) (hr29_2 : (oI P30 25 (ad 19)).toInt = 0) : 0 + 0 + (gr1 ((oI P30 25 (ad 19)).toInt + 1)) ≤ 2 := by
  have zg0 := gr_spec ((oI P30 25 (ad 19)).toInt + 1)
  first | assumption | omega | (subst_vars; omega) | trivial
-- room @85
theorem vX0_asText_29 (ad : Nat → Nat) (P30 : PL) (hr29_2 : (oI P30 25 (ad 19)).toInt = 0) : 0 + 0 + (gr70 ((oI P30 25 (ad 19)).toInt + 1)) ≤ 16 := by
  have zg0 := gr_spec ((oI P30 25 (ad 19)).toInt + 1)
  first | assumption | omega | (subst_vars; omega) | trivial
-- pre:J4_append_bf812@97 @97
theorem vX0_asText_30 (ad : Nat → Nat) (κ : KS) (k0 : Nat) (x1 : Int32) (P30 : PL) (P41 : PL) (x43 : Int32) (ex1 : oI κ.2.2.2.2 0 k0 = x1) (c2_0 : ¬ x1.toInt = 0) (c2_1 : ¬ x1.toInt = 1) (c2_2 : ¬ x1.toInt = 2) (c2_3 : x1.toInt = 3) (hr29_2 : (oI P30 25 (ad 19)).toInt = 0) (hr40_3_0 : (oI P41 25 (ad 19)).toInt = (oI P30 25 (ad 19)).toInt + 1) (hr40_3_1 : gr1 ((oI P30 25 (ad 19)).toInt + 1) ≤ 1) (hr40_3_2 : gr70 ((oI P30 25 (ad 19)).toInt + 1) ≤ 70) (hr40_3_3 : (oI P30 25 (ad 19)).toInt + 1 ≤ 16 → gr1 ((oI P30 25 (ad 19)).toInt + 1) = 0 ∧ gr70 ((oI P30 25 (ad 19)).toInt + 1) = 0) (hr40_3_4 : 16 < (oI P30 25 (ad 19)).toInt + 1 → gr1 ((oI P30 25 (ad 19)).toInt + 1) = 1 ∧ gr70 ((oI P30 25 (ad 19)).toInt + 1) = 70) (ex43 : oI P41 1 k0 = x43) : (oI P41 25 (ad 19)).toInt ≤ 1 := by
  first | assumption | omega | (subst_vars; omega) | trivial
-- room @97
theorem vX0_asText_31 (ad : Nat → Nat) (κ : KS) (k0 : Nat) (x1 : Int32) (P30 : PL) (P41 : PL) (x43 : Int32) (ex1 : oI κ.2.2.2.2 0 k0 = x1) (c2_0 : ¬ x1.toInt = 0) (c2_1 : ¬ x1.toInt = 1) (c2_2 : ¬ x1.toInt = 2) (c2_3 : x1.toInt = 3) (hr29_2 : (oI P30 25 (ad 19)).toInt = 0) (hr40_3_0 : (oI P41 25 (ad 19)).toInt = (oI P30 25 (ad 19)).toInt + 1) (hr40_3_1 : gr1 ((oI P30 25 (ad 19)).toInt + 1) ≤ 1) (hr40_3_2 : gr70 ((oI P30 25 (ad 19)).toInt + 1) ≤ 70) (hr40_3_3 : (oI P30 25 (ad 19)).toInt + 1 ≤ 16 → gr1 ((oI P30 25 (ad 19)).toInt + 1) = 0 ∧ gr70 ((oI P30 25 (ad 19)).toInt + 1) = 0) (hr40_3_4 : 16 < (oI P30 25 (ad 19)).toInt + 1 → gr1 ((oI P30 25 (ad 19)).toInt + 1) = 1 ∧ gr70 ((oI P30 25 (ad 19)).toInt + 1) = 70) (ex43 : oI P41 1 k0 = x43) : 0 + 0 + (gr1 ((oI P30 25 (ad 19)).toInt + 1)) + 0 ≤ 2 := by
  have zg0 := gr_spec ((oI P30 25 (ad 19)).toInt + 1)
  first | assumption | omega | (subst_vars; omega) | trivial
-- room @97
theorem vX0_asText_32 (ad : Nat → Nat) (κ : KS) (k0 : Nat) (x1 : Int32) (P30 : PL) (P41 : PL) (x43 : Int32) (ex1 : oI κ.2.2.2.2 0 k0 = x1) (c2_0 : ¬ x1.toInt = 0) (c2_1 : ¬ x1.toInt = 1) (c2_2 : ¬ x1.toInt = 2) (c2_3 : x1.toInt = 3) (hr29_2 : (oI P30 25 (ad 19)).toInt = 0) (hr40_3_0 : (oI P41 25 (ad 19)).toInt = (oI P30 25 (ad 19)).toInt + 1) (hr40_3_1 : gr1 ((oI P30 25 (ad 19)).toInt + 1) ≤ 1) (hr40_3_2 : gr70 ((oI P30 25 (ad 19)).toInt + 1) ≤ 70) (hr40_3_3 : (oI P30 25 (ad 19)).toInt + 1 ≤ 16 → gr1 ((oI P30 25 (ad 19)).toInt + 1) = 0 ∧ gr70 ((oI P30 25 (ad 19)).toInt + 1) = 0) (hr40_3_4 : 16 < (oI P30 25 (ad 19)).toInt + 1 → gr1 ((oI P30 25 (ad 19)).toInt + 1) = 1 ∧ gr70 ((oI P30 25 (ad 19)).toInt + 1) = 70) (ex43 : oI P41 1 k0 = x43) : 0 + 0 + (gr70 ((oI P30 25 (ad 19)).toInt + 1)) + 0 ≤ 16 := by
  have zg0 := gr_spec ((oI P30 25 (ad 19)).toInt + 1)
  first | assumption | omega | (subst_vars; omega) | trivial
-- pre:J4_toString_0e30d@105 @105
theorem vX0_asText_33 (ad : Nat → Nat) (κ : KS) (k0 : Nat) (x1 : Int32) (P30 : PL) (P41 : PL) (x43 : Int32) (P45 : PL) (ex1 : oI κ.2.2.2.2 0 k0 = x1) (c2_0 : ¬ x1.toInt = 0) (c2_1 : ¬ x1.toInt = 1) (c2_2 : ¬ x1.toInt = 2) (c2_3 : x1.toInt = 3) (hr29_2 : (oI P30 25 (ad 19)).toInt = 0) (hr40_3_0 : (oI P41 25 (ad 19)).toInt = (oI P30 25 (ad 19)).toInt + 1) (hr40_3_1 : gr1 ((oI P30 25 (ad 19)).toInt + 1) ≤ 1) (hr40_3_2 : gr70 ((oI P30 25 (ad 19)).toInt + 1) ≤ 70) (ex43 : oI P41 1 k0 = x43) (hr44_3_0 : (oI P41 25 (ad 19)).toInt < (oI P45 25 (ad 19)).toInt) (hr44_3_1 : (oI P45 25 (ad 19)).toInt ≤ (oI P41 25 (ad 19)).toInt + 11) : (oI P45 25 (ad 19)).toInt ≤ 40 := by
  first | assumption | omega | (subst_vars; omega) | trivial
-- room @105
theorem vX0_asText_34 (ad : Nat → Nat) (κ : KS) (k0 : Nat) (x1 : Int32) (P30 : PL) (P41 : PL) (x43 : Int32) (P45 : PL) (ex1 : oI κ.2.2.2.2 0 k0 = x1) (c2_0 : ¬ x1.toInt = 0) (c2_1 : ¬ x1.toInt = 1) (c2_2 : ¬ x1.toInt = 2) (c2_3 : x1.toInt = 3) (hr29_2 : (oI P30 25 (ad 19)).toInt = 0) (hr40_3_0 : (oI P41 25 (ad 19)).toInt = (oI P30 25 (ad 19)).toInt + 1) (hr40_3_1 : gr1 ((oI P30 25 (ad 19)).toInt + 1) ≤ 1) (hr40_3_2 : gr70 ((oI P30 25 (ad 19)).toInt + 1) ≤ 70) (hr40_3_3 : (oI P30 25 (ad 19)).toInt + 1 ≤ 16 → gr1 ((oI P30 25 (ad 19)).toInt + 1) = 0 ∧ gr70 ((oI P30 25 (ad 19)).toInt + 1) = 0) (hr40_3_4 : 16 < (oI P30 25 (ad 19)).toInt + 1 → gr1 ((oI P30 25 (ad 19)).toInt + 1) = 1 ∧ gr70 ((oI P30 25 (ad 19)).toInt + 1) = 70) (ex43 : oI P41 1 k0 = x43) (hr44_3_0 : (oI P41 25 (ad 19)).toInt < (oI P45 25 (ad 19)).toInt) (hr44_3_1 : (oI P45 25 (ad 19)).toInt ≤ (oI P41 25 (ad 19)).toInt + 11) : 0 + 0 + (gr1 ((oI P30 25 (ad 19)).toInt + 1)) + 0 + 2 ≤ 2 := by
  have zg0 := gr_spec ((oI P30 25 (ad 19)).toInt + 1)
  first | assumption | omega | (subst_vars; omega) | trivial
-- room @105
theorem vX0_asText_35 (ad : Nat → Nat) (κ : KS) (k0 : Nat) (x1 : Int32) (P30 : PL) (P41 : PL) (x43 : Int32) (P45 : PL) (ex1 : oI κ.2.2.2.2 0 k0 = x1) (c2_0 : ¬ x1.toInt = 0) (c2_1 : ¬ x1.toInt = 1) (c2_2 : ¬ x1.toInt = 2) (c2_3 : x1.toInt = 3) (hr29_2 : (oI P30 25 (ad 19)).toInt = 0) (hr40_3_0 : (oI P41 25 (ad 19)).toInt = (oI P30 25 (ad 19)).toInt + 1) (hr40_3_1 : gr1 ((oI P30 25 (ad 19)).toInt + 1) ≤ 1) (hr40_3_2 : gr70 ((oI P30 25 (ad 19)).toInt + 1) ≤ 70) (hr40_3_3 : (oI P30 25 (ad 19)).toInt + 1 ≤ 16 → gr1 ((oI P30 25 (ad 19)).toInt + 1) = 0 ∧ gr70 ((oI P30 25 (ad 19)).toInt + 1) = 0) (hr40_3_4 : 16 < (oI P30 25 (ad 19)).toInt + 1 → gr1 ((oI P30 25 (ad 19)).toInt + 1) = 1 ∧ gr70 ((oI P30 25 (ad 19)).toInt + 1) = 70) (ex43 : oI P41 1 k0 = x43) (hr44_3_0 : (oI P41 25 (ad 19)).toInt < (oI P45 25 (ad 19)).toInt) (hr44_3_1 : (oI P45 25 (ad 19)).toInt ≤ (oI P41 25 (ad 19)).toInt + 11) : 0 + 0 + (gr70 ((oI P30 25 (ad 19)).toInt + 1)) + 0 + (4 + (oI P45 25 (ad 19)).toInt.toNat) ≤ 16 := by
  have zg0 := gr_spec ((oI P30 25 (ad 19)).toInt + 1)
  first | assumption | omega | (subst_vars; omega) | trivial
-- slen @108
theorem vX0_asText_36 (ad : Nat → Nat) (κ : KS) (k0 : Nat) (x1 : Int32) (P30 : PL) (P41 : PL) (x43 : Int32) (P45 : PL) (nb49 : Nat) (ex1 : oI κ.2.2.2.2 0 k0 = x1) (c2_0 : ¬ x1.toInt = 0) (c2_1 : ¬ x1.toInt = 1) (c2_2 : ¬ x1.toInt = 2) (c2_3 : x1.toInt = 3) (hr29_2 : (oI P30 25 (ad 19)).toInt = 0) (hr40_3_0 : (oI P41 25 (ad 19)).toInt = (oI P30 25 (ad 19)).toInt + 1) (hr40_3_1 : gr1 ((oI P30 25 (ad 19)).toInt + 1) ≤ 1) (hr40_3_2 : gr70 ((oI P30 25 (ad 19)).toInt + 1) ≤ 70) (ex43 : oI P41 1 k0 = x43) (hr44_3_0 : (oI P41 25 (ad 19)).toInt < (oI P45 25 (ad 19)).toInt) (hr44_3_1 : (oI P45 25 (ad 19)).toInt ≤ (oI P41 25 (ad 19)).toInt + 11) (leb49 : ((nb49 : Nat) : Int) = (oI P45 25 (ad 19)).toInt) : nb49 ≤ 40 := by
  first | assumption | omega | (subst_vars; omega) | trivial
-- grow @108
theorem vX0_asText_37 (ad : Nat → Nat) (κ : KS) (k0 : Nat) (x1 : Int32) (P30 : PL) (P41 : PL) (x43 : Int32) (P45 : PL) (nb49 : Nat) (ex1 : oI κ.2.2.2.2 0 k0 = x1) (c2_0 : ¬ x1.toInt = 0) (c2_1 : ¬ x1.toInt = 1) (c2_2 : ¬ x1.toInt = 2) (c2_3 : x1.toInt = 3) (hr29_2 : (oI P30 25 (ad 19)).toInt = 0) (hr40_3_0 : (oI P41 25 (ad 19)).toInt = (oI P30 25 (ad 19)).toInt + 1) (hr40_3_1 : gr1 ((oI P30 25 (ad 19)).toInt + 1) ≤ 1) (hr40_3_2 : gr70 ((oI P30 25 (ad 19)).toInt + 1) ≤ 70) (hr40_3_3 : (oI P30 25 (ad 19)).toInt + 1 ≤ 16 → gr1 ((oI P30 25 (ad 19)).toInt + 1) = 0 ∧ gr70 ((oI P30 25 (ad 19)).toInt + 1) = 0) (hr40_3_4 : 16 < (oI P30 25 (ad 19)).toInt + 1 → gr1 ((oI P30 25 (ad 19)).toInt + 1) = 1 ∧ gr70 ((oI P30 25 (ad 19)).toInt + 1) = 70) (ex43 : oI P41 1 k0 = x43) (hr44_3_0 : (oI P41 25 (ad 19)).toInt < (oI P45 25 (ad 19)).toInt) (hr44_3_1 : (oI P45 25 (ad 19)).toInt ≤ (oI P41 25 (ad 19)).toInt + 11) (leb49 : ((nb49 : Nat) : Int) = (oI P45 25 (ad 19)).toInt) : 0 + 0 + (gr1 ((oI P30 25 (ad 19)).toInt + 1)) + 0 + 2 ≤ 2 := by
  have zg0 := gr_spec ((oI P30 25 (ad 19)).toInt + 1)
  first | assumption | omega | (subst_vars; omega) | trivial
-- grow @108
theorem vX0_asText_38 (ad : Nat → Nat) (κ : KS) (k0 : Nat) (x1 : Int32) (P30 : PL) (P41 : PL) (x43 : Int32) (P45 : PL) (nb49 : Nat) (ex1 : oI κ.2.2.2.2 0 k0 = x1) (c2_0 : ¬ x1.toInt = 0) (c2_1 : ¬ x1.toInt = 1) (c2_2 : ¬ x1.toInt = 2) (c2_3 : x1.toInt = 3) (hr29_2 : (oI P30 25 (ad 19)).toInt = 0) (hr40_3_0 : (oI P41 25 (ad 19)).toInt = (oI P30 25 (ad 19)).toInt + 1) (hr40_3_1 : gr1 ((oI P30 25 (ad 19)).toInt + 1) ≤ 1) (hr40_3_2 : gr70 ((oI P30 25 (ad 19)).toInt + 1) ≤ 70) (hr40_3_3 : (oI P30 25 (ad 19)).toInt + 1 ≤ 16 → gr1 ((oI P30 25 (ad 19)).toInt + 1) = 0 ∧ gr70 ((oI P30 25 (ad 19)).toInt + 1) = 0) (hr40_3_4 : 16 < (oI P30 25 (ad 19)).toInt + 1 → gr1 ((oI P30 25 (ad 19)).toInt + 1) = 1 ∧ gr70 ((oI P30 25 (ad 19)).toInt + 1) = 70) (ex43 : oI P41 1 k0 = x43) (hr44_3_0 : (oI P41 25 (ad 19)).toInt < (oI P45 25 (ad 19)).toInt) (hr44_3_1 : (oI P45 25 (ad 19)).toInt ≤ (oI P41 25 (ad 19)).toInt + 11) (leb49 : ((nb49 : Nat) : Int) = (oI P45 25 (ad 19)).toInt) : 0 + 0 + (gr70 ((oI P30 25 (ad 19)).toInt + 1)) + 0 + (4 + (oI P45 25 (ad 19)).toInt.toNat) ≤ 16 := by
  have zg0 := gr_spec ((oI P30 25 (ad 19)).toInt + 1)
  first | assumption | omega | (subst_vars; omega) | trivial
-- slen @63
theorem vX0_asText_39 (n51 : Nat) (len51 : n51 ≤ 40) : n51 ≤ 40 := by
  first | assumption | omega | (subst_vars; omega) | trivial
-- pre:J4_append_bf812@97 @97
theorem vX0_asText_40 (ad : Nat → Nat) (κ : KS) (k0 : Nat) (x1 : Int32) (P53 : PL) (x56 : Int32) (ex1 : oI κ.2.2.2.2 0 k0 = x1) (c2_0 : ¬ x1.toInt = 0) (c2_1 : ¬ x1.toInt = 1) (c2_2 : ¬ x1.toInt = 2) (c2_3 : ¬ x1.toInt = 3) (c2_4 : ¬ x1.toInt = 4) (hr52_2 : (oI P53 25 (ad 19)).toInt = 0) (ex56 : oI P53 1 k0 = x56) : (oI P53 25 (ad 19)).toInt ≤ 1 := by
  first | assumption | omega | (subst_vars; omega) | trivial
-- pre:J4_toString_0e30d@105 @105
theorem vX0_asText_41 (ad : Nat → Nat) (κ : KS) (k0 : Nat) (x1 : Int32) (P53 : PL) (x56 : Int32) (P58 : PL) (ex1 : oI κ.2.2.2.2 0 k0 = x1) (c2_0 : ¬ x1.toInt = 0) (c2_1 : ¬ x1.toInt = 1) (c2_2 : ¬ x1.toInt = 2) (c2_3 : ¬ x1.toInt = 3) (c2_4 : ¬ x1.toInt = 4) (hr52_2 : (oI P53 25 (ad 19)).toInt = 0) (ex56 : oI P53 1 k0 = x56) (hr57_3_0 : (oI P53 25 (ad 19)).toInt < (oI P58 25 (ad 19)).toInt) (hr57_3_1 : (oI P58 25 (ad 19)).toInt ≤ (oI P53 25 (ad 19)).toInt + 11) : (oI P58 25 (ad 19)).toInt ≤ 40 := by
  first | assumption | omega | (subst_vars; omega) | trivial
-- room @105
theorem vX0_asText_42 (ad : Nat → Nat) (κ : KS) (k0 : Nat) (x1 : Int32) (P53 : PL) (x56 : Int32) (P58 : PL) (ex1 : oI κ.2.2.2.2 0 k0 = x1) (c2_0 : ¬ x1.toInt = 0) (c2_1 : ¬ x1.toInt = 1) (c2_2 : ¬ x1.toInt = 2) (c2_3 : ¬ x1.toInt = 3) (c2_4 : ¬ x1.toInt = 4) (hr52_2 : (oI P53 25 (ad 19)).toInt = 0) (ex56 : oI P53 1 k0 = x56) (hr57_3_0 : (oI P53 25 (ad 19)).toInt < (oI P58 25 (ad 19)).toInt) (hr57_3_1 : (oI P58 25 (ad 19)).toInt ≤ (oI P53 25 (ad 19)).toInt + 11) : 0 + 0 + 0 + (4 + (oI P58 25 (ad 19)).toInt.toNat) ≤ 16 := by
  first | assumption | omega | (subst_vars; omega) | trivial
-- slen @108
theorem vX0_asText_43 (ad : Nat → Nat) (κ : KS) (k0 : Nat) (x1 : Int32) (P53 : PL) (x56 : Int32) (P58 : PL) (nb62 : Nat) (ex1 : oI κ.2.2.2.2 0 k0 = x1) (c2_0 : ¬ x1.toInt = 0) (c2_1 : ¬ x1.toInt = 1) (c2_2 : ¬ x1.toInt = 2) (c2_3 : ¬ x1.toInt = 3) (c2_4 : ¬ x1.toInt = 4) (hr52_2 : (oI P53 25 (ad 19)).toInt = 0) (ex56 : oI P53 1 k0 = x56) (hr57_3_0 : (oI P53 25 (ad 19)).toInt < (oI P58 25 (ad 19)).toInt) (hr57_3_1 : (oI P58 25 (ad 19)).toInt ≤ (oI P53 25 (ad 19)).toInt + 11) (leb62 : ((nb62 : Nat) : Int) = (oI P58 25 (ad 19)).toInt) : nb62 ≤ 40 := by
  first | assumption | omega | (subst_vars; omega) | trivial
-- grow @108
theorem vX0_asText_44 (ad : Nat → Nat) (κ : KS) (k0 : Nat) (x1 : Int32) (P53 : PL) (x56 : Int32) (P58 : PL) (nb62 : Nat) (ex1 : oI κ.2.2.2.2 0 k0 = x1) (c2_0 : ¬ x1.toInt = 0) (c2_1 : ¬ x1.toInt = 1) (c2_2 : ¬ x1.toInt = 2) (c2_3 : ¬ x1.toInt = 3) (c2_4 : ¬ x1.toInt = 4) (hr52_2 : (oI P53 25 (ad 19)).toInt = 0) (ex56 : oI P53 1 k0 = x56) (hr57_3_0 : (oI P53 25 (ad 19)).toInt < (oI P58 25 (ad 19)).toInt) (hr57_3_1 : (oI P58 25 (ad 19)).toInt ≤ (oI P53 25 (ad 19)).toInt + 11) (leb62 : ((nb62 : Nat) : Int) = (oI P58 25 (ad 19)).toInt) : 0 + 0 + 0 + (4 + (oI P58 25 (ad 19)).toInt.toNat) ≤ 16 := by
  first | assumption | omega | (subst_vars; omega) | trivial
-- pre:J4_append_cf468@85 @85
theorem vX0_asText_45 (ad : Nat → Nat) (P53 : PL) (hr52_2 : (oI P53 25 (ad 19)).toInt = 0) : 0 ≤ (111 : Int32).toInt ∧ (111 : Int32).toInt ≤ 255 ∧ (oI P53 25 (ad 19)).toInt < 70 := by
  have q111 : (111 : Int32).toInt = 111 := by decide +kernel
  refine ⟨?_, ?_, ?_⟩ <;> first | assumption | omega | (subst_vars; omega) | trivial
-- room @85
theorem vX0_asText_46 (ad : Nat → Nat) (P53 : PL) (hr52_2 : (oI P53 25 (ad 19)).toInt = 0) : 0 + 0 + (gr1 ((oI P53 25 (ad 19)).toInt + 1)) ≤ 2 := by
  have zg0 := gr_spec ((oI P53 25 (ad 19)).toInt + 1)
  first | assumption | omega | (subst_vars; omega) | trivial
-- room @85
theorem vX0_asText_47 (ad : Nat → Nat) (P53 : PL) (hr52_2 : (oI P53 25 (ad 19)).toInt = 0) : 0 + 0 + (gr70 ((oI P53 25 (ad 19)).toInt + 1)) ≤ 16 := by
  have zg0 := gr_spec ((oI P53 25 (ad 19)).toInt + 1)
  first | assumption | omega | (subst_vars; omega) | trivial
-- pre:J4_append_bf812@97 @97
theorem vX0_asText_48 (ad : Nat → Nat) (κ : KS) (k0 : Nat) (x1 : Int32) (P53 : PL) (P64 : PL) (x66 : Int32) (ex1 : oI κ.2.2.2.2 0 k0 = x1) (c2_0 : ¬ x1.toInt = 0) (c2_1 : ¬ x1.toInt = 1) (c2_2 : ¬ x1.toInt = 2) (c2_3 : ¬ x1.toInt = 3) (c2_4 : ¬ x1.toInt = 4) (hr52_2 : (oI P53 25 (ad 19)).toInt = 0) (hr63_3_0 : (oI P64 25 (ad 19)).toInt = (oI P53 25 (ad 19)).toInt + 1) (hr63_3_1 : gr1 ((oI P53 25 (ad 19)).toInt + 1) ≤ 1) (hr63_3_2 : gr70 ((oI P53 25 (ad 19)).toInt + 1) ≤ 70) (hr63_3_3 : (oI P53 25 (ad 19)).toInt + 1 ≤ 16 → gr1 ((oI P53 25 (ad 19)).toInt + 1) = 0 ∧ gr70 ((oI P53 25 (ad 19)).toInt + 1) = 0) (hr63_3_4 : 16 < (oI P53 25 (ad 19)).toInt + 1 → gr1 ((oI P53 25 (ad 19)).toInt + 1) = 1 ∧ gr70 ((oI P53 25 (ad 19)).toInt + 1) = 70) (ex66 : oI P64 1 k0 = x66) : (oI P64 25 (ad 19)).toInt ≤ 1 := by
  first | assumption | omega | (subst_vars; omega) | trivial
-- room @97
theorem vX0_asText_49 (ad : Nat → Nat) (κ : KS) (k0 : Nat) (x1 : Int32) (P53 : PL) (P64 : PL) (x66 : Int32) (ex1 : oI κ.2.2.2.2 0 k0 = x1) (c2_0 : ¬ x1.toInt = 0) (c2_1 : ¬ x1.toInt = 1) (c2_2 : ¬ x1.toInt = 2) (c2_3 : ¬ x1.toInt = 3) (c2_4 : ¬ x1.toInt = 4) (hr52_2 : (oI P53 25 (ad 19)).toInt = 0) (hr63_3_0 : (oI P64 25 (ad 19)).toInt = (oI P53 25 (ad 19)).toInt + 1) (hr63_3_1 : gr1 ((oI P53 25 (ad 19)).toInt + 1) ≤ 1) (hr63_3_2 : gr70 ((oI P53 25 (ad 19)).toInt + 1) ≤ 70) (hr63_3_3 : (oI P53 25 (ad 19)).toInt + 1 ≤ 16 → gr1 ((oI P53 25 (ad 19)).toInt + 1) = 0 ∧ gr70 ((oI P53 25 (ad 19)).toInt + 1) = 0) (hr63_3_4 : 16 < (oI P53 25 (ad 19)).toInt + 1 → gr1 ((oI P53 25 (ad 19)).toInt + 1) = 1 ∧ gr70 ((oI P53 25 (ad 19)).toInt + 1) = 70) (ex66 : oI P64 1 k0 = x66) : 0 + 0 + (gr1 ((oI P53 25 (ad 19)).toInt + 1)) + 0 ≤ 2 := by
  have zg0 := gr_spec ((oI P53 25 (ad 19)).toInt + 1)
  first | assumption | omega | (subst_vars; omega) | trivial
-- room @97
theorem vX0_asText_50 (ad : Nat → Nat) (κ : KS) (k0 : Nat) (x1 : Int32) (P53 : PL) (P64 : PL) (x66 : Int32) (ex1 : oI κ.2.2.2.2 0 k0 = x1) (c2_0 : ¬ x1.toInt = 0) (c2_1 : ¬ x1.toInt = 1) (c2_2 : ¬ x1.toInt = 2) (c2_3 : ¬ x1.toInt = 3) (c2_4 : ¬ x1.toInt = 4) (hr52_2 : (oI P53 25 (ad 19)).toInt = 0) (hr63_3_0 : (oI P64 25 (ad 19)).toInt = (oI P53 25 (ad 19)).toInt + 1) (hr63_3_1 : gr1 ((oI P53 25 (ad 19)).toInt + 1) ≤ 1) (hr63_3_2 : gr70 ((oI P53 25 (ad 19)).toInt + 1) ≤ 70) (hr63_3_3 : (oI P53 25 (ad 19)).toInt + 1 ≤ 16 → gr1 ((oI P53 25 (ad 19)).toInt + 1) = 0 ∧ gr70 ((oI P53 25 (ad 19)).toInt + 1) = 0) (hr63_3_4 : 16 < (oI P53 25 (ad 19)).toInt + 1 → gr1 ((oI P53 25 (ad 19)).toInt + 1) = 1 ∧ gr70 ((oI P53 25 (ad 19)).toInt + 1) = 70) (ex66 : oI P64 1 k0 = x66) : 0 + 0 + (gr70 ((oI P53 25 (ad 19)).toInt + 1)) + 0 ≤ 16 := by
  have zg0 := gr_spec ((oI P53 25 (ad 19)).toInt + 1)
  first | assumption | omega | (subst_vars; omega) | trivial
-- pre:J4_toString_0e30d@105 @105
theorem vX0_asText_51 (ad : Nat → Nat) (κ : KS) (k0 : Nat) (x1 : Int32) (P53 : PL) (P64 : PL) (x66 : Int32) (P68 : PL) (ex1 : oI κ.2.2.2.2 0 k0 = x1) (c2_0 : ¬ x1.toInt = 0) (c2_1 : ¬ x1.toInt = 1) (c2_2 : ¬ x1.toInt = 2) (c2_3 : ¬ x1.toInt = 3) (c2_4 : ¬ x1.toInt = 4) (hr52_2 : (oI P53 25 (ad 19)).toInt = 0) (hr63_3_0 : (oI P64 25 (ad 19)).toInt = (oI P53 25 (ad 19)).toInt + 1) (hr63_3_1 : gr1 ((oI P53 25 (ad 19)).toInt + 1) ≤ 1) (hr63_3_2 : gr70 ((oI P53 25 (ad 19)).toInt + 1) ≤ 70) (ex66 : oI P64 1 k0 = x66) (hr67_3_0 : (oI P64 25 (ad 19)).toInt < (oI P68 25 (ad 19)).toInt) (hr67_3_1 : (oI P68 25 (ad 19)).toInt ≤ (oI P64 25 (ad 19)).toInt + 11) : (oI P68 25 (ad 19)).toInt ≤ 40 := by
  first | assumption | omega | (subst_vars; omega) | trivial
-- room @105
theorem vX0_asText_52 (ad : Nat → Nat) (κ : KS) (k0 : Nat) (x1 : Int32) (P53 : PL) (P64 : PL) (x66 : Int32) (P68 : PL) (ex1 : oI κ.2.2.2.2 0 k0 = x1) (c2_0 : ¬ x1.toInt = 0) (c2_1 : ¬ x1.toInt = 1) (c2_2 : ¬ x1.toInt = 2) (c2_3 : ¬ x1.toInt = 3) (c2_4 : ¬ x1.toInt = 4) (hr52_2 : (oI P53 25 (ad 19)).toInt = 0) (hr63_3_0 : (oI P64 25 (ad 19)).toInt = (oI P53 25 (ad 19)).toInt + 1) (hr63_3_1 : gr1 ((oI P53 25 (ad 19)).toInt + 1) ≤ 1) (hr63_3_2 : gr70 ((oI P53 25 (ad 19)).toInt + 1) ≤ 70) (hr63_3_3 : (oI P53 25 (ad 19)).toInt + 1 ≤ 16 → gr1 ((oI P53 25 (ad 19)).toInt + 1) = 0 ∧ gr70 ((oI P53 25 (ad 19)).toInt + 1) = 0) (hr63_3_4 : 16 < (oI P53 25 (ad 19)).toInt + 1 → gr1 ((oI P53 25 (ad 19)).toInt + 1) = 1 ∧ gr70 ((oI P53 25 (ad 19)).toInt + 1) = 70) (ex66 : oI P64 1 k0 = x66) (hr67_3_0 : (oI P64 25 (ad 19)).toInt < (oI P68 25 (ad 19)).toInt) (hr67_3_1 : (oI P68 25 (ad 19)).toInt ≤ (oI P64 25 (ad 19)).toInt + 11) : 0 + 0 + (gr1 ((oI P53 25 (ad 19)).toInt + 1)) + 0 + 2 ≤ 2 := by
  have zg0 := gr_spec ((oI P53 25 (ad 19)).toInt + 1)
  first | assumption | omega | (subst_vars; omega) | trivial
-- room @105
theorem vX0_asText_53 (ad : Nat → Nat) (κ : KS) (k0 : Nat) (x1 : Int32) (P53 : PL) (P64 : PL) (x66 : Int32) (P68 : PL) (ex1 : oI κ.2.2.2.2 0 k0 = x1) (c2_0 : ¬ x1.toInt = 0) (c2_1 : ¬ x1.toInt = 1) (c2_2 : ¬ x1.toInt = 2) (c2_3 : ¬ x1.toInt = 3) (c2_4 : ¬ x1.toInt = 4) (hr52_2 : (oI P53 25 (ad 19)).toInt = 0) (hr63_3_0 : (oI P64 25 (ad 19)).toInt = (oI P53 25 (ad 19)).toInt + 1) (hr63_3_1 : gr1 ((oI P53 25 (ad 19)).toInt + 1) ≤ 1) (hr63_3_2 : gr70 ((oI P53 25 (ad 19)).toInt + 1) ≤ 70) (hr63_3_3 : (oI P53 25 (ad 19)).toInt + 1 ≤ 16 → gr1 ((oI P53 25 (ad 19)).toInt + 1) = 0 ∧ gr70 ((oI P53 25 (ad 19)).toInt + 1) = 0) (hr63_3_4 : 16 < (oI P53 25 (ad 19)).toInt + 1 → gr1 ((oI P53 25 (ad 19)).toInt + 1) = 1 ∧ gr70 ((oI P53 25 (ad 19)).toInt + 1) = 70) (ex66 : oI P64 1 k0 = x66) (hr67_3_0 : (oI P64 25 (ad 19)).toInt < (oI P68 25 (ad 19)).toInt) (hr67_3_1 : (oI P68 25 (ad 19)).toInt ≤ (oI P64 25 (ad 19)).toInt + 11) : 0 + 0 + (gr70 ((oI P53 25 (ad 19)).toInt + 1)) + 0 + (4 + (oI P68 25 (ad 19)).toInt.toNat) ≤ 16 := by
  have zg0 := gr_spec ((oI P53 25 (ad 19)).toInt + 1)
  first | assumption | omega | (subst_vars; omega) | trivial
-- slen @108
theorem vX0_asText_54 (ad : Nat → Nat) (κ : KS) (k0 : Nat) (x1 : Int32) (P53 : PL) (P64 : PL) (x66 : Int32) (P68 : PL) (nb72 : Nat) (ex1 : oI κ.2.2.2.2 0 k0 = x1) (c2_0 : ¬ x1.toInt = 0) (c2_1 : ¬ x1.toInt = 1) (c2_2 : ¬ x1.toInt = 2) (c2_3 : ¬ x1.toInt = 3) (c2_4 : ¬ x1.toInt = 4) (hr52_2 : (oI P53 25 (ad 19)).toInt = 0) (hr63_3_0 : (oI P64 25 (ad 19)).toInt = (oI P53 25 (ad 19)).toInt + 1) (hr63_3_1 : gr1 ((oI P53 25 (ad 19)).toInt + 1) ≤ 1) (hr63_3_2 : gr70 ((oI P53 25 (ad 19)).toInt + 1) ≤ 70) (ex66 : oI P64 1 k0 = x66) (hr67_3_0 : (oI P64 25 (ad 19)).toInt < (oI P68 25 (ad 19)).toInt) (hr67_3_1 : (oI P68 25 (ad 19)).toInt ≤ (oI P64 25 (ad 19)).toInt + 11) (leb72 : ((nb72 : Nat) : Int) = (oI P68 25 (ad 19)).toInt) : nb72 ≤ 40 := by
  first | assumption | omega | (subst_vars; omega) | trivial
-- grow @108
theorem vX0_asText_55 (ad : Nat → Nat) (κ : KS) (k0 : Nat) (x1 : Int32) (P53 : PL) (P64 : PL) (x66 : Int32) (P68 : PL) (nb72 : Nat) (ex1 : oI κ.2.2.2.2 0 k0 = x1) (c2_0 : ¬ x1.toInt = 0) (c2_1 : ¬ x1.toInt = 1) (c2_2 : ¬ x1.toInt = 2) (c2_3 : ¬ x1.toInt = 3) (c2_4 : ¬ x1.toInt = 4) (hr52_2 : (oI P53 25 (ad 19)).toInt = 0) (hr63_3_0 : (oI P64 25 (ad 19)).toInt = (oI P53 25 (ad 19)).toInt + 1) (hr63_3_1 : gr1 ((oI P53 25 (ad 19)).toInt + 1) ≤ 1) (hr63_3_2 : gr70 ((oI P53 25 (ad 19)).toInt + 1) ≤ 70) (hr63_3_3 : (oI P53 25 (ad 19)).toInt + 1 ≤ 16 → gr1 ((oI P53 25 (ad 19)).toInt + 1) = 0 ∧ gr70 ((oI P53 25 (ad 19)).toInt + 1) = 0) (hr63_3_4 : 16 < (oI P53 25 (ad 19)).toInt + 1 → gr1 ((oI P53 25 (ad 19)).toInt + 1) = 1 ∧ gr70 ((oI P53 25 (ad 19)).toInt + 1) = 70) (ex66 : oI P64 1 k0 = x66) (hr67_3_0 : (oI P64 25 (ad 19)).toInt < (oI P68 25 (ad 19)).toInt) (hr67_3_1 : (oI P68 25 (ad 19)).toInt ≤ (oI P64 25 (ad 19)).toInt + 11) (leb72 : ((nb72 : Nat) : Int) = (oI P68 25 (ad 19)).toInt) : 0 + 0 + (gr1 ((oI P53 25 (ad 19)).toInt + 1)) + 0 + 2 ≤ 2 := by
  have zg0 := gr_spec ((oI P53 25 (ad 19)).toInt + 1)
  first | assumption | omega | (subst_vars; omega) | trivial
-- grow @108
theorem vX0_asText_56 (ad : Nat → Nat) (κ : KS) (k0 : Nat) (x1 : Int32) (P53 : PL) (P64 : PL) (x66 : Int32) (P68 : PL) (nb72 : Nat) (ex1 : oI κ.2.2.2.2 0 k0 = x1) (c2_0 : ¬ x1.toInt = 0) (c2_1 : ¬ x1.toInt = 1) (c2_2 : ¬ x1.toInt = 2) (c2_3 : ¬ x1.toInt = 3) (c2_4 : ¬ x1.toInt = 4) (hr52_2 : (oI P53 25 (ad 19)).toInt = 0) (hr63_3_0 : (oI P64 25 (ad 19)).toInt = (oI P53 25 (ad 19)).toInt + 1) (hr63_3_1 : gr1 ((oI P53 25 (ad 19)).toInt + 1) ≤ 1) (hr63_3_2 : gr70 ((oI P53 25 (ad 19)).toInt + 1) ≤ 70) (hr63_3_3 : (oI P53 25 (ad 19)).toInt + 1 ≤ 16 → gr1 ((oI P53 25 (ad 19)).toInt + 1) = 0 ∧ gr70 ((oI P53 25 (ad 19)).toInt + 1) = 0) (hr63_3_4 : 16 < (oI P53 25 (ad 19)).toInt + 1 → gr1 ((oI P53 25 (ad 19)).toInt + 1) = 1 ∧ gr70 ((oI P53 25 (ad 19)).toInt + 1) = 70) (ex66 : oI P64 1 k0 = x66) (hr67_3_0 : (oI P64 25 (ad 19)).toInt < (oI P68 25 (ad 19)).toInt) (hr67_3_1 : (oI P68 25 (ad 19)).toInt ≤ (oI P64 25 (ad 19)).toInt + 11) (leb72 : ((nb72 : Nat) : Int) = (oI P68 25 (ad 19)).toInt) : 0 + 0 + (gr70 ((oI P53 25 (ad 19)).toInt + 1)) + 0 + (4 + (oI P68 25 (ad 19)).toInt.toNat) ≤ 16 := by
  have zg0 := gr_spec ((oI P53 25 (ad 19)).toInt + 1)
  first | assumption | omega | (subst_vars; omega) | trivial
set_option maxHeartbeats 4000000 in
set_option maxRecDepth 100000 in
theorem NX0_asText (l : Launch) (D : va_G) (cy : Nat → ClassId) (ad : Nat → Nat) (A : Nat → Prop) (sz0 : Nat) (sa : Nat → Nat)  (κ : KS) (sz sl : Nat) (hAF : ∀ q, A q → Fr sz0 q) (hAn : ∀ q : Nat, sz ≤ q → A q) (k0 : Nat) (ht0 : oT κ.2.2.2.2 k0 = 1) (hPV : PV sa κ.2.2.2.2) (hs19 : oT κ.2.2.2.2 (ad 19) = 12) : Met l yX0_asText (Cond.code yX0_asText cX0_asText 2 (some (.object "java/lang/String")) :: GWc) ({ frames := 6, cells := 2, slots := 16, locals := 151 }) (PcC D cy ad A sz0 sa [.ref (ad 4), .ref k0] κ sz sl) (va_Qq (fun (r : Option Nat) (u : PL) => (EX κ.2.2.2.2 u) ∧ (PV sa u) ∧ (∃ b n, r = some b ∧ SL u sa b n ∧ n ≤ 40)) (fun (u : PL) (t : State) => Bx D cy ad A sz sl (tP κ u) (2) (16) t) A) (2) (16) A := by
  refine CM_of (loc0 := [(0, .ref (ad 4)), (1, .ref k0)]) (own := RX0) (nm := "asText") (by decide) rfl rfl rfl (Nat.le_of_ble_eq_true rfl) hAF hAn ?_
  intro p e s m below meth c ls hsz hsl C hP hS hl
  refine lv_aload_n C.x C.b dX0_asText_0 rfl (lv_at hl 1 rfl) ?_
  obtain ⟨x1, ex1⟩ : ∃ z, oI κ.2.2.2.2 0 k0 = z := ⟨_, rfl⟩
  refine pg_X10_0 (v := x1) C hP (t20 (a := k0) (t := 1) ht0) ex1 cw_55 dX0_asText_1 ?_
  by_cases c2_0 : x1.toInt = 0
  · refine lv_tableIn (off := 36) (tgt := 40) C.x C.b dX0_asText_4 (by rw [c2_0]; decide +kernel) (by rw [c2_0]; decide +kernel) (by rw [c2_0]; decide +kernel) (by decide) ?_
    refine va_ldcS C.x C.b C.o C.t.2.2.1 dX0_asText_40 ?_
    obtain ⟨n3, sln3, len3⟩ := (SOK.any (P := κ.2.2.2.2) (sa := sa) (c := (sa 402)) (by unfold KC; simp)).sl hPV C
    have hP : CH D cy ad A (tP κ κ.2.2.2.2) s.heap := CH.cong hP rfl rfl rfl rfl rfl rfl rfl rfl rfl rfl rfl rfl rfl rfl rfl rfl rfl rfl rfl rfl rfl rfl rfl rfl rfl rfl rfl
    exact c_retq (v := (some (sa 402))) (Or.inl ⟨_, rfl⟩) C hsz hsl κ.2.2.2.2 ⟨EX.rf, hPV, ⟨(sa 402), n3, rfl, sln3, (vX0_asText_1 n3 len3)⟩⟩ hP hS ⟨(Nat.le_of_ble_eq_true rfl), (Nat.le_of_ble_eq_true rfl)⟩ ⟨(Nat.le_of_ble_eq_true rfl), (Nat.le_of_ble_eq_true rfl)⟩ dX0_asText_42
  · by_cases c2_1 : x1.toInt = 1
    · refine lv_tableIn (off := 39) (tgt := 43) C.x C.b dX0_asText_4 (by rw [c2_1]; decide +kernel) (by rw [c2_1]; decide +kernel) (by rw [c2_1]; decide +kernel) (by decide) ?_
      refine lv_aload_n C.x C.b dX0_asText_43 rfl (lv_at hl 1 rfl) ?_
      obtain ⟨x4, ex4⟩ : ∃ z, oI κ.2.2.2.2 1 k0 = z := ⟨_, rfl⟩
      refine pg_X10_1 (v := x4) C hP (t20 (a := k0) (t := 1) ht0) ex4 cw_61 dX0_asText_44 ?_
      refine lv_iconst (v := 1) C.x C.b dX0_asText_47 (by decide +kernel) ?_
      refine lv_icmp_ne (tgt := 56) C.x C.b dX0_asText_48 (by decide) (fun c5 => ?_) (fun c5 => ?_)
      · have c5 : ¬ x4.toInt = 1 := by have h := z_ne c5; rw [show (1 : Int32).toInt = 1 from by decide +kernel] at h; exact h
        refine va_ldcS C.x C.b C.o C.t.2.1 dX0_asText_56 ?_
        obtain ⟨n6, sln6, len6⟩ := (SOK.any (P := κ.2.2.2.2) (sa := sa) (c := (sa 401)) (by unfold KC; simp)).sl hPV C
        have hP : CH D cy ad A (tP κ κ.2.2.2.2) s.heap := CH.cong hP rfl rfl rfl rfl rfl rfl rfl rfl rfl rfl rfl rfl rfl rfl rfl rfl rfl rfl rfl rfl rfl rfl rfl rfl rfl rfl rfl
        exact c_retq (v := (some (sa 401))) (Or.inl ⟨_, rfl⟩) C hsz hsl κ.2.2.2.2 ⟨EX.rf, hPV, ⟨(sa 401), n6, rfl, sln6, (vX0_asText_2 n6 len6)⟩⟩ hP hS ⟨(Nat.le_of_ble_eq_true rfl), (Nat.le_of_ble_eq_true rfl)⟩ ⟨(Nat.le_of_ble_eq_true rfl), (Nat.le_of_ble_eq_true rfl)⟩ dX0_asText_58
      · have c5 : x4.toInt = 1 := by have h := z_eq c5; rw [show (1 : Int32).toInt = 1 from by decide +kernel] at h; exact h
        refine va_ldcS C.x C.b C.o C.t.1 dX0_asText_51 ?_
        refine lv_goto (tgt := 58) C.x C.b dX0_asText_53 (by decide) ?_
        obtain ⟨n7, sln7, len7⟩ := (SOK.any (P := κ.2.2.2.2) (sa := sa) (c := (sa 400)) (by unfold KC; simp)).sl hPV C
        have hP : CH D cy ad A (tP κ κ.2.2.2.2) s.heap := CH.cong hP rfl rfl rfl rfl rfl rfl rfl rfl rfl rfl rfl rfl rfl rfl rfl rfl rfl rfl rfl rfl rfl rfl rfl rfl rfl rfl rfl
        exact c_retq (v := (some (sa 400))) (Or.inl ⟨_, rfl⟩) C hsz hsl κ.2.2.2.2 ⟨EX.rf, hPV, ⟨(sa 400), n7, rfl, sln7, (vX0_asText_3 n7 len7)⟩⟩ hP hS ⟨(Nat.le_of_ble_eq_true rfl), (Nat.le_of_ble_eq_true rfl)⟩ ⟨(Nat.le_of_ble_eq_true rfl), (Nat.le_of_ble_eq_true rfl)⟩ dX0_asText_58
    · by_cases c2_2 : x1.toInt = 2
      · refine lv_tableIn (off := 60) (tgt := 64) C.x C.b dX0_asText_4 (by rw [c2_2]; decide +kernel) (by rw [c2_2]; decide +kernel) (by rw [c2_2]; decide +kernel) (by decide) ?_
        refine lv_aload_n C.x C.b dX0_asText_64 rfl (lv_at hl 0 rfl) ?_
        refine cg_X0_1 C hP cw_9 dX0_asText_65 ?_
        refine lv_iconst (v := 0) C.x C.b dX0_asText_68 (by decide +kernel) ?_
        refine c_callVv (n := 1) (As := [.int 0]) (rest := []) C hP hS hl.1 (NJ4_setLength_d00df l D cy ad A sz0 sa κ s.heap.size (SLT s.heap) C.f (fun q h => C.a q (Nat.le_trans hS.1 h)) (ad 19) (0 : Int32) hs19 hPV (vX0_asText_4  )) ⟨cw_148, cw_151, by decide +kernel⟩ ⟨cw_149, cw_150, cw_8⟩ rfl (hP.recvP (t := 12) (ci := 1) C.K (t20 (a := (ad 19)) (t := 12) hs19) (by decide) rfl rfl) rfl rfl (lv_room (Nat.le_of_ble_eq_true rfl)) ⟨Nat.le_of_ble_eq_true rfl, Nat.le_of_ble_eq_true rfl⟩ ⟨(Nat.le_of_ble_eq_true rfl), (Nat.le_of_ble_eq_true rfl)⟩ dX0_asText_69 (fun u H locs hr8 hP hS => ?_)
        obtain ⟨P9, rfl⟩ : ∃ z, z = u := ⟨_, rfl⟩
        have hP : CH D cy ad A (tP κ P9) H := hP
        have hr8 : (EX κ.2.2.2.2 P9) ∧ (PV sa P9) ∧ ((oI P9 25 (ad 19)).toInt = 0) := hr8
        obtain ⟨hr8_0, hr8_1, hr8_2⟩ := hr8
        refine lv_aload_n C.x C.b dX0_asText_72 rfl (lv_at hl 1 rfl) ?_
        obtain ⟨x10, ex10⟩ : ∃ z, oR P9 1 k0 = z := ⟨_, rfl⟩
        refine pg_X10_4 (v := x10) C hP (t20 (a := k0) (t := 1) (hr8_0.T ht0 (by decide))) ex10 cw_56 dX0_asText_73 ?_
        have tx10 : NT P9 6 x10 := by rw [← ex10]; exact (hr8_1.t1 (hr8_0.T ht0 (by decide))).2.1
        cases x10 with
        | none =>
          refine lv_ifnullN (tgt := 89) C.x C.b dX0_asText_76 (by decide) ?_
          refine lv_aload_n C.x C.b dX0_asText_89 rfl (lv_at hl 0 rfl) ?_
          refine cg_X0_1 C hP cw_9 dX0_asText_90 ?_
          refine lv_aload_n C.x C.b dX0_asText_93 rfl (lv_at hl 1 rfl) ?_
          obtain ⟨x12, ex12⟩ : ∃ z, oI P9 1 k0 = z := ⟨_, rfl⟩
          refine pg_X10_1 (v := x12) C hP (t20 (a := k0) (t := 1) (hr8_0.T ht0 (by decide))) ex12 cw_61 dX0_asText_94 ?_
          refine c_callVq (n := 1) (As := [.int x12]) (rest := []) C hP hS hl.1 (NJ4_append_bf812 l D cy ad A sz0 sa (tP κ P9) H.size (SLT H) C.f (fun q h => C.a q (Nat.le_trans hS.1 h)) (ad 19) x12 (hr8_0.T hs19 (by decide)) hr8_1 (vX0_asText_5 ad κ k0 x1 P9 x12 ex1 c2_0 c2_1 c2_2 hr8_2 ex12)) ⟨cw_255, cw_258, by decide +kernel⟩ ⟨cw_256, cw_257, cw_8⟩ rfl (hP.recvP (t := 12) (ci := 1) C.K (t20 (a := (ad 19)) (t := 12) (hr8_0.T hs19 (by decide))) (by decide) rfl rfl) rfl rfl (lv_room (Nat.le_of_ble_eq_true rfl)) ⟨Nat.le_of_ble_eq_true rfl, Nat.le_of_ble_eq_true rfl⟩ ⟨(Nat.le_of_ble_eq_true rfl), (Nat.le_of_ble_eq_true rfl)⟩ dX0_asText_97 (fun r13 u H locs hr13 hP hS => ?_)
          obtain ⟨P14, rfl⟩ : ∃ z, z = u := ⟨_, rfl⟩
          have hP : CH D cy ad A (tP (tP κ P9) P14) H := hP
          have hr13 : (EX P9 P14) ∧ (PV sa P14) ∧ (NN P14 12 r13) ∧ ((oI P9 25 (ad 19)).toInt < (oI P14 25 (ad 19)).toInt ∧ (oI P14 25 (ad 19)).toInt ≤ (oI P9 25 (ad 19)).toInt + 11) := hr13
          obtain ⟨hr13_0, hr13_1, hr13_2, hr13_3⟩ := hr13
          obtain ⟨b15, rfl, tb15⟩ := hr13_2
          obtain ⟨hr13_3_0, hr13_3_1⟩ := hr13_3
          refine lv_pop C.x C.b dX0_asText_100 rfl ?_
          refine lv_aload_n C.x C.b dX0_asText_101 rfl (lv_at hl 0 rfl) ?_
          refine cg_X0_1 C hP cw_9 dX0_asText_102 ?_
          refine c_callVq (n := 0) (As := []) (rest := []) C hP hS hl.1 (NJ4_toString_0e30d l D cy ad A sz0 sa (tP (tP κ P9) P14) H.size (SLT H) C.f (fun q h => C.a q (Nat.le_trans hS.1 h)) (ad 19) (hr13_0.T (hr8_0.T hs19 (by decide)) (by decide)) hr13_1 (vX0_asText_6 ad κ k0 x1 P9 x12 P14 ex1 c2_0 c2_1 c2_2 hr8_2 ex12 hr13_3_0 hr13_3_1)) ⟨cw_289, cw_292, by decide +kernel⟩ ⟨cw_290, cw_291, cw_8⟩ rfl (hP.recvP (t := 12) (ci := 1) C.K (t20 (a := (ad 19)) (t := 12) (hr13_0.T (hr8_0.T hs19 (by decide)) (by decide))) (by decide) rfl rfl) rfl rfl (lv_room (Nat.le_of_ble_eq_true rfl)) ⟨Nat.le_of_ble_eq_true rfl, Nat.le_of_ble_eq_true rfl⟩ ⟨(Nat.le_of_ble_eq_true rfl), (vX0_asText_7 ad κ k0 x1 P9 x12 P14 ex1 c2_0 c2_1 c2_2 hr8_2 ex12 hr13_3_0 hr13_3_1)⟩ dX0_asText_105 (fun r16 u H locs hr16 hP hS => ?_)
          obtain ⟨P17, rfl⟩ : ∃ z, z = u := ⟨_, rfl⟩
          have hP : CH D cy ad A (tP (tP (tP κ P9) P14) P17) H := hP
          have hr16 : (EX P14 P17) ∧ (PV sa P17) ∧ (∃ b n, r16 = some b ∧ SL P17 sa b n ∧ ((n : Nat) : Int) = (oI P14 25 (ad 19)).toInt) := hr16
          obtain ⟨hr16_0, hr16_1, hr16_2⟩ := hr16
          obtain ⟨b18, nb18, rfl, tb18, leb18⟩ := hr16_2
          have hP : CH D cy ad A (tP κ P17) H := CH.cong hP rfl rfl rfl rfl rfl rfl rfl rfl rfl rfl rfl rfl rfl rfl rfl rfl rfl rfl rfl rfl rfl rfl rfl rfl rfl rfl rfl
          exact c_retq (v := (some b18)) (Or.inl ⟨_, rfl⟩) C hsz hsl P17 ⟨((hr8_0.trans hr13_0).trans hr16_0), hr16_1, ⟨b18, nb18, rfl, tb18, (vX0_asText_8 ad κ k0 x1 P9 x12 P14 nb18 ex1 c2_0 c2_1 c2_2 hr8_2 ex12 hr13_3_0 hr13_3_1 leb18)⟩⟩ hP hS ⟨(Nat.le_of_ble_eq_true rfl), (vX0_asText_9 ad κ k0 x1 P9 x12 P14 nb18 ex1 c2_0 c2_1 c2_2 hr8_2 ex12 hr13_3_0 hr13_3_1 leb18)⟩ ⟨(Nat.le_of_ble_eq_true rfl), (Nat.le_of_ble_eq_true rfl)⟩ dX0_asText_108
        | some b11 =>
          have hb11 : oT P9 b11 = 6 := tx10 b11 rfl
          refine lv_ifnull C.x C.b dX0_asText_76 ?_
          refine lv_aload_n C.x C.b dX0_asText_79 rfl (lv_at hl 0 rfl) ?_
          refine cg_X0_1 C hP cw_9 dX0_asText_80 ?_
          refine lv_bipush (v := 111) C.x C.b dX0_asText_83 (by decide +kernel) ?_
          refine c_callVq (n := 1) (As := [.int 111]) (rest := []) C hP hS hl.1 (NJ4_append_cf468 l D cy ad A sz0 sa (tP κ P9) H.size (SLT H) C.f (fun q h => C.a q (Nat.le_trans hS.1 h)) (ad 19) (111 : Int32) (hr8_0.T hs19 (by decide)) hr8_1 (vX0_asText_10 ad P9 hr8_2)) ⟨cw_218, cw_221, by decide +kernel⟩ ⟨cw_219, cw_220, cw_8⟩ rfl (hP.recvP (t := 12) (ci := 1) C.K (t20 (a := (ad 19)) (t := 12) (hr8_0.T hs19 (by decide))) (by decide) rfl rfl) rfl rfl (lv_room (Nat.le_of_ble_eq_true rfl)) ⟨Nat.le_of_ble_eq_true rfl, Nat.le_of_ble_eq_true rfl⟩ ⟨(vX0_asText_11 ad P9 hr8_2), (vX0_asText_12 ad P9 hr8_2)⟩ dX0_asText_85 (fun r19 u H locs hr19 hP hS => ?_)
          obtain ⟨P20, rfl⟩ : ∃ z, z = u := ⟨_, rfl⟩
          have hP : CH D cy ad A (tP (tP κ P9) P20) H := hP
          have hr19 : (EX P9 P20) ∧ (PV sa P20) ∧ (NN P20 12 r19) ∧ ((oI P20 25 (ad 19)).toInt = (oI P9 25 (ad 19)).toInt + 1 ∧ (gr1 ((oI P9 25 (ad 19)).toInt + 1) ≤ 1 ∧ gr70 ((oI P9 25 (ad 19)).toInt + 1) ≤ 70 ∧ ((oI P9 25 (ad 19)).toInt + 1 ≤ 16 → gr1 ((oI P9 25 (ad 19)).toInt + 1) = 0 ∧ gr70 ((oI P9 25 (ad 19)).toInt + 1) = 0) ∧ (16 < (oI P9 25 (ad 19)).toInt + 1 → gr1 ((oI P9 25 (ad 19)).toInt + 1) = 1 ∧ gr70 ((oI P9 25 (ad 19)).toInt + 1) = 70))) := hr19
          obtain ⟨hr19_0, hr19_1, hr19_2, hr19_3⟩ := hr19
          obtain ⟨b21, rfl, tb21⟩ := hr19_2
          obtain ⟨hr19_3_0, ⟨hr19_3_1, hr19_3_2, hr19_3_3, hr19_3_4⟩⟩ := hr19_3
          refine lv_pop C.x C.b dX0_asText_88 rfl ?_
          refine lv_aload_n C.x C.b dX0_asText_89 rfl (lv_at hl 0 rfl) ?_
          refine cg_X0_1 C hP cw_9 dX0_asText_90 ?_
          refine lv_aload_n C.x C.b dX0_asText_93 rfl (lv_at hl 1 rfl) ?_
          obtain ⟨x22, ex22⟩ : ∃ z, oI P20 1 k0 = z := ⟨_, rfl⟩
          refine pg_X10_1 (v := x22) C hP (t20 (a := k0) (t := 1) (hr19_0.T (hr8_0.T ht0 (by decide)) (by decide))) ex22 cw_61 dX0_asText_94 ?_
          refine c_callVq (n := 1) (As := [.int x22]) (rest := []) C hP hS hl.1 (NJ4_append_bf812 l D cy ad A sz0 sa (tP (tP κ P9) P20) H.size (SLT H) C.f (fun q h => C.a q (Nat.le_trans hS.1 h)) (ad 19) x22 (hr19_0.T (hr8_0.T hs19 (by decide)) (by decide)) hr19_1 (vX0_asText_13 ad κ k0 x1 P9 P20 x22 ex1 c2_0 c2_1 c2_2 hr8_2 hr19_3_0 hr19_3_1 hr19_3_2 hr19_3_3 hr19_3_4 ex22)) ⟨cw_255, cw_258, by decide +kernel⟩ ⟨cw_256, cw_257, cw_8⟩ rfl (hP.recvP (t := 12) (ci := 1) C.K (t20 (a := (ad 19)) (t := 12) (hr19_0.T (hr8_0.T hs19 (by decide)) (by decide))) (by decide) rfl rfl) rfl rfl (lv_room (Nat.le_of_ble_eq_true rfl)) ⟨Nat.le_of_ble_eq_true rfl, Nat.le_of_ble_eq_true rfl⟩ ⟨(vX0_asText_14 ad κ k0 x1 P9 P20 x22 ex1 c2_0 c2_1 c2_2 hr8_2 hr19_3_0 hr19_3_1 hr19_3_2 hr19_3_3 hr19_3_4 ex22), (vX0_asText_15 ad κ k0 x1 P9 P20 x22 ex1 c2_0 c2_1 c2_2 hr8_2 hr19_3_0 hr19_3_1 hr19_3_2 hr19_3_3 hr19_3_4 ex22)⟩ dX0_asText_97 (fun r23 u H locs hr23 hP hS => ?_)
          obtain ⟨P24, rfl⟩ : ∃ z, z = u := ⟨_, rfl⟩
          have hP : CH D cy ad A (tP (tP (tP κ P9) P20) P24) H := hP
          have hr23 : (EX P20 P24) ∧ (PV sa P24) ∧ (NN P24 12 r23) ∧ ((oI P20 25 (ad 19)).toInt < (oI P24 25 (ad 19)).toInt ∧ (oI P24 25 (ad 19)).toInt ≤ (oI P20 25 (ad 19)).toInt + 11) := hr23
          obtain ⟨hr23_0, hr23_1, hr23_2, hr23_3⟩ := hr23
          obtain ⟨b25, rfl, tb25⟩ := hr23_2
          obtain ⟨hr23_3_0, hr23_3_1⟩ := hr23_3
          refine lv_pop C.x C.b dX0_asText_100 rfl ?_
          refine lv_aload_n C.x C.b dX0_asText_101 rfl (lv_at hl 0 rfl) ?_
          refine cg_X0_1 C hP cw_9 dX0_asText_102 ?_
          refine c_callVq (n := 0) (As := []) (rest := []) C hP hS hl.1 (NJ4_toString_0e30d l D cy ad A sz0 sa (tP (tP (tP κ P9) P20) P24) H.size (SLT H) C.f (fun q h => C.a q (Nat.le_trans hS.1 h)) (ad 19) (hr23_0.T (hr19_0.T (hr8_0.T hs19 (by decide)) (by decide)) (by decide)) hr23_1 (vX0_asText_16 ad κ k0 x1 P9 P20 x22 P24 ex1 c2_0 c2_1 c2_2 hr8_2 hr19_3_0 hr19_3_1 hr19_3_2 ex22 hr23_3_0 hr23_3_1)) ⟨cw_289, cw_292, by decide +kernel⟩ ⟨cw_290, cw_291, cw_8⟩ rfl (hP.recvP (t := 12) (ci := 1) C.K (t20 (a := (ad 19)) (t := 12) (hr23_0.T (hr19_0.T (hr8_0.T hs19 (by decide)) (by decide)) (by decide))) (by decide) rfl rfl) rfl rfl (lv_room (Nat.le_of_ble_eq_true rfl)) ⟨Nat.le_of_ble_eq_true rfl, Nat.le_of_ble_eq_true rfl⟩ ⟨(vX0_asText_17 ad κ k0 x1 P9 P20 x22 P24 ex1 c2_0 c2_1 c2_2 hr8_2 hr19_3_0 hr19_3_1 hr19_3_2 hr19_3_3 hr19_3_4 ex22 hr23_3_0 hr23_3_1), (vX0_asText_18 ad κ k0 x1 P9 P20 x22 P24 ex1 c2_0 c2_1 c2_2 hr8_2 hr19_3_0 hr19_3_1 hr19_3_2 hr19_3_3 hr19_3_4 ex22 hr23_3_0 hr23_3_1)⟩ dX0_asText_105 (fun r26 u H locs hr26 hP hS => ?_)
          obtain ⟨P27, rfl⟩ : ∃ z, z = u := ⟨_, rfl⟩
          have hP : CH D cy ad A (tP (tP (tP (tP κ P9) P20) P24) P27) H := hP
          have hr26 : (EX P24 P27) ∧ (PV sa P27) ∧ (∃ b n, r26 = some b ∧ SL P27 sa b n ∧ ((n : Nat) : Int) = (oI P24 25 (ad 19)).toInt) := hr26
          obtain ⟨hr26_0, hr26_1, hr26_2⟩ := hr26
          obtain ⟨b28, nb28, rfl, tb28, leb28⟩ := hr26_2
          have hP : CH D cy ad A (tP κ P27) H := CH.cong hP rfl rfl rfl rfl rfl rfl rfl rfl rfl rfl rfl rfl rfl rfl rfl rfl rfl rfl rfl rfl rfl rfl rfl rfl rfl rfl rfl
          exact c_retq (v := (some b28)) (Or.inl ⟨_, rfl⟩) C hsz hsl P27 ⟨(((hr8_0.trans hr19_0).trans hr23_0).trans hr26_0), hr26_1, ⟨b28, nb28, rfl, tb28, (vX0_asText_19 ad κ k0 x1 P9 P20 x22 P24 nb28 ex1 c2_0 c2_1 c2_2 hr8_2 hr19_3_0 hr19_3_1 hr19_3_2 ex22 hr23_3_0 hr23_3_1 leb28)⟩⟩ hP hS ⟨(vX0_asText_20 ad κ k0 x1 P9 P20 x22 P24 nb28 ex1 c2_0 c2_1 c2_2 hr8_2 hr19_3_0 hr19_3_1 hr19_3_2 hr19_3_3 hr19_3_4 ex22 hr23_3_0 hr23_3_1 leb28), (vX0_asText_21 ad κ k0 x1 P9 P20 x22 P24 nb28 ex1 c2_0 c2_1 c2_2 hr8_2 hr19_3_0 hr19_3_1 hr19_3_2 hr19_3_3 hr19_3_4 ex22 hr23_3_0 hr23_3_1 leb28)⟩ ⟨(Nat.le_of_ble_eq_true rfl), (Nat.le_of_ble_eq_true rfl)⟩ dX0_asText_108
      · by_cases c2_3 : x1.toInt = 3
        · refine lv_tableIn (off := 60) (tgt := 64) C.x C.b dX0_asText_4 (by rw [c2_3]; decide +kernel) (by rw [c2_3]; decide +kernel) (by rw [c2_3]; decide +kernel) (by decide) ?_
          refine lv_aload_n C.x C.b dX0_asText_64 rfl (lv_at hl 0 rfl) ?_
          refine cg_X0_1 C hP cw_9 dX0_asText_65 ?_
          refine lv_iconst (v := 0) C.x C.b dX0_asText_68 (by decide +kernel) ?_
          refine c_callVv (n := 1) (As := [.int 0]) (rest := []) C hP hS hl.1 (NJ4_setLength_d00df l D cy ad A sz0 sa κ s.heap.size (SLT s.heap) C.f (fun q h => C.a q (Nat.le_trans hS.1 h)) (ad 19) (0 : Int32) hs19 hPV (vX0_asText_4  )) ⟨cw_148, cw_151, by decide +kernel⟩ ⟨cw_149, cw_150, cw_8⟩ rfl (hP.recvP (t := 12) (ci := 1) C.K (t20 (a := (ad 19)) (t := 12) hs19) (by decide) rfl rfl) rfl rfl (lv_room (Nat.le_of_ble_eq_true rfl)) ⟨Nat.le_of_ble_eq_true rfl, Nat.le_of_ble_eq_true rfl⟩ ⟨(Nat.le_of_ble_eq_true rfl), (Nat.le_of_ble_eq_true rfl)⟩ dX0_asText_69 (fun u H locs hr29 hP hS => ?_)
          obtain ⟨P30, rfl⟩ : ∃ z, z = u := ⟨_, rfl⟩
          have hP : CH D cy ad A (tP κ P30) H := hP
          have hr29 : (EX κ.2.2.2.2 P30) ∧ (PV sa P30) ∧ ((oI P30 25 (ad 19)).toInt = 0) := hr29
          obtain ⟨hr29_0, hr29_1, hr29_2⟩ := hr29
          refine lv_aload_n C.x C.b dX0_asText_72 rfl (lv_at hl 1 rfl) ?_
          obtain ⟨x31, ex31⟩ : ∃ z, oR P30 1 k0 = z := ⟨_, rfl⟩
          refine pg_X10_4 (v := x31) C hP (t20 (a := k0) (t := 1) (hr29_0.T ht0 (by decide))) ex31 cw_56 dX0_asText_73 ?_
          have tx31 : NT P30 6 x31 := by rw [← ex31]; exact (hr29_1.t1 (hr29_0.T ht0 (by decide))).2.1
          cases x31 with
          | none =>
            refine lv_ifnullN (tgt := 89) C.x C.b dX0_asText_76 (by decide) ?_
            refine lv_aload_n C.x C.b dX0_asText_89 rfl (lv_at hl 0 rfl) ?_
            refine cg_X0_1 C hP cw_9 dX0_asText_90 ?_
            refine lv_aload_n C.x C.b dX0_asText_93 rfl (lv_at hl 1 rfl) ?_
            obtain ⟨x33, ex33⟩ : ∃ z, oI P30 1 k0 = z := ⟨_, rfl⟩
            refine pg_X10_1 (v := x33) C hP (t20 (a := k0) (t := 1) (hr29_0.T ht0 (by decide))) ex33 cw_61 dX0_asText_94 ?_
            refine c_callVq (n := 1) (As := [.int x33]) (rest := []) C hP hS hl.1 (NJ4_append_bf812 l D cy ad A sz0 sa (tP κ P30) H.size (SLT H) C.f (fun q h => C.a q (Nat.le_trans hS.1 h)) (ad 19) x33 (hr29_0.T hs19 (by decide)) hr29_1 (vX0_asText_22 ad κ k0 x1 P30 x33 ex1 c2_0 c2_1 c2_2 c2_3 hr29_2 ex33)) ⟨cw_255, cw_258, by decide +kernel⟩ ⟨cw_256, cw_257, cw_8⟩ rfl (hP.recvP (t := 12) (ci := 1) C.K (t20 (a := (ad 19)) (t := 12) (hr29_0.T hs19 (by decide))) (by decide) rfl rfl) rfl rfl (lv_room (Nat.le_of_ble_eq_true rfl)) ⟨Nat.le_of_ble_eq_true rfl, Nat.le_of_ble_eq_true rfl⟩ ⟨(Nat.le_of_ble_eq_true rfl), (Nat.le_of_ble_eq_true rfl)⟩ dX0_asText_97 (fun r34 u H locs hr34 hP hS => ?_)
            obtain ⟨P35, rfl⟩ : ∃ z, z = u := ⟨_, rfl⟩
            have hP : CH D cy ad A (tP (tP κ P30) P35) H := hP
            have hr34 : (EX P30 P35) ∧ (PV sa P35) ∧ (NN P35 12 r34) ∧ ((oI P30 25 (ad 19)).toInt < (oI P35 25 (ad 19)).toInt ∧ (oI P35 25 (ad 19)).toInt ≤ (oI P30 25 (ad 19)).toInt + 11) := hr34
            obtain ⟨hr34_0, hr34_1, hr34_2, hr34_3⟩ := hr34
            obtain ⟨b36, rfl, tb36⟩ := hr34_2
            obtain ⟨hr34_3_0, hr34_3_1⟩ := hr34_3
            refine lv_pop C.x C.b dX0_asText_100 rfl ?_
            refine lv_aload_n C.x C.b dX0_asText_101 rfl (lv_at hl 0 rfl) ?_
            refine cg_X0_1 C hP cw_9 dX0_asText_102 ?_
            refine c_callVq (n := 0) (As := []) (rest := []) C hP hS hl.1 (NJ4_toString_0e30d l D cy ad A sz0 sa (tP (tP κ P30) P35) H.size (SLT H) C.f (fun q h => C.a q (Nat.le_trans hS.1 h)) (ad 19) (hr34_0.T (hr29_0.T hs19 (by decide)) (by decide)) hr34_1 (vX0_asText_23 ad κ k0 x1 P30 x33 P35 ex1 c2_0 c2_1 c2_2 c2_3 hr29_2 ex33 hr34_3_0 hr34_3_1)) ⟨cw_289, cw_292, by decide +kernel⟩ ⟨cw_290, cw_291, cw_8⟩ rfl (hP.recvP (t := 12) (ci := 1) C.K (t20 (a := (ad 19)) (t := 12) (hr34_0.T (hr29_0.T hs19 (by decide)) (by decide))) (by decide) rfl rfl) rfl rfl (lv_room (Nat.le_of_ble_eq_true rfl)) ⟨Nat.le_of_ble_eq_true rfl, Nat.le_of_ble_eq_true rfl⟩ ⟨(Nat.le_of_ble_eq_true rfl), (vX0_asText_24 ad κ k0 x1 P30 x33 P35 ex1 c2_0 c2_1 c2_2 c2_3 hr29_2 ex33 hr34_3_0 hr34_3_1)⟩ dX0_asText_105 (fun r37 u H locs hr37 hP hS => ?_)
            obtain ⟨P38, rfl⟩ : ∃ z, z = u := ⟨_, rfl⟩
            have hP : CH D cy ad A (tP (tP (tP κ P30) P35) P38) H := hP
            have hr37 : (EX P35 P38) ∧ (PV sa P38) ∧ (∃ b n, r37 = some b ∧ SL P38 sa b n ∧ ((n : Nat) : Int) = (oI P35 25 (ad 19)).toInt) := hr37
            obtain ⟨hr37_0, hr37_1, hr37_2⟩ := hr37
            obtain ⟨b39, nb39, rfl, tb39, leb39⟩ := hr37_2
            have hP : CH D cy ad A (tP κ P38) H := CH.cong hP rfl rfl rfl rfl rfl rfl rfl rfl rfl rfl rfl rfl rfl rfl rfl rfl rfl rfl rfl rfl rfl rfl rfl rfl rfl rfl rfl
            exact c_retq (v := (some b39)) (Or.inl ⟨_, rfl⟩) C hsz hsl P38 ⟨((hr29_0.trans hr34_0).trans hr37_0), hr37_1, ⟨b39, nb39, rfl, tb39, (vX0_asText_25 ad κ k0 x1 P30 x33 P35 nb39 ex1 c2_0 c2_1 c2_2 c2_3 hr29_2 ex33 hr34_3_0 hr34_3_1 leb39)⟩⟩ hP hS ⟨(Nat.le_of_ble_eq_true rfl), (vX0_asText_26 ad κ k0 x1 P30 x33 P35 nb39 ex1 c2_0 c2_1 c2_2 c2_3 hr29_2 ex33 hr34_3_0 hr34_3_1 leb39)⟩ ⟨(Nat.le_of_ble_eq_true rfl), (Nat.le_of_ble_eq_true rfl)⟩ dX0_asText_108
          | some b32 =>
            have hb32 : oT P30 b32 = 6 := tx31 b32 rfl
            refine lv_ifnull C.x C.b dX0_asText_76 ?_
            refine lv_aload_n C.x C.b dX0_asText_79 rfl (lv_at hl 0 rfl) ?_
            refine cg_X0_1 C hP cw_9 dX0_asText_80 ?_
            refine lv_bipush (v := 111) C.x C.b dX0_asText_83 (by decide +kernel) ?_
            refine c_callVq (n := 1) (As := [.int 111]) (rest := []) C hP hS hl.1 (NJ4_append_cf468 l D cy ad A sz0 sa (tP κ P30) H.size (SLT H) C.f (fun q h => C.a q (Nat.le_trans hS.1 h)) (ad 19) (111 : Int32) (hr29_0.T hs19 (by decide)) hr29_1 (vX0_asText_27 ad P30 hr29_2)) ⟨cw_218, cw_221, by decide +kernel⟩ ⟨cw_219, cw_220, cw_8⟩ rfl (hP.recvP (t := 12) (ci := 1) C.K (t20 (a := (ad 19)) (t := 12) (hr29_0.T hs19 (by decide))) (by decide) rfl rfl) rfl rfl (lv_room (Nat.le_of_ble_eq_true rfl)) ⟨Nat.le_of_ble_eq_true rfl, Nat.le_of_ble_eq_true rfl⟩ ⟨(vX0_asText_28 ad P30 hr29_2), (vX0_asText_29 ad P30 hr29_2)⟩ dX0_asText_85 (fun r40 u H locs hr40 hP hS => ?_)
            obtain ⟨P41, rfl⟩ : ∃ z, z = u := ⟨_, rfl⟩
            have hP : CH D cy ad A (tP (tP κ P30) P41) H := hP
            have hr40 : (EX P30 P41) ∧ (PV sa P41) ∧ (NN P41 12 r40) ∧ ((oI P41 25 (ad 19)).toInt = (oI P30 25 (ad 19)).toInt + 1 ∧ (gr1 ((oI P30 25 (ad 19)).toInt + 1) ≤ 1 ∧ gr70 ((oI P30 25 (ad 19)).toInt + 1) ≤ 70 ∧ ((oI P30 25 (ad 19)).toInt + 1 ≤ 16 → gr1 ((oI P30 25 (ad 19)).toInt + 1) = 0 ∧ gr70 ((oI P30 25 (ad 19)).toInt + 1) = 0) ∧ (16 < (oI P30 25 (ad 19)).toInt + 1 → gr1 ((oI P30 25 (ad 19)).toInt + 1) = 1 ∧ gr70 ((oI P30 25 (ad 19)).toInt + 1) = 70))) := hr40
            obtain ⟨hr40_0, hr40_1, hr40_2, hr40_3⟩ := hr40
            obtain ⟨b42, rfl, tb42⟩ := hr40_2
            obtain ⟨hr40_3_0, ⟨hr40_3_1, hr40_3_2, hr40_3_3, hr40_3_4⟩⟩ := hr40_3
            refine lv_pop C.x C.b dX0_asText_88 rfl ?_
            refine lv_aload_n C.x C.b dX0_asText_89 rfl (lv_at hl 0 rfl) ?_
            refine cg_X0_1 C hP cw_9 dX0_asText_90 ?_
            refine lv_aload_n C.x C.b dX0_asText_93 rfl (lv_at hl 1 rfl) ?_
            obtain ⟨x43, ex43⟩ : ∃ z, oI P41 1 k0 = z := ⟨_, rfl⟩
            refine pg_X10_1 (v := x43) C hP (t20 (a := k0) (t := 1) (hr40_0.T (hr29_0.T ht0 (by decide)) (by decide))) ex43 cw_61 dX0_asText_94 ?_
            refine c_callVq (n := 1) (As := [.int x43]) (rest := []) C hP hS hl.1 (NJ4_append_bf812 l D cy ad A sz0 sa (tP (tP κ P30) P41) H.size (SLT H) C.f (fun q h => C.a q (Nat.le_trans hS.1 h)) (ad 19) x43 (hr40_0.T (hr29_0.T hs19 (by decide)) (by decide)) hr40_1 (vX0_asText_30 ad κ k0 x1 P30 P41 x43 ex1 c2_0 c2_1 c2_2 c2_3 hr29_2 hr40_3_0 hr40_3_1 hr40_3_2 hr40_3_3 hr40_3_4 ex43)) ⟨cw_255, cw_258, by decide +kernel⟩ ⟨cw_256, cw_257, cw_8⟩ rfl (hP.recvP (t := 12) (ci := 1) C.K (t20 (a := (ad 19)) (t := 12) (hr40_0.T (hr29_0.T hs19 (by decide)) (by decide))) (by decide) rfl rfl) rfl rfl (lv_room (Nat.le_of_ble_eq_true rfl)) ⟨Nat.le_of_ble_eq_true rfl, Nat.le_of_ble_eq_true rfl⟩ ⟨(vX0_asText_31 ad κ k0 x1 P30 P41 x43 ex1 c2_0 c2_1 c2_2 c2_3 hr29_2 hr40_3_0 hr40_3_1 hr40_3_2 hr40_3_3 hr40_3_4 ex43), (vX0_asText_32 ad κ k0 x1 P30 P41 x43 ex1 c2_0 c2_1 c2_2 c2_3 hr29_2 hr40_3_0 hr40_3_1 hr40_3_2 hr40_3_3 hr40_3_4 ex43)⟩ dX0_asText_97 (fun r44 u H locs hr44 hP hS => ?_)
            obtain ⟨P45, rfl⟩ : ∃ z, z = u := ⟨_, rfl⟩
            have hP : CH D cy ad A (tP (tP (tP κ P30) P41) P45) H := hP
            have hr44 : (EX P41 P45) ∧ (PV sa P45) ∧ (NN P45 12 r44) ∧ ((oI P41 25 (ad 19)).toInt < (oI P45 25 (ad 19)).toInt ∧ (oI P45 25 (ad 19)).toInt ≤ (oI P41 25 (ad 19)).toInt + 11) := hr44
            obtain ⟨hr44_0, hr44_1, hr44_2, hr44_3⟩ := hr44
            obtain ⟨b46, rfl, tb46⟩ := hr44_2
            obtain ⟨hr44_3_0, hr44_3_1⟩ := hr44_3
            refine lv_pop C.x C.b dX0_asText_100 rfl ?_
            refine lv_aload_n C.x C.b dX0_asText_101 rfl (lv_at hl 0 rfl) ?_
            refine cg_X0_1 C hP cw_9 dX0_asText_102 ?_
            refine c_callVq (n := 0) (As := []) (rest := []) C hP hS hl.1 (NJ4_toString_0e30d l D cy ad A sz0 sa (tP (tP (tP κ P30) P41) P45) H.size (SLT H) C.f (fun q h => C.a q (Nat.le_trans hS.1 h)) (ad 19) (hr44_0.T (hr40_0.T (hr29_0.T hs19 (by decide)) (by decide)) (by decide)) hr44_1 (vX0_asText_33 ad κ k0 x1 P30 P41 x43 P45 ex1 c2_0 c2_1 c2_2 c2_3 hr29_2 hr40_3_0 hr40_3_1 hr40_3_2 ex43 hr44_3_0 hr44_3_1)) ⟨cw_289, cw_292, by decide +kernel⟩ ⟨cw_290, cw_291, cw_8⟩ rfl (hP.recvP (t := 12) (ci := 1) C.K (t20 (a := (ad 19)) (t := 12) (hr44_0.T (hr40_0.T (hr29_0.T hs19 (by decide)) (by decide)) (by decide))) (by decide) rfl rfl) rfl rfl (lv_room (Nat.le_of_ble_eq_true rfl)) ⟨Nat.le_of_ble_eq_true rfl, Nat.le_of_ble_eq_true rfl⟩ ⟨(vX0_asText_34 ad κ k0 x1 P30 P41 x43 P45 ex1 c2_0 c2_1 c2_2 c2_3 hr29_2 hr40_3_0 hr40_3_1 hr40_3_2 hr40_3_3 hr40_3_4 ex43 hr44_3_0 hr44_3_1), (vX0_asText_35 ad κ k0 x1 P30 P41 x43 P45 ex1 c2_0 c2_1 c2_2 c2_3 hr29_2 hr40_3_0 hr40_3_1 hr40_3_2 hr40_3_3 hr40_3_4 ex43 hr44_3_0 hr44_3_1)⟩ dX0_asText_105 (fun r47 u H locs hr47 hP hS => ?_)
            obtain ⟨P48, rfl⟩ : ∃ z, z = u := ⟨_, rfl⟩
            have hP : CH D cy ad A (tP (tP (tP (tP κ P30) P41) P45) P48) H := hP
            have hr47 : (EX P45 P48) ∧ (PV sa P48) ∧ (∃ b n, r47 = some b ∧ SL P48 sa b n ∧ ((n : Nat) : Int) = (oI P45 25 (ad 19)).toInt) := hr47
            obtain ⟨hr47_0, hr47_1, hr47_2⟩ := hr47
            obtain ⟨b49, nb49, rfl, tb49, leb49⟩ := hr47_2
            have hP : CH D cy ad A (tP κ P48) H := CH.cong hP rfl rfl rfl rfl rfl rfl rfl rfl rfl rfl rfl rfl rfl rfl rfl rfl rfl rfl rfl rfl rfl rfl rfl rfl rfl rfl rfl
            exact c_retq (v := (some b49)) (Or.inl ⟨_, rfl⟩) C hsz hsl P48 ⟨(((hr29_0.trans hr40_0).trans hr44_0).trans hr47_0), hr47_1, ⟨b49, nb49, rfl, tb49, (vX0_asText_36 ad κ k0 x1 P30 P41 x43 P45 nb49 ex1 c2_0 c2_1 c2_2 c2_3 hr29_2 hr40_3_0 hr40_3_1 hr40_3_2 ex43 hr44_3_0 hr44_3_1 leb49)⟩⟩ hP hS ⟨(vX0_asText_37 ad κ k0 x1 P30 P41 x43 P45 nb49 ex1 c2_0 c2_1 c2_2 c2_3 hr29_2 hr40_3_0 hr40_3_1 hr40_3_2 hr40_3_3 hr40_3_4 ex43 hr44_3_0 hr44_3_1 leb49), (vX0_asText_38 ad κ k0 x1 P30 P41 x43 P45 nb49 ex1 c2_0 c2_1 c2_2 c2_3 hr29_2 hr40_3_0 hr40_3_1 hr40_3_2 hr40_3_3 hr40_3_4 ex43 hr44_3_0 hr44_3_1 leb49)⟩ ⟨(Nat.le_of_ble_eq_true rfl), (Nat.le_of_ble_eq_true rfl)⟩ dX0_asText_108
        · by_cases c2_4 : x1.toInt = 4
          · refine lv_tableIn (off := 55) (tgt := 59) C.x C.b dX0_asText_4 (by rw [c2_4]; decide +kernel) (by rw [c2_4]; decide +kernel) (by rw [c2_4]; decide +kernel) (by decide) ?_
            refine lv_aload_n C.x C.b dX0_asText_59 rfl (lv_at hl 1 rfl) ?_
            obtain ⟨x50, ex50, hx50⟩ := (hPV.t1 ht0).1
            refine pg_X10_3 (v := some x50) C hP (t20 (a := k0) (t := 1) ht0) ex50 cw_65 dX0_asText_60 ?_
            obtain ⟨n51, sln51, len51⟩ := hx50.sl hPV C
            have hP : CH D cy ad A (tP κ κ.2.2.2.2) s.heap := CH.cong hP rfl rfl rfl rfl rfl rfl rfl rfl rfl rfl rfl rfl rfl rfl rfl rfl rfl rfl rfl rfl rfl rfl rfl rfl rfl rfl rfl
            exact c_retq (v := (some x50)) (Or.inl ⟨_, rfl⟩) C hsz hsl κ.2.2.2.2 ⟨EX.rf, hPV, ⟨x50, n51, rfl, sln51, (vX0_asText_39 n51 len51)⟩⟩ hP hS ⟨(Nat.le_of_ble_eq_true rfl), (Nat.le_of_ble_eq_true rfl)⟩ ⟨(Nat.le_of_ble_eq_true rfl), (Nat.le_of_ble_eq_true rfl)⟩ dX0_asText_63
          · refine lv_tableOut (tgt := 64) C.x C.b dX0_asText_4 (by omega) (by decide) ?_
            refine lv_aload_n C.x C.b dX0_asText_64 rfl (lv_at hl 0 rfl) ?_
            refine cg_X0_1 C hP cw_9 dX0_asText_65 ?_
            refine lv_iconst (v := 0) C.x C.b dX0_asText_68 (by decide +kernel) ?_
            refine c_callVv (n := 1) (As := [.int 0]) (rest := []) C hP hS hl.1 (NJ4_setLength_d00df l D cy ad A sz0 sa κ s.heap.size (SLT s.heap) C.f (fun q h => C.a q (Nat.le_trans hS.1 h)) (ad 19) (0 : Int32) hs19 hPV (vX0_asText_4  )) ⟨cw_148, cw_151, by decide +kernel⟩ ⟨cw_149, cw_150, cw_8⟩ rfl (hP.recvP (t := 12) (ci := 1) C.K (t20 (a := (ad 19)) (t := 12) hs19) (by decide) rfl rfl) rfl rfl (lv_room (Nat.le_of_ble_eq_true rfl)) ⟨Nat.le_of_ble_eq_true rfl, Nat.le_of_ble_eq_true rfl⟩ ⟨(Nat.le_of_ble_eq_true rfl), (Nat.le_of_ble_eq_true rfl)⟩ dX0_asText_69 (fun u H locs hr52 hP hS => ?_)
            obtain ⟨P53, rfl⟩ : ∃ z, z = u := ⟨_, rfl⟩
            have hP : CH D cy ad A (tP κ P53) H := hP
            have hr52 : (EX κ.2.2.2.2 P53) ∧ (PV sa P53) ∧ ((oI P53 25 (ad 19)).toInt = 0) := hr52
            obtain ⟨hr52_0, hr52_1, hr52_2⟩ := hr52
            refine lv_aload_n C.x C.b dX0_asText_72 rfl (lv_at hl 1 rfl) ?_
            obtain ⟨x54, ex54⟩ : ∃ z, oR P53 1 k0 = z := ⟨_, rfl⟩
            refine pg_X10_4 (v := x54) C hP (t20 (a := k0) (t := 1) (hr52_0.T ht0 (by decide))) ex54 cw_56 dX0_asText_73 ?_
            have tx54 : NT P53 6 x54 := by rw [← ex54]; exact (hr52_1.t1 (hr52_0.T ht0 (by decide))).2.1
            cases x54 with
            | none =>
              refine lv_ifnullN (tgt := 89) C.x C.b dX0_asText_76 (by decide) ?_
              refine lv_aload_n C.x C.b dX0_asText_89 rfl (lv_at hl 0 rfl) ?_
              refine cg_X0_1 C hP cw_9 dX0_asText_90 ?_
              refine lv_aload_n C.x C.b dX0_asText_93 rfl (lv_at hl 1 rfl) ?_
              obtain ⟨x56, ex56⟩ : ∃ z, oI P53 1 k0 = z := ⟨_, rfl⟩
              refine pg_X10_1 (v := x56) C hP (t20 (a := k0) (t := 1) (hr52_0.T ht0 (by decide))) ex56 cw_61 dX0_asText_94 ?_
              refine c_callVq (n := 1) (As := [.int x56]) (rest := []) C hP hS hl.1 (NJ4_append_bf812 l D cy ad A sz0 sa (tP κ P53) H.size (SLT H) C.f (fun q h => C.a q (Nat.le_trans hS.1 h)) (ad 19) x56 (hr52_0.T hs19 (by decide)) hr52_1 (vX0_asText_40 ad κ k0 x1 P53 x56 ex1 c2_0 c2_1 c2_2 c2_3 c2_4 hr52_2 ex56)) ⟨cw_255, cw_258, by decide +kernel⟩ ⟨cw_256, cw_257, cw_8⟩ rfl (hP.recvP (t := 12) (ci := 1) C.K (t20 (a := (ad 19)) (t := 12) (hr52_0.T hs19 (by decide))) (by decide) rfl rfl) rfl rfl (lv_room (Nat.le_of_ble_eq_true rfl)) ⟨Nat.le_of_ble_eq_true rfl, Nat.le_of_ble_eq_true rfl⟩ ⟨(Nat.le_of_ble_eq_true rfl), (Nat.le_of_ble_eq_true rfl)⟩ dX0_asText_97 (fun r57 u H locs hr57 hP hS => ?_)
              obtain ⟨P58, rfl⟩ : ∃ z, z = u := ⟨_, rfl⟩
              have hP : CH D cy ad A (tP (tP κ P53) P58) H := hP
              have hr57 : (EX P53 P58) ∧ (PV sa P58) ∧ (NN P58 12 r57) ∧ ((oI P53 25 (ad 19)).toInt < (oI P58 25 (ad 19)).toInt ∧ (oI P58 25 (ad 19)).toInt ≤ (oI P53 25 (ad 19)).toInt + 11) := hr57
              obtain ⟨hr57_0, hr57_1, hr57_2, hr57_3⟩ := hr57
              obtain ⟨b59, rfl, tb59⟩ := hr57_2
              obtain ⟨hr57_3_0, hr57_3_1⟩ := hr57_3
              refine lv_pop C.x C.b dX0_asText_100 rfl ?_
              refine lv_aload_n C.x C.b dX0_asText_101 rfl (lv_at hl 0 rfl) ?_
              refine cg_X0_1 C hP cw_9 dX0_asText_102 ?_
              refine c_callVq (n := 0) (As := []) (rest := []) C hP hS hl.1 (NJ4_toString_0e30d l D cy ad A sz0 sa (tP (tP κ P53) P58) H.size (SLT H) C.f (fun q h => C.a q (Nat.le_trans hS.1 h)) (ad 19) (hr57_0.T (hr52_0.T hs19 (by decide)) (by decide)) hr57_1 (vX0_asText_41 ad κ k0 x1 P53 x56 P58 ex1 c2_0 c2_1 c2_2 c2_3 c2_4 hr52_2 ex56 hr57_3_0 hr57_3_1)) ⟨cw_289, cw_292, by decide +kernel⟩ ⟨cw_290, cw_291, cw_8⟩ rfl (hP.recvP (t := 12) (ci := 1) C.K (t20 (a := (ad 19)) (t := 12) (hr57_0.T (hr52_0.T hs19 (by decide)) (by decide))) (by decide) rfl rfl) rfl rfl (lv_room (Nat.le_of_ble_eq_true rfl)) ⟨Nat.le_of_ble_eq_true rfl, Nat.le_of_ble_eq_true rfl⟩ ⟨(Nat.le_of_ble_eq_true rfl), (vX0_asText_42 ad κ k0 x1 P53 x56 P58 ex1 c2_0 c2_1 c2_2 c2_3 c2_4 hr52_2 ex56 hr57_3_0 hr57_3_1)⟩ dX0_asText_105 (fun r60 u H locs hr60 hP hS => ?_)
              obtain ⟨P61, rfl⟩ : ∃ z, z = u := ⟨_, rfl⟩
              have hP : CH D cy ad A (tP (tP (tP κ P53) P58) P61) H := hP
              have hr60 : (EX P58 P61) ∧ (PV sa P61) ∧ (∃ b n, r60 = some b ∧ SL P61 sa b n ∧ ((n : Nat) : Int) = (oI P58 25 (ad 19)).toInt) := hr60
              obtain ⟨hr60_0, hr60_1, hr60_2⟩ := hr60
              obtain ⟨b62, nb62, rfl, tb62, leb62⟩ := hr60_2
              have hP : CH D cy ad A (tP κ P61) H := CH.cong hP rfl rfl rfl rfl rfl rfl rfl rfl rfl rfl rfl rfl rfl rfl rfl rfl rfl rfl rfl rfl rfl rfl rfl rfl rfl rfl rfl
              exact c_retq (v := (some b62)) (Or.inl ⟨_, rfl⟩) C hsz hsl P61 ⟨((hr52_0.trans hr57_0).trans hr60_0), hr60_1, ⟨b62, nb62, rfl, tb62, (vX0_asText_43 ad κ k0 x1 P53 x56 P58 nb62 ex1 c2_0 c2_1 c2_2 c2_3 c2_4 hr52_2 ex56 hr57_3_0 hr57_3_1 leb62)⟩⟩ hP hS ⟨(Nat.le_of_ble_eq_true rfl), (vX0_asText_44 ad κ k0 x1 P53 x56 P58 nb62 ex1 c2_0 c2_1 c2_2 c2_3 c2_4 hr52_2 ex56 hr57_3_0 hr57_3_1 leb62)⟩ ⟨(Nat.le_of_ble_eq_true rfl), (Nat.le_of_ble_eq_true rfl)⟩ dX0_asText_108
            | some b55 =>
              have hb55 : oT P53 b55 = 6 := tx54 b55 rfl
              refine lv_ifnull C.x C.b dX0_asText_76 ?_
              refine lv_aload_n C.x C.b dX0_asText_79 rfl (lv_at hl 0 rfl) ?_
              refine cg_X0_1 C hP cw_9 dX0_asText_80 ?_
              refine lv_bipush (v := 111) C.x C.b dX0_asText_83 (by decide +kernel) ?_
              refine c_callVq (n := 1) (As := [.int 111]) (rest := []) C hP hS hl.1 (NJ4_append_cf468 l D cy ad A sz0 sa (tP κ P53) H.size (SLT H) C.f (fun q h => C.a q (Nat.le_trans hS.1 h)) (ad 19) (111 : Int32) (hr52_0.T hs19 (by decide)) hr52_1 (vX0_asText_45 ad P53 hr52_2)) ⟨cw_218, cw_221, by decide +kernel⟩ ⟨cw_219, cw_220, cw_8⟩ rfl (hP.recvP (t := 12) (ci := 1) C.K (t20 (a := (ad 19)) (t := 12) (hr52_0.T hs19 (by decide))) (by decide) rfl rfl) rfl rfl (lv_room (Nat.le_of_ble_eq_true rfl)) ⟨Nat.le_of_ble_eq_true rfl, Nat.le_of_ble_eq_true rfl⟩ ⟨(vX0_asText_46 ad P53 hr52_2), (vX0_asText_47 ad P53 hr52_2)⟩ dX0_asText_85 (fun r63 u H locs hr63 hP hS => ?_)
              obtain ⟨P64, rfl⟩ : ∃ z, z = u := ⟨_, rfl⟩
              have hP : CH D cy ad A (tP (tP κ P53) P64) H := hP
              have hr63 : (EX P53 P64) ∧ (PV sa P64) ∧ (NN P64 12 r63) ∧ ((oI P64 25 (ad 19)).toInt = (oI P53 25 (ad 19)).toInt + 1 ∧ (gr1 ((oI P53 25 (ad 19)).toInt + 1) ≤ 1 ∧ gr70 ((oI P53 25 (ad 19)).toInt + 1) ≤ 70 ∧ ((oI P53 25 (ad 19)).toInt + 1 ≤ 16 → gr1 ((oI P53 25 (ad 19)).toInt + 1) = 0 ∧ gr70 ((oI P53 25 (ad 19)).toInt + 1) = 0) ∧ (16 < (oI P53 25 (ad 19)).toInt + 1 → gr1 ((oI P53 25 (ad 19)).toInt + 1) = 1 ∧ gr70 ((oI P53 25 (ad 19)).toInt + 1) = 70))) := hr63
              obtain ⟨hr63_0, hr63_1, hr63_2, hr63_3⟩ := hr63
              obtain ⟨b65, rfl, tb65⟩ := hr63_2
              obtain ⟨hr63_3_0, ⟨hr63_3_1, hr63_3_2, hr63_3_3, hr63_3_4⟩⟩ := hr63_3
              refine lv_pop C.x C.b dX0_asText_88 rfl ?_
              refine lv_aload_n C.x C.b dX0_asText_89 rfl (lv_at hl 0 rfl) ?_
              refine cg_X0_1 C hP cw_9 dX0_asText_90 ?_
              refine lv_aload_n C.x C.b dX0_asText_93 rfl (lv_at hl 1 rfl) ?_
              obtain ⟨x66, ex66⟩ : ∃ z, oI P64 1 k0 = z := ⟨_, rfl⟩
              refine pg_X10_1 (v := x66) C hP (t20 (a := k0) (t := 1) (hr63_0.T (hr52_0.T ht0 (by decide)) (by decide))) ex66 cw_61 dX0_asText_94 ?_
              refine c_callVq (n := 1) (As := [.int x66]) (rest := []) C hP hS hl.1 (NJ4_append_bf812 l D cy ad A sz0 sa (tP (tP κ P53) P64) H.size (SLT H) C.f (fun q h => C.a q (Nat.le_trans hS.1 h)) (ad 19) x66 (hr63_0.T (hr52_0.T hs19 (by decide)) (by decide)) hr63_1 (vX0_asText_48 ad κ k0 x1 P53 P64 x66 ex1 c2_0 c2_1 c2_2 c2_3 c2_4 hr52_2 hr63_3_0 hr63_3_1 hr63_3_2 hr63_3_3 hr63_3_4 ex66)) ⟨cw_255, cw_258, by decide +kernel⟩ ⟨cw_256, cw_257, cw_8⟩ rfl (hP.recvP (t := 12) (ci := 1) C.K (t20 (a := (ad 19)) (t := 12) (hr63_0.T (hr52_0.T hs19 (by decide)) (by decide))) (by decide) rfl rfl) rfl rfl (lv_room (Nat.le_of_ble_eq_true rfl)) ⟨Nat.le_of_ble_eq_true rfl, Nat.le_of_ble_eq_true rfl⟩ ⟨(vX0_asText_49 ad κ k0 x1 P53 P64 x66 ex1 c2_0 c2_1 c2_2 c2_3 c2_4 hr52_2 hr63_3_0 hr63_3_1 hr63_3_2 hr63_3_3 hr63_3_4 ex66), (vX0_asText_50 ad κ k0 x1 P53 P64 x66 ex1 c2_0 c2_1 c2_2 c2_3 c2_4 hr52_2 hr63_3_0 hr63_3_1 hr63_3_2 hr63_3_3 hr63_3_4 ex66)⟩ dX0_asText_97 (fun r67 u H locs hr67 hP hS => ?_)
              obtain ⟨P68, rfl⟩ : ∃ z, z = u := ⟨_, rfl⟩
              have hP : CH D cy ad A (tP (tP (tP κ P53) P64) P68) H := hP
              have hr67 : (EX P64 P68) ∧ (PV sa P68) ∧ (NN P68 12 r67) ∧ ((oI P64 25 (ad 19)).toInt < (oI P68 25 (ad 19)).toInt ∧ (oI P68 25 (ad 19)).toInt ≤ (oI P64 25 (ad 19)).toInt + 11) := hr67
              obtain ⟨hr67_0, hr67_1, hr67_2, hr67_3⟩ := hr67
              obtain ⟨b69, rfl, tb69⟩ := hr67_2
              obtain ⟨hr67_3_0, hr67_3_1⟩ := hr67_3
              refine lv_pop C.x C.b dX0_asText_100 rfl ?_
              refine lv_aload_n C.x C.b dX0_asText_101 rfl (lv_at hl 0 rfl) ?_
              refine cg_X0_1 C hP cw_9 dX0_asText_102 ?_
              refine c_callVq (n := 0) (As := []) (rest := []) C hP hS hl.1 (NJ4_toString_0e30d l D cy ad A sz0 sa (tP (tP (tP κ P53) P64) P68) H.size (SLT H) C.f (fun q h => C.a q (Nat.le_trans hS.1 h)) (ad 19) (hr67_0.T (hr63_0.T (hr52_0.T hs19 (by decide)) (by decide)) (by decide)) hr67_1 (vX0_asText_51 ad κ k0 x1 P53 P64 x66 P68 ex1 c2_0 c2_1 c2_2 c2_3 c2_4 hr52_2 hr63_3_0 hr63_3_1 hr63_3_2 ex66 hr67_3_0 hr67_3_1)) ⟨cw_289, cw_292, by decide +kernel⟩ ⟨cw_290, cw_291, cw_8⟩ rfl (hP.recvP (t := 12) (ci := 1) C.K (t20 (a := (ad 19)) (t := 12) (hr67_0.T (hr63_0.T (hr52_0.T hs19 (by decide)) (by decide)) (by decide))) (by decide) rfl rfl) rfl rfl (lv_room (Nat.le_of_ble_eq_true rfl)) ⟨Nat.le_of_ble_eq_true rfl, Nat.le_of_ble_eq_true rfl⟩ ⟨(vX0_asText_52 ad κ k0 x1 P53 P64 x66 P68 ex1 c2_0 c2_1 c2_2 c2_3 c2_4 hr52_2 hr63_3_0 hr63_3_1 hr63_3_2 hr63_3_3 hr63_3_4 ex66 hr67_3_0 hr67_3_1), (vX0_asText_53 ad κ k0 x1 P53 P64 x66 P68 ex1 c2_0 c2_1 c2_2 c2_3 c2_4 hr52_2 hr63_3_0 hr63_3_1 hr63_3_2 hr63_3_3 hr63_3_4 ex66 hr67_3_0 hr67_3_1)⟩ dX0_asText_105 (fun r70 u H locs hr70 hP hS => ?_)
              obtain ⟨P71, rfl⟩ : ∃ z, z = u := ⟨_, rfl⟩
              have hP : CH D cy ad A (tP (tP (tP (tP κ P53) P64) P68) P71) H := hP
              have hr70 : (EX P68 P71) ∧ (PV sa P71) ∧ (∃ b n, r70 = some b ∧ SL P71 sa b n ∧ ((n : Nat) : Int) = (oI P68 25 (ad 19)).toInt) := hr70
              obtain ⟨hr70_0, hr70_1, hr70_2⟩ := hr70
              obtain ⟨b72, nb72, rfl, tb72, leb72⟩ := hr70_2
              have hP : CH D cy ad A (tP κ P71) H := CH.cong hP rfl rfl rfl rfl rfl rfl rfl rfl rfl rfl rfl rfl rfl rfl rfl rfl rfl rfl rfl rfl rfl rfl rfl rfl rfl rfl rfl
              exact c_retq (v := (some b72)) (Or.inl ⟨_, rfl⟩) C hsz hsl P71 ⟨(((hr52_0.trans hr63_0).trans hr67_0).trans hr70_0), hr70_1, ⟨b72, nb72, rfl, tb72, (vX0_asText_54 ad κ k0 x1 P53 P64 x66 P68 nb72 ex1 c2_0 c2_1 c2_2 c2_3 c2_4 hr52_2 hr63_3_0 hr63_3_1 hr63_3_2 ex66 hr67_3_0 hr67_3_1 leb72)⟩⟩ hP hS ⟨(vX0_asText_55 ad κ k0 x1 P53 P64 x66 P68 nb72 ex1 c2_0 c2_1 c2_2 c2_3 c2_4 hr52_2 hr63_3_0 hr63_3_1 hr63_3_2 hr63_3_3 hr63_3_4 ex66 hr67_3_0 hr67_3_1 leb72), (vX0_asText_56 ad κ k0 x1 P53 P64 x66 P68 nb72 ex1 c2_0 c2_1 c2_2 c2_3 c2_4 hr52_2 hr63_3_0 hr63_3_1 hr63_3_2 hr63_3_3 hr63_3_4 ex66 hr67_3_0 hr67_3_1 leb72)⟩ ⟨(Nat.le_of_ble_eq_true rfl), (Nat.le_of_ble_eq_true rfl)⟩ dX0_asText_108

-- nw@22 @22
theorem vX0_join_1 (nb3 : Nat) (nb6 : Nat) (r7 : Int32) (r8 : Int32) (x9 : Int32) (leb3 : nb3 ≤ 40) (leb6 : nb6 ≤ 40) (hr7 : r7.toInt = ((nb3 : Nat) : Int)) (hr8 : r8.toInt = ((nb6 : Nat) : Int)) (ex9 : x9 = r7 + r8) : x9.toInt = r7.toInt + r8.toInt := by
  rw [ex9, z_add (by omega) (by omega)]; first | done | omega
-- pre:J4_setLength_d00df@35 @35
theorem vX0_join_2   : (0 : Int32).toInt = 0 := by
  have q0 : (0 : Int32).toInt = 0 := by decide +kernel
  first | assumption | omega | (subst_vars; omega) | trivial
-- pre:J4_append_15ec4@43 @43
theorem vX0_join_3 (ad : Nat → Nat) (nb3 : Nat) (nb6 : Nat) (r7 : Int32) (r8 : Int32) (x9 : Int32) (P12 : PL) (leb3 : nb3 ≤ 40) (leb6 : nb6 ≤ 40) (hr7 : r7.toInt = ((nb3 : Nat) : Int)) (hr8 : r8.toInt = ((nb6 : Nat) : Int)) (ex9 : x9 = r7 + r8) (tx9 : x9.toInt = r7.toInt + r8.toInt) (c10 : x9.toInt ≤ 16) (hr11_2 : (oI P12 25 (ad 19)).toInt = 0) : (oI P12 25 (ad 19)).toInt + ((nb3 : Nat) : Int) ≤ 16 := by
  first | assumption | omega | (subst_vars; omega) | trivial
-- pre:J4_append_15ec4@53 @53
theorem vX0_join_4 (ad : Nat → Nat) (nb3 : Nat) (nb6 : Nat) (r7 : Int32) (r8 : Int32) (x9 : Int32) (P12 : PL) (P14 : PL) (leb3 : nb3 ≤ 40) (leb6 : nb6 ≤ 40) (hr7 : r7.toInt = ((nb3 : Nat) : Int)) (hr8 : r8.toInt = ((nb6 : Nat) : Int)) (ex9 : x9 = r7 + r8) (tx9 : x9.toInt = r7.toInt + r8.toInt) (c10 : x9.toInt ≤ 16) (hr11_2 : (oI P12 25 (ad 19)).toInt = 0) (hr13_3 : (oI P14 25 (ad 19)).toInt = (oI P12 25 (ad 19)).toInt + ((nb3 : Nat) : Int)) : (oI P14 25 (ad 19)).toInt + ((nb6 : Nat) : Int) ≤ 16 := by
  first | assumption | omega | (subst_vars; omega) | trivial
-- pre:J4_toString_0e30d@61 @61
theorem vX0_join_5 (ad : Nat → Nat) (nb3 : Nat) (nb6 : Nat) (r7 : Int32) (r8 : Int32) (x9 : Int32) (P12 : PL) (P14 : PL) (P17 : PL) (leb3 : nb3 ≤ 40) (leb6 : nb6 ≤ 40) (hr7 : r7.toInt = ((nb3 : Nat) : Int)) (hr8 : r8.toInt = ((nb6 : Nat) : Int)) (ex9 : x9 = r7 + r8) (tx9 : x9.toInt = r7.toInt + r8.toInt) (c10 : x9.toInt ≤ 16) (hr11_2 : (oI P12 25 (ad 19)).toInt = 0) (hr13_3 : (oI P14 25 (ad 19)).toInt = (oI P12 25 (ad 19)).toInt + ((nb3 : Nat) : Int)) (hr16_3 : (oI P17 25 (ad 19)).toInt = (oI P14 25 (ad 19)).toInt + ((nb6 : Nat) : Int)) : (oI P17 25 (ad 19)).toInt ≤ 40 := by
  first | assumption | omega | (subst_vars; omega) | trivial
-- room @61
theorem vX0_join_6 (ad : Nat → Nat) (nb3 : Nat) (nb6 : Nat) (r7 : Int32) (r8 : Int32) (x9 : Int32) (P12 : PL) (P14 : PL) (P17 : PL) (leb3 : nb3 ≤ 40) (leb6 : nb6 ≤ 40) (hr7 : r7.toInt = ((nb3 : Nat) : Int)) (hr8 : r8.toInt = ((nb6 : Nat) : Int)) (ex9 : x9 = r7 + r8) (tx9 : x9.toInt = r7.toInt + r8.toInt) (c10 : x9.toInt ≤ 16) (hr11_2 : (oI P12 25 (ad 19)).toInt = 0) (hr13_3 : (oI P14 25 (ad 19)).toInt = (oI P12 25 (ad 19)).toInt + ((nb3 : Nat) : Int)) (hr16_3 : (oI P17 25 (ad 19)).toInt = (oI P14 25 (ad 19)).toInt + ((nb6 : Nat) : Int)) : 0 + 16 + 16 + 0 + 0 + 0 + 0 + 0 + (4 + (oI P17 25 (ad 19)).toInt.toNat) ≤ 57 := by
  first | assumption | omega | (subst_vars; omega) | trivial
-- room @64
theorem vX0_join_7 (ad : Nat → Nat) (nb3 : Nat) (nb6 : Nat) (r7 : Int32) (r8 : Int32) (x9 : Int32) (P12 : PL) (P14 : PL) (P17 : PL) (nb21 : Nat) (leb3 : nb3 ≤ 40) (leb6 : nb6 ≤ 40) (hr7 : r7.toInt = ((nb3 : Nat) : Int)) (hr8 : r8.toInt = ((nb6 : Nat) : Int)) (ex9 : x9 = r7 + r8) (tx9 : x9.toInt = r7.toInt + r8.toInt) (c10 : x9.toInt ≤ 16) (hr11_2 : (oI P12 25 (ad 19)).toInt = 0) (hr13_3 : (oI P14 25 (ad 19)).toInt = (oI P12 25 (ad 19)).toInt + ((nb3 : Nat) : Int)) (hr16_3 : (oI P17 25 (ad 19)).toInt = (oI P14 25 (ad 19)).toInt + ((nb6 : Nat) : Int)) (leb21 : ((nb21 : Nat) : Int) = (oI P17 25 (ad 19)).toInt) : 0 + 16 + 16 + 0 + 0 + 0 + 0 + 0 + (4 + (oI P17 25 (ad 19)).toInt.toNat) + 5 ≤ 57 := by
  first | assumption | omega | (subst_vars; omega) | trivial
set_option maxHeartbeats 4000000 in
set_option maxRecDepth 100000 in
theorem NX0_join (l : Launch) (D : va_G) (cy : Nat → ClassId) (ad : Nat → Nat) (A : Nat → Prop) (sz0 : Nat) (sa : Nat → Nat)  (κ : KS) (sz sl : Nat) (hAF : ∀ q, A q → Fr sz0 q) (hAn : ∀ q : Nat, sz ≤ q → A q) (k0 : Nat) (k1 : Nat) (ht0 : oT κ.2.2.2.2 k0 = 1) (ht1 : oT κ.2.2.2.2 k1 = 1) (hPV : PV sa κ.2.2.2.2) (hs19 : oT κ.2.2.2.2 (ad 19) = 12) : Met l yX0_join (Cond.code yX0_join cX0_join 5 (some (.object "PhraseDesk$Value")) :: GWc) ({ frames := 7, cells := 7, slots := 57, locals := 172 }) (PcC D cy ad A sz0 sa [.ref (ad 4), .ref k0, .ref k1] κ sz sl) (va_Qq (fun (r : Option Nat) (u : PL) => (EX κ.2.2.2.2 u) ∧ (PV sa u) ∧ (NT u 1 r)) (fun (u : PL) (t : State) => Bx D cy ad A sz sl (tP κ u) (7) (57) t) A) (7) (57) A := by
  refine CM_of (loc0 := [(0, .ref (ad 4)), (1, .ref k0), (2, .ref k1)]) (own := RX0) (nm := "join") (by decide) rfl rfl rfl (Nat.le_of_ble_eq_true rfl) hAF hAn ?_
  intro p e s m below meth c ls hsz hsl C hP hS hl
  refine lv_aload_n C.x C.b dX0_join_0 rfl (lv_at hl 0 rfl) ?_
  refine lv_aload_n C.x C.b dX0_join_1 rfl (lv_at hl 1 rfl) ?_
  refine c_callVq (n := 1) (As := [.ref k0]) (rest := []) C hP hS hl.1 (NX0_asText l D cy ad A sz0 sa κ s.heap.size (SLT s.heap) C.f (fun q h => C.a q (Nat.le_trans hS.1 h)) k0 ht0 hPV hs19) ⟨cw_144, cw_147, by decide +kernel⟩ ⟨cw_145, cw_146, cw_34⟩ rfl (hP.recvS (k := 4) (ci := 2) C.K rfl rfl) rfl rfl (lv_room (Nat.le_of_ble_eq_true rfl)) ⟨Nat.le_of_ble_eq_true rfl, Nat.le_of_ble_eq_true rfl⟩ ⟨(Nat.le_of_ble_eq_true rfl), (Nat.le_of_ble_eq_true rfl)⟩ dX0_join_2 (fun r1 u H locs hr1 hP hS => ?_)
  obtain ⟨P2, rfl⟩ : ∃ z, z = u := ⟨_, rfl⟩
  have hP : CH D cy ad A (tP κ P2) H := hP
  have hr1 : (EX κ.2.2.2.2 P2) ∧ (PV sa P2) ∧ (∃ b n, r1 = some b ∧ SL P2 sa b n ∧ n ≤ 40) := hr1
  obtain ⟨hr1_0, hr1_1, hr1_2⟩ := hr1
  obtain ⟨b3, nb3, rfl, tb3, leb3⟩ := hr1_2
  refine lv_astore_n (lv' := [(3, .ref b3), (0, .ref (ad 4)), (1, .ref k0), (2, .ref k1)]) C.x C.b dX0_join_5 rfl hl (by decide) rfl (fun ls hl => ?_)
  refine lv_aload_n C.x C.b dX0_join_6 rfl (lv_at hl 1 rfl) ?_
  refine lv_aload_n C.x C.b dX0_join_7 rfl (lv_at hl 3 rfl) ?_
  refine c_callVq (n := 1) (As := [.ref k1]) (rest := []) C hP hS hl.1 (NX0_asText l D cy ad A sz0 sa (tP κ P2) H.size (SLT H) C.f (fun q h => C.a q (Nat.le_trans hS.1 h)) k1 (hr1_0.T ht1 (by decide)) hr1_1 (hr1_0.T hs19 (by decide))) ⟨cw_144, cw_147, by decide +kernel⟩ ⟨cw_145, cw_146, cw_34⟩ rfl (hP.recvS (k := 4) (ci := 2) C.K rfl rfl) rfl rfl (lv_room (Nat.le_of_ble_eq_true rfl)) ⟨Nat.le_of_ble_eq_true rfl, Nat.le_of_ble_eq_true rfl⟩ ⟨(Nat.le_of_ble_eq_true rfl), (Nat.le_of_ble_eq_true rfl)⟩ dX0_join_8 (fun r4 u H locs hr4 hP hS => ?_)
  obtain ⟨P5, rfl⟩ : ∃ z, z = u := ⟨_, rfl⟩
  have hP : CH D cy ad A (tP (tP κ P2) P5) H := hP
  have hr4 : (EX P2 P5) ∧ (PV sa P5) ∧ (∃ b n, r4 = some b ∧ SL P5 sa b n ∧ n ≤ 40) := hr4
  obtain ⟨hr4_0, hr4_1, hr4_2⟩ := hr4
  obtain ⟨b6, nb6, rfl, tb6, leb6⟩ := hr4_2
  refine lv_astore (lv' := [(4, .ref b6), (3, .ref b3), (0, .ref (ad 4)), (1, .ref k0), (2, .ref k1)]) C.x C.b dX0_join_11 hl (by decide) rfl (fun ls hl => ?_)
  refine lv_aload_n C.x C.b dX0_join_13 rfl (lv_at hl 1 rfl) ?_
  refine c_callVi (n := 0) (As := []) (rest := []) C hP hS hl.1 (NJ0_length_8abf5 l D cy ad A sz0 sa (tP (tP κ P2) P5) H.size (SLT H) C.f (fun q h => C.a q (Nat.le_trans hS.1 h)) b3 nb3 (hr4_0.SL tb3) hr4_1) ⟨cw_98, cw_101, by decide +kernel⟩ ⟨cw_99, cw_100, cw_70⟩ rfl (c_srecv C hP hS (hr4_0.S tb3.sok)) rfl rfl (lv_room (Nat.le_of_ble_eq_true rfl)) ⟨Nat.le_of_ble_eq_true rfl, Nat.le_of_ble_eq_true rfl⟩ ⟨(Nat.le_of_ble_eq_true rfl), (Nat.le_of_ble_eq_true rfl)⟩ dX0_join_14 (fun r7 u H locs hr7 hP hS => ?_)
  have hr7 : (r7.toInt = ((nb3 : Nat) : Int)) := hr7
  refine lv_aload C.x C.b dX0_join_17 (lv_at hl 0 rfl) ?_
  refine c_callVi (n := 0) (As := []) (rest := [.int r7]) C hP hS hl.1 (NJ0_length_8abf5 l D cy ad A sz0 sa (tP (tP κ P2) P5) H.size (SLT H) C.f (fun q h => C.a q (Nat.le_trans hS.1 h)) b6 nb6 tb6 hr4_1) ⟨cw_98, cw_101, by decide +kernel⟩ ⟨cw_99, cw_100, cw_70⟩ rfl (c_srecv C hP hS tb6.sok) rfl rfl (lv_room (Nat.le_of_ble_eq_true rfl)) ⟨Nat.le_of_ble_eq_true rfl, Nat.le_of_ble_eq_true rfl⟩ ⟨(Nat.le_of_ble_eq_true rfl), (Nat.le_of_ble_eq_true rfl)⟩ dX0_join_19 (fun r8 u H locs hr8 hP hS => ?_)
  have hr8 : (r8.toInt = ((nb6 : Nat) : Int)) := hr8
  refine lv_iadd C.x C.b dX0_join_22 ?_
  refine lv_topi (fun x9 ex9 => ?_)
  have tx9 : x9.toInt = r7.toInt + r8.toInt := (vX0_join_1 nb3 nb6 r7 r8 x9 leb3 leb6 hr7 hr8 ex9)
  refine lv_bipush (v := 16) C.x C.b dX0_join_23 (by decide +kernel) ?_
  refine lv_icmp_le (tgt := 30) C.x C.b dX0_join_25 (by decide) (fun c10 => ?_) (fun c10 => ?_)
  · have c10 : x9.toInt ≤ 16 := by have h := z_le c10; rw [show (16 : Int32).toInt = 16 from by decide +kernel] at h; exact h
    refine lv_aload_n C.x C.b dX0_join_30 rfl (lv_at hl 2 rfl) ?_
    refine cg_X0_1 C hP cw_9 dX0_join_31 ?_
    refine lv_iconst (v := 0) C.x C.b dX0_join_34 (by decide +kernel) ?_
    refine c_callVv (n := 1) (As := [.int 0]) (rest := []) C hP hS hl.1 (NJ4_setLength_d00df l D cy ad A sz0 sa (tP (tP κ P2) P5) H.size (SLT H) C.f (fun q h => C.a q (Nat.le_trans hS.1 h)) (ad 19) (0 : Int32) (hr4_0.T (hr1_0.T hs19 (by decide)) (by decide)) hr4_1 (vX0_join_2  )) ⟨cw_148, cw_151, by decide +kernel⟩ ⟨cw_149, cw_150, cw_8⟩ rfl (hP.recvP (t := 12) (ci := 1) C.K (t20 (a := (ad 19)) (t := 12) (hr4_0.T (hr1_0.T hs19 (by decide)) (by decide))) (by decide) rfl rfl) rfl rfl (lv_room (Nat.le_of_ble_eq_true rfl)) ⟨Nat.le_of_ble_eq_true rfl, Nat.le_of_ble_eq_true rfl⟩ ⟨(Nat.le_of_ble_eq_true rfl), (Nat.le_of_ble_eq_true rfl)⟩ dX0_join_35 (fun u H locs hr11 hP hS => ?_)
    obtain ⟨P12, rfl⟩ : ∃ z, z = u := ⟨_, rfl⟩
    have hP : CH D cy ad A (tP (tP (tP κ P2) P5) P12) H := hP
    have hr11 : (EX P5 P12) ∧ (PV sa P12) ∧ ((oI P12 25 (ad 19)).toInt = 0) := hr11
    obtain ⟨hr11_0, hr11_1, hr11_2⟩ := hr11
    refine lv_aload_n C.x C.b dX0_join_38 rfl (lv_at hl 2 rfl) ?_
    refine cg_X0_1 C hP cw_9 dX0_join_39 ?_
    refine lv_aload_n C.x C.b dX0_join_42 rfl (lv_at hl 1 rfl) ?_
    refine c_callVq (n := 1) (As := [.ref b3]) (rest := []) C hP hS hl.1 (NJ4_append_15ec4 l D cy ad A sz0 sa (tP (tP (tP κ P2) P5) P12) H.size (SLT H) C.f (fun q h => C.a q (Nat.le_trans hS.1 h)) (ad 19) b3 nb3 (hr11_0.T (hr4_0.T (hr1_0.T hs19 (by decide)) (by decide)) (by decide)) (hr11_0.SL (hr4_0.SL tb3)) hr11_1 (vX0_join_3 ad nb3 nb6 r7 r8 x9 P12 leb3 leb6 hr7 hr8 ex9 tx9 c10 hr11_2)) ⟨cw_342, cw_345, by decide +kernel⟩ ⟨cw_343, cw_344, cw_8⟩ rfl (hP.recvP (t := 12) (ci := 1) C.K (t20 (a := (ad 19)) (t := 12) (hr11_0.T (hr4_0.T (hr1_0.T hs19 (by decide)) (by decide)) (by decide))) (by decide) rfl rfl) rfl rfl (lv_room (Nat.le_of_ble_eq_true rfl)) ⟨Nat.le_of_ble_eq_true rfl, Nat.le_of_ble_eq_true rfl⟩ ⟨(Nat.le_of_ble_eq_true rfl), (Nat.le_of_ble_eq_true rfl)⟩ dX0_join_43 (fun r13 u H locs hr13 hP hS => ?_)
    obtain ⟨P14, rfl⟩ : ∃ z, z = u := ⟨_, rfl⟩
    have hP : CH D cy ad A (tP (tP (tP (tP κ P2) P5) P12) P14) H := hP
    have hr13 : (EX P12 P14) ∧ (PV sa P14) ∧ (NN P14 12 r13) ∧ ((oI P14 25 (ad 19)).toInt = (oI P12 25 (ad 19)).toInt + ((nb3 : Nat) : Int)) := hr13
    obtain ⟨hr13_0, hr13_1, hr13_2, hr13_3⟩ := hr13
    obtain ⟨b15, rfl, tb15⟩ := hr13_2
    refine lv_pop C.x C.b dX0_join_46 rfl ?_
    refine lv_aload_n C.x C.b dX0_join_47 rfl (lv_at hl 2 rfl) ?_
    refine cg_X0_1 C hP cw_9 dX0_join_48 ?_
    refine lv_aload C.x C.b dX0_join_51 (lv_at hl 0 rfl) ?_
    refine c_callVq (n := 1) (As := [.ref b6]) (rest := []) C hP hS hl.1 (NJ4_append_15ec4 l D cy ad A sz0 sa (tP (tP (tP (tP κ P2) P5) P12) P14) H.size (SLT H) C.f (fun q h => C.a q (Nat.le_trans hS.1 h)) (ad 19) b6 nb6 (hr13_0.T (hr11_0.T (hr4_0.T (hr1_0.T hs19 (by decide)) (by decide)) (by decide)) (by decide)) (hr13_0.SL (hr11_0.SL tb6)) hr13_1 (vX0_join_4 ad nb3 nb6 r7 r8 x9 P12 P14 leb3 leb6 hr7 hr8 ex9 tx9 c10 hr11_2 hr13_3)) ⟨cw_342, cw_345, by decide +kernel⟩ ⟨cw_343, cw_344, cw_8⟩ rfl (hP.recvP (t := 12) (ci := 1) C.K (t20 (a := (ad 19)) (t := 12) (hr13_0.T (hr11_0.T (hr4_0.T (hr1_0.T hs19 (by decide)) (by decide)) (by decide)) (by decide))) (by decide) rfl rfl) rfl rfl (lv_room (Nat.le_of_ble_eq_true rfl)) ⟨Nat.le_of_ble_eq_true rfl, Nat.le_of_ble_eq_true rfl⟩ ⟨(Nat.le_of_ble_eq_true rfl), (Nat.le_of_ble_eq_true rfl)⟩ dX0_join_53 (fun r16 u H locs hr16 hP hS => ?_)
    obtain ⟨P17, rfl⟩ : ∃ z, z = u := ⟨_, rfl⟩
    have hP : CH D cy ad A (tP (tP (tP (tP (tP κ P2) P5) P12) P14) P17) H := hP
    have hr16 : (EX P14 P17) ∧ (PV sa P17) ∧ (NN P17 12 r16) ∧ ((oI P17 25 (ad 19)).toInt = (oI P14 25 (ad 19)).toInt + ((nb6 : Nat) : Int)) := hr16
    obtain ⟨hr16_0, hr16_1, hr16_2, hr16_3⟩ := hr16
    obtain ⟨b18, rfl, tb18⟩ := hr16_2
    refine lv_pop C.x C.b dX0_join_56 rfl ?_
    refine lv_aload_n C.x C.b dX0_join_57 rfl (lv_at hl 2 rfl) ?_
    refine cg_X0_1 C hP cw_9 dX0_join_58 ?_
    refine c_callVq (n := 0) (As := []) (rest := []) C hP hS hl.1 (NJ4_toString_0e30d l D cy ad A sz0 sa (tP (tP (tP (tP (tP κ P2) P5) P12) P14) P17) H.size (SLT H) C.f (fun q h => C.a q (Nat.le_trans hS.1 h)) (ad 19) (hr16_0.T (hr13_0.T (hr11_0.T (hr4_0.T (hr1_0.T hs19 (by decide)) (by decide)) (by decide)) (by decide)) (by decide)) hr16_1 (vX0_join_5 ad nb3 nb6 r7 r8 x9 P12 P14 P17 leb3 leb6 hr7 hr8 ex9 tx9 c10 hr11_2 hr13_3 hr16_3)) ⟨cw_289, cw_292, by decide +kernel⟩ ⟨cw_290, cw_291, cw_8⟩ rfl (hP.recvP (t := 12) (ci := 1) C.K (t20 (a := (ad 19)) (t := 12) (hr16_0.T (hr13_0.T (hr11_0.T (hr4_0.T (hr1_0.T hs19 (by decide)) (by decide)) (by decide)) (by decide)) (by decide))) (by decide) rfl rfl) rfl rfl (lv_room (Nat.le_of_ble_eq_true rfl)) ⟨Nat.le_of_ble_eq_true rfl, Nat.le_of_ble_eq_true rfl⟩ ⟨(Nat.le_of_ble_eq_true rfl), (vX0_join_6 ad nb3 nb6 r7 r8 x9 P12 P14 P17 leb3 leb6 hr7 hr8 ex9 tx9 c10 hr11_2 hr13_3 hr16_3)⟩ dX0_join_61 (fun r19 u H locs hr19 hP hS => ?_)
    obtain ⟨P20, rfl⟩ : ∃ z, z = u := ⟨_, rfl⟩
    have hP : CH D cy ad A (tP (tP (tP (tP (tP (tP κ P2) P5) P12) P14) P17) P20) H := hP
    have hr19 : (EX P17 P20) ∧ (PV sa P20) ∧ (∃ b n, r19 = some b ∧ SL P20 sa b n ∧ ((n : Nat) : Int) = (oI P17 25 (ad 19)).toInt) := hr19
    obtain ⟨hr19_0, hr19_1, hr19_2⟩ := hr19
    obtain ⟨b21, nb21, rfl, tb21, leb21⟩ := hr19_2
    refine c_callSq (C2 := "") (b := 0) (n := 1) (As := [.ref b21]) (rest := []) C hP hS hl.1 (NX10_ofText l D cy ad A sz0 sa (tP (tP (tP (tP (tP (tP κ P2) P5) P12) P14) P17) P20) H.size (SLT H) C.f (fun q h => C.a q (Nat.le_trans hS.1 h)) b21 tb21.sok hr19_1) ⟨cw_337, cw_339, by decide +kernel⟩ ⟨cw_338, cw_40⟩ rfl rfl (lv_room (Nat.le_of_ble_eq_true rfl)) ⟨Nat.le_of_ble_eq_true rfl, Nat.le_of_ble_eq_true rfl⟩ ⟨(Nat.le_of_ble_eq_true rfl), (vX0_join_7 ad nb3 nb6 r7 r8 x9 P12 P14 P17 nb21 leb3 leb6 hr7 hr8 ex9 tx9 c10 hr11_2 hr13_3 hr16_3 leb21)⟩ dX0_join_64 (fun r22 u H locs hr22 hP hS => ?_)
    obtain ⟨P23, rfl⟩ : ∃ z, z = u := ⟨_, rfl⟩
    have hP : CH D cy ad A (tP (tP (tP (tP (tP (tP (tP κ P2) P5) P12) P14) P17) P20) P23) H := hP
    have hr22 : (EX P20 P23) ∧ (PV sa P23) ∧ (NN P23 1 r22) := hr22
    obtain ⟨hr22_0, hr22_1, hr22_2⟩ := hr22
    obtain ⟨b24, rfl, tb24⟩ := hr22_2
    have hP : CH D cy ad A (tP κ P23) H := CH.cong hP rfl rfl rfl rfl rfl rfl rfl rfl rfl rfl rfl rfl rfl rfl rfl rfl rfl rfl rfl rfl rfl rfl rfl rfl rfl rfl rfl
    exact c_retq (v := (some b24)) (Or.inl ⟨_, rfl⟩) C hsz hsl P23 ⟨((((((hr1_0.trans hr4_0).trans hr11_0).trans hr13_0).trans hr16_0).trans hr19_0).trans hr22_0), hr22_1, (nt_s tb24)⟩ hP hS ⟨(Nat.le_of_ble_eq_true rfl), (vX0_join_7 ad nb3 nb6 r7 r8 x9 P12 P14 P17 nb21 leb3 leb6 hr7 hr8 ex9 tx9 c10 hr11_2 hr13_3 hr16_3 leb21)⟩ ⟨(Nat.le_of_ble_eq_true rfl), (Nat.le_of_ble_eq_true rfl)⟩ dX0_join_67
  · have c10 : 16 < x9.toInt := by have h := z_nle c10; rw [show (16 : Int32).toInt = 16 from by decide +kernel] at h; exact h
    refine lv_null C.x C.b dX0_join_28 ?_
    have hP : CH D cy ad A (tP κ P5) H := CH.cong hP rfl rfl rfl rfl rfl rfl rfl rfl rfl rfl rfl rfl rfl rfl rfl rfl rfl rfl rfl rfl rfl rfl rfl rfl rfl rfl rfl
    exact c_retq (v := none) (Or.inl ⟨_, rfl⟩) C hsz hsl P5 ⟨(hr1_0.trans hr4_0), hr4_1, nt_n⟩ hP hS ⟨(Nat.le_of_ble_eq_true rfl), (Nat.le_of_ble_eq_true rfl)⟩ ⟨(Nat.le_of_ble_eq_true rfl), (Nat.le_of_ble_eq_true rfl)⟩ dX0_join_29

-- pre:X10_ofReal@64 @64
theorem vX0_convert_1 (P9 : PL) (b10 : Nat) (x11 : Int32) (x12 : UInt64) (ex11 : oI P9 1 b10 = x11) (ex12 : x12 = FP.i2d x11) (fx12 : FN x12) : FN x12 := by
  first | assumption | exact fp_k0 | exact fp_i2d _ | (subst_vars; exact fp_i2d _) | exact (fp_FN_iff _).mpr (by decide +kernel)
set_option maxHeartbeats 4000000 in
set_option maxRecDepth 100000 in
theorem NX0_convert (l : Launch) (D : va_G) (cy : Nat → ClassId) (ad : Nat → Nat) (A : Nat → Prop) (sz0 : Nat) (sa : Nat → Nat)  (κ : KS) (sz sl : Nat) (hAF : ∀ q, A q → Fr sz0 q) (hAn : ∀ q : Nat, sz ≤ q → A q) (k0 : Nat) (k1 : Int32) (ht0 : oT κ.2.2.2.2 k0 = 1) (hPV : PV sa κ.2.2.2.2) (hs19 : oT κ.2.2.2.2 (ad 19) = 12) : Met l yX0_convert (Cond.code yX0_convert cX0_convert 4 (some (.object "PhraseDesk$Value")) :: GWc) ({ frames := 7, cells := 3, slots := 21, locals := 172 }) (PcC D cy ad A sz0 sa [.ref (ad 4), .ref k0, .int k1] κ sz sl) (va_Qq (fun (r : Option Nat) (u : PL) => (EX κ.2.2.2.2 u) ∧ (PV sa u) ∧ (NT u 1 r)) (fun (u : PL) (t : State) => Bx D cy ad A sz sl (tP κ u) (3) (21) t) A) (3) (21) A := by
  refine CM_of (loc0 := [(0, .ref (ad 4)), (1, .ref k0), (2, .int k1)]) (own := RX0) (nm := "convert") (by decide) rfl rfl rfl (Nat.le_of_ble_eq_true rfl) hAF hAn ?_
  intro p e s m below meth c ls hsz hsl C hP hS hl
  refine lv_aload_n C.x C.b dX0_convert_0 rfl (lv_at hl 1 rfl) ?_
  obtain ⟨x1, ex1⟩ : ∃ z, oI κ.2.2.2.2 0 k0 = z := ⟨_, rfl⟩
  refine pg_X10_0 (v := x1) C hP (t20 (a := k0) (t := 1) ht0) ex1 cw_55 dX0_convert_1 ?_
  refine lv_iload_n C.x C.b dX0_convert_4 rfl (lv_at hl 2 rfl) ?_
  refine lv_icmp_ne (tgt := 10) C.x C.b dX0_convert_5 (by decide) (fun c2 => ?_) (fun c2 => ?_)
  · have c2 : ¬ x1.toInt = k1.toInt := by have h := z_ne c2; exact h
    refine lv_iload_n C.x C.b dX0_convert_10 rfl (lv_at hl 2 rfl) ?_
    by_cases c3_1 : k1.toInt = 1
    · refine lv_tableIn (off := 25) (tgt := 36) C.x C.b dX0_convert_11 (by rw [c3_1]; decide +kernel) (by rw [c3_1]; decide +kernel) (by rw [c3_1]; decide +kernel) (by decide) ?_
      refine lv_aload_n C.x C.b dX0_convert_36 rfl (lv_at hl 1 rfl) ?_
      refine c_callSq (C2 := "") (b := 0) (n := 1) (As := [.ref k0]) (rest := []) C hP hS hl.1 (NX0_toBool l D cy ad A sz0 sa κ s.heap.size (SLT s.heap) C.f (fun q h => C.a q (Nat.le_trans hS.1 h)) k0 ht0 hPV) ⟨cw_62, cw_64, by decide +kernel⟩ ⟨cw_63, cw_34⟩ rfl rfl (lv_room (Nat.le_of_ble_eq_true rfl)) ⟨Nat.le_of_ble_eq_true rfl, Nat.le_of_ble_eq_true rfl⟩ ⟨(Nat.le_of_ble_eq_true rfl), (Nat.le_of_ble_eq_true rfl)⟩ dX0_convert_37 (fun r4 u H locs hr4 hP hS => ?_)
      obtain ⟨P5, rfl⟩ : ∃ z, z = u := ⟨_, rfl⟩
      have hP : CH D cy ad A (tP κ P5) H := hP
      have hr4 : (EX κ.2.2.2.2 P5) ∧ (PV sa P5) ∧ (NT P5 1 r4) := hr4
      obtain ⟨hr4_0, hr4_1, hr4_2⟩ := hr4
      exact c_retq (v := r4) (Or.inl ⟨_, rfl⟩) C hsz hsl P5 ⟨hr4_0, hr4_1, hr4_2⟩ hP hS ⟨(Nat.le_of_ble_eq_true rfl), (Nat.le_of_ble_eq_true rfl)⟩ ⟨(Nat.le_of_ble_eq_true rfl), (Nat.le_of_ble_eq_true rfl)⟩ dX0_convert_40
    · by_cases c3_2 : k1.toInt = 2
      · refine lv_tableIn (off := 30) (tgt := 41) C.x C.b dX0_convert_11 (by rw [c3_2]; decide +kernel) (by rw [c3_2]; decide +kernel) (by rw [c3_2]; decide +kernel) (by decide) ?_
        refine lv_aload_n C.x C.b dX0_convert_41 rfl (lv_at hl 1 rfl) ?_
        refine c_callSq (C2 := "") (b := 0) (n := 1) (As := [.ref k0]) (rest := []) C hP hS hl.1 (NX0_toInt l D cy ad A sz0 sa κ s.heap.size (SLT s.heap) C.f (fun q h => C.a q (Nat.le_trans hS.1 h)) k0 ht0 hPV) ⟨cw_92, cw_94, by decide +kernel⟩ ⟨cw_93, cw_34⟩ rfl rfl (lv_room (Nat.le_of_ble_eq_true rfl)) ⟨Nat.le_of_ble_eq_true rfl, Nat.le_of_ble_eq_true rfl⟩ ⟨(Nat.le_of_ble_eq_true rfl), (Nat.le_of_ble_eq_true rfl)⟩ dX0_convert_42 (fun r6 u H locs hr6 hP hS => ?_)
        obtain ⟨P7, rfl⟩ : ∃ z, z = u := ⟨_, rfl⟩
        have hP : CH D cy ad A (tP κ P7) H := hP
        have hr6 : (EX κ.2.2.2.2 P7) ∧ (PV sa P7) ∧ (NT P7 1 r6) := hr6
        obtain ⟨hr6_0, hr6_1, hr6_2⟩ := hr6
        exact c_retq (v := r6) (Or.inl ⟨_, rfl⟩) C hsz hsl P7 ⟨hr6_0, hr6_1, hr6_2⟩ hP hS ⟨(Nat.le_of_ble_eq_true rfl), (Nat.le_of_ble_eq_true rfl)⟩ ⟨(Nat.le_of_ble_eq_true rfl), (Nat.le_of_ble_eq_true rfl)⟩ dX0_convert_45
      · by_cases c3_3 : k1.toInt = 3
        · refine lv_tableIn (off := 35) (tgt := 46) C.x C.b dX0_convert_11 (by rw [c3_3]; decide +kernel) (by rw [c3_3]; decide +kernel) (by rw [c3_3]; decide +kernel) (by decide) ?_
          refine lv_aload_n C.x C.b dX0_convert_46 rfl (lv_at hl 1 rfl) ?_
          refine c_callSq (C2 := "") (b := 0) (n := 1) (As := [.ref k0]) (rest := []) C hP hS hl.1 (NX0_toInt l D cy ad A sz0 sa κ s.heap.size (SLT s.heap) C.f (fun q h => C.a q (Nat.le_trans hS.1 h)) k0 ht0 hPV) ⟨cw_92, cw_94, by decide +kernel⟩ ⟨cw_93, cw_34⟩ rfl rfl (lv_room (Nat.le_of_ble_eq_true rfl)) ⟨Nat.le_of_ble_eq_true rfl, Nat.le_of_ble_eq_true rfl⟩ ⟨(Nat.le_of_ble_eq_true rfl), (Nat.le_of_ble_eq_true rfl)⟩ dX0_convert_47 (fun r8 u H locs hr8 hP hS => ?_)
          obtain ⟨P9, rfl⟩ : ∃ z, z = u := ⟨_, rfl⟩
          have hP : CH D cy ad A (tP κ P9) H := hP
          have hr8 : (EX κ.2.2.2.2 P9) ∧ (PV sa P9) ∧ (NT P9 1 r8) := hr8
          obtain ⟨hr8_0, hr8_1, hr8_2⟩ := hr8
          refine lq_astore_n (lv' := [(3, va_rf r8), (0, .ref (ad 4)), (1, .ref k0), (2, .int k1)]) C.x C.b dX0_convert_50 rfl hl (by decide) (by cases r8 <;> rfl) (fun ls hl => ?_)
          refine lq_aload_n C.x C.b dX0_convert_51 rfl (lv_at hl 0 rfl) ?_
          cases r8 with
          | none =>
            refine lv_ifnonnullN C.x C.b dX0_convert_52 ?_
            refine lv_null C.x C.b dX0_convert_55 ?_
            refine lv_goto (tgt := 67) C.x C.b dX0_convert_56 (by decide) ?_
            exact c_retq (v := none) (Or.inl ⟨_, rfl⟩) C hsz hsl P9 ⟨hr8_0, hr8_1, nt_n⟩ hP hS ⟨(Nat.le_of_ble_eq_true rfl), (Nat.le_of_ble_eq_true rfl)⟩ ⟨(Nat.le_of_ble_eq_true rfl), (Nat.le_of_ble_eq_true rfl)⟩ dX0_convert_67
          | some b10 =>
            have hb10 : oT P9 b10 = 1 := hr8_2 b10 rfl
            refine lv_ifnonnull (tgt := 59) C.x C.b dX0_convert_52 (by decide) ?_
            refine lv_aload_n C.x C.b dX0_convert_59 rfl (lv_at hl 0 rfl) ?_
            obtain ⟨x11, ex11⟩ : ∃ z, oI P9 1 b10 = z := ⟨_, rfl⟩
            refine pg_X10_1 (v := x11) C hP (t20 (a := b10) (t := 1) hb10) ex11 cw_61 dX0_convert_60 ?_
            refine lv_i2d C.x C.b dX0_convert_63 ?_
            refine lv_topd (fun x12 ex12 => ?_)
            have fx12 : FN x12 := by rw [ex12]; exact fp_i2d _
            refine c_callSq (C2 := "") (b := 0) (n := 1) (As := [.double x12]) (rest := []) C hP hS hl.1 (NX10_ofReal l D cy ad A sz0 sa (tP κ P9) H.size (SLT H) C.f (fun q h => C.a q (Nat.le_trans hS.1 h)) x12 hr8_1 (vX0_convert_1 P9 b10 x11 x12 ex11 ex12 fx12)) ⟨cw_141, cw_143, by decide +kernel⟩ ⟨cw_142, cw_40⟩ rfl rfl (lv_room (Nat.le_of_ble_eq_true rfl)) ⟨Nat.le_of_ble_eq_true rfl, Nat.le_of_ble_eq_true rfl⟩ ⟨(Nat.le_of_ble_eq_true rfl), (Nat.le_of_ble_eq_true rfl)⟩ dX0_convert_64 (fun r13 u H locs hr13 hP hS => ?_)
            obtain ⟨P14, rfl⟩ : ∃ z, z = u := ⟨_, rfl⟩
            have hP : CH D cy ad A (tP (tP κ P9) P14) H := hP
            have hr13 : (EX P9 P14) ∧ (PV sa P14) ∧ (NN P14 1 r13) := hr13
            obtain ⟨hr13_0, hr13_1, hr13_2⟩ := hr13
            obtain ⟨b15, rfl, tb15⟩ := hr13_2
            have hP : CH D cy ad A (tP κ P14) H := CH.cong hP rfl rfl rfl rfl rfl rfl rfl rfl rfl rfl rfl rfl rfl rfl rfl rfl rfl rfl rfl rfl rfl rfl rfl rfl rfl rfl rfl
            exact c_retq (v := (some b15)) (Or.inl ⟨_, rfl⟩) C hsz hsl P14 ⟨(hr8_0.trans hr13_0), hr13_1, (nt_s tb15)⟩ hP hS ⟨(Nat.le_of_ble_eq_true rfl), (Nat.le_of_ble_eq_true rfl)⟩ ⟨(Nat.le_of_ble_eq_true rfl), (Nat.le_of_ble_eq_true rfl)⟩ dX0_convert_67
        · refine lv_tableOut (tgt := 68) C.x C.b dX0_convert_11 (by omega) (by decide) ?_
          refine lv_aload_n C.x C.b dX0_convert_68 rfl (lv_at hl 0 rfl) ?_
          refine lv_aload_n C.x C.b dX0_convert_69 rfl (lv_at hl 1 rfl) ?_
          refine c_callVq (n := 1) (As := [.ref k0]) (rest := []) C hP hS hl.1 (NX0_asText l D cy ad A sz0 sa κ s.heap.size (SLT s.heap) C.f (fun q h => C.a q (Nat.le_trans hS.1 h)) k0 ht0 hPV hs19) ⟨cw_144, cw_147, by decide +kernel⟩ ⟨cw_145, cw_146, cw_34⟩ rfl (hP.recvS (k := 4) (ci := 2) C.K rfl rfl) rfl rfl (lv_room (Nat.le_of_ble_eq_true rfl)) ⟨Nat.le_of_ble_eq_true rfl, Nat.le_of_ble_eq_true rfl⟩ ⟨(Nat.le_of_ble_eq_true rfl), (Nat.le_of_ble_eq_true rfl)⟩ dX0_convert_70 (fun r16 u H locs hr16 hP hS => ?_)
          obtain ⟨P17, rfl⟩ : ∃ z, z = u := ⟨_, rfl⟩
          have hP : CH D cy ad A (tP κ P17) H := hP
          have hr16 : (EX κ.2.2.2.2 P17) ∧ (PV sa P17) ∧ (∃ b n, r16 = some b ∧ SL P17 sa b n ∧ n ≤ 40) := hr16
          obtain ⟨hr16_0, hr16_1, hr16_2⟩ := hr16
          obtain ⟨b18, nb18, rfl, tb18, leb18⟩ := hr16_2
          refine c_callSq (C2 := "") (b := 0) (n := 1) (As := [.ref b18]) (rest := []) C hP hS hl.1 (NX10_ofText l D cy ad A sz0 sa (tP κ P17) H.size (SLT H) C.f (fun q h => C.a q (Nat.le_trans hS.1 h)) b18 tb18.sok hr16_1) ⟨cw_337, cw_339, by decide +kernel⟩ ⟨cw_338, cw_40⟩ rfl rfl (lv_room (Nat.le_of_ble_eq_true rfl)) ⟨Nat.le_of_ble_eq_true rfl, Nat.le_of_ble_eq_true rfl⟩ ⟨(Nat.le_of_ble_eq_true rfl), (Nat.le_of_ble_eq_true rfl)⟩ dX0_convert_73 (fun r19 u H locs hr19 hP hS => ?_)
          obtain ⟨P20, rfl⟩ : ∃ z, z = u := ⟨_, rfl⟩
          have hP : CH D cy ad A (tP (tP κ P17) P20) H := hP
          have hr19 : (EX P17 P20) ∧ (PV sa P20) ∧ (NN P20 1 r19) := hr19
          obtain ⟨hr19_0, hr19_1, hr19_2⟩ := hr19
          obtain ⟨b21, rfl, tb21⟩ := hr19_2
          have hP : CH D cy ad A (tP κ P20) H := CH.cong hP rfl rfl rfl rfl rfl rfl rfl rfl rfl rfl rfl rfl rfl rfl rfl rfl rfl rfl rfl rfl rfl rfl rfl rfl rfl rfl rfl
          exact c_retq (v := (some b21)) (Or.inl ⟨_, rfl⟩) C hsz hsl P20 ⟨(hr16_0.trans hr19_0), hr19_1, (nt_s tb21)⟩ hP hS ⟨(Nat.le_of_ble_eq_true rfl), (Nat.le_of_ble_eq_true rfl)⟩ ⟨(Nat.le_of_ble_eq_true rfl), (Nat.le_of_ble_eq_true rfl)⟩ dX0_convert_76
  · have c2 : x1.toInt = k1.toInt := by have h := z_eq c2; exact h
    refine lv_aload_n C.x C.b dX0_convert_8 rfl (lv_at hl 1 rfl) ?_
    have hP : CH D cy ad A (tP κ κ.2.2.2.2) s.heap := CH.cong hP rfl rfl rfl rfl rfl rfl rfl rfl rfl rfl rfl rfl rfl rfl rfl rfl rfl rfl rfl rfl rfl rfl rfl rfl rfl rfl rfl
    exact c_retq (v := (some k0)) (Or.inl ⟨_, rfl⟩) C hsz hsl κ.2.2.2.2 ⟨EX.rf, hPV, (nt_s ht0)⟩ hP hS ⟨(Nat.le_of_ble_eq_true rfl), (Nat.le_of_ble_eq_true rfl)⟩ ⟨(Nat.le_of_ble_eq_true rfl), (Nat.le_of_ble_eq_true rfl)⟩ dX0_convert_9
