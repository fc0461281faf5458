-- nw@10 @10
theorem vJ5_append_c97b9_1 (κ : KS) (k0 : Nat) (k1 : Int32) (b1 : Nat) (x2 : Int32) (r3 : Int32) (x4 : Int32) (hpre : (oI κ.2.2.2.2 25 k0).toInt ≤ 1) (sbb1 : sbL κ.2.2.2.2 k0 = oL κ.2.2.2.2 b1) (lbb1 : (oL κ.2.2.2.2 b1 = 16 ∨ oL κ.2.2.2.2 b1 = 34 ∨ oL κ.2.2.2.2 b1 = 70)) (cbb1 : (oI κ.2.2.2.2 25 k0).toInt ≤ ((oL κ.2.2.2.2 b1 : Nat) : Int)) (nbb1 : 0 ≤ (oI κ.2.2.2.2 25 k0).toInt) (tx2 : (oI κ.2.2.2.2 25 k0).toInt = x2.toInt) (hr3 : r3.toInt = (((sb_dg (Int.natAbs k1.toInt) + ngd k1.toInt) : Nat) : Int)) (ex4 : x4 = x2 + r3) : x4.toInt = x2.toInt + r3.toInt := by
  have zd0 := dg_spec (Int.natAbs k1.toInt)
  have zn0 := ngd_spec k1.toInt
  rw [ex4, z_add (by omega) (by omega)]; first | done | omega
-- pre:J5_ensureCapacityInternal_d00df@14 @14
theorem vJ5_append_c97b9_2 (κ : KS) (k0 : Nat) (k1 : Int32) (b1 : Nat) (x2 : Int32) (r3 : Int32) (x4 : Int32) (hpre : (oI κ.2.2.2.2 25 k0).toInt ≤ 1) (sbb1 : sbL κ.2.2.2.2 k0 = oL κ.2.2.2.2 b1) (lbb1 : (oL κ.2.2.2.2 b1 = 16 ∨ oL κ.2.2.2.2 b1 = 34 ∨ oL κ.2.2.2.2 b1 = 70)) (cbb1 : (oI κ.2.2.2.2 25 k0).toInt ≤ ((oL κ.2.2.2.2 b1 : Nat) : Int)) (nbb1 : 0 ≤ (oI κ.2.2.2.2 25 k0).toInt) (tx2 : (oI κ.2.2.2.2 25 k0).toInt = x2.toInt) (hr3 : r3.toInt = (((sb_dg (Int.natAbs k1.toInt) + ngd k1.toInt) : Nat) : Int)) (ex4 : x4 = x2 + r3) (tx4 : x4.toInt = x2.toInt + r3.toInt) : 0 ≤ x4.toInt ∧ x4.toInt ≤ ((sbL κ.2.2.2.2 k0 : Nat) : Int) + 1 ∧ x4.toInt ≤ 70 := by
  have zd0 := dg_spec (Int.natAbs k1.toInt)
  have zn0 := ngd_spec k1.toInt
  refine ⟨?_, ?_, ?_⟩ <;> first | assumption | omega | (subst_vars; omega) | trivial
-- room @14
theorem vJ5_append_c97b9_3 (κ : KS) (k0 : Nat) (k1 : Int32) (b1 : Nat) (x2 : Int32) (r3 : Int32) (x4 : Int32) (hpre : (oI κ.2.2.2.2 25 k0).toInt ≤ 1) (sbb1 : sbL κ.2.2.2.2 k0 = oL κ.2.2.2.2 b1) (cbb1 : (oI κ.2.2.2.2 25 k0).toInt ≤ ((oL κ.2.2.2.2 b1 : Nat) : Int)) (nbb1 : 0 ≤ (oI κ.2.2.2.2 25 k0).toInt) (tx2 : (oI κ.2.2.2.2 25 k0).toInt = x2.toInt) (hr3 : r3.toInt = (((sb_dg (Int.natAbs k1.toInt) + ngd k1.toInt) : Nat) : Int)) (ex4 : x4 = x2 + r3) (tx4 : x4.toInt = x2.toInt + r3.toInt) : 0 + 0 + (gr1 (x4.toInt)) ≤ 0 := by
  have zg0 := gr_spec (x4.toInt)
  have zd0 := dg_spec (Int.natAbs k1.toInt)
  have zn0 := ngd_spec k1.toInt
  first | assumption | omega | (subst_vars; omega) | trivial
-- room @14
theorem vJ5_append_c97b9_4 (κ : KS) (k0 : Nat) (k1 : Int32) (b1 : Nat) (x2 : Int32) (r3 : Int32) (x4 : Int32) (hpre : (oI κ.2.2.2.2 25 k0).toInt ≤ 1) (sbb1 : sbL κ.2.2.2.2 k0 = oL κ.2.2.2.2 b1) (cbb1 : (oI κ.2.2.2.2 25 k0).toInt ≤ ((oL κ.2.2.2.2 b1 : Nat) : Int)) (nbb1 : 0 ≤ (oI κ.2.2.2.2 25 k0).toInt) (tx2 : (oI κ.2.2.2.2 25 k0).toInt = x2.toInt) (hr3 : r3.toInt = (((sb_dg (Int.natAbs k1.toInt) + ngd k1.toInt) : Nat) : Int)) (ex4 : x4 = x2 + r3) (tx4 : x4.toInt = x2.toInt + r3.toInt) : 0 + 0 + (gr70 (x4.toInt)) ≤ 0 := by
  have zg0 := gr_spec (x4.toInt)
  have zd0 := dg_spec (Int.natAbs k1.toInt)
  have zn0 := ngd_spec k1.toInt
  first | assumption | omega | (subst_vars; omega) | trivial
-- room @18
theorem vJ5_append_c97b9_5 (κ : KS) (k0 : Nat) (k1 : Int32) (b1 : Nat) (x2 : Int32) (r3 : Int32) (x4 : Int32) (P6 : PL) (hpre : (oI κ.2.2.2.2 25 k0).toInt ≤ 1) (sbb1 : sbL κ.2.2.2.2 k0 = oL κ.2.2.2.2 b1) (cbb1 : (oI κ.2.2.2.2 25 k0).toInt ≤ ((oL κ.2.2.2.2 b1 : Nat) : Int)) (nbb1 : 0 ≤ (oI κ.2.2.2.2 25 k0).toInt) (tx2 : (oI κ.2.2.2.2 25 k0).toInt = x2.toInt) (hr3 : r3.toInt = (((sb_dg (Int.natAbs k1.toInt) + ngd k1.toInt) : Nat) : Int)) (ex4 : x4 = x2 + r3) (tx4 : x4.toInt = x2.toInt + r3.toInt) (kl7 : oL P6 b1 = oL κ.2.2.2.2 b1) (hr5_2_0 : (oI P6 25 k0).toInt = (oI κ.2.2.2.2 25 k0).toInt) (hr5_2_1 : x4.toInt ≤ ((sbL P6 k0 : Nat) : Int)) (hr5_2_2 : ((sbL κ.2.2.2.2 k0 : Nat) : Int) ≤ ((sbL P6 k0 : Nat) : Int)) (hr5_2_3 : gr1 (x4.toInt) ≤ 1) (hr5_2_4 : gr70 (x4.toInt) ≤ 70) (hr5_2_5 : x4.toInt ≤ 16 → gr1 (x4.toInt) = 0 ∧ gr70 (x4.toInt) = 0) (hr5_2_6 : 16 < x4.toInt → gr1 (x4.toInt) = 1 ∧ gr70 (x4.toInt) = 70) : 0 + 0 + (gr1 (x4.toInt)) + 0 ≤ 0 := by
  have zg0 := gr_spec (x4.toInt)
  have zd0 := dg_spec (Int.natAbs k1.toInt)
  have zn0 := ngd_spec k1.toInt
  first | assumption | omega | (subst_vars; omega) | trivial
-- room @18
theorem vJ5_append_c97b9_6 (κ : KS) (k0 : Nat) (k1 : Int32) (b1 : Nat) (x2 : Int32) (r3 : Int32) (x4 : Int32) (P6 : PL) (hpre : (oI κ.2.2.2.2 25 k0).toInt ≤ 1) (sbb1 : sbL κ.2.2.2.2 k0 = oL κ.2.2.2.2 b1) (cbb1 : (oI κ.2.2.2.2 25 k0).toInt ≤ ((oL κ.2.2.2.2 b1 : Nat) : Int)) (nbb1 : 0 ≤ (oI κ.2.2.2.2 25 k0).toInt) (tx2 : (oI κ.2.2.2.2 25 k0).toInt = x2.toInt) (hr3 : r3.toInt = (((sb_dg (Int.natAbs k1.toInt) + ngd k1.toInt) : Nat) : Int)) (ex4 : x4 = x2 + r3) (tx4 : x4.toInt = x2.toInt + r3.toInt) (kl7 : oL P6 b1 = oL κ.2.2.2.2 b1) (hr5_2_0 : (oI P6 25 k0).toInt = (oI κ.2.2.2.2 25 k0).toInt) (hr5_2_1 : x4.toInt ≤ ((sbL P6 k0 : Nat) : Int)) (hr5_2_2 : ((sbL κ.2.2.2.2 k0 : Nat) : Int) ≤ ((sbL P6 k0 : Nat) : Int)) (hr5_2_3 : gr1 (x4.toInt) ≤ 1) (hr5_2_4 : gr70 (x4.toInt) ≤ 70) (hr5_2_5 : x4.toInt ≤ 16 → gr1 (x4.toInt) = 0 ∧ gr70 (x4.toInt) = 0) (hr5_2_6 : 16 < x4.toInt → gr1 (x4.toInt) = 1 ∧ gr70 (x4.toInt) = 70) : 0 + 0 + (gr70 (x4.toInt)) + 0 ≤ 0 := by
  have zg0 := gr_spec (x4.toInt)
  have zd0 := dg_spec (Int.natAbs k1.toInt)
  have zn0 := ngd_spec k1.toInt
  first | assumption | omega | (subst_vars; omega) | trivial
-- pre:J6_getChars_ba4f3@30 @30
theorem vJ5_append_c97b9_7 (κ : KS) (k0 : Nat) (k1 : Int32) (b1 : Nat) (x2 : Int32) (r3 : Int32) (x4 : Int32) (P6 : PL) (b10 : Nat) (hpre : (oI κ.2.2.2.2 25 k0).toInt ≤ 1) (sbb1 : sbL κ.2.2.2.2 k0 = oL κ.2.2.2.2 b1) (lbb1 : (oL κ.2.2.2.2 b1 = 16 ∨ oL κ.2.2.2.2 b1 = 34 ∨ oL κ.2.2.2.2 b1 = 70)) (cbb1 : (oI κ.2.2.2.2 25 k0).toInt ≤ ((oL κ.2.2.2.2 b1 : Nat) : Int)) (nbb1 : 0 ≤ (oI κ.2.2.2.2 25 k0).toInt) (tx2 : (oI κ.2.2.2.2 25 k0).toInt = x2.toInt) (hr3 : r3.toInt = (((sb_dg (Int.natAbs k1.toInt) + ngd k1.toInt) : Nat) : Int)) (ex4 : x4 = x2 + r3) (tx4 : x4.toInt = x2.toInt + r3.toInt) (kl7 : oL P6 b1 = oL κ.2.2.2.2 b1) (hr5_2_0 : (oI P6 25 k0).toInt = (oI κ.2.2.2.2 25 k0).toInt) (hr5_2_1 : x4.toInt ≤ ((sbL P6 k0 : Nat) : Int)) (hr5_2_2 : ((sbL κ.2.2.2.2 k0 : Nat) : Int) ≤ ((sbL P6 k0 : Nat) : Int)) (hr5_2_3 : gr1 (x4.toInt) ≤ 1) (hr5_2_4 : gr70 (x4.toInt) ≤ 70) (hr5_2_5 : x4.toInt ≤ 16 → gr1 (x4.toInt) = 0 ∧ gr70 (x4.toInt) = 0) (hr5_2_6 : 16 < x4.toInt → gr1 (x4.toInt) = 1 ∧ gr70 (x4.toInt) = 70) (sbb10 : sbL P6 k0 = oL P6 b10) (lbb10 : (oL P6 b10 = 16 ∨ oL P6 b10 = 34 ∨ oL P6 b10 = 70)) (cbb10 : (oI P6 25 k0).toInt ≤ ((oL P6 b10 : Nat) : Int)) (nbb10 : 0 ≤ (oI P6 25 k0).toInt) : (((sb_dg (Int.natAbs k1.toInt) + ngd k1.toInt) : Nat) : Int) ≤ x4.toInt ∧ x4.toInt ≤ ((oL P6 b10 : Nat) : Int) := by
  have zd0 := dg_spec (Int.natAbs k1.toInt)
  have zn0 := ngd_spec k1.toInt
  refine ⟨?_, ?_⟩ <;> first | assumption | omega | (subst_vars; omega) | trivial
-- room @30
theorem vJ5_append_c97b9_8 (κ : KS) (k0 : Nat) (k1 : Int32) (b1 : Nat) (x2 : Int32) (r3 : Int32) (x4 : Int32) (P6 : PL) (b10 : Nat) (hpre : (oI κ.2.2.2.2 25 k0).toInt ≤ 1) (sbb1 : sbL κ.2.2.2.2 k0 = oL κ.2.2.2.2 b1) (cbb1 : (oI κ.2.2.2.2 25 k0).toInt ≤ ((oL κ.2.2.2.2 b1 : Nat) : Int)) (nbb1 : 0 ≤ (oI κ.2.2.2.2 25 k0).toInt) (tx2 : (oI κ.2.2.2.2 25 k0).toInt = x2.toInt) (hr3 : r3.toInt = (((sb_dg (Int.natAbs k1.toInt) + ngd k1.toInt) : Nat) : Int)) (ex4 : x4 = x2 + r3) (tx4 : x4.toInt = x2.toInt + r3.toInt) (kl7 : oL P6 b1 = oL κ.2.2.2.2 b1) (hr5_2_0 : (oI P6 25 k0).toInt = (oI κ.2.2.2.2 25 k0).toInt) (hr5_2_1 : x4.toInt ≤ ((sbL P6 k0 : Nat) : Int)) (hr5_2_2 : ((sbL κ.2.2.2.2 k0 : Nat) : Int) ≤ ((sbL P6 k0 : Nat) : Int)) (hr5_2_3 : gr1 (x4.toInt) ≤ 1) (hr5_2_4 : gr70 (x4.toInt) ≤ 70) (hr5_2_5 : x4.toInt ≤ 16 → gr1 (x4.toInt) = 0 ∧ gr70 (x4.toInt) = 0) (hr5_2_6 : 16 < x4.toInt → gr1 (x4.toInt) = 1 ∧ gr70 (x4.toInt) = 70) (sbb10 : sbL P6 k0 = oL P6 b10) (lbb10 : (oL P6 b10 = 16 ∨ oL P6 b10 = 34 ∨ oL P6 b10 = 70)) (cbb10 : (oI P6 25 k0).toInt ≤ ((oL P6 b10 : Nat) : Int)) (nbb10 : 0 ≤ (oI P6 25 k0).toInt) : 0 + 0 + (gr1 (x4.toInt)) + 0 + 0 ≤ 0 := by
  have zg0 := gr_spec (x4.toInt)
  have zd0 := dg_spec (Int.natAbs k1.toInt)
  have zn0 := ngd_spec k1.toInt
  first | assumption | omega | (subst_vars; omega) | trivial
-- room @30
theorem vJ5_append_c97b9_9 (κ : KS) (k0 : Nat) (k1 : Int32) (b1 : Nat) (x2 : Int32) (r3 : Int32) (x4 : Int32) (P6 : PL) (b10 : Nat) (hpre : (oI κ.2.2.2.2 25 k0).toInt ≤ 1) (sbb1 : sbL κ.2.2.2.2 k0 = oL κ.2.2.2.2 b1) (cbb1 : (oI κ.2.2.2.2 25 k0).toInt ≤ ((oL κ.2.2.2.2 b1 : Nat) : Int)) (nbb1 : 0 ≤ (oI κ.2.2.2.2 25 k0).toInt) (tx2 : (oI κ.2.2.2.2 25 k0).toInt = x2.toInt) (hr3 : r3.toInt = (((sb_dg (Int.natAbs k1.toInt) + ngd k1.toInt) : Nat) : Int)) (ex4 : x4 = x2 + r3) (tx4 : x4.toInt = x2.toInt + r3.toInt) (kl7 : oL P6 b1 = oL κ.2.2.2.2 b1) (hr5_2_0 : (oI P6 25 k0).toInt = (oI κ.2.2.2.2 25 k0).toInt) (hr5_2_1 : x4.toInt ≤ ((sbL P6 k0 : Nat) : Int)) (hr5_2_2 : ((sbL κ.2.2.2.2 k0 : Nat) : Int) ≤ ((sbL P6 k0 : Nat) : Int)) (hr5_2_3 : gr1 (x4.toInt) ≤ 1) (hr5_2_4 : gr70 (x4.toInt) ≤ 70) (hr5_2_5 : x4.toInt ≤ 16 → gr1 (x4.toInt) = 0 ∧ gr70 (x4.toInt) = 0) (hr5_2_6 : 16 < x4.toInt → gr1 (x4.toInt) = 1 ∧ gr70 (x4.toInt) = 70) (sbb10 : sbL P6 k0 = oL P6 b10) (lbb10 : (oL P6 b10 = 16 ∨ oL P6 b10 = 34 ∨ oL P6 b10 = 70)) (cbb10 : (oI P6 25 k0).toInt ≤ ((oL P6 b10 : Nat) : Int)) (nbb10 : 0 ≤ (oI P6 25 k0).toInt) : 0 + 0 + (gr70 (x4.toInt)) + 0 + 0 ≤ 0 := by
  have zg0 := gr_spec (x4.toInt)
  have zd0 := dg_spec (Int.natAbs k1.toInt)
  have zn0 := ngd_spec k1.toInt
  first | assumption | omega | (subst_vars; omega) | trivial
-- cnt @50
theorem vJ5_append_c97b9_10 (κ : KS) (k0 : Nat) (k1 : Int32) (b1 : Nat) (x2 : Int32) (r3 : Int32) (x4 : Int32) (P6 : PL) (b10 : Nat) (P12 : PL) (b16 : Nat) (hpre : (oI κ.2.2.2.2 25 k0).toInt ≤ 1) (sbb1 : sbL κ.2.2.2.2 k0 = oL κ.2.2.2.2 b1) (lbb1 : (oL κ.2.2.2.2 b1 = 16 ∨ oL κ.2.2.2.2 b1 = 34 ∨ oL κ.2.2.2.2 b1 = 70)) (cbb1 : (oI κ.2.2.2.2 25 k0).toInt ≤ ((oL κ.2.2.2.2 b1 : Nat) : Int)) (nbb1 : 0 ≤ (oI κ.2.2.2.2 25 k0).toInt) (tx2 : (oI κ.2.2.2.2 25 k0).toInt = x2.toInt) (hr3 : r3.toInt = (((sb_dg (Int.natAbs k1.toInt) + ngd k1.toInt) : Nat) : Int)) (ex4 : x4 = x2 + r3) (tx4 : x4.toInt = x2.toInt + r3.toInt) (kl7 : oL P6 b1 = oL κ.2.2.2.2 b1) (hr5_2_0 : (oI P6 25 k0).toInt = (oI κ.2.2.2.2 25 k0).toInt) (hr5_2_1 : x4.toInt ≤ ((sbL P6 k0 : Nat) : Int)) (hr5_2_2 : ((sbL κ.2.2.2.2 k0 : Nat) : Int) ≤ ((sbL P6 k0 : Nat) : Int)) (hr5_2_3 : gr1 (x4.toInt) ≤ 1) (hr5_2_4 : gr70 (x4.toInt) ≤ 70) (hr5_2_5 : x4.toInt ≤ 16 → gr1 (x4.toInt) = 0 ∧ gr70 (x4.toInt) = 0) (hr5_2_6 : 16 < x4.toInt → gr1 (x4.toInt) = 1 ∧ gr70 (x4.toInt) = 70) (sbb10 : sbL P6 k0 = oL P6 b10) (lbb10 : (oL P6 b10 = 16 ∨ oL P6 b10 = 34 ∨ oL P6 b10 = 70)) (cbb10 : (oI P6 25 k0).toInt ≤ ((oL P6 b10 : Nat) : Int)) (nbb10 : 0 ≤ (oI P6 25 k0).toInt) (kl13 : oL P12 b1 = oL P6 b1) (kl14 : oL P12 b10 = oL P6 b10) (hr11_2 : SBS P6 P12) (ak15 : (oI P12 25 k0).toInt = (oI P6 25 k0).toInt) (bk15 : sbL P12 k0 = sbL P6 k0) (sbb16 : sbL P12 k0 = oL P12 b16) (lbb16 : (oL P12 b16 = 16 ∨ oL P12 b16 = 34 ∨ oL P12 b16 = 70)) (cbb16 : (oI P12 25 k0).toInt ≤ ((oL P12 b16 : Nat) : Int)) (nbb16 : 0 ≤ (oI P12 25 k0).toInt) : 0 ≤ x4.toInt ∧ x4.toInt ≤ ((sbL P12 k0 : Nat) : Int) := by
  have zd0 := dg_spec (Int.natAbs k1.toInt)
  have zn0 := ngd_spec k1.toInt
  refine ⟨?_, ?_⟩ <;> first | assumption | omega | (subst_vars; omega) | trivial
-- post @54
theorem vJ5_append_c97b9_11 (κ : KS) (k0 : Nat) (k1 : Int32) (b1 : Nat) (x2 : Int32) (r3 : Int32) (x4 : Int32) (P6 : PL) (b10 : Nat) (P12 : PL) (b16 : Nat) (hpre : (oI κ.2.2.2.2 25 k0).toInt ≤ 1) (sbb1 : sbL κ.2.2.2.2 k0 = oL κ.2.2.2.2 b1) (lbb1 : (oL κ.2.2.2.2 b1 = 16 ∨ oL κ.2.2.2.2 b1 = 34 ∨ oL κ.2.2.2.2 b1 = 70)) (cbb1 : (oI κ.2.2.2.2 25 k0).toInt ≤ ((oL κ.2.2.2.2 b1 : Nat) : Int)) (nbb1 : 0 ≤ (oI κ.2.2.2.2 25 k0).toInt) (tx2 : (oI κ.2.2.2.2 25 k0).toInt = x2.toInt) (hr3 : r3.toInt = (((sb_dg (Int.natAbs k1.toInt) + ngd k1.toInt) : Nat) : Int)) (ex4 : x4 = x2 + r3) (tx4 : x4.toInt = x2.toInt + r3.toInt) (kl7 : oL P6 b1 = oL κ.2.2.2.2 b1) (hr5_2_0 : (oI P6 25 k0).toInt = (oI κ.2.2.2.2 25 k0).toInt) (hr5_2_1 : x4.toInt ≤ ((sbL P6 k0 : Nat) : Int)) (hr5_2_2 : ((sbL κ.2.2.2.2 k0 : Nat) : Int) ≤ ((sbL P6 k0 : Nat) : Int)) (hr5_2_3 : gr1 (x4.toInt) ≤ 1) (hr5_2_4 : gr70 (x4.toInt) ≤ 70) (hr5_2_5 : x4.toInt ≤ 16 → gr1 (x4.toInt) = 0 ∧ gr70 (x4.toInt) = 0) (hr5_2_6 : 16 < x4.toInt → gr1 (x4.toInt) = 1 ∧ gr70 (x4.toInt) = 70) (sbb10 : sbL P6 k0 = oL P6 b10) (lbb10 : (oL P6 b10 = 16 ∨ oL P6 b10 = 34 ∨ oL P6 b10 = 70)) (cbb10 : (oI P6 25 k0).toInt ≤ ((oL P6 b10 : Nat) : Int)) (nbb10 : 0 ≤ (oI P6 25 k0).toInt) (kl13 : oL P12 b1 = oL P6 b1) (kl14 : oL P12 b10 = oL P6 b10) (hr11_2 : SBS P6 P12) (ak15 : (oI P12 25 k0).toInt = (oI P6 25 k0).toInt) (bk15 : sbL P12 k0 = sbL P6 k0) (sbb16 : sbL P12 k0 = oL P12 b16) (lbb16 : (oL P12 b16 = 16 ∨ oL P12 b16 = 34 ∨ oL P12 b16 = 70)) (cbb16 : (oI P12 25 k0).toInt ≤ ((oL P12 b16 : Nat) : Int)) (nbb16 : 0 ≤ (oI P12 25 k0).toInt) (af18 : (oI (sI P12 25 k0 x4) 25 k0).toInt = x4.toInt) (bf18 : sbL (sI P12 25 k0 x4) k0 = oL P12 b16) : (oI κ.2.2.2.2 25 k0).toInt < (oI (sI P12 25 k0 x4) 25 k0).toInt ∧ (oI (sI P12 25 k0 x4) 25 k0).toInt ≤ (oI κ.2.2.2.2 25 k0).toInt + 11 := by
  have zd0 := dg_spec (Int.natAbs k1.toInt)
  have zn0 := ngd_spec k1.toInt
  refine ⟨?_, ?_⟩ <;> first | assumption | omega | (subst_vars; omega) | trivial
-- grow @54
theorem vJ5_append_c97b9_12 (κ : KS) (k0 : Nat) (k1 : Int32) (b1 : Nat) (x2 : Int32) (r3 : Int32) (x4 : Int32) (P6 : PL) (b10 : Nat) (P12 : PL) (b16 : Nat) (hpre : (oI κ.2.2.2.2 25 k0).toInt ≤ 1) (sbb1 : sbL κ.2.2.2.2 k0 = oL κ.2.2.2.2 b1) (cbb1 : (oI κ.2.2.2.2 25 k0).toInt ≤ ((oL κ.2.2.2.2 b1 : Nat) : Int)) (nbb1 : 0 ≤ (oI κ.2.2.2.2 25 k0).toInt) (tx2 : (oI κ.2.2.2.2 25 k0).toInt = x2.toInt) (hr3 : r3.toInt = (((sb_dg (Int.natAbs k1.toInt) + ngd k1.toInt) : Nat) : Int)) (ex4 : x4 = x2 + r3) (tx4 : x4.toInt = x2.toInt + r3.toInt) (kl7 : oL P6 b1 = oL κ.2.2.2.2 b1) (hr5_2_0 : (oI P6 25 k0).toInt = (oI κ.2.2.2.2 25 k0).toInt) (hr5_2_1 : x4.toInt ≤ ((sbL P6 k0 : Nat) : Int)) (hr5_2_2 : ((sbL κ.2.2.2.2 k0 : Nat) : Int) ≤ ((sbL P6 k0 : Nat) : Int)) (hr5_2_3 : gr1 (x4.toInt) ≤ 1) (hr5_2_4 : gr70 (x4.toInt) ≤ 70) (hr5_2_5 : x4.toInt ≤ 16 → gr1 (x4.toInt) = 0 ∧ gr70 (x4.toInt) = 0) (hr5_2_6 : 16 < x4.toInt → gr1 (x4.toInt) = 1 ∧ gr70 (x4.toInt) = 70) (sbb10 : sbL P6 k0 = oL P6 b10) (lbb10 : (oL P6 b10 = 16 ∨ oL P6 b10 = 34 ∨ oL P6 b10 = 70)) (cbb10 : (oI P6 25 k0).toInt ≤ ((oL P6 b10 : Nat) : Int)) (nbb10 : 0 ≤ (oI P6 25 k0).toInt) (kl13 : oL P12 b1 = oL P6 b1) (kl14 : oL P12 b10 = oL P6 b10) (hr11_2 : SBS P6 P12) (ak15 : (oI P12 25 k0).toInt = (oI P6 25 k0).toInt) (bk15 : sbL P12 k0 = sbL P6 k0) (sbb16 : sbL P12 k0 = oL P12 b16) (lbb16 : (oL P12 b16 = 16 ∨ oL P12 b16 = 34 ∨ oL P12 b16 = 70)) (cbb16 : (oI P12 25 k0).toInt ≤ ((oL P12 b16 : Nat) : Int)) (nbb16 : 0 ≤ (oI P12 25 k0).toInt) (af18 : (oI (sI P12 25 k0 x4) 25 k0).toInt = x4.toInt) (bf18 : sbL (sI P12 25 k0 x4) k0 = oL P12 b16) : 0 + 0 + (gr1 (x4.toInt)) + 0 + 0 ≤ 0 := by
  have zg0 := gr_spec (x4.toInt)
  have zd0 := dg_spec (Int.natAbs k1.toInt)
  have zn0 := ngd_spec k1.toInt
  first | assumption | omega | (subst_vars; omega) | trivial
-- grow @54
theorem vJ5_append_c97b9_13 (κ : KS) (k0 : Nat) (k1 : Int32) (b1 : Nat) (x2 : Int32) (r3 : Int32) (x4 : Int32) (P6 : PL) (b10 : Nat) (P12 : PL) (b16 : Nat) (hpre : (oI κ.2.2.2.2 25 k0).toInt ≤ 1) (sbb1 : sbL κ.2.2.2.2 k0 = oL κ.2.2.2.2 b1) (cbb1 : (oI κ.2.2.2.2 25 k0).toInt ≤ ((oL κ.2.2.2.2 b1 : Nat) : Int)) (nbb1 : 0 ≤ (oI κ.2.2.2.2 25 k0).toInt) (tx2 : (oI κ.2.2.2.2 25 k0).toInt = x2.toInt) (hr3 : r3.toInt = (((sb_dg (Int.natAbs k1.toInt) + ngd k1.toInt) : Nat) : Int)) (ex4 : x4 = x2 + r3) (tx4 : x4.toInt = x2.toInt + r3.toInt) (kl7 : oL P6 b1 = oL κ.2.2.2.2 b1) (hr5_2_0 : (oI P6 25 k0).toInt = (oI κ.2.2.2.2 25 k0).toInt) (hr5_2_1 : x4.toInt ≤ ((sbL P6 k0 : Nat) : Int)) (hr5_2_2 : ((sbL κ.2.2.2.2 k0 : Nat) : Int) ≤ ((sbL P6 k0 : Nat) : Int)) (hr5_2_3 : gr1 (x4.toInt) ≤ 1) (hr5_2_4 : gr70 (x4.toInt) ≤ 70) (hr5_2_5 : x4.toInt ≤ 16 → gr1 (x4.toInt) = 0 ∧ gr70 (x4.toInt) = 0) (hr5_2_6 : 16 < x4.toInt → gr1 (x4.toInt) = 1 ∧ gr70 (x4.toInt) = 70) (sbb10 : sbL P6 k0 = oL P6 b10) (lbb10 : (oL P6 b10 = 16 ∨ oL P6 b10 = 34 ∨ oL P6 b10 = 70)) (cbb10 : (oI P6 25 k0).toInt ≤ ((oL P6 b10 : Nat) : Int)) (nbb10 : 0 ≤ (oI P6 25 k0).toInt) (kl13 : oL P12 b1 = oL P6 b1) (kl14 : oL P12 b10 = oL P6 b10) (hr11_2 : SBS P6 P12) (ak15 : (oI P12 25 k0).toInt = (oI P6 25 k0).toInt) (bk15 : sbL P12 k0 = sbL P6 k0) (sbb16 : sbL P12 k0 = oL P12 b16) (lbb16 : (oL P12 b16 = 16 ∨ oL P12 b16 = 34 ∨ oL P12 b16 = 70)) (cbb16 : (oI P12 25 k0).toInt ≤ ((oL P12 b16 : Nat) : Int)) (nbb16 : 0 ≤ (oI P12 25 k0).toInt) (af18 : (oI (sI P12 25 k0 x4) 25 k0).toInt = x4.toInt) (bf18 : sbL (sI P12 25 k0 x4) k0 = oL P12 b16) : 0 + 0 + (gr70 (x4.toInt)) + 0 + 0 ≤ 0 := by
  have zg0 := gr_spec (x4.toInt)
  have zd0 := dg_spec (Int.natAbs k1.toInt)
  have zn0 := ngd_spec k1.toInt
  first | assumption | omega | (subst_vars; omega) | trivial
set_option maxHeartbeats 4000000 in
set_option maxRecDepth 100000 in
theorem NJ5_append_c97b9 (l : Launch) (D : va_G) (cy : Nat → ClassId) (ad : Nat → Nat) (A : Nat → Prop) (sz0 : Nat) (sa : Nat → Nat)  (κ : KS) (sz sl : Nat) (hAF : ∀ q, A q → Fr sz0 q) (hAn : ∀ q : Nat, sz ≤ q → A q) (k0 : Nat) (k1 : Int32) (ht0 : oT κ.2.2.2.2 k0 = 12) (hPV : PV sa κ.2.2.2.2) (hpre : (oI κ.2.2.2.2 25 k0).toInt ≤ 1) : Met l yJ5_append_c97b9 (Cond.code yJ5_append_c97b9 cJ5_append_c97b9 4 (some (.object "java/lang/AbstractStringBuilder")) :: GWc) ({ frames := 4, cells := 0, slots := 0, locals := 100 }) (PcC D cy ad A sz0 sa [.ref k0, .int k1] κ sz sl) (va_Qq (fun (r : Option Nat) (u : PL) => (EX κ.2.2.2.2 u) ∧ (PV sa u) ∧ (NN u 12 r) ∧ ((oI κ.2.2.2.2 25 k0).toInt < (oI u 25 k0).toInt ∧ (oI u 25 k0).toInt ≤ (oI κ.2.2.2.2 25 k0).toInt + 11)) (fun (u : PL) (t : State) => Bx D cy ad A sz sl (tP κ u) (0) (0) t) A) (0) (0) A := by
  refine CM_of (loc0 := [(0, .ref k0), (1, .int k1)]) (own := RJ5) (nm := "append") (by decide) rfl rfl rfl (Nat.le_of_ble_eq_true rfl) hAF hAn ?_
  intro p e s m below meth c ls hsz hsl C hP hS hl
  refine lv_aload_n C.x C.b dJ5_append_c97b9_0 rfl (lv_at hl 0 rfl) ?_
  obtain ⟨b1, ebb1, tbb1, sbb1, lbb1, cbb1, nbb1, zbb1⟩ : ∃ b, oR κ.2.2.2.2 12 k0 = some b ∧ oT κ.2.2.2.2 b = 8 ∧ sbL κ.2.2.2.2 k0 = oL κ.2.2.2.2 b ∧ (oL κ.2.2.2.2 b = 16 ∨ oL κ.2.2.2.2 b = 34 ∨ oL κ.2.2.2.2 b = 70) ∧ (oI κ.2.2.2.2 25 k0).toInt ≤ ((oL κ.2.2.2.2 b : Nat) : Int) ∧ 0 ≤ (oI κ.2.2.2.2 25 k0).toInt ∧ oI κ.2.2.2.2 23 k0 = 0 := hPV.sb ht0
  obtain ⟨x2, ex2⟩ : ∃ z, oI κ.2.2.2.2 25 k0 = z := ⟨_, rfl⟩
  have tx2 : (oI κ.2.2.2.2 25 k0).toInt = x2.toInt := by rw [ex2]
  refine pg_J4_3 (v := x2) C hP (t20 (a := k0) (t := 12) ht0) ex2 cw_157 dJ5_append_c97b9_1 ?_
  refine lv_istore_n (lv' := [(2, .int x2), (0, .ref k0), (1, .int k1)]) C.x C.b dJ5_append_c97b9_4 rfl hl (by decide) rfl (fun ls hl => ?_)
  refine lv_iload_n C.x C.b dJ5_append_c97b9_5 rfl (lv_at hl 0 rfl) ?_
  refine lv_iload_n C.x C.b dJ5_append_c97b9_6 rfl (lv_at hl 2 rfl) ?_
  refine c_callSi (C2 := "") (b := 0) (n := 1) (As := [.int k1]) (rest := [.int x2]) C hP hS hl.1 (NJ6_stringSize_0f7a4 l D cy ad A sz0 sa κ s.heap.size (SLT s.heap) C.f (fun q h => C.a q (Nat.le_trans hS.1 h)) k1 hPV) ⟨cw_263, cw_266, by decide +kernel⟩ ⟨cw_264, cw_265⟩ rfl rfl (lv_room (Nat.le_of_ble_eq_true rfl)) ⟨Nat.le_of_ble_eq_true rfl, Nat.le_of_ble_eq_true rfl⟩ ⟨(Nat.le_of_ble_eq_true rfl), (Nat.le_of_ble_eq_true rfl)⟩ dJ5_append_c97b9_7 (fun r3 u H locs hr3 hP hS => ?_)
  have hr3 : (r3.toInt = (((sb_dg (Int.natAbs k1.toInt) + ngd k1.toInt) : Nat) : Int)) := hr3
  refine lv_iadd C.x C.b dJ5_append_c97b9_10 ?_
  refine lv_topi (fun x4 ex4 => ?_)
  have tx4 : x4.toInt = x2.toInt + r3.toInt := (vJ5_append_c97b9_1 κ k0 k1 b1 x2 r3 x4 hpre sbb1 lbb1 cbb1 nbb1 tx2 hr3 ex4)
  refine lv_istore_n (lv' := [(3, .int x4), (2, .int x2), (0, .ref k0), (1, .int k1)]) C.x C.b dJ5_append_c97b9_11 rfl hl (by decide) rfl (fun ls hl => ?_)
  refine lv_aload_n C.x C.b dJ5_append_c97b9_12 rfl (lv_at hl 2 rfl) ?_
  refine lv_iload_n C.x C.b dJ5_append_c97b9_13 rfl (lv_at hl 0 rfl) ?_
  refine c_callUv (owner := "java/lang/AbstractStringBuilder") (n := 1) (As := [.int x4]) (rest := []) C hP hS hl.1 (NJ5_ensureCapacityInternal_d00df l D cy ad A sz0 sa κ H.size (SLT H) C.f (fun q h => C.a q (Nat.le_trans hS.1 h)) k0 x4 ht0 hPV (vJ5_append_c97b9_2 κ k0 k1 b1 x2 r3 x4 hpre sbb1 lbb1 cbb1 nbb1 tx2 hr3 ex4 tx4)) ⟨cw_159, cw_163, by decide +kernel⟩ ⟨cw_160, cw_161, cw_162, cw_15⟩ rfl (hP.recvP (t := 12) (ci := 1) C.K (t20 (a := k0) (t := 12) ht0) (by decide) rfl rfl) rfl rfl (lv_room (Nat.le_of_ble_eq_true rfl)) ⟨Nat.le_of_ble_eq_true rfl, Nat.le_of_ble_eq_true rfl⟩ ⟨(vJ5_append_c97b9_3 κ k0 k1 b1 x2 r3 x4 hpre sbb1 cbb1 nbb1 tx2 hr3 ex4 tx4), (vJ5_append_c97b9_4 κ k0 k1 b1 x2 r3 x4 hpre sbb1 cbb1 nbb1 tx2 hr3 ex4 tx4)⟩ dJ5_append_c97b9_14 (fun u H locs hr5 hP hS => ?_)
  obtain ⟨P6, rfl⟩ : ∃ z, z = u := ⟨_, rfl⟩
  have hP : CH D cy ad A (tP κ P6) H := hP
  have hr5 : (EX κ.2.2.2.2 P6) ∧ (PV sa P6) ∧ ((oI P6 25 k0).toInt = (oI κ.2.2.2.2 25 k0).toInt ∧ x4.toInt ≤ ((sbL P6 k0 : Nat) : Int) ∧ ((sbL κ.2.2.2.2 k0 : Nat) : Int) ≤ ((sbL P6 k0 : Nat) : Int) ∧ (gr1 (x4.toInt) ≤ 1 ∧ gr70 (x4.toInt) ≤ 70 ∧ (x4.toInt ≤ 16 → gr1 (x4.toInt) = 0 ∧ gr70 (x4.toInt) = 0) ∧ (16 < x4.toInt → gr1 (x4.toInt) = 1 ∧ gr70 (x4.toInt) = 70))) := hr5
  obtain ⟨hr5_0, hr5_1, hr5_2⟩ := hr5
  have kl7 : oL P6 b1 = oL κ.2.2.2.2 b1 := hr5_0.L tbb1 (by decide)
  obtain ⟨hr5_2_0, hr5_2_1, hr5_2_2, ⟨hr5_2_3, hr5_2_4, hr5_2_5, hr5_2_6⟩⟩ := hr5_2
  refine lv_aload_n C.x C.b dJ5_append_c97b9_17 rfl (lv_at hl 2 rfl) ?_
  refine c_callUi (owner := "java/lang/AbstractStringBuilder") (n := 0) (As := []) (rest := []) C hP hS hl.1 (NJ5_isLatin1_aae02 l D cy ad A sz0 sa (tP κ P6) H.size (SLT H) C.f (fun q h => C.a q (Nat.le_trans hS.1 h)) k0 (hr5_0.T ht0 (by decide)) hr5_1) ⟨cw_199, cw_203, by decide +kernel⟩ ⟨cw_200, cw_201, cw_202, cw_15⟩ rfl (hP.recvP (t := 12) (ci := 1) C.K (t20 (a := k0) (t := 12) (hr5_0.T ht0 (by decide))) (by decide) rfl rfl) rfl rfl (lv_room (Nat.le_of_ble_eq_true rfl)) ⟨Nat.le_of_ble_eq_true rfl, Nat.le_of_ble_eq_true rfl⟩ ⟨(vJ5_append_c97b9_5 κ k0 k1 b1 x2 r3 x4 P6 hpre sbb1 cbb1 nbb1 tx2 hr3 ex4 tx4 kl7 hr5_2_0 hr5_2_1 hr5_2_2 hr5_2_3 hr5_2_4 hr5_2_5 hr5_2_6), (vJ5_append_c97b9_6 κ k0 k1 b1 x2 r3 x4 P6 hpre sbb1 cbb1 nbb1 tx2 hr3 ex4 tx4 kl7 hr5_2_0 hr5_2_1 hr5_2_2 hr5_2_3 hr5_2_4 hr5_2_5 hr5_2_6)⟩ dJ5_append_c97b9_18 (fun r8 u H locs hr8 hP hS => ?_)
  have hr8 : (r8 = (1 : Int32)) := hr8
  subst hr8
  refine lv_if_eq (tgt := 37) C.x C.b dJ5_append_c97b9_21 (by decide) (fun c9 => absurd c9 (by decide +kernel)) (fun _ => ?_)
  refine lv_iload_n C.x C.b dJ5_append_c97b9_24 rfl (lv_at hl 3 rfl) ?_
  refine lv_iload_n C.x C.b dJ5_append_c97b9_25 rfl (lv_at hl 0 rfl) ?_
  refine lv_aload_n C.x C.b dJ5_append_c97b9_26 rfl (lv_at hl 2 rfl) ?_
  obtain ⟨b10, ebb10, tbb10, sbb10, lbb10, cbb10, nbb10, zbb10⟩ : ∃ b, oR P6 12 k0 = some b ∧ oT P6 b = 8 ∧ sbL P6 k0 = oL P6 b ∧ (oL P6 b = 16 ∨ oL P6 b = 34 ∨ oL P6 b = 70) ∧ (oI P6 25 k0).toInt ≤ ((oL P6 b : Nat) : Int) ∧ 0 ≤ (oI P6 25 k0).toInt ∧ oI P6 23 k0 = 0 := hr5_1.sb (hr5_0.T ht0 (by decide))
  refine pg_J4_0 (v := some b10) C hP (t20 (a := k0) (t := 12) (hr5_0.T ht0 (by decide))) ebb10 cw_20 dJ5_append_c97b9_27 ?_
  refine c_callSi (C2 := "") (b := 0) (n := 3) (As := [.int k1, .int x4, .ref b10]) (rest := []) C hP hS hl.1 (NJ6_getChars_ba4f3 l D cy ad A sz0 sa (tP κ P6) H.size (SLT H) C.f (fun q h => C.a q (Nat.le_trans hS.1 h)) k1 x4 b10 tbb10 hr5_1 (vJ5_append_c97b9_7 κ k0 k1 b1 x2 r3 x4 P6 b10 hpre sbb1 lbb1 cbb1 nbb1 tx2 hr3 ex4 tx4 kl7 hr5_2_0 hr5_2_1 hr5_2_2 hr5_2_3 hr5_2_4 hr5_2_5 hr5_2_6 sbb10 lbb10 cbb10 nbb10)) ⟨cw_267, cw_269, by decide +kernel⟩ ⟨cw_268, cw_265⟩ rfl rfl (lv_room (Nat.le_of_ble_eq_true rfl)) ⟨Nat.le_of_ble_eq_true rfl, Nat.le_of_ble_eq_true rfl⟩ ⟨(vJ5_append_c97b9_8 κ k0 k1 b1 x2 r3 x4 P6 b10 hpre sbb1 cbb1 nbb1 tx2 hr3 ex4 tx4 kl7 hr5_2_0 hr5_2_1 hr5_2_2 hr5_2_3 hr5_2_4 hr5_2_5 hr5_2_6 sbb10 lbb10 cbb10 nbb10), (vJ5_append_c97b9_9 κ k0 k1 b1 x2 r3 x4 P6 b10 hpre sbb1 cbb1 nbb1 tx2 hr3 ex4 tx4 kl7 hr5_2_0 hr5_2_1 hr5_2_2 hr5_2_3 hr5_2_4 hr5_2_5 hr5_2_6 sbb10 lbb10 cbb10 nbb10)⟩ dJ5_append_c97b9_30 (fun r11 u H locs hr11 hP hS => ?_)
  obtain ⟨P12, rfl⟩ : ∃ z, z = u := ⟨_, rfl⟩
  have hP : CH D cy ad A (tP (tP κ P6) P12) H := hP
  have hr11 : (EX P6 P12) ∧ (PV sa P12) ∧ (SBS P6 P12) := hr11
  obtain ⟨hr11_0, hr11_1, hr11_2⟩ := hr11
  have kl13 : oL P12 b1 = oL P6 b1 := hr11_0.L (hr5_0.T tbb1 (by decide)) (by decide)
  have kl14 : oL P12 b10 = oL P6 b10 := hr11_0.L tbb10 (by decide)
  have ak15 : (oI P12 25 k0).toInt = (oI P6 25 k0).toInt := hr11_2.cnt (hr5_0.T ht0 (by decide))
  have bk15 : sbL P12 k0 = sbL P6 k0 := hr11_2.len (hr5_0.T ht0 (by decide)) hr11_0 hr5_1
  refine lv_pop C.x C.b dJ5_append_c97b9_33 rfl ?_
  refine lv_goto (tgt := 48) C.x C.b dJ5_append_c97b9_34 (by decide) ?_
  refine lv_aload_n C.x C.b dJ5_append_c97b9_48 rfl (lv_at hl 2 rfl) ?_
  refine lv_iload_n C.x C.b dJ5_append_c97b9_49 rfl (lv_at hl 0 rfl) ?_
  refine pp_J4_3 C hP hS (t20 (a := k0) (t := 12) (hr11_0.T (hr5_0.T ht0 (by decide)) (by decide))) cw_157 dJ5_append_c97b9_50 (fun H locs hP hS => ?_)
  obtain ⟨b16, ebb16, tbb16, sbb16, lbb16, cbb16, nbb16, zbb16⟩ : ∃ b, oR P12 12 k0 = some b ∧ oT P12 b = 8 ∧ sbL P12 k0 = oL P12 b ∧ (oL P12 b = 16 ∨ oL P12 b = 34 ∨ oL P12 b = 70) ∧ (oI P12 25 k0).toInt ≤ ((oL P12 b : Nat) : Int) ∧ 0 ≤ (oI P12 25 k0).toInt ∧ oI P12 23 k0 = 0 := hr11_1.sb (hr11_0.T (hr5_0.T ht0 (by decide)) (by decide))
  have exz17 : EX P12 (sI P12 25 k0 x4) := (EX.stV (Or.inr rfl))
  have pvz17 : PV sa (sI P12 25 k0 x4) := (hr11_1.st25 (hr11_0.T (hr5_0.T ht0 (by decide)) (by decide)) (vJ5_append_c97b9_10 κ k0 k1 b1 x2 r3 x4 P6 b10 P12 b16 hpre sbb1 lbb1 cbb1 nbb1 tx2 hr3 ex4 tx4 kl7 hr5_2_0 hr5_2_1 hr5_2_2 hr5_2_3 hr5_2_4 hr5_2_5 hr5_2_6 sbb10 lbb10 cbb10 nbb10 kl13 kl14 hr11_2 ak15 bk15 sbb16 lbb16 cbb16 nbb16))
  have af18 : (oI (sI P12 25 k0 x4) 25 k0).toInt = x4.toInt := congrArg Int32.toInt sI_eq
  have bf18 : sbL (sI P12 25 k0 x4) k0 = oL P12 b16 := sbb16
  refine lv_aload_n C.x C.b dJ5_append_c97b9_53 rfl (lv_at hl 2 rfl) ?_
  have hP : CH D cy ad A (tP κ (sI P12 25 k0 x4)) H := CH.cong hP rfl rfl rfl rfl rfl rfl rfl rfl rfl rfl rfl rfl rfl rfl rfl rfl rfl rfl rfl rfl rfl rfl rfl rfl rfl rfl rfl
  exact c_retq (v := (some k0)) (Or.inl ⟨_, rfl⟩) C hsz hsl (sI P12 25 k0 x4) ⟨((hr5_0.trans hr11_0).trans exz17), pvz17, ⟨k0, rfl, (exz17.T (hr11_0.T (hr5_0.T ht0 (by decide)) (by decide)) (by decide))⟩, (vJ5_append_c97b9_11 κ k0 k1 b1 x2 r3 x4 P6 b10 P12 b16 hpre sbb1 lbb1 cbb1 nbb1 tx2 hr3 ex4 tx4 kl7 hr5_2_0 hr5_2_1 hr5_2_2 hr5_2_3 hr5_2_4 hr5_2_5 hr5_2_6 sbb10 lbb10 cbb10 nbb10 kl13 kl14 hr11_2 ak15 bk15 sbb16 lbb16 cbb16 nbb16 af18 bf18)⟩ hP hS ⟨(vJ5_append_c97b9_12 κ k0 k1 b1 x2 r3 x4 P6 b10 P12 b16 hpre sbb1 cbb1 nbb1 tx2 hr3 ex4 tx4 kl7 hr5_2_0 hr5_2_1 hr5_2_2 hr5_2_3 hr5_2_4 hr5_2_5 hr5_2_6 sbb10 lbb10 cbb10 nbb10 kl13 kl14 hr11_2 ak15 bk15 sbb16 lbb16 cbb16 nbb16 af18 bf18), (vJ5_append_c97b9_13 κ k0 k1 b1 x2 r3 x4 P6 b10 P12 b16 hpre sbb1 cbb1 nbb1 tx2 hr3 ex4 tx4 kl7 hr5_2_0 hr5_2_1 hr5_2_2 hr5_2_3 hr5_2_4 hr5_2_5 hr5_2_6 sbb10 lbb10 cbb10 nbb10 kl13 kl14 hr11_2 ak15 bk15 sbb16 lbb16 cbb16 nbb16 af18 bf18)⟩ ⟨(Nat.le_of_ble_eq_true rfl), (Nat.le_of_ble_eq_true rfl)⟩ dJ5_append_c97b9_54

-- pre:J5_append_c97b9@2 @2
theorem vJ4_append_bf812_1 (κ : KS) (k0 : Nat) (hpre : (oI κ.2.2.2.2 25 k0).toInt ≤ 1) : (oI κ.2.2.2.2 25 k0).toInt ≤ 1 := by
  first | assumption | omega | (subst_vars; omega) | trivial
-- post @7
theorem vJ4_append_bf812_2 (κ : KS) (k0 : Nat) (P2 : PL) (hpre : (oI κ.2.2.2.2 25 k0).toInt ≤ 1) (hr1_3_0 : (oI κ.2.2.2.2 25 k0).toInt < (oI P2 25 k0).toInt) (hr1_3_1 : (oI P2 25 k0).toInt ≤ (oI κ.2.2.2.2 25 k0).toInt + 11) : (oI κ.2.2.2.2 25 k0).toInt < (oI P2 25 k0).toInt ∧ (oI P2 25 k0).toInt ≤ (oI κ.2.2.2.2 25 k0).toInt + 11 := by
  refine ⟨?_, ?_⟩ <;> first | assumption | omega | (subst_vars; omega) | trivial
set_option maxHeartbeats 4000000 in
set_option maxRecDepth 100000 in
theorem NJ4_append_bf812 (l : Launch) (D : va_G) (cy : Nat → ClassId) (ad : Nat → Nat) (A : Nat → Prop) (sz0 : Nat) (sa : Nat → Nat)  (κ : KS) (sz sl : Nat) (hAF : ∀ q, A q → Fr sz0 q) (hAn : ∀ q : Nat, sz ≤ q → A q) (k0 : Nat) (k1 : Int32) (ht0 : oT κ.2.2.2.2 k0 = 12) (hPV : PV sa κ.2.2.2.2) (hpre : (oI κ.2.2.2.2 25 k0).toInt ≤ 1) : Met l yJ4_append_bf812 (Cond.code yJ4_append_bf812 cJ4_append_bf812 2 (some (.object "java/lang/StringBuilder")) :: GWc) ({ frames := 5, cells := 0, slots := 0, locals := 123 }) (PcC D cy ad A sz0 sa [.ref k0, .int k1] κ sz sl) (va_Qq (fun (r : Option Nat) (u : PL) => (EX κ.2.2.2.2 u) ∧ (PV sa u) ∧ (NN u 12 r) ∧ ((oI κ.2.2.2.2 25 k0).toInt < (oI u 25 k0).toInt ∧ (oI u 25 k0).toInt ≤ (oI κ.2.2.2.2 25 k0).toInt + 11)) (fun (u : PL) (t : State) => Bx D cy ad A sz sl (tP κ u) (0) (0) t) A) (0) (0) A := by
  refine CM_of (loc0 := [(0, .ref k0), (1, .int k1)]) (own := RJ4) (nm := "append") (by decide) rfl rfl rfl (Nat.le_of_ble_eq_true rfl) hAF hAn ?_
  intro p e s m below meth c ls hsz hsl C hP hS hl
  refine lv_aload_n C.x C.b dJ4_append_bf812_0 rfl (lv_at hl 0 rfl) ?_
  refine lv_iload_n C.x C.b dJ4_append_bf812_1 rfl (lv_at hl 1 rfl) ?_
  refine c_callWq (n := 1) (As := [.int k1]) (rest := []) C hP hS hl.1 (NJ5_append_c97b9 l D cy ad A sz0 sa κ s.heap.size (SLT s.heap) C.f (fun q h => C.a q (Nat.le_trans hS.1 h)) k0 k1 ht0 hPV (vJ4_append_bf812_1 κ k0 hpre)) ⟨cw_259, cw_262, by decide +kernel⟩ ⟨cw_260, cw_154, cw_261, cw_15⟩ (by decide) (ci := 1) rfl rfl (hP.recvP (t := 12) (ci := 1) C.K (t20 (a := k0) (t := 12) ht0) (by decide) rfl rfl) rfl rfl (lv_room (Nat.le_of_ble_eq_true rfl)) ⟨Nat.le_of_ble_eq_true rfl, Nat.le_of_ble_eq_true rfl⟩ ⟨(Nat.le_of_ble_eq_true rfl), (Nat.le_of_ble_eq_true rfl)⟩ dJ4_append_bf812_2 (fun r1 u H locs hr1 hP hS => ?_)
  obtain ⟨P2, rfl⟩ : ∃ z, z = u := ⟨_, rfl⟩
  have hP : CH D cy ad A (tP κ P2) H := hP
  have hr1 : (EX κ.2.2.2.2 P2) ∧ (PV sa P2) ∧ (NN P2 12 r1) ∧ ((oI κ.2.2.2.2 25 k0).toInt < (oI P2 25 k0).toInt ∧ (oI P2 25 k0).toInt ≤ (oI κ.2.2.2.2 25 k0).toInt + 11) := hr1
  obtain ⟨hr1_0, hr1_1, hr1_2, hr1_3⟩ := hr1
  obtain ⟨b3, rfl, tb3⟩ := hr1_2
  obtain ⟨hr1_3_0, hr1_3_1⟩ := hr1_3
  refine lv_pop C.x C.b dJ4_append_bf812_5 rfl ?_
  refine lv_aload_n C.x C.b dJ4_append_bf812_6 rfl (lv_at hl 0 rfl) ?_
  exact c_retq (v := (some k0)) (Or.inl ⟨_, rfl⟩) C hsz hsl P2 ⟨hr1_0, hr1_1, ⟨k0, rfl, (hr1_0.T ht0 (by decide))⟩, (vJ4_append_bf812_2 κ k0 P2 hpre hr1_3_0 hr1_3_1)⟩ hP hS ⟨(Nat.le_of_ble_eq_true rfl), (Nat.le_of_ble_eq_true rfl)⟩ ⟨(Nat.le_of_ble_eq_true rfl), (Nat.le_of_ble_eq_true rfl)⟩ dJ4_append_bf812_7

set_option maxHeartbeats 4000000 in
set_option maxRecDepth 100000 in
theorem NJ5_inflateIfNeededFor_a7421 (l : Launch) (D : va_G) (cy : Nat → ClassId) (ad : Nat → Nat) (A : Nat → Prop) (sz0 : Nat) (sa : Nat → Nat)  (κ : KS) (sz sl : Nat) (hAF : ∀ q, A q → Fr sz0 q) (hAn : ∀ q : Nat, sz ≤ q → A q) (k0 : Nat) (k1 : Nat) (ht0 : oT κ.2.2.2.2 k0 = 12) (ht1 : SOK κ.2.2.2.2 sa k1) (hPV : PV sa κ.2.2.2.2) : Met l yJ5_inflateIfNeededFor_a7421 (Cond.code yJ5_inflateIfNeededFor_a7421 cJ5_inflateIfNeededFor_a7421 2 none :: GWc) ({ frames := 1, cells := 0, slots := 0, locals := 20 }) (PcC D cy ad A sz0 sa [.ref k0, .ref k1] κ sz sl) (va_Qv (fun (u : Unit) => True) (fun (u : Unit) (t : State) => Bx D cy ad A sz sl κ (0) (0) t) A) (0) (0) A := by
  refine CM_of (loc0 := [(0, .ref k0), (1, .ref k1)]) (own := RJ5) (nm := "inflateIfNeededFor") (by decide) rfl rfl rfl (Nat.le_of_ble_eq_true rfl) hAF hAn ?_
  intro p e s m below meth c ls hsz hsl C hP hS hl
  refine va_gets (C := "java/lang/String") (n := "COMPACT_STRINGS") (d := "Z") (A := A) (v := .int 1) C.x C.b (C.cs) hS C.o (C.w _ cw_18) (fun _ h9 => h9) dJ5_inflateIfNeededFor_a7421_0 ?_
  refine lv_if_eq (tgt := 21) C.x C.b dJ5_inflateIfNeededFor_a7421_3 (by decide) (fun c1 => absurd c1 (by decide +kernel)) (fun _ => ?_)
  refine lv_aload_n C.x C.b dJ5_inflateIfNeededFor_a7421_6 rfl (lv_at hl 0 rfl) ?_
  obtain ⟨b2, ebb2, tbb2, sbb2, lbb2, cbb2, nbb2, zbb2⟩ : ∃ b, oR κ.2.2.2.2 12 k0 = some b ∧ oT κ.2.2.2.2 b = 8 ∧ sbL κ.2.2.2.2 k0 = oL κ.2.2.2.2 b ∧ (oL κ.2.2.2.2 b = 16 ∨ oL κ.2.2.2.2 b = 34 ∨ oL κ.2.2.2.2 b = 70) ∧ (oI κ.2.2.2.2 25 k0).toInt ≤ ((oL κ.2.2.2.2 b : Nat) : Int) ∧ 0 ≤ (oI κ.2.2.2.2 25 k0).toInt ∧ oI κ.2.2.2.2 23 k0 = 0 := hPV.sb ht0
  refine pg_J4_1 (v := 0) C hP (t20 (a := k0) (t := 12) ht0) zbb2 cw_21 dJ5_inflateIfNeededFor_a7421_7 ?_
  refine lv_aload_n C.x C.b dJ5_inflateIfNeededFor_a7421_10 rfl (lv_at hl 1 rfl) ?_
  refine c_callVi (n := 0) (As := []) (rest := [.int 0]) C hP hS hl.1 (NJ0_coder_7d493 l D cy ad A sz0 sa κ s.heap.size (SLT s.heap) C.f (fun q h => C.a q (Nat.le_trans hS.1 h)) k1 ht1 hPV) ⟨cw_369, cw_105, by decide +kernel⟩ ⟨cw_103, cw_104, cw_70⟩ rfl (c_srecv C hP hS ht1) rfl rfl (lv_room (Nat.le_of_ble_eq_true rfl)) ⟨Nat.le_of_ble_eq_true rfl, Nat.le_of_ble_eq_true rfl⟩ ⟨(Nat.le_of_ble_eq_true rfl), (Nat.le_of_ble_eq_true rfl)⟩ dJ5_inflateIfNeededFor_a7421_11 (fun r3 u H locs hr3 hP hS => ?_)
  have hr3 : (r3 = (0 : Int32)) := hr3
  subst hr3
  refine lv_icmp_eq (tgt := 21) C.x C.b dJ5_inflateIfNeededFor_a7421_14 (by decide) (fun _ => ?_) (fun c4 => absurd (by decide +kernel) c4)
  exact c_retv C hsz hsl () trivial hP hS ⟨(Nat.le_of_ble_eq_true rfl), (Nat.le_of_ble_eq_true rfl)⟩ ⟨(Nat.le_of_ble_eq_true rfl), (Nat.le_of_ble_eq_true rfl)⟩ dJ5_inflateIfNeededFor_a7421_21

-- cpy1 @22
theorem vJ0_getBytes_840e7_1 (sa : Nat → Nat) (κ : KS) (k0 : Nat) (kn0 : Nat) (k1 : Nat) (k2 : Int32) (x4 : Int32) (hpre_0 : 0 ≤ k2.toInt) (hpre_1 : k2.toInt + ((kn0 : Nat) : Int) ≤ ((oL κ.2.2.2.2 k1 : Nat) : Int)) (hsl0 : sLen κ.2.2.2.2 sa k0 = kn0) (hl8_1 : oL κ.2.2.2.2 k1 ≤ 100) (ex4 : x4 = Int32.ofNat ((sLen κ.2.2.2.2 sa k0))) (tx4 : x4.toInt = (((sLen κ.2.2.2.2 sa k0) : Nat) : Int)) (lx4 : (sLen κ.2.2.2.2 sa k0) ≤ 100) : (0 : Int32).toInt + x4.toInt ≤ (((sLen κ.2.2.2.2 sa k0) : Nat) : Int) := by
  have q0 : (0 : Int32).toInt = 0 := by decide +kernel
  first | assumption | omega | (subst_vars; omega) | trivial
-- cpy2 @22
theorem vJ0_getBytes_840e7_2 (sa : Nat → Nat) (κ : KS) (k0 : Nat) (kn0 : Nat) (k1 : Nat) (k2 : Int32) (x4 : Int32) (hpre_0 : 0 ≤ k2.toInt) (hpre_1 : k2.toInt + ((kn0 : Nat) : Int) ≤ ((oL κ.2.2.2.2 k1 : Nat) : Int)) (hsl0 : sLen κ.2.2.2.2 sa k0 = kn0) (hl8_1 : oL κ.2.2.2.2 k1 ≤ 100) (ex4 : x4 = Int32.ofNat ((sLen κ.2.2.2.2 sa k0))) (tx4 : x4.toInt = (((sLen κ.2.2.2.2 sa k0) : Nat) : Int)) (lx4 : (sLen κ.2.2.2.2 sa k0) ≤ 100) : k2.toInt + x4.toInt ≤ (((oL κ.2.2.2.2 k1) : Nat) : Int) := by
  first | assumption | omega | (subst_vars; omega) | trivial
-- cp0 @22
theorem vJ0_getBytes_840e7_3   : 0 ≤ (0 : Int32).toInt := by
  have q0 : (0 : Int32).toInt = 0 := by decide +kernel
  first | assumption | omega | (subst_vars; omega) | trivial
-- cp0 @22
theorem vJ0_getBytes_840e7_4 (sa : Nat → Nat) (κ : KS) (k0 : Nat) (kn0 : Nat) (k1 : Nat) (k2 : Int32) (x4 : Int32) (hpre_0 : 0 ≤ k2.toInt) (hpre_1 : k2.toInt + ((kn0 : Nat) : Int) ≤ ((oL κ.2.2.2.2 k1 : Nat) : Int)) (hsl0 : sLen κ.2.2.2.2 sa k0 = kn0) (hl8_1 : oL κ.2.2.2.2 k1 ≤ 100) (ex4 : x4 = Int32.ofNat ((sLen κ.2.2.2.2 sa k0))) (tx4 : x4.toInt = (((sLen κ.2.2.2.2 sa k0) : Nat) : Int)) (lx4 : (sLen κ.2.2.2.2 sa k0) ≤ 100) : 0 ≤ k2.toInt := by
  first | assumption | omega | (subst_vars; omega) | trivial
-- cp0 @22
theorem vJ0_getBytes_840e7_5 (sa : Nat → Nat) (κ : KS) (k0 : Nat) (kn0 : Nat) (k1 : Nat) (k2 : Int32) (x4 : Int32) (hpre_0 : 0 ≤ k2.toInt) (hpre_1 : k2.toInt + ((kn0 : Nat) : Int) ≤ ((oL κ.2.2.2.2 k1 : Nat) : Int)) (hsl0 : sLen κ.2.2.2.2 sa k0 = kn0) (hl8_1 : oL κ.2.2.2.2 k1 ≤ 100) (ex4 : x4 = Int32.ofNat ((sLen κ.2.2.2.2 sa k0))) (tx4 : x4.toInt = (((sLen κ.2.2.2.2 sa k0) : Nat) : Int)) (lx4 : (sLen κ.2.2.2.2 sa k0) ≤ 100) : 0 ≤ x4.toInt := by
  first | assumption | omega | (subst_vars; omega) | trivial
-- sbs @43
theorem vJ0_getBytes_840e7_6 (sa : Nat → Nat) (κ : KS) (k0 : Nat) (kn0 : Nat) (k1 : Nat) (k2 : Int32) (x4 : Int32) (F5 : Nat → Int32) (hpre_0 : 0 ≤ k2.toInt) (hpre_1 : k2.toInt + ((kn0 : Nat) : Int) ≤ ((oL κ.2.2.2.2 k1 : Nat) : Int)) (hsl0 : sLen κ.2.2.2.2 sa k0 = kn0) (hl8_1 : oL κ.2.2.2.2 k1 ≤ 100) (ex4 : x4 = Int32.ofNat ((sLen κ.2.2.2.2 sa k0))) (tx4 : x4.toInt = (((sLen κ.2.2.2.2 sa k0) : Nat) : Int)) (lx4 : (sLen κ.2.2.2.2 sa k0) ≤ 100) : SBS κ.2.2.2.2 (sB κ.2.2.2.2 k1 F5) := by
  first | assumption | exact fun _ _ => ⟨rfl, rfl⟩
set_option maxHeartbeats 4000000 in
set_option maxRecDepth 100000 in
theorem NJ0_getBytes_840e7 (l : Launch) (D : va_G) (cy : Nat → ClassId) (ad : Nat → Nat) (A : Nat → Prop) (sz0 : Nat) (sa : Nat → Nat)  (κ : KS) (sz sl : Nat) (hAF : ∀ q, A q → Fr sz0 q) (hAn : ∀ q : Nat, sz ≤ q → A q) (k0 : Nat) (kn0 : Nat) (k1 : Nat) (k2 : Int32) (k3 : Int32) (ht0 : SL κ.2.2.2.2 sa k0 kn0) (ht1 : oT κ.2.2.2.2 k1 = 8) (hPV : PV sa κ.2.2.2.2) (hpre : 0 ≤ k2.toInt ∧ k2.toInt + ((kn0 : Nat) : Int) ≤ ((oL κ.2.2.2.2 k1 : Nat) : Int) ∧ k3.toInt = 0) : Met l yJ0_getBytes_840e7 (Cond.code yJ0_getBytes_840e7 cJ0_getBytes_840e7 4 none :: GWc) ({ frames := 1, cells := 0, slots := 0, locals := 40 }) (PcC D cy ad A sz0 sa [.ref k0, .ref k1, .int k2, .int k3] κ sz sl) (va_Qv (fun (u : PL) => (EX κ.2.2.2.2 u) ∧ (PV sa u) ∧ (SBS κ.2.2.2.2 u)) (fun (u : PL) (t : State) => Bx D cy ad A sz sl (tP κ u) (0) (0) t) A) (0) (0) A := by
  refine CM_of (loc0 := [(0, .ref k0), (1, .ref k1), (2, .int k2), (3, .int k3)]) (own := RJ0) (nm := "getBytes") (by decide) rfl rfl rfl (Nat.le_of_ble_eq_true rfl) hAF hAn ?_
  intro p e s m below meth c ls hsz hsl C hP hS hl
  obtain ⟨hpre_0, hpre_1, hpre_2⟩ := hpre
  have e9 : k3 = 0 := Int32.toInt_inj.mp (hpre_2.trans (by decide +kernel))
  subst e9
  have hsl0 : sLen κ.2.2.2.2 sa k0 = kn0 := ht0.len C hP
  have hl8_1 : oL κ.2.2.2.2 k1 ≤ 100 := (hPV.t8 ht1).1
  refine lv_aload_n C.x C.b dJ0_getBytes_840e7_0 rfl (lv_at hl 0 rfl) ?_
  refine c_callVi (n := 0) (As := []) (rest := []) C hP hS hl.1 (NJ0_coder_7d493 l D cy ad A sz0 sa κ s.heap.size (SLT s.heap) C.f (fun q h => C.a q (Nat.le_trans hS.1 h)) k0 ht0.sok hPV) ⟨cw_102, cw_105, by decide +kernel⟩ ⟨cw_103, cw_104, cw_70⟩ rfl (c_srecv C hP hS ht0.sok) rfl rfl (lv_room (Nat.le_of_ble_eq_true rfl)) ⟨Nat.le_of_ble_eq_true rfl, Nat.le_of_ble_eq_true rfl⟩ ⟨(Nat.le_of_ble_eq_true rfl), (Nat.le_of_ble_eq_true rfl)⟩ dJ0_getBytes_840e7_1 (fun r1 u H locs hr1 hP hS => ?_)
  have hr1 : (r1 = (0 : Int32)) := hr1
  subst hr1
  refine lv_iload_n C.x C.b dJ0_getBytes_840e7_4 rfl (lv_at hl 3 rfl) ?_
  refine lv_icmp_ne (tgt := 28) C.x C.b dJ0_getBytes_840e7_5 (by decide) (fun c2 => absurd (by decide +kernel) c2) (fun _ => ?_)
  refine lv_aload_n C.x C.b dJ0_getBytes_840e7_8 rfl (lv_at hl 0 rfl) ?_
  refine ct_val C hP hS ht0.sok (fun e9 => (hPV.t7 e9).1.imp (fun b z => z.1)) cw_75 dJ0_getBytes_840e7_9 ?_
  refine lv_iconst (v := 0) C.x C.b dJ0_getBytes_840e7_12 (by decide +kernel) ?_
  refine lv_aload_n C.x C.b dJ0_getBytes_840e7_13 rfl (lv_at hl 1 rfl) ?_
  refine lv_iload_n C.x C.b dJ0_getBytes_840e7_14 rfl (lv_at hl 2 rfl) ?_
  refine lv_iload_n C.x C.b dJ0_getBytes_840e7_15 rfl (lv_at hl 3 rfl) ?_
  refine lv_ishl C.x C.b dJ0_getBytes_840e7_16 ?_
  refine lv_topi (fun x3 ex3 => ?_)
  obtain rfl : k2 = x3 := (ex3.trans (sb_shl0 _)).symm
  refine lv_aload_n C.x C.b dJ0_getBytes_840e7_17 rfl (lv_at hl 0 rfl) ?_
  refine ct_val C hP hS ht0.sok (fun e9 => (hPV.t7 e9).1.imp (fun b z => z.1)) cw_75 dJ0_getBytes_840e7_18 ?_
  refine ct_len C hP hS (sok_bok hPV ht0.sok) dJ0_getBytes_840e7_21 (fun x4 ex4 => ?_)
  have lx4 : (sLen κ.2.2.2.2 sa k0) ≤ 100 := (sok_len C hPV ht0.sok)
  have tx4 : x4.toInt = (((sLen κ.2.2.2.2 sa k0) : Nat) : Int) := by rw [ex4]; exact nI_toInt (n := (sLen κ.2.2.2.2 sa k0)) (by omega)
  refine ct_copy (n0 := (sLen κ.2.2.2.2 sa k0)) (n1 := (oL κ.2.2.2.2 k1)) C hP hS hl.1 (sok_bok hPV ht0.sok) (t20 (a := k1) (t := 8) ht1) rfl (hPV.t8 ht1).2 (vJ0_getBytes_840e7_3  ) (vJ0_getBytes_840e7_4 sa κ k0 kn0 k1 k2 x4 hpre_0 hpre_1 hsl0 hl8_1 ex4 tx4 lx4) (vJ0_getBytes_840e7_5 sa κ k0 kn0 k1 k2 x4 hpre_0 hpre_1 hsl0 hl8_1 ex4 tx4 lx4) (vJ0_getBytes_840e7_1 sa κ k0 kn0 k1 k2 x4 hpre_0 hpre_1 hsl0 hl8_1 ex4 tx4 lx4) (vJ0_getBytes_840e7_2 sa κ k0 kn0 k1 k2 x4 hpre_0 hpre_1 hsl0 hl8_1 ex4 tx4 lx4) ⟨cw_374, cw_196, cw_197, cw_198⟩ ⟨Nat.le_of_ble_eq_true rfl, Nat.le_of_ble_eq_true rfl⟩ dJ0_getBytes_840e7_22 (fun H locs F5 hfF5 hP hS => ?_)
  have exz6 : EX κ.2.2.2.2 (sB κ.2.2.2.2 k1 F5) := EX.stB
  have pvz6 : PV sa (sB κ.2.2.2.2 k1 F5) := (hPV.stB ht1 hfF5)
  refine lv_goto (tgt := 43) C.x C.b dJ0_getBytes_840e7_25 (by decide) ?_
  exact c_retv C hsz hsl (sB κ.2.2.2.2 k1 F5) ⟨exz6, pvz6, (vJ0_getBytes_840e7_6 sa κ k0 kn0 k1 k2 x4 F5 hpre_0 hpre_1 hsl0 hl8_1 ex4 tx4 lx4)⟩ hP hS ⟨(Nat.le_of_ble_eq_true rfl), (Nat.le_of_ble_eq_true rfl)⟩ ⟨(Nat.le_of_ble_eq_true rfl), (Nat.le_of_ble_eq_true rfl)⟩ dJ0_getBytes_840e7_43

-- pre:J0_getBytes_840e7@15 @15
theorem vJ5_putStringAt_47b60_1 (sa : Nat → Nat) (κ : KS) (k0 : Nat) (k1 : Int32) (k2 : Nat) (kn2 : Nat) (b2 : Nat) (hpre_0 : 0 ≤ k1.toInt) (hpre_1 : k1.toInt + ((kn2 : Nat) : Int) ≤ ((sbL κ.2.2.2.2 k0 : Nat) : Int)) (hsl2 : sLen κ.2.2.2.2 sa k2 = kn2) (sbb2 : sbL κ.2.2.2.2 k0 = oL κ.2.2.2.2 b2) (lbb2 : (oL κ.2.2.2.2 b2 = 16 ∨ oL κ.2.2.2.2 b2 = 34 ∨ oL κ.2.2.2.2 b2 = 70)) (cbb2 : (oI κ.2.2.2.2 25 k0).toInt ≤ ((oL κ.2.2.2.2 b2 : Nat) : Int)) (nbb2 : 0 ≤ (oI κ.2.2.2.2 25 k0).toInt) : 0 ≤ k1.toInt ∧ k1.toInt + ((kn2 : Nat) : Int) ≤ ((oL κ.2.2.2.2 b2 : Nat) : Int) ∧ (0 : Int32).toInt = 0 := by
  have q0 : (0 : Int32).toInt = 0 := by decide +kernel
  refine ⟨?_, ?_, ?_⟩ <;> first | assumption | omega | (subst_vars; omega) | trivial
-- sbs @18
theorem vJ5_putStringAt_47b60_2 (sa : Nat → Nat) (κ : KS) (k0 : Nat) (k1 : Int32) (k2 : Nat) (kn2 : Nat) (b2 : Nat) (P4 : PL) (hpre_0 : 0 ≤ k1.toInt) (hpre_1 : k1.toInt + ((kn2 : Nat) : Int) ≤ ((sbL κ.2.2.2.2 k0 : Nat) : Int)) (hsl2 : sLen κ.2.2.2.2 sa k2 = kn2) (sbb2 : sbL κ.2.2.2.2 k0 = oL κ.2.2.2.2 b2) (lbb2 : (oL κ.2.2.2.2 b2 = 16 ∨ oL κ.2.2.2.2 b2 = 34 ∨ oL κ.2.2.2.2 b2 = 70)) (cbb2 : (oI κ.2.2.2.2 25 k0).toInt ≤ ((oL κ.2.2.2.2 b2 : Nat) : Int)) (nbb2 : 0 ≤ (oI κ.2.2.2.2 25 k0).toInt) (kl5 : oL P4 b2 = oL κ.2.2.2.2 b2) (hr3_2 : SBS κ.2.2.2.2 P4) (ak6 : (oI P4 25 k0).toInt = (oI κ.2.2.2.2 25 k0).toInt) (bk6 : sbL P4 k0 = sbL κ.2.2.2.2 k0) : SBS κ.2.2.2.2 P4 := by
  first | assumption | exact fun _ _ => ⟨rfl, rfl⟩
set_option maxHeartbeats 4000000 in
set_option maxRecDepth 100000 in
theorem NJ5_putStringAt_47b60 (l : Launch) (D : va_G) (cy : Nat → ClassId) (ad : Nat → Nat) (A : Nat → Prop) (sz0 : Nat) (sa : Nat → Nat)  (κ : KS) (sz sl : Nat) (hAF : ∀ q, A q → Fr sz0 q) (hAn : ∀ q : Nat, sz ≤ q → A q) (k0 : Nat) (k1 : Int32) (k2 : Nat) (kn2 : Nat) (ht0 : oT κ.2.2.2.2 k0 = 12) (ht2 : SL κ.2.2.2.2 sa k2 kn2) (hPV : PV sa κ.2.2.2.2) (hpre : 0 ≤ k1.toInt ∧ k1.toInt + ((kn2 : Nat) : Int) ≤ ((sbL κ.2.2.2.2 k0 : Nat) : Int)) : Met l yJ5_putStringAt_47b60 (Cond.code yJ5_putStringAt_47b60 cJ5_putStringAt_47b60 3 none :: GWc) ({ frames := 2, cells := 0, slots := 0, locals := 63 }) (PcC D cy ad A sz0 sa [.ref k0, .int k1, .ref k2] κ sz sl) (va_Qv (fun (u : PL) => (EX κ.2.2.2.2 u) ∧ (PV sa u) ∧ (SBS κ.2.2.2.2 u)) (fun (u : PL) (t : State) => Bx D cy ad A sz sl (tP κ u) (0) (0) t) A) (0) (0) A := by
  refine CM_of (loc0 := [(0, .ref k0), (1, .int k1), (2, .ref k2)]) (own := RJ5) (nm := "putStringAt") (by decide) rfl rfl rfl (Nat.le_of_ble_eq_true rfl) hAF hAn ?_
  intro p e s m below meth c ls hsz hsl C hP hS hl
  obtain ⟨hpre_0, hpre_1⟩ := hpre
  have hsl2 : sLen κ.2.2.2.2 sa k2 = kn2 := ht2.len C hP
  refine lv_aload_n C.x C.b dJ5_putStringAt_47b60_0 rfl (lv_at hl 0 rfl) ?_
  refine lv_aload_n C.x C.b dJ5_putStringAt_47b60_1 rfl (lv_at hl 2 rfl) ?_
  refine c_callUv (owner := "java/lang/AbstractStringBuilder") (n := 1) (As := [.ref k2]) (rest := []) C hP hS hl.1 (NJ5_inflateIfNeededFor_a7421 l D cy ad A sz0 sa κ s.heap.size (SLT s.heap) C.f (fun q h => C.a q (Nat.le_trans hS.1 h)) k0 k2 ht0 ht2.sok hPV) ⟨cw_364, cw_368, by decide +kernel⟩ ⟨cw_365, cw_366, cw_367, cw_15⟩ rfl (hP.recvP (t := 12) (ci := 1) C.K (t20 (a := k0) (t := 12) ht0) (by decide) rfl rfl) rfl rfl (lv_room (Nat.le_of_ble_eq_true rfl)) ⟨Nat.le_of_ble_eq_true rfl, Nat.le_of_ble_eq_true rfl⟩ ⟨(Nat.le_of_ble_eq_true rfl), (Nat.le_of_ble_eq_true rfl)⟩ dJ5_putStringAt_47b60_2 (fun u H locs hr1 hP hS => ?_)
  have hr1 : True := hr1
  refine lv_aload_n C.x C.b dJ5_putStringAt_47b60_5 rfl (lv_at hl 2 rfl) ?_
  refine lv_aload_n C.x C.b dJ5_putStringAt_47b60_6 rfl (lv_at hl 0 rfl) ?_
  obtain ⟨b2, ebb2, tbb2, sbb2, lbb2, cbb2, nbb2, zbb2⟩ : ∃ b, oR κ.2.2.2.2 12 k0 = some b ∧ oT κ.2.2.2.2 b = 8 ∧ sbL κ.2.2.2.2 k0 = oL κ.2.2.2.2 b ∧ (oL κ.2.2.2.2 b = 16 ∨ oL κ.2.2.2.2 b = 34 ∨ oL κ.2.2.2.2 b = 70) ∧ (oI κ.2.2.2.2 25 k0).toInt ≤ ((oL κ.2.2.2.2 b : Nat) : Int) ∧ 0 ≤ (oI κ.2.2.2.2 25 k0).toInt ∧ oI κ.2.2.2.2 23 k0 = 0 := hPV.sb ht0
  refine pg_J4_0 (v := some b2) C hP (t20 (a := k0) (t := 12) ht0) ebb2 cw_20 dJ5_putStringAt_47b60_7 ?_
  refine lv_iload_n C.x C.b dJ5_putStringAt_47b60_10 rfl (lv_at hl 1 rfl) ?_
  refine lv_aload_n C.x C.b dJ5_putStringAt_47b60_11 rfl (lv_at hl 0 rfl) ?_
  refine pg_J4_1 (v := 0) C hP (t20 (a := k0) (t := 12) ht0) zbb2 cw_21 dJ5_putStringAt_47b60_12 ?_
  refine c_callVv (n := 3) (As := [.ref b2, .int k1, .int 0]) (rest := []) C hP hS hl.1 (NJ0_getBytes_840e7 l D cy ad A sz0 sa κ H.size (SLT H) C.f (fun q h => C.a q (Nat.le_trans hS.1 h)) k2 kn2 b2 k1 (0 : Int32) ht2 tbb2 hPV (vJ5_putStringAt_47b60_1 sa κ k0 k1 k2 kn2 b2 hpre_0 hpre_1 hsl2 sbb2 lbb2 cbb2 nbb2)) ⟨cw_370, cw_373, by decide +kernel⟩ ⟨cw_371, cw_372, cw_70⟩ rfl (c_srecv C hP hS ht2.sok) rfl rfl (lv_room (Nat.le_of_ble_eq_true rfl)) ⟨Nat.le_of_ble_eq_true rfl, Nat.le_of_ble_eq_true rfl⟩ ⟨(Nat.le_of_ble_eq_true rfl), (Nat.le_of_ble_eq_true rfl)⟩ dJ5_putStringAt_47b60_15 (fun u H locs hr3 hP hS => ?_)
  obtain ⟨P4, rfl⟩ : ∃ z, z = u := ⟨_, rfl⟩
  have hP : CH D cy ad A (tP κ P4) H := hP
  have hr3 : (EX κ.2.2.2.2 P4) ∧ (PV sa P4) ∧ (SBS κ.2.2.2.2 P4) := hr3
  obtain ⟨hr3_0, hr3_1, hr3_2⟩ := hr3
  have kl5 : oL P4 b2 = oL κ.2.2.2.2 b2 := hr3_0.L tbb2 (by decide)
  have ak6 : (oI P4 25 k0).toInt = (oI κ.2.2.2.2 25 k0).toInt := hr3_2.cnt ht0
  have bk6 : sbL P4 k0 = sbL κ.2.2.2.2 k0 := hr3_2.len ht0 hr3_0 hPV
  exact c_retv C hsz hsl P4 ⟨hr3_0, hr3_1, (vJ5_putStringAt_47b60_2 sa κ k0 k1 k2 kn2 b2 P4 hpre_0 hpre_1 hsl2 sbb2 lbb2 cbb2 nbb2 kl5 hr3_2 ak6 bk6)⟩ hP hS ⟨(Nat.le_of_ble_eq_true rfl), (Nat.le_of_ble_eq_true rfl)⟩ ⟨(Nat.le_of_ble_eq_true rfl), (Nat.le_of_ble_eq_true rfl)⟩ dJ5_putStringAt_47b60_18

-- nw@20 @20
theorem vJ5_append_cf1ce_1 (sa : Nat → Nat) (κ : KS) (k0 : Nat) (k1 : Nat) (kn1 : Nat) (r1 : Int32) (b2 : Nat) (x3 : Int32) (x4 : Int32) (hpre : (oI κ.2.2.2.2 25 k0).toInt + ((kn1 : Nat) : Int) ≤ 16) (hsl1 : sLen κ.2.2.2.2 sa k1 = kn1) (hr1 : r1.toInt = ((kn1 : Nat) : Int)) (sbb2 : sbL κ.2.2.2.2 k0 = oL κ.2.2.2.2 b2) (lbb2 : (oL κ.2.2.2.2 b2 = 16 ∨ oL κ.2.2.2.2 b2 = 34 ∨ oL κ.2.2.2.2 b2 = 70)) (cbb2 : (oI κ.2.2.2.2 25 k0).toInt ≤ ((oL κ.2.2.2.2 b2 : Nat) : Int)) (nbb2 : 0 ≤ (oI κ.2.2.2.2 25 k0).toInt) (tx3 : (oI κ.2.2.2.2 25 k0).toInt = x3.toInt) (ex4 : x4 = x3 + r1) : x4.toInt = x3.toInt + r1.toInt := by
  rw [ex4, z_add (by omega) (by omega)]; first | done | omega
-- pre:J5_ensureCapacityInternal_d00df@21 @21
theorem vJ5_append_cf1ce_2 (sa : Nat → Nat) (κ : KS) (k0 : Nat) (k1 : Nat) (kn1 : Nat) (r1 : Int32) (b2 : Nat) (x3 : Int32) (x4 : Int32) (hpre : (oI κ.2.2.2.2 25 k0).toInt + ((kn1 : Nat) : Int) ≤ 16) (hsl1 : sLen κ.2.2.2.2 sa k1 = kn1) (hr1 : r1.toInt = ((kn1 : Nat) : Int)) (sbb2 : sbL κ.2.2.2.2 k0 = oL κ.2.2.2.2 b2) (lbb2 : (oL κ.2.2.2.2 b2 = 16 ∨ oL κ.2.2.2.2 b2 = 34 ∨ oL κ.2.2.2.2 b2 = 70)) (cbb2 : (oI κ.2.2.2.2 25 k0).toInt ≤ ((oL κ.2.2.2.2 b2 : Nat) : Int)) (nbb2 : 0 ≤ (oI κ.2.2.2.2 25 k0).toInt) (tx3 : (oI κ.2.2.2.2 25 k0).toInt = x3.toInt) (ex4 : x4 = x3 + r1) (tx4 : x4.toInt = x3.toInt + r1.toInt) : 0 ≤ x4.toInt ∧ x4.toInt ≤ ((sbL κ.2.2.2.2 k0 : Nat) : Int) + 1 ∧ x4.toInt ≤ 70 := by
  refine ⟨?_, ?_, ?_⟩ <;> first | assumption | omega | (subst_vars; omega) | trivial
-- room @21
theorem vJ5_append_cf1ce_3 (sa : Nat → Nat) (κ : KS) (k0 : Nat) (k1 : Nat) (kn1 : Nat) (r1 : Int32) (b2 : Nat) (x3 : Int32) (x4 : Int32) (hpre : (oI κ.2.2.2.2 25 k0).toInt + ((kn1 : Nat) : Int) ≤ 16) (hsl1 : sLen κ.2.2.2.2 sa k1 = kn1) (hr1 : r1.toInt = ((kn1 : Nat) : Int)) (sbb2 : sbL κ.2.2.2.2 k0 = oL κ.2.2.2.2 b2) (cbb2 : (oI κ.2.2.2.2 25 k0).toInt ≤ ((oL κ.2.2.2.2 b2 : Nat) : Int)) (nbb2 : 0 ≤ (oI κ.2.2.2.2 25 k0).toInt) (tx3 : (oI κ.2.2.2.2 25 k0).toInt = x3.toInt) (ex4 : x4 = x3 + r1) (tx4 : x4.toInt = x3.toInt + r1.toInt) : 0 + 0 + (gr1 (x4.toInt)) ≤ 0 := by
  have zg0 := gr_spec (x4.toInt)
  first | assumption | omega | (subst_vars; omega) | trivial
-- room @21
theorem vJ5_append_cf1ce_4 (sa : Nat → Nat) (κ : KS) (k0 : Nat) (k1 : Nat) (kn1 : Nat) (r1 : Int32) (b2 : Nat) (x3 : Int32) (x4 : Int32) (hpre : (oI κ.2.2.2.2 25 k0).toInt + ((kn1 : Nat) : Int) ≤ 16) (hsl1 : sLen κ.2.2.2.2 sa k1 = kn1) (hr1 : r1.toInt = ((kn1 : Nat) : Int)) (sbb2 : sbL κ.2.2.2.2 k0 = oL κ.2.2.2.2 b2) (cbb2 : (oI κ.2.2.2.2 25 k0).toInt ≤ ((oL κ.2.2.2.2 b2 : Nat) : Int)) (nbb2 : 0 ≤ (oI κ.2.2.2.2 25 k0).toInt) (tx3 : (oI κ.2.2.2.2 25 k0).toInt = x3.toInt) (ex4 : x4 = x3 + r1) (tx4 : x4.toInt = x3.toInt + r1.toInt) : 0 + 0 + (gr70 (x4.toInt)) ≤ 0 := by
  have zg0 := gr_spec (x4.toInt)
  first | assumption | omega | (subst_vars; omega) | trivial
-- pre:J5_putStringAt_47b60@30 @30
theorem vJ5_append_cf1ce_5 (sa : Nat → Nat) (κ : KS) (k0 : Nat) (k1 : Nat) (kn1 : Nat) (r1 : Int32) (b2 : Nat) (x3 : Int32) (x4 : Int32) (P6 : PL) (b8 : Nat) (x9 : Int32) (hpre : (oI κ.2.2.2.2 25 k0).toInt + ((kn1 : Nat) : Int) ≤ 16) (hsl1 : sLen κ.2.2.2.2 sa k1 = kn1) (hr1 : r1.toInt = ((kn1 : Nat) : Int)) (sbb2 : sbL κ.2.2.2.2 k0 = oL κ.2.2.2.2 b2) (lbb2 : (oL κ.2.2.2.2 b2 = 16 ∨ oL κ.2.2.2.2 b2 = 34 ∨ oL κ.2.2.2.2 b2 = 70)) (cbb2 : (oI κ.2.2.2.2 25 k0).toInt ≤ ((oL κ.2.2.2.2 b2 : Nat) : Int)) (nbb2 : 0 ≤ (oI κ.2.2.2.2 25 k0).toInt) (tx3 : (oI κ.2.2.2.2 25 k0).toInt = x3.toInt) (ex4 : x4 = x3 + r1) (tx4 : x4.toInt = x3.toInt + r1.toInt) (kl7 : oL P6 b2 = oL κ.2.2.2.2 b2) (hr5_2_0 : (oI P6 25 k0).toInt = (oI κ.2.2.2.2 25 k0).toInt) (hr5_2_1 : x4.toInt ≤ ((sbL P6 k0 : Nat) : Int)) (hr5_2_2 : ((sbL κ.2.2.2.2 k0 : Nat) : Int) ≤ ((sbL P6 k0 : Nat) : Int)) (hr5_2_3 : gr1 (x4.toInt) ≤ 1) (hr5_2_4 : gr70 (x4.toInt) ≤ 70) (hr5_2_5 : x4.toInt ≤ 16 → gr1 (x4.toInt) = 0 ∧ gr70 (x4.toInt) = 0) (hr5_2_6 : 16 < x4.toInt → gr1 (x4.toInt) = 1 ∧ gr70 (x4.toInt) = 70) (sbb8 : sbL P6 k0 = oL P6 b8) (lbb8 : (oL P6 b8 = 16 ∨ oL P6 b8 = 34 ∨ oL P6 b8 = 70)) (cbb8 : (oI P6 25 k0).toInt ≤ ((oL P6 b8 : Nat) : Int)) (nbb8 : 0 ≤ (oI P6 25 k0).toInt) (tx9 : (oI P6 25 k0).toInt = x9.toInt) : 0 ≤ x9.toInt ∧ x9.toInt + ((kn1 : Nat) : Int) ≤ ((sbL P6 k0 : Nat) : Int) := by
  refine ⟨?_, ?_⟩ <;> first | assumption | omega | (subst_vars; omega) | trivial
-- room @30
theorem vJ5_append_cf1ce_6 (sa : Nat → Nat) (κ : KS) (k0 : Nat) (k1 : Nat) (kn1 : Nat) (r1 : Int32) (b2 : Nat) (x3 : Int32) (x4 : Int32) (P6 : PL) (b8 : Nat) (x9 : Int32) (hpre : (oI κ.2.2.2.2 25 k0).toInt + ((kn1 : Nat) : Int) ≤ 16) (hsl1 : sLen κ.2.2.2.2 sa k1 = kn1) (hr1 : r1.toInt = ((kn1 : Nat) : Int)) (sbb2 : sbL κ.2.2.2.2 k0 = oL κ.2.2.2.2 b2) (cbb2 : (oI κ.2.2.2.2 25 k0).toInt ≤ ((oL κ.2.2.2.2 b2 : Nat) : Int)) (nbb2 : 0 ≤ (oI κ.2.2.2.2 25 k0).toInt) (tx3 : (oI κ.2.2.2.2 25 k0).toInt = x3.toInt) (ex4 : x4 = x3 + r1) (tx4 : x4.toInt = x3.toInt + r1.toInt) (kl7 : oL P6 b2 = oL κ.2.2.2.2 b2) (hr5_2_0 : (oI P6 25 k0).toInt = (oI κ.2.2.2.2 25 k0).toInt) (hr5_2_1 : x4.toInt ≤ ((sbL P6 k0 : Nat) : Int)) (hr5_2_2 : ((sbL κ.2.2.2.2 k0 : Nat) : Int) ≤ ((sbL P6 k0 : Nat) : Int)) (hr5_2_3 : gr1 (x4.toInt) ≤ 1) (hr5_2_4 : gr70 (x4.toInt) ≤ 70) (hr5_2_5 : x4.toInt ≤ 16 → gr1 (x4.toInt) = 0 ∧ gr70 (x4.toInt) = 0) (hr5_2_6 : 16 < x4.toInt → gr1 (x4.toInt) = 1 ∧ gr70 (x4.toInt) = 70) (sbb8 : sbL P6 k0 = oL P6 b8) (lbb8 : (oL P6 b8 = 16 ∨ oL P6 b8 = 34 ∨ oL P6 b8 = 70)) (cbb8 : (oI P6 25 k0).toInt ≤ ((oL P6 b8 : Nat) : Int)) (nbb8 : 0 ≤ (oI P6 25 k0).toInt) (tx9 : (oI P6 25 k0).toInt = x9.toInt) : 0 + 0 + (gr1 (x4.toInt)) + 0 ≤ 0 := by
  have zg0 := gr_spec (x4.toInt)
  first | assumption | omega | (subst_vars; omega) | trivial
-- room @30
theorem vJ5_append_cf1ce_7 (sa : Nat → Nat) (κ : KS) (k0 : Nat) (k1 : Nat) (kn1 : Nat) (r1 : Int32) (b2 : Nat) (x3 : Int32) (x4 : Int32) (P6 : PL) (b8 : Nat) (x9 : Int32) (hpre : (oI κ.2.2.2.2 25 k0).toInt + ((kn1 : Nat) : Int) ≤ 16) (hsl1 : sLen κ.2.2.2.2 sa k1 = kn1) (hr1 : r1.toInt = ((kn1 : Nat) : Int)) (sbb2 : sbL κ.2.2.2.2 k0 = oL κ.2.2.2.2 b2) (cbb2 : (oI κ.2.2.2.2 25 k0).toInt ≤ ((oL κ.2.2.2.2 b2 : Nat) : Int)) (nbb2 : 0 ≤ (oI κ.2.2.2.2 25 k0).toInt) (tx3 : (oI κ.2.2.2.2 25 k0).toInt = x3.toInt) (ex4 : x4 = x3 + r1) (tx4 : x4.toInt = x3.toInt + r1.toInt) (kl7 : oL P6 b2 = oL κ.2.2.2.2 b2) (hr5_2_0 : (oI P6 25 k0).toInt = (oI κ.2.2.2.2 25 k0).toInt) (hr5_2_1 : x4.toInt ≤ ((sbL P6 k0 : Nat) : Int)) (hr5_2_2 : ((sbL κ.2.2.2.2 k0 : Nat) : Int) ≤ ((sbL P6 k0 : Nat) : Int)) (hr5_2_3 : gr1 (x4.toInt) ≤ 1) (hr5_2_4 : gr70 (x4.toInt) ≤ 70) (hr5_2_5 : x4.toInt ≤ 16 → gr1 (x4.toInt) = 0 ∧ gr70 (x4.toInt) = 0) (hr5_2_6 : 16 < x4.toInt → gr1 (x4.toInt) = 1 ∧ gr70 (x4.toInt) = 70) (sbb8 : sbL P6 k0 = oL P6 b8) (lbb8 : (oL P6 b8 = 16 ∨ oL P6 b8 = 34 ∨ oL P6 b8 = 70)) (cbb8 : (oI P6 25 k0).toInt ≤ ((oL P6 b8 : Nat) : Int)) (nbb8 : 0 ≤ (oI P6 25 k0).toInt) (tx9 : (oI P6 25 k0).toInt = x9.toInt) : 0 + 0 + (gr70 (x4.toInt)) + 0 ≤ 0 := by
  have zg0 := gr_spec (x4.toInt)
  first | assumption | omega | (subst_vars; omega) | trivial
-- nw@39 @39
theorem vJ5_append_cf1ce_8 (sa : Nat → Nat) (κ : KS) (k0 : Nat) (k1 : Nat) (kn1 : Nat) (r1 : Int32) (b2 : Nat) (x3 : Int32) (x4 : Int32) (P6 : PL) (b8 : Nat) (x9 : Int32) (P11 : PL) (b15 : Nat) (x16 : Int32) (x17 : Int32) (hpre : (oI κ.2.2.2.2 25 k0).toInt + ((kn1 : Nat) : Int) ≤ 16) (hsl1 : sLen κ.2.2.2.2 sa k1 = kn1) (hr1 : r1.toInt = ((kn1 : Nat) : Int)) (sbb2 : sbL κ.2.2.2.2 k0 = oL κ.2.2.2.2 b2) (cbb2 : (oI κ.2.2.2.2 25 k0).toInt ≤ ((oL κ.2.2.2.2 b2 : Nat) : Int)) (nbb2 : 0 ≤ (oI κ.2.2.2.2 25 k0).toInt) (tx3 : (oI κ.2.2.2.2 25 k0).toInt = x3.toInt) (ex4 : x4 = x3 + r1) (tx4 : x4.toInt = x3.toInt + r1.toInt) (kl7 : oL P6 b2 = oL κ.2.2.2.2 b2) (hr5_2_0 : (oI P6 25 k0).toInt = (oI κ.2.2.2.2 25 k0).toInt) (hr5_2_1 : x4.toInt ≤ ((sbL P6 k0 : Nat) : Int)) (hr5_2_2 : ((sbL κ.2.2.2.2 k0 : Nat) : Int) ≤ ((sbL P6 k0 : Nat) : Int)) (hr5_2_3 : gr1 (x4.toInt) ≤ 1) (hr5_2_4 : gr70 (x4.toInt) ≤ 70) (hr5_2_5 : x4.toInt ≤ 16 → gr1 (x4.toInt) = 0 ∧ gr70 (x4.toInt) = 0) (hr5_2_6 : 16 < x4.toInt → gr1 (x4.toInt) = 1 ∧ gr70 (x4.toInt) = 70) (sbb8 : sbL P6 k0 = oL P6 b8) (cbb8 : (oI P6 25 k0).toInt ≤ ((oL P6 b8 : Nat) : Int)) (nbb8 : 0 ≤ (oI P6 25 k0).toInt) (tx9 : (oI P6 25 k0).toInt = x9.toInt) (kl12 : oL P11 b2 = oL P6 b2) (kl13 : oL P11 b8 = oL P6 b8) (hr10_2 : SBS P6 P11) (ak14 : (oI P11 25 k0).toInt = (oI P6 25 k0).toInt) (bk14 : sbL P11 k0 = sbL P6 k0) (sbb15 : sbL P11 k0 = oL P11 b15) (lbb15 : (oL P11 b15 = 16 ∨ oL P11 b15 = 34 ∨ oL P11 b15 = 70)) (cbb15 : (oI P11 25 k0).toInt ≤ ((oL P11 b15 : Nat) : Int)) (nbb15 : 0 ≤ (oI P11 25 k0).toInt) (tx16 : (oI P11 25 k0).toInt = x16.toInt) (ex17 : x17 = x16 + r1) : x17.toInt = x16.toInt + r1.toInt := by
  rw [ex17, z_add (by omega) (by omega)]; first | done | omega
-- cnt @40
theorem vJ5_append_cf1ce_9 (sa : Nat → Nat) (κ : KS) (k0 : Nat) (k1 : Nat) (kn1 : Nat) (r1 : Int32) (b2 : Nat) (x3 : Int32) (x4 : Int32) (P6 : PL) (b8 : Nat) (x9 : Int32) (P11 : PL) (b15 : Nat) (x16 : Int32) (x17 : Int32) (hpre : (oI κ.2.2.2.2 25 k0).toInt + ((kn1 : Nat) : Int) ≤ 16) (hsl1 : sLen κ.2.2.2.2 sa k1 = kn1) (hr1 : r1.toInt = ((kn1 : Nat) : Int)) (sbb2 : sbL κ.2.2.2.2 k0 = oL κ.2.2.2.2 b2) (lbb2 : (oL κ.2.2.2.2 b2 = 16 ∨ oL κ.2.2.2.2 b2 = 34 ∨ oL κ.2.2.2.2 b2 = 70)) (cbb2 : (oI κ.2.2.2.2 25 k0).toInt ≤ ((oL κ.2.2.2.2 b2 : Nat) : Int)) (nbb2 : 0 ≤ (oI κ.2.2.2.2 25 k0).toInt) (tx3 : (oI κ.2.2.2.2 25 k0).toInt = x3.toInt) (ex4 : x4 = x3 + r1) (tx4 : x4.toInt = x3.toInt + r1.toInt) (kl7 : oL P6 b2 = oL κ.2.2.2.2 b2) (hr5_2_0 : (oI P6 25 k0).toInt = (oI κ.2.2.2.2 25 k0).toInt) (hr5_2_1 : x4.toInt ≤ ((sbL P6 k0 : Nat) : Int)) (hr5_2_2 : ((sbL κ.2.2.2.2 k0 : Nat) : Int) ≤ ((sbL P6 k0 : Nat) : Int)) (hr5_2_3 : gr1 (x4.toInt) ≤ 1) (hr5_2_4 : gr70 (x4.toInt) ≤ 70) (hr5_2_5 : x4.toInt ≤ 16 → gr1 (x4.toInt) = 0 ∧ gr70 (x4.toInt) = 0) (hr5_2_6 : 16 < x4.toInt → gr1 (x4.toInt) = 1 ∧ gr70 (x4.toInt) = 70) (sbb8 : sbL P6 k0 = oL P6 b8) (lbb8 : (oL P6 b8 = 16 ∨ oL P6 b8 = 34 ∨ oL P6 b8 = 70)) (cbb8 : (oI P6 25 k0).toInt ≤ ((oL P6 b8 : Nat) : Int)) (nbb8 : 0 ≤ (oI P6 25 k0).toInt) (tx9 : (oI P6 25 k0).toInt = x9.toInt) (kl12 : oL P11 b2 = oL P6 b2) (kl13 : oL P11 b8 = oL P6 b8) (hr10_2 : SBS P6 P11) (ak14 : (oI P11 25 k0).toInt = (oI P6 25 k0).toInt) (bk14 : sbL P11 k0 = sbL P6 k0) (sbb15 : sbL P11 k0 = oL P11 b15) (lbb15 : (oL P11 b15 = 16 ∨ oL P11 b15 = 34 ∨ oL P11 b15 = 70)) (cbb15 : (oI P11 25 k0).toInt ≤ ((oL P11 b15 : Nat) : Int)) (nbb15 : 0 ≤ (oI P11 25 k0).toInt) (tx16 : (oI P11 25 k0).toInt = x16.toInt) (ex17 : x17 = x16 + r1) (tx17 : x17.toInt = x16.toInt + r1.toInt) : 0 ≤ x17.toInt ∧ x17.toInt ≤ ((sbL P11 k0 : Nat) : Int) := by
  refine ⟨?_, ?_⟩ <;> first | assumption | omega | (subst_vars; omega) | trivial
-- post @44
theorem vJ5_append_cf1ce_10 (sa : Nat → Nat) (κ : KS) (k0 : Nat) (k1 : Nat) (kn1 : Nat) (r1 : Int32) (b2 : Nat) (x3 : Int32) (x4 : Int32) (P6 : PL) (b8 : Nat) (x9 : Int32) (P11 : PL) (b15 : Nat) (x16 : Int32) (x17 : Int32) (hpre : (oI κ.2.2.2.2 25 k0).toInt + ((kn1 : Nat) : Int) ≤ 16) (hsl1 : sLen κ.2.2.2.2 sa k1 = kn1) (hr1 : r1.toInt = ((kn1 : Nat) : Int)) (sbb2 : sbL κ.2.2.2.2 k0 = oL κ.2.2.2.2 b2) (lbb2 : (oL κ.2.2.2.2 b2 = 16 ∨ oL κ.2.2.2.2 b2 = 34 ∨ oL κ.2.2.2.2 b2 = 70)) (cbb2 : (oI κ.2.2.2.2 25 k0).toInt ≤ ((oL κ.2.2.2.2 b2 : Nat) : Int)) (nbb2 : 0 ≤ (oI κ.2.2.2.2 25 k0).toInt) (tx3 : (oI κ.2.2.2.2 25 k0).toInt = x3.toInt) (ex4 : x4 = x3 + r1) (tx4 : x4.toInt = x3.toInt + r1.toInt) (kl7 : oL P6 b2 = oL κ.2.2.2.2 b2) (hr5_2_0 : (oI P6 25 k0).toInt = (oI κ.2.2.2.2 25 k0).toInt) (hr5_2_1 : x4.toInt ≤ ((sbL P6 k0 : Nat) : Int)) (hr5_2_2 : ((sbL κ.2.2.2.2 k0 : Nat) : Int) ≤ ((sbL P6 k0 : Nat) : Int)) (hr5_2_3 : gr1 (x4.toInt) ≤ 1) (hr5_2_4 : gr70 (x4.toInt) ≤ 70) (hr5_2_5 : x4.toInt ≤ 16 → gr1 (x4.toInt) = 0 ∧ gr70 (x4.toInt) = 0) (hr5_2_6 : 16 < x4.toInt → gr1 (x4.toInt) = 1 ∧ gr70 (x4.toInt) = 70) (sbb8 : sbL P6 k0 = oL P6 b8) (lbb8 : (oL P6 b8 = 16 ∨ oL P6 b8 = 34 ∨ oL P6 b8 = 70)) (cbb8 : (oI P6 25 k0).toInt ≤ ((oL P6 b8 : Nat) : Int)) (nbb8 : 0 ≤ (oI P6 25 k0).toInt) (tx9 : (oI P6 25 k0).toInt = x9.toInt) (kl12 : oL P11 b2 = oL P6 b2) (kl13 : oL P11 b8 = oL P6 b8) (hr10_2 : SBS P6 P11) (ak14 : (oI P11 25 k0).toInt = (oI P6 25 k0).toInt) (bk14 : sbL P11 k0 = sbL P6 k0) (sbb15 : sbL P11 k0 = oL P11 b15) (lbb15 : (oL P11 b15 = 16 ∨ oL P11 b15 = 34 ∨ oL P11 b15 = 70)) (cbb15 : (oI P11 25 k0).toInt ≤ ((oL P11 b15 : Nat) : Int)) (nbb15 : 0 ≤ (oI P11 25 k0).toInt) (tx16 : (oI P11 25 k0).toInt = x16.toInt) (ex17 : x17 = x16 + r1) (tx17 : x17.toInt = x16.toInt + r1.toInt) (af19 : (oI (sI P11 25 k0 x17) 25 k0).toInt = x17.toInt) (bf19 : sbL (sI P11 25 k0 x17) k0 = oL P11 b15) : (oI (sI P11 25 k0 x17) 25 k0).toInt = (oI κ.2.2.2.2 25 k0).toInt + ((kn1 : Nat) : Int) := by
  first | assumption | omega | (subst_vars; omega) | trivial
-- grow @44
theorem vJ5_append_cf1ce_11 (sa : Nat → Nat) (κ : KS) (k0 : Nat) (k1 : Nat) (kn1 : Nat) (r1 : Int32) (b2 : Nat) (x3 : Int32) (x4 : Int32) (P6 : PL) (b8 : Nat) (x9 : Int32) (P11 : PL) (b15 : Nat) (x16 : Int32) (x17 : Int32) (hpre : (oI κ.2.2.2.2 25 k0).toInt + ((kn1 : Nat) : Int) ≤ 16) (hsl1 : sLen κ.2.2.2.2 sa k1 = kn1) (hr1 : r1.toInt = ((kn1 : Nat) : Int)) (sbb2 : sbL κ.2.2.2.2 k0 = oL κ.2.2.2.2 b2) (cbb2 : (oI κ.2.2.2.2 25 k0).toInt ≤ ((oL κ.2.2.2.2 b2 : Nat) : Int)) (nbb2 : 0 ≤ (oI κ.2.2.2.2 25 k0).toInt) (tx3 : (oI κ.2.2.2.2 25 k0).toInt = x3.toInt) (ex4 : x4 = x3 + r1) (tx4 : x4.toInt = x3.toInt + r1.toInt) (kl7 : oL P6 b2 = oL κ.2.2.2.2 b2) (hr5_2_0 : (oI P6 25 k0).toInt = (oI κ.2.2.2.2 25 k0).toInt) (hr5_2_1 : x4.toInt ≤ ((sbL P6 k0 : Nat) : Int)) (hr5_2_2 : ((sbL κ.2.2.2.2 k0 : Nat) : Int) ≤ ((sbL P6 k0 : Nat) : Int)) (hr5_2_3 : gr1 (x4.toInt) ≤ 1) (hr5_2_4 : gr70 (x4.toInt) ≤ 70) (hr5_2_5 : x4.toInt ≤ 16 → gr1 (x4.toInt) = 0 ∧ gr70 (x4.toInt) = 0) (hr5_2_6 : 16 < x4.toInt → gr1 (x4.toInt) = 1 ∧ gr70 (x4.toInt) = 70) (sbb8 : sbL P6 k0 = oL P6 b8) (lbb8 : (oL P6 b8 = 16 ∨ oL P6 b8 = 34 ∨ oL P6 b8 = 70)) (cbb8 : (oI P6 25 k0).toInt ≤ ((oL P6 b8 : Nat) : Int)) (nbb8 : 0 ≤ (oI P6 25 k0).toInt) (tx9 : (oI P6 25 k0).toInt = x9.toInt) (kl12 : oL P11 b2 = oL P6 b2) (kl13 : oL P11 b8 = oL P6 b8) (hr10_2 : SBS P6 P11) (ak14 : (oI P11 25 k0).toInt = (oI P6 25 k0).toInt) (bk14 : sbL P11 k0 = sbL P6 k0) (sbb15 : sbL P11 k0 = oL P11 b15) (cbb15 : (oI P11 25 k0).toInt ≤ ((oL P11 b15 : Nat) : Int)) (nbb15 : 0 ≤ (oI P11 25 k0).toInt) (tx16 : (oI P11 25 k0).toInt = x16.toInt) (ex17 : x17 = x16 + r1) (tx17 : x17.toInt = x16.toInt + r1.toInt) (af19 : (oI (sI P11 25 k0 x17) 25 k0).toInt = x17.toInt) (bf19 : sbL (sI P11 25 k0 x17) k0 = oL P11 b15) : 0 + 0 + (gr1 (x4.toInt)) + 0 ≤ 0 := by
  have zg0 := gr_spec (x4.toInt)
  first | assumption | omega | (subst_vars; omega) | trivial
-- grow @44
theorem vJ5_append_cf1ce_12 (sa : Nat → Nat) (κ : KS) (k0 : Nat) (k1 : Nat) (kn1 : Nat) (r1 : Int32) (b2 : Nat) (x3 : Int32) (x4 : Int32) (P6 : PL) (b8 : Nat) (x9 : Int32) (P11 : PL) (b15 : Nat) (x16 : Int32) (x17 : Int32) (hpre : (oI κ.2.2.2.2 25 k0).toInt + ((kn1 : Nat) : Int) ≤ 16) (hsl1 : sLen κ.2.2.2.2 sa k1 = kn1) (hr1 : r1.toInt = ((kn1 : Nat) : Int)) (sbb2 : sbL κ.2.2.2.2 k0 = oL κ.2.2.2.2 b2) (cbb2 : (oI κ.2.2.2.2 25 k0).toInt ≤ ((oL κ.2.2.2.2 b2 : Nat) : Int)) (nbb2 : 0 ≤ (oI κ.2.2.2.2 25 k0).toInt) (tx3 : (oI κ.2.2.2.2 25 k0).toInt = x3.toInt) (ex4 : x4 = x3 + r1) (tx4 : x4.toInt = x3.toInt + r1.toInt) (kl7 : oL P6 b2 = oL κ.2.2.2.2 b2) (hr5_2_0 : (oI P6 25 k0).toInt = (oI κ.2.2.2.2 25 k0).toInt) (hr5_2_1 : x4.toInt ≤ ((sbL P6 k0 : Nat) : Int)) (hr5_2_2 : ((sbL κ.2.2.2.2 k0 : Nat) : Int) ≤ ((sbL P6 k0 : Nat) : Int)) (hr5_2_3 : gr1 (x4.toInt) ≤ 1) (hr5_2_4 : gr70 (x4.toInt) ≤ 70) (hr5_2_5 : x4.toInt ≤ 16 → gr1 (x4.toInt) = 0 ∧ gr70 (x4.toInt) = 0) (hr5_2_6 : 16 < x4.toInt → gr1 (x4.toInt) = 1 ∧ gr70 (x4.toInt) = 70) (sbb8 : sbL P6 k0 = oL P6 b8) (lbb8 : (oL P6 b8 = 16 ∨ oL P6 b8 = 34 ∨ oL P6 b8 = 70)) (cbb8 : (oI P6 25 k0).toInt ≤ ((oL P6 b8 : Nat) : Int)) (nbb8 : 0 ≤ (oI P6 25 k0).toInt) (tx9 : (oI P6 25 k0).toInt = x9.toInt) (kl12 : oL P11 b2 = oL P6 b2) (kl13 : oL P11 b8 = oL P6 b8) (hr10_2 : SBS P6 P11) (ak14 : (oI P11 25 k0).toInt = (oI P6 25 k0).toInt) (bk14 : sbL P11 k0 = sbL P6 k0) (sbb15 : sbL P11 k0 = oL P11 b15) (cbb15 : (oI P11 25 k0).toInt ≤ ((oL P11 b15 : Nat) : Int)) (nbb15 : 0 ≤ (oI P11 25 k0).toInt) (tx16 : (oI P11 25 k0).toInt = x16.toInt) (ex17 : x17 = x16 + r1) (tx17 : x17.toInt = x16.toInt + r1.toInt) (af19 : (oI (sI P11 25 k0 x17) 25 k0).toInt = x17.toInt) (bf19 : sbL (sI P11 25 k0 x17) k0 = oL P11 b15) : 0 + 0 + (gr70 (x4.toInt)) + 0 ≤ 0 := by
  have zg0 := gr_spec (x4.toInt)
  first | assumption | omega | (subst_vars; omega) | trivial
set_option maxHeartbeats 4000000 in
set_option maxRecDepth 100000 in
theorem NJ5_append_cf1ce (l : Launch) (D : va_G) (cy : Nat → ClassId) (ad : Nat → Nat) (A : Nat → Prop) (sz0 : Nat) (sa : Nat → Nat)  (κ : KS) (sz sl : Nat) (hAF : ∀ q, A q → Fr sz0 q) (hAn : ∀ q : Nat, sz ≤ q → A q) (k0 : Nat) (k1 : Nat) (kn1 : Nat) (ht0 : oT κ.2.2.2.2 k0 = 12) (ht1 : SL κ.2.2.2.2 sa k1 kn1) (hPV : PV sa κ.2.2.2.2) (hpre : (oI κ.2.2.2.2 25 k0).toInt + ((kn1 : Nat) : Int) ≤ 16) : Met l yJ5_append_cf1ce (Cond.code yJ5_append_cf1ce cJ5_append_cf1ce 3 (some (.object "java/lang/AbstractStringBuilder")) :: GWc) ({ frames := 4, cells := 0, slots := 0, locals := 100 }) (PcC D cy ad A sz0 sa [.ref k0, .ref k1] κ sz sl) (va_Qq (fun (r : Option Nat) (u : PL) => (EX κ.2.2.2.2 u) ∧ (PV sa u) ∧ (NN u 12 r) ∧ ((oI u 25 k0).toInt = (oI κ.2.2.2.2 25 k0).toInt + ((kn1 : Nat) : Int))) (fun (u : PL) (t : State) => Bx D cy ad A sz sl (tP κ u) (0) (0) t) A) (0) (0) A := by
  refine CM_of (loc0 := [(0, .ref k0), (1, .ref k1)]) (own := RJ5) (nm := "append") (by decide) rfl rfl rfl (Nat.le_of_ble_eq_true rfl) hAF hAn ?_
  intro p e s m below meth c ls hsz hsl C hP hS hl
  have hsl1 : sLen κ.2.2.2.2 sa k1 = kn1 := ht1.len C hP
  refine lv_aload_n C.x C.b dJ5_append_cf1ce_0 rfl (lv_at hl 1 rfl) ?_
  refine lv_ifnonnull (tgt := 9) C.x C.b dJ5_append_cf1ce_1 (by decide) ?_
  refine lv_aload_n C.x C.b dJ5_append_cf1ce_9 rfl (lv_at hl 1 rfl) ?_
  refine c_callVi (n := 0) (As := []) (rest := []) C hP hS hl.1 (NJ0_length_8abf5 l D cy ad A sz0 sa κ s.heap.size (SLT s.heap) C.f (fun q h => C.a q (Nat.le_trans hS.1 h)) k1 kn1 ht1 hPV) ⟨cw_358, cw_101, by decide +kernel⟩ ⟨cw_99, cw_100, cw_70⟩ rfl (c_srecv C hP hS ht1.sok) rfl rfl (lv_room (Nat.le_of_ble_eq_true rfl)) ⟨Nat.le_of_ble_eq_true rfl, Nat.le_of_ble_eq_true rfl⟩ ⟨(Nat.le_of_ble_eq_true rfl), (Nat.le_of_ble_eq_true rfl)⟩ dJ5_append_cf1ce_10 (fun r1 u H locs hr1 hP hS => ?_)
  have hr1 : (r1.toInt = ((kn1 : Nat) : Int)) := hr1
  refine lv_istore_n (lv' := [(2, .int r1), (0, .ref k0), (1, .ref k1)]) C.x C.b dJ5_append_cf1ce_13 rfl hl (by decide) rfl (fun ls hl => ?_)
  refine lv_aload_n C.x C.b dJ5_append_cf1ce_14 rfl (lv_at hl 1 rfl) ?_
  refine lv_aload_n C.x C.b dJ5_append_cf1ce_15 rfl (lv_at hl 1 rfl) ?_
  obtain ⟨b2, ebb2, tbb2, sbb2, lbb2, cbb2, nbb2, zbb2⟩ : ∃ b, oR κ.2.2.2.2 12 k0 = some b ∧ oT κ.2.2.2.2 b = 8 ∧ sbL κ.2.2.2.2 k0 = oL κ.2.2.2.2 b ∧ (oL κ.2.2.2.2 b = 16 ∨ oL κ.2.2.2.2 b = 34 ∨ oL κ.2.2.2.2 b = 70) ∧ (oI κ.2.2.2.2 25 k0).toInt ≤ ((oL κ.2.2.2.2 b : Nat) : Int) ∧ 0 ≤ (oI κ.2.2.2.2 25 k0).toInt ∧ oI κ.2.2.2.2 23 k0 = 0 := hPV.sb ht0
  obtain ⟨x3, ex3⟩ : ∃ z, oI κ.2.2.2.2 25 k0 = z := ⟨_, rfl⟩
  have tx3 : (oI κ.2.2.2.2 25 k0).toInt = x3.toInt := by rw [ex3]
  refine pg_J4_3 (v := x3) C hP (t20 (a := k0) (t := 12) ht0) ex3 cw_157 dJ5_append_cf1ce_16 ?_
  refine lv_iload_n C.x C.b dJ5_append_cf1ce_19 rfl (lv_at hl 0 rfl) ?_
  refine lv_iadd C.x C.b dJ5_append_cf1ce_20 ?_
  refine lv_topi (fun x4 ex4 => ?_)
  have tx4 : x4.toInt = x3.toInt + r1.toInt := (vJ5_append_cf1ce_1 sa κ k0 k1 kn1 r1 b2 x3 x4 hpre hsl1 hr1 sbb2 lbb2 cbb2 nbb2 tx3 ex4)
  refine c_callUv (owner := "java/lang/AbstractStringBuilder") (n := 1) (As := [.int x4]) (rest := []) C hP hS hl.1 (NJ5_ensureCapacityInternal_d00df l D cy ad A sz0 sa κ H.size (SLT H) C.f (fun q h => C.a q (Nat.le_trans hS.1 h)) k0 x4 ht0 hPV (vJ5_append_cf1ce_2 sa κ k0 k1 kn1 r1 b2 x3 x4 hpre hsl1 hr1 sbb2 lbb2 cbb2 nbb2 tx3 ex4 tx4)) ⟨cw_159, cw_163, by decide +kernel⟩ ⟨cw_160, cw_161, cw_162, cw_15⟩ rfl (hP.recvP (t := 12) (ci := 1) C.K (t20 (a := k0) (t := 12) ht0) (by decide) rfl rfl) rfl rfl (lv_room (Nat.le_of_ble_eq_true rfl)) ⟨Nat.le_of_ble_eq_true rfl, Nat.le_of_ble_eq_true rfl⟩ ⟨(vJ5_append_cf1ce_3 sa κ k0 k1 kn1 r1 b2 x3 x4 hpre hsl1 hr1 sbb2 cbb2 nbb2 tx3 ex4 tx4), (vJ5_append_cf1ce_4 sa κ k0 k1 kn1 r1 b2 x3 x4 hpre hsl1 hr1 sbb2 cbb2 nbb2 tx3 ex4 tx4)⟩ dJ5_append_cf1ce_21 (fun u H locs hr5 hP hS => ?_)
  obtain ⟨P6, rfl⟩ : ∃ z, z = u := ⟨_, rfl⟩
  have hP : CH D cy ad A (tP κ P6) H := hP
  have hr5 : (EX κ.2.2.2.2 P6) ∧ (PV sa P6) ∧ ((oI P6 25 k0).toInt = (oI κ.2.2.2.2 25 k0).toInt ∧ x4.toInt ≤ ((sbL P6 k0 : Nat) : Int) ∧ ((sbL κ.2.2.2.2 k0 : Nat) : Int) ≤ ((sbL P6 k0 : Nat) : Int) ∧ (gr1 (x4.toInt) ≤ 1 ∧ gr70 (x4.toInt) ≤ 70 ∧ (x4.toInt ≤ 16 → gr1 (x4.toInt) = 0 ∧ gr70 (x4.toInt) = 0) ∧ (16 < x4.toInt → gr1 (x4.toInt) = 1 ∧ gr70 (x4.toInt) = 70))) := hr5
  obtain ⟨hr5_0, hr5_1, hr5_2⟩ := hr5
  have kl7 : oL P6 b2 = oL κ.2.2.2.2 b2 := hr5_0.L tbb2 (by decide)
  obtain ⟨hr5_2_0, hr5_2_1, hr5_2_2, ⟨hr5_2_3, hr5_2_4, hr5_2_5, hr5_2_6⟩⟩ := hr5_2
  refine lv_aload_n C.x C.b dJ5_append_cf1ce_24 rfl (lv_at hl 1 rfl) ?_
  refine lv_aload_n C.x C.b dJ5_append_cf1ce_25 rfl (lv_at hl 1 rfl) ?_
  obtain ⟨b8, ebb8, tbb8, sbb8, lbb8, cbb8, nbb8, zbb8⟩ : ∃ b, oR P6 12 k0 = some b ∧ oT P6 b = 8 ∧ sbL P6 k0 = oL P6 b ∧ (oL P6 b = 16 ∨ oL P6 b = 34 ∨ oL P6 b = 70) ∧ (oI P6 25 k0).toInt ≤ ((oL P6 b : Nat) : Int) ∧ 0 ≤ (oI P6 25 k0).toInt ∧ oI P6 23 k0 = 0 := hr5_1.sb (hr5_0.T ht0 (by decide))
  obtain ⟨x9, ex9⟩ : ∃ z, oI P6 25 k0 = z := ⟨_, rfl⟩
  have tx9 : (oI P6 25 k0).toInt = x9.toInt := by rw [ex9]
  refine pg_J4_3 (v := x9) C hP (t20 (a := k0) (t := 12) (hr5_0.T ht0 (by decide))) ex9 cw_157 dJ5_append_cf1ce_26 ?_
  refine lv_aload_n C.x C.b dJ5_append_cf1ce_29 rfl (lv_at hl 2 rfl) ?_
  refine c_callUv (owner := "java/lang/AbstractStringBuilder") (n := 2) (As := [.int x9, .ref k1]) (rest := []) C hP hS hl.1 (NJ5_putStringAt_47b60 l D cy ad A sz0 sa (tP κ P6) H.size (SLT H) C.f (fun q h => C.a q (Nat.le_trans hS.1 h)) k0 x9 k1 kn1 (hr5_0.T ht0 (by decide)) (hr5_0.SL ht1) hr5_1 (vJ5_append_cf1ce_5 sa κ k0 k1 kn1 r1 b2 x3 x4 P6 b8 x9 hpre hsl1 hr1 sbb2 lbb2 cbb2 nbb2 tx3 ex4 tx4 kl7 hr5_2_0 hr5_2_1 hr5_2_2 hr5_2_3 hr5_2_4 hr5_2_5 hr5_2_6 sbb8 lbb8 cbb8 nbb8 tx9)) ⟨cw_359, cw_363, by decide +kernel⟩ ⟨cw_360, cw_361, cw_362, cw_15⟩ rfl (hP.recvP (t := 12) (ci := 1) C.K (t20 (a := k0) (t := 12) (hr5_0.T ht0 (by decide))) (by decide) rfl rfl) rfl rfl (lv_room (Nat.le_of_ble_eq_true rfl)) ⟨Nat.le_of_ble_eq_true rfl, Nat.le_of_ble_eq_true rfl⟩ ⟨(vJ5_append_cf1ce_6 sa κ k0 k1 kn1 r1 b2 x3 x4 P6 b8 x9 hpre hsl1 hr1 sbb2 cbb2 nbb2 tx3 ex4 tx4 kl7 hr5_2_0 hr5_2_1 hr5_2_2 hr5_2_3 hr5_2_4 hr5_2_5 hr5_2_6 sbb8 lbb8 cbb8 nbb8 tx9), (vJ5_append_cf1ce_7 sa κ k0 k1 kn1 r1 b2 x3 x4 P6 b8 x9 hpre hsl1 hr1 sbb2 cbb2 nbb2 tx3 ex4 tx4 kl7 hr5_2_0 hr5_2_1 hr5_2_2 hr5_2_3 hr5_2_4 hr5_2_5 hr5_2_6 sbb8 lbb8 cbb8 nbb8 tx9)⟩ dJ5_append_cf1ce_30 (fun u H locs hr10 hP hS => ?_)
  obtain ⟨P11, rfl⟩ : ∃ z, z = u := ⟨_, rfl⟩
  have hP : CH D cy ad A (tP (tP κ P6) P11) H := hP
  have hr10 : (EX P6 P11) ∧ (PV sa P11) ∧ (SBS P6 P11) := hr10
  obtain ⟨hr10_0, hr10_1, hr10_2⟩ := hr10
  have kl12 : oL P11 b2 = oL P6 b2 := hr10_0.L (hr5_0.T tbb2 (by decide)) (by decide)
  have kl13 : oL P11 b8 = oL P6 b8 := hr10_0.L tbb8 (by decide)
  have ak14 : (oI P11 25 k0).toInt = (oI P6 25 k0).toInt := hr10_2.cnt (hr5_0.T ht0 (by decide))
  have bk14 : sbL P11 k0 = sbL P6 k0 := hr10_2.len (hr5_0.T ht0 (by decide)) hr10_0 hr5_1
  refine lv_aload_n C.x C.b dJ5_append_cf1ce_33 rfl (lv_at hl 1 rfl) ?_
  refine lv_dup C.x C.b dJ5_append_cf1ce_34 rfl ?_
  obtain ⟨b15, ebb15, tbb15, sbb15, lbb15, cbb15, nbb15, zbb15⟩ : ∃ b, oR P11 12 k0 = some b ∧ oT P11 b = 8 ∧ sbL P11 k0 = oL P11 b ∧ (oL P11 b = 16 ∨ oL P11 b = 34 ∨ oL P11 b = 70) ∧ (oI P11 25 k0).toInt ≤ ((oL P11 b : Nat) : Int) ∧ 0 ≤ (oI P11 25 k0).toInt ∧ oI P11 23 k0 = 0 := hr10_1.sb (hr10_0.T (hr5_0.T ht0 (by decide)) (by decide))
  obtain ⟨x16, ex16⟩ : ∃ z, oI P11 25 k0 = z := ⟨_, rfl⟩
  have tx16 : (oI P11 25 k0).toInt = x16.toInt := by rw [ex16]
  refine pg_J4_3 (v := x16) C hP (t20 (a := k0) (t := 12) (hr10_0.T (hr5_0.T ht0 (by decide)) (by decide))) ex16 cw_157 dJ5_append_cf1ce_35 ?_
  refine lv_iload_n C.x C.b dJ5_append_cf1ce_38 rfl (lv_at hl 0 rfl) ?_
  refine lv_iadd C.x C.b dJ5_append_cf1ce_39 ?_
  refine lv_topi (fun x17 ex17 => ?_)
  have tx17 : x17.toInt = x16.toInt + r1.toInt := (vJ5_append_cf1ce_8 sa κ k0 k1 kn1 r1 b2 x3 x4 P6 b8 x9 P11 b15 x16 x17 hpre hsl1 hr1 sbb2 cbb2 nbb2 tx3 ex4 tx4 kl7 hr5_2_0 hr5_2_1 hr5_2_2 hr5_2_3 hr5_2_4 hr5_2_5 hr5_2_6 sbb8 cbb8 nbb8 tx9 kl12 kl13 hr10_2 ak14 bk14 sbb15 lbb15 cbb15 nbb15 tx16 ex17)
  refine pp_J4_3 C hP hS (t20 (a := k0) (t := 12) (hr10_0.T (hr5_0.T ht0 (by decide)) (by decide))) cw_157 dJ5_append_cf1ce_40 (fun H locs hP hS => ?_)
  have exz18 : EX P11 (sI P11 25 k0 x17) := (EX.stV (Or.inr rfl))
  have pvz18 : PV sa (sI P11 25 k0 x17) := (hr10_1.st25 (hr10_0.T (hr5_0.T ht0 (by decide)) (by decide)) (vJ5_append_cf1ce_9 sa κ k0 k1 kn1 r1 b2 x3 x4 P6 b8 x9 P11 b15 x16 x17 hpre hsl1 hr1 sbb2 lbb2 cbb2 nbb2 tx3 ex4 tx4 kl7 hr5_2_0 hr5_2_1 hr5_2_2 hr5_2_3 hr5_2_4 hr5_2_5 hr5_2_6 sbb8 lbb8 cbb8 nbb8 tx9 kl12 kl13 hr10_2 ak14 bk14 sbb15 lbb15 cbb15 nbb15 tx16 ex17 tx17))
  have af19 : (oI (sI P11 25 k0 x17) 25 k0).toInt = x17.toInt := congrArg Int32.toInt sI_eq
  have bf19 : sbL (sI P11 25 k0 x17) k0 = oL P11 b15 := sbb15
  refine lv_aload_n C.x C.b dJ5_append_cf1ce_43 rfl (lv_at hl 1 rfl) ?_
  have hP : CH D cy ad A (tP κ (sI P11 25 k0 x17)) H := CH.cong hP rfl rfl rfl rfl rfl rfl rfl rfl rfl rfl rfl rfl rfl rfl rfl rfl rfl rfl rfl rfl rfl rfl rfl rfl rfl rfl rfl
  exact c_retq (v := (some k0)) (Or.inl ⟨_, rfl⟩) C hsz hsl (sI P11 25 k0 x17) ⟨((hr5_0.trans hr10_0).trans exz18), pvz18, ⟨k0, rfl, (exz18.T (hr10_0.T (hr5_0.T ht0 (by decide)) (by decide)) (by decide))⟩, (vJ5_append_cf1ce_10 sa κ k0 k1 kn1 r1 b2 x3 x4 P6 b8 x9 P11 b15 x16 x17 hpre hsl1 hr1 sbb2 lbb2 cbb2 nbb2 tx3 ex4 tx4 kl7 hr5_2_0 hr5_2_1 hr5_2_2 hr5_2_3 hr5_2_4 hr5_2_5 hr5_2_6 sbb8 lbb8 cbb8 nbb8 tx9 kl12 kl13 hr10_2 ak14 bk14 sbb15 lbb15 cbb15 nbb15 tx16 ex17 tx17 af19 bf19)⟩ hP hS ⟨(vJ5_append_cf1ce_11 sa κ k0 k1 kn1 r1 b2 x3 x4 P6 b8 x9 P11 b15 x16 x17 hpre hsl1 hr1 sbb2 cbb2 nbb2 tx3 ex4 tx4 kl7 hr5_2_0 hr5_2_1 hr5_2_2 hr5_2_3 hr5_2_4 hr5_2_5 hr5_2_6 sbb8 lbb8 cbb8 nbb8 tx9 kl12 kl13 hr10_2 ak14 bk14 sbb15 cbb15 nbb15 tx16 ex17 tx17 af19 bf19), (vJ5_append_cf1ce_12 sa κ k0 k1 kn1 r1 b2 x3 x4 P6 b8 x9 P11 b15 x16 x17 hpre hsl1 hr1 sbb2 cbb2 nbb2 tx3 ex4 tx4 kl7 hr5_2_0 hr5_2_1 hr5_2_2 hr5_2_3 hr5_2_4 hr5_2_5 hr5_2_6 sbb8 lbb8 cbb8 nbb8 tx9 kl12 kl13 hr10_2 ak14 bk14 sbb15 cbb15 nbb15 tx16 ex17 tx17 af19 bf19)⟩ ⟨(Nat.le_of_ble_eq_true rfl), (Nat.le_of_ble_eq_true rfl)⟩ dJ5_append_cf1ce_44

-- pre:J5_append_cf1ce@2 @2
theorem vJ4_append_15ec4_1 (sa : Nat → Nat) (κ : KS) (k0 : Nat) (k1 : Nat) (kn1 : Nat) (hpre : (oI κ.2.2.2.2 25 k0).toInt + ((kn1 : Nat) : Int) ≤ 16) (hsl1 : sLen κ.2.2.2.2 sa k1 = kn1) : (oI κ.2.2.2.2 25 k0).toInt + ((kn1 : Nat) : Int) ≤ 16 := by
  first | assumption | omega | (subst_vars; omega) | trivial
-- post @7
theorem vJ4_append_15ec4_2 (sa : Nat → Nat) (κ : KS) (k0 : Nat) (k1 : Nat) (kn1 : Nat) (P2 : PL) (hpre : (oI κ.2.2.2.2 25 k0).toInt + ((kn1 : Nat) : Int) ≤ 16) (hsl1 : sLen κ.2.2.2.2 sa k1 = kn1) (hr1_3 : (oI P2 25 k0).toInt = (oI κ.2.2.2.2 25 k0).toInt + ((kn1 : Nat) : Int)) : (oI P2 25 k0).toInt = (oI κ.2.2.2.2 25 k0).toInt + ((kn1 : Nat) : Int) := by
  first | assumption | omega | (subst_vars; omega) | trivial
set_option maxHeartbeats 4000000 in
set_option maxRecDepth 100000 in
theorem NJ4_append_15ec4 (l : Launch) (D : va_G) (cy : Nat → ClassId) (ad : Nat → Nat) (A : Nat → Prop) (sz0 : Nat) (sa : Nat → Nat)  (κ : KS) (sz sl : Nat) (hAF : ∀ q, A q → Fr sz0 q) (hAn : ∀ q : Nat, sz ≤ q → A q) (k0 : Nat) (k1 : Nat) (kn1 : Nat) (ht0 : oT κ.2.2.2.2 k0 = 12) (ht1 : SL κ.2.2.2.2 sa k1 kn1) (hPV : PV sa κ.2.2.2.2) (hpre : (oI κ.2.2.2.2 25 k0).toInt + ((kn1 : Nat) : Int) ≤ 16) : Met l yJ4_append_15ec4 (Cond.code yJ4_append_15ec4 cJ4_append_15ec4 2 (some (.object "java/lang/StringBuilder")) :: GWc) ({ frames := 5, cells := 0, slots := 0, locals := 122 }) (PcC D cy ad A sz0 sa [.ref k0, .ref k1] κ sz sl) (va_Qq (fun (r : Option Nat) (u : PL) => (EX κ.2.2.2.2 u) ∧ (PV sa u) ∧ (NN u 12 r) ∧ ((oI u 25 k0).toInt = (oI κ.2.2.2.2 25 k0).toInt + ((kn1 : Nat) : Int))) (fun (u : PL) (t : State) => Bx D cy ad A sz sl (tP κ u) (0) (0) t) A) (0) (0) A := by
  refine CM_of (loc0 := [(0, .ref k0), (1, .ref k1)]) (own := RJ4) (nm := "append") (by decide) rfl rfl rfl (Nat.le_of_ble_eq_true rfl) hAF hAn ?_
  intro p e s m below meth c ls hsz hsl C hP hS hl
  have hsl1 : sLen κ.2.2.2.2 sa k1 = kn1 := ht1.len C hP
  refine lv_aload_n C.x C.b dJ4_append_15ec4_0 rfl (lv_at hl 0 rfl) ?_
  refine lv_aload_n C.x C.b dJ4_append_15ec4_1 rfl (lv_at hl 1 rfl) ?_
  refine c_callWq (n := 1) (As := [.ref k1]) (rest := []) C hP hS hl.1 (NJ5_append_cf1ce l D cy ad A sz0 sa κ s.heap.size (SLT s.heap) C.f (fun q h => C.a q (Nat.le_trans hS.1 h)) k0 k1 kn1 ht0 ht1 hPV (vJ4_append_15ec4_1 sa κ k0 k1 kn1 hpre hsl1)) ⟨cw_346, cw_349, by decide +kernel⟩ ⟨cw_347, cw_154, cw_348, cw_15⟩ (by decide) (ci := 1) rfl rfl (hP.recvP (t := 12) (ci := 1) C.K (t20 (a := k0) (t := 12) ht0) (by decide) rfl rfl) rfl rfl (lv_room (Nat.le_of_ble_eq_true rfl)) ⟨Nat.le_of_ble_eq_true rfl, Nat.le_of_ble_eq_true rfl⟩ ⟨(Nat.le_of_ble_eq_true rfl), (Nat.le_of_ble_eq_true rfl)⟩ dJ4_append_15ec4_2 (fun r1 u H locs hr1 hP hS => ?_)
  obtain ⟨P2, rfl⟩ : ∃ z, z = u := ⟨_, rfl⟩
  have hP : CH D cy ad A (tP κ P2) H := hP
  have hr1 : (EX κ.2.2.2.2 P2) ∧ (PV sa P2) ∧ (NN P2 12 r1) ∧ ((oI P2 25 k0).toInt = (oI κ.2.2.2.2 25 k0).toInt + ((kn1 : Nat) : Int)) := hr1
  obtain ⟨hr1_0, hr1_1, hr1_2, hr1_3⟩ := hr1
  obtain ⟨b3, rfl, tb3⟩ := hr1_2
  refine lv_pop C.x C.b dJ4_append_15ec4_5 rfl ?_
  refine lv_aload_n C.x C.b dJ4_append_15ec4_6 rfl (lv_at hl 0 rfl) ?_
  exact c_retq (v := (some k0)) (Or.inl ⟨_, rfl⟩) C hsz hsl P2 ⟨hr1_0, hr1_1, ⟨k0, rfl, (hr1_0.T ht0 (by decide))⟩, (vJ4_append_15ec4_2 sa κ k0 k1 kn1 P2 hpre hsl1 hr1_3)⟩ hP hS ⟨(Nat.le_of_ble_eq_true rfl), (Nat.le_of_ble_eq_true rfl)⟩ ⟨(Nat.le_of_ble_eq_true rfl), (Nat.le_of_ble_eq_true rfl)⟩ dJ4_append_15ec4_7
