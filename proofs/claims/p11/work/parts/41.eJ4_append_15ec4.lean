-- nw@10 @10
theorem vJ5_append_c97b9_1 (κ : KS) (k0 : Nat) (k1 : Int32) (b1 : Nat) (x2 : Int32) (r3 : Int32) (x4 : Int32) (hpre : (oI κ.2.2.2.2 25 k0).toInt ≤ 1) (sbb1 : sbL κ.2.2.2.2 k0 = oL κ.2.2.2.2 b1) (lbb1 : (oL κ.2.2.2.2 b1 = 16 ∨ oL κ.2.2.2.2 b1 = 34 ∨ oL κ.2.2.2.2 b1 = 70)) (cbb1 : (oI κ.2.2.2.2 25 k0).toInt ≤ ((oL κ.2.2.2.2 b1 : Nat) : Int)) (nbb1 : 0 ≤ (oI κ.2.2.2.2 25 k0).toInt) (tx2 : (oI κ.2.2.2.2 25 k0).toInt = x2.toInt) (hr3 : r3.toInt = (((sb_dg (Int.natAbs k1.toInt) + ngd k1.toInt) : Nat) : Int)) (ex4 : x4 = x2 + r3) : x4.toInt = x2.toInt + r3.toInt := by
  have zd0 := dg_spec (Int.natAbs k1.toInt)
  have zn0 := ngd_spec k1.toInt
  rw [ex4, z_add (by omega) (by omega)]; first | done | omega
-- pre:J5_ensureCapacityInternal_d00df@14 @14
theorem vJ5_append_c97b9_2 (κ : KS) (k0 : Nat) (k1 : Int32) (b1 : Nat) (x2 : Int32) (r3 : Int32) (x4 : Int32) (hpre : (oI κ.2.2.2.2 25 k0).toInt ≤ 1) (sbb1 : sbL κ.2.2.2.2 k0 = oL κ.2.2.2.2 b1) (lbb1 : (oL κ.2.2.2.2 b1 = 16 ∨ oL κ.2.2.2.2 b1 = 34 ∨ oL κ.2.2.2.2 b1 = 70)) (cbb1 : (oI κ.2.2.2.2 25 k0).toInt ≤ ((oL κ.2.2.2.2 b1 : Nat) : Int)) (nbb1 : 0 ≤ (oI κ.2.2.2.2 25 k0).toInt) (tx2 : (oI κ.2.2.2.2 25 k0).toInt = x2.toInt) (hr3 : r3.toInt = (((sb_dg (Int.natAbs k1.toInt) + ngd k1.toInt) : Nat) : Int)) (ex4 : x4 = x2 + r3) (tx4 : x4.toInt = x2.toInt + r3.toInt) : 0 ≤ x4.toInt ∧ x4.toInt ≤ ((sbL κ.2.2.2.2 k0 : Nat) : Int) + 1 ∧ x4.toInt ≤ 70 := by
  have zd0 := dg_spec (Int.natAbs k1.toInt)
  have zn0 := ngd_spec k1.toInt
  refine ⟨?_, ?_, ?_⟩ <;> first | assumption | omega | (subst_vars; omega) | trivial
-- room @14
theorem vJ5_append_c97b9_3 (κ : KS) (k0 : Nat) (k1 : Int32) (b1 : Nat) (x2 : Int32) (r3 : Int32) (x4 : Int32) (hpre : (oI κ.2.2.2.2 25 k0).toInt ≤ 1) (sbb1 : sbL κ.2.2.2.2 k0 = oL κ.2.2.2.2 b1) (cbb1 : (oI κ.2.2.2.2 25 k0).toInt ≤ ((oL κ.2.2.2.2 b1 : Nat) : Int)) (nbb1 : 0 ≤ (oI κ.2.2.2.2 25 k0).toInt) (tx2 : (oI κ.2.2.2.2 25 k0).toInt = x2.toInt) (hr3 : r3.toInt = (((sb_dg (Int.natAbs k1.toInt) + ngd k1.toInt) : Nat) : Int)) (ex4 : x4 = x2 + r3) (tx4 : x4.toInt = x2.toInt + r3.toInt) : 0 + 0 + (gr1 (x4.toInt)) ≤ 0 := by
  have zg0 := gr_spec (x4.toInt)
  have zd0 := dg_spec (Int.natAbs k1.toInt)
  have zn0 := ngd_spec k1.toInt
  first | assumption | omega | (subst_vars; omega) | trivial
-- room @14
theorem vJ5_append_c97b9_4 (κ : KS) (k0 : Nat) (k1 : Int32) (b1 : Nat) (x2 : Int32) (r3 : Int32) (x4 : Int32) (hpre : (oI κ.2.2.2.2 25 k0).toInt ≤ 1) (sbb1 : sbL κ.2.2.2.2 k0 = oL κ.2.2.2.2 b1) (cbb1 : (oI κ.2.2.2.2 25 k0).toInt ≤ ((oL κ.2.2.2.2 b1 : Nat) : Int)) (nbb1 : 0 ≤ (oI κ.2.2.2.2 25 k0).toInt) (tx2 : (oI κ.2.2.2.2 25 k0).toInt = x2.toInt) (hr3 : r3.toInt = (((sb_dg (Int.natAbs k1.toInt) + ngd k1.toInt) : Nat) : Int)) (ex4 : x4 = x2 + r3) (tx4 : x4.toInt = x2.toInt + r3.toInt) : 0 + 0 + (gr70 (x4.toInt)) ≤ 0 := by
  have zg0 := gr_spec (x4.toInt)
  have zd0 := dg_spec (Int.natAbs k1.toInt)
  have zn0 := ngd_spec k1.toInt
  first | assumption | omega | (subst_vars; omega) | trivial
-- room @18
theorem vJ5_append_c97b9_5 (κ : KS) (k0 : Nat) (k1 : Int32) (b1 : Nat) (x2 : Int32) (r3 : Int32) (x4 : Int32) (P6 : PL) (hpre : (oI κ.2.2.2.2 25 k0).toInt ≤ 1) (sbb1 : sbL κ.2.2.2.2 k0 = oL κ.2.2.2.2 b1) (cbb1 : (oI κ.2.2.2.2 25 k0).toInt ≤ ((oL κ.2.2.2.2 b1 : Nat) : Int)) (nbb1 : 0 ≤ (oI κ.2.2.2.2 25 k0).toInt) (tx2 : (oI κ.2.2.2.2 25 k0).toInt = x2.toInt) (hr3 : r3.toInt = (((sb_dg (Int.natAbs k1.toInt) + ngd k1.toInt) : Nat) : Int)) (ex4 : x4 = x2 + r3) (tx4 : x4.toInt = x2.toInt + r3.toInt) (kl7 : oL P6 b1 = oL κ.2.2.2.2 b1) (hr5_3_0 : (oI P6 25 k0).toInt = (oI κ.2.2.2.2 25 k0).toInt) (hr5_3_1 : x4.toInt ≤ ((sbL P6 k0 : Nat) : Int)) (hr5_3_2 : ((sbL κ.2.2.2.2 k0 : Nat) : Int) ≤ ((sbL P6 k0 : Nat) : Int)) (hr5_3_3 : gr1 (x4.toInt) ≤ 1) (hr5_3_4 : gr70 (x4.toInt) ≤ 70) (hr5_3_5 : x4.toInt ≤ 16 → gr1 (x4.toInt) = 0 ∧ gr70 (x4.toInt) = 0) (hr5_3_6 : 16 < x4.toInt → gr1 (x4.toInt) = 1 ∧ gr70 (x4.toInt) = 70) : 0 + 0 + (gr1 (x4.toInt)) + 0 ≤ 0 := by
  have zg0 := gr_spec (x4.toInt)
  have zd0 := dg_spec (Int.natAbs k1.toInt)
  have zn0 := ngd_spec k1.toInt
  first | assumption | omega | (subst_vars; omega) | trivial
-- room @18
theorem vJ5_append_c97b9_6 (κ : KS) (k0 : Nat) (k1 : Int32) (b1 : Nat) (x2 : Int32) (r3 : Int32) (x4 : Int32) (P6 : PL) (hpre : (oI κ.2.2.2.2 25 k0).toInt ≤ 1) (sbb1 : sbL κ.2.2.2.2 k0 = oL κ.2.2.2.2 b1) (cbb1 : (oI κ.2.2.2.2 25 k0).toInt ≤ ((oL κ.2.2.2.2 b1 : Nat) : Int)) (nbb1 : 0 ≤ (oI κ.2.2.2.2 25 k0).toInt) (tx2 : (oI κ.2.2.2.2 25 k0).toInt = x2.toInt) (hr3 : r3.toInt = (((sb_dg (Int.natAbs k1.toInt) + ngd k1.toInt) : Nat) : Int)) (ex4 : x4 = x2 + r3) (tx4 : x4.toInt = x2.toInt + r3.toInt) (kl7 : oL P6 b1 = oL κ.2.2.2.2 b1) (hr5_3_0 : (oI P6 25 k0).toInt = (oI κ.2.2.2.2 25 k0).toInt) (hr5_3_1 : x4.toInt ≤ ((sbL P6 k0 : Nat) : Int)) (hr5_3_2 : ((sbL κ.2.2.2.2 k0 : Nat) : Int) ≤ ((sbL P6 k0 : Nat) : Int)) (hr5_3_3 : gr1 (x4.toInt) ≤ 1) (hr5_3_4 : gr70 (x4.toInt) ≤ 70) (hr5_3_5 : x4.toInt ≤ 16 → gr1 (x4.toInt) = 0 ∧ gr70 (x4.toInt) = 0) (hr5_3_6 : 16 < x4.toInt → gr1 (x4.toInt) = 1 ∧ gr70 (x4.toInt) = 70) : 0 + 0 + (gr70 (x4.toInt)) + 0 ≤ 0 := by
  have zg0 := gr_spec (x4.toInt)
  have zd0 := dg_spec (Int.natAbs k1.toInt)
  have zn0 := ngd_spec k1.toInt
  first | assumption | omega | (subst_vars; omega) | trivial
-- pre:J6_getChars_ba4f3@30 @30
theorem vJ5_append_c97b9_7 (κ : KS) (k0 : Nat) (k1 : Int32) (b1 : Nat) (x2 : Int32) (r3 : Int32) (x4 : Int32) (P6 : PL) (b11 : Nat) (hpre : (oI κ.2.2.2.2 25 k0).toInt ≤ 1) (sbb1 : sbL κ.2.2.2.2 k0 = oL κ.2.2.2.2 b1) (lbb1 : (oL κ.2.2.2.2 b1 = 16 ∨ oL κ.2.2.2.2 b1 = 34 ∨ oL κ.2.2.2.2 b1 = 70)) (cbb1 : (oI κ.2.2.2.2 25 k0).toInt ≤ ((oL κ.2.2.2.2 b1 : Nat) : Int)) (nbb1 : 0 ≤ (oI κ.2.2.2.2 25 k0).toInt) (tx2 : (oI κ.2.2.2.2 25 k0).toInt = x2.toInt) (hr3 : r3.toInt = (((sb_dg (Int.natAbs k1.toInt) + ngd k1.toInt) : Nat) : Int)) (ex4 : x4 = x2 + r3) (tx4 : x4.toInt = x2.toInt + r3.toInt) (kl7 : oL P6 b1 = oL κ.2.2.2.2 b1) (hr5_3_0 : (oI P6 25 k0).toInt = (oI κ.2.2.2.2 25 k0).toInt) (hr5_3_1 : x4.toInt ≤ ((sbL P6 k0 : Nat) : Int)) (hr5_3_2 : ((sbL κ.2.2.2.2 k0 : Nat) : Int) ≤ ((sbL P6 k0 : Nat) : Int)) (hr5_3_3 : gr1 (x4.toInt) ≤ 1) (hr5_3_4 : gr70 (x4.toInt) ≤ 70) (hr5_3_5 : x4.toInt ≤ 16 → gr1 (x4.toInt) = 0 ∧ gr70 (x4.toInt) = 0) (hr5_3_6 : 16 < x4.toInt → gr1 (x4.toInt) = 1 ∧ gr70 (x4.toInt) = 70) (sbb11 : sbL P6 k0 = oL P6 b11) (lbb11 : (oL P6 b11 = 16 ∨ oL P6 b11 = 34 ∨ oL P6 b11 = 70)) (cbb11 : (oI P6 25 k0).toInt ≤ ((oL P6 b11 : Nat) : Int)) (nbb11 : 0 ≤ (oI P6 25 k0).toInt) : (((sb_dg (Int.natAbs k1.toInt) + ngd k1.toInt) : Nat) : Int) ≤ x4.toInt ∧ x4.toInt ≤ ((oL P6 b11 : Nat) : Int) := by
  have zd0 := dg_spec (Int.natAbs k1.toInt)
  have zn0 := ngd_spec k1.toInt
  refine ⟨?_, ?_⟩ <;> first | assumption | omega | (subst_vars; omega) | trivial
-- room @30
theorem vJ5_append_c97b9_8 (κ : KS) (k0 : Nat) (k1 : Int32) (b1 : Nat) (x2 : Int32) (r3 : Int32) (x4 : Int32) (P6 : PL) (b11 : Nat) (hpre : (oI κ.2.2.2.2 25 k0).toInt ≤ 1) (sbb1 : sbL κ.2.2.2.2 k0 = oL κ.2.2.2.2 b1) (cbb1 : (oI κ.2.2.2.2 25 k0).toInt ≤ ((oL κ.2.2.2.2 b1 : Nat) : Int)) (nbb1 : 0 ≤ (oI κ.2.2.2.2 25 k0).toInt) (tx2 : (oI κ.2.2.2.2 25 k0).toInt = x2.toInt) (hr3 : r3.toInt = (((sb_dg (Int.natAbs k1.toInt) + ngd k1.toInt) : Nat) : Int)) (ex4 : x4 = x2 + r3) (tx4 : x4.toInt = x2.toInt + r3.toInt) (kl7 : oL P6 b1 = oL κ.2.2.2.2 b1) (hr5_3_0 : (oI P6 25 k0).toInt = (oI κ.2.2.2.2 25 k0).toInt) (hr5_3_1 : x4.toInt ≤ ((sbL P6 k0 : Nat) : Int)) (hr5_3_2 : ((sbL κ.2.2.2.2 k0 : Nat) : Int) ≤ ((sbL P6 k0 : Nat) : Int)) (hr5_3_3 : gr1 (x4.toInt) ≤ 1) (hr5_3_4 : gr70 (x4.toInt) ≤ 70) (hr5_3_5 : x4.toInt ≤ 16 → gr1 (x4.toInt) = 0 ∧ gr70 (x4.toInt) = 0) (hr5_3_6 : 16 < x4.toInt → gr1 (x4.toInt) = 1 ∧ gr70 (x4.toInt) = 70) (sbb11 : sbL P6 k0 = oL P6 b11) (lbb11 : (oL P6 b11 = 16 ∨ oL P6 b11 = 34 ∨ oL P6 b11 = 70)) (cbb11 : (oI P6 25 k0).toInt ≤ ((oL P6 b11 : Nat) : Int)) (nbb11 : 0 ≤ (oI P6 25 k0).toInt) : 0 + 0 + (gr1 (x4.toInt)) + 0 + 0 ≤ 0 := by
  have zg0 := gr_spec (x4.toInt)
  have zd0 := dg_spec (Int.natAbs k1.toInt)
  have zn0 := ngd_spec k1.toInt
  first | assumption | omega | (subst_vars; omega) | trivial
-- room @30
theorem vJ5_append_c97b9_9 (κ : KS) (k0 : Nat) (k1 : Int32) (b1 : Nat) (x2 : Int32) (r3 : Int32) (x4 : Int32) (P6 : PL) (b11 : Nat) (hpre : (oI κ.2.2.2.2 25 k0).toInt ≤ 1) (sbb1 : sbL κ.2.2.2.2 k0 = oL κ.2.2.2.2 b1) (cbb1 : (oI κ.2.2.2.2 25 k0).toInt ≤ ((oL κ.2.2.2.2 b1 : Nat) : Int)) (nbb1 : 0 ≤ (oI κ.2.2.2.2 25 k0).toInt) (tx2 : (oI κ.2.2.2.2 25 k0).toInt = x2.toInt) (hr3 : r3.toInt = (((sb_dg (Int.natAbs k1.toInt) + ngd k1.toInt) : Nat) : Int)) (ex4 : x4 = x2 + r3) (tx4 : x4.toInt = x2.toInt + r3.toInt) (kl7 : oL P6 b1 = oL κ.2.2.2.2 b1) (hr5_3_0 : (oI P6 25 k0).toInt = (oI κ.2.2.2.2 25 k0).toInt) (hr5_3_1 : x4.toInt ≤ ((sbL P6 k0 : Nat) : Int)) (hr5_3_2 : ((sbL κ.2.2.2.2 k0 : Nat) : Int) ≤ ((sbL P6 k0 : Nat) : Int)) (hr5_3_3 : gr1 (x4.toInt) ≤ 1) (hr5_3_4 : gr70 (x4.toInt) ≤ 70) (hr5_3_5 : x4.toInt ≤ 16 → gr1 (x4.toInt) = 0 ∧ gr70 (x4.toInt) = 0) (hr5_3_6 : 16 < x4.toInt → gr1 (x4.toInt) = 1 ∧ gr70 (x4.toInt) = 70) (sbb11 : sbL P6 k0 = oL P6 b11) (lbb11 : (oL P6 b11 = 16 ∨ oL P6 b11 = 34 ∨ oL P6 b11 = 70)) (cbb11 : (oI P6 25 k0).toInt ≤ ((oL P6 b11 : Nat) : Int)) (nbb11 : 0 ≤ (oI P6 25 k0).toInt) : 0 + 0 + (gr70 (x4.toInt)) + 0 + 0 ≤ 0 := by
  have zg0 := gr_spec (x4.toInt)
  have zd0 := dg_spec (Int.natAbs k1.toInt)
  have zn0 := ngd_spec k1.toInt
  first | assumption | omega | (subst_vars; omega) | trivial
-- cnt @50
theorem vJ5_append_c97b9_10 (κ : KS) (k0 : Nat) (k1 : Int32) (b1 : Nat) (x2 : Int32) (r3 : Int32) (x4 : Int32) (P6 : PL) (b11 : Nat) (P13 : PL) (b18 : Nat) (hpre : (oI κ.2.2.2.2 25 k0).toInt ≤ 1) (sbb1 : sbL κ.2.2.2.2 k0 = oL κ.2.2.2.2 b1) (lbb1 : (oL κ.2.2.2.2 b1 = 16 ∨ oL κ.2.2.2.2 b1 = 34 ∨ oL κ.2.2.2.2 b1 = 70)) (cbb1 : (oI κ.2.2.2.2 25 k0).toInt ≤ ((oL κ.2.2.2.2 b1 : Nat) : Int)) (nbb1 : 0 ≤ (oI κ.2.2.2.2 25 k0).toInt) (tx2 : (oI κ.2.2.2.2 25 k0).toInt = x2.toInt) (hr3 : r3.toInt = (((sb_dg (Int.natAbs k1.toInt) + ngd k1.toInt) : Nat) : Int)) (ex4 : x4 = x2 + r3) (tx4 : x4.toInt = x2.toInt + r3.toInt) (kl7 : oL P6 b1 = oL κ.2.2.2.2 b1) (hr5_3_0 : (oI P6 25 k0).toInt = (oI κ.2.2.2.2 25 k0).toInt) (hr5_3_1 : x4.toInt ≤ ((sbL P6 k0 : Nat) : Int)) (hr5_3_2 : ((sbL κ.2.2.2.2 k0 : Nat) : Int) ≤ ((sbL P6 k0 : Nat) : Int)) (hr5_3_3 : gr1 (x4.toInt) ≤ 1) (hr5_3_4 : gr70 (x4.toInt) ≤ 70) (hr5_3_5 : x4.toInt ≤ 16 → gr1 (x4.toInt) = 0 ∧ gr70 (x4.toInt) = 0) (hr5_3_6 : 16 < x4.toInt → gr1 (x4.toInt) = 1 ∧ gr70 (x4.toInt) = 70) (sbb11 : sbL P6 k0 = oL P6 b11) (lbb11 : (oL P6 b11 = 16 ∨ oL P6 b11 = 34 ∨ oL P6 b11 = 70)) (cbb11 : (oI P6 25 k0).toInt ≤ ((oL P6 b11 : Nat) : Int)) (nbb11 : 0 ≤ (oI P6 25 k0).toInt) (kl14 : oL P13 b1 = oL P6 b1) (kl15 : oL P13 b11 = oL P6 b11) (hr12_3 : SBS P6 P13) (ak17 : (oI P13 25 k0).toInt = (oI P6 25 k0).toInt) (bk17 : sbL P13 k0 = sbL P6 k0) (sbb18 : sbL P13 k0 = oL P13 b18) (lbb18 : (oL P13 b18 = 16 ∨ oL P13 b18 = 34 ∨ oL P13 b18 = 70)) (cbb18 : (oI P13 25 k0).toInt ≤ ((oL P13 b18 : Nat) : Int)) (nbb18 : 0 ≤ (oI P13 25 k0).toInt) : 0 ≤ x4.toInt ∧ x4.toInt ≤ ((sbL P13 k0 : Nat) : Int) := by
  have zd0 := dg_spec (Int.natAbs k1.toInt)
  have zn0 := ngd_spec k1.toInt
  refine ⟨?_, ?_⟩ <;> first | assumption | omega | (subst_vars; omega) | trivial
-- post @54
theorem vJ5_append_c97b9_11 (κ : KS) (k0 : Nat) (k1 : Int32) (b1 : Nat) (x2 : Int32) (r3 : Int32) (x4 : Int32) (P6 : PL) (b11 : Nat) (P13 : PL) (b18 : Nat) (hpre : (oI κ.2.2.2.2 25 k0).toInt ≤ 1) (sbb1 : sbL κ.2.2.2.2 k0 = oL κ.2.2.2.2 b1) (lbb1 : (oL κ.2.2.2.2 b1 = 16 ∨ oL κ.2.2.2.2 b1 = 34 ∨ oL κ.2.2.2.2 b1 = 70)) (cbb1 : (oI κ.2.2.2.2 25 k0).toInt ≤ ((oL κ.2.2.2.2 b1 : Nat) : Int)) (nbb1 : 0 ≤ (oI κ.2.2.2.2 25 k0).toInt) (tx2 : (oI κ.2.2.2.2 25 k0).toInt = x2.toInt) (hr3 : r3.toInt = (((sb_dg (Int.natAbs k1.toInt) + ngd k1.toInt) : Nat) : Int)) (ex4 : x4 = x2 + r3) (tx4 : x4.toInt = x2.toInt + r3.toInt) (kl7 : oL P6 b1 = oL κ.2.2.2.2 b1) (hr5_3_0 : (oI P6 25 k0).toInt = (oI κ.2.2.2.2 25 k0).toInt) (hr5_3_1 : x4.toInt ≤ ((sbL P6 k0 : Nat) : Int)) (hr5_3_2 : ((sbL κ.2.2.2.2 k0 : Nat) : Int) ≤ ((sbL P6 k0 : Nat) : Int)) (hr5_3_3 : gr1 (x4.toInt) ≤ 1) (hr5_3_4 : gr70 (x4.toInt) ≤ 70) (hr5_3_5 : x4.toInt ≤ 16 → gr1 (x4.toInt) = 0 ∧ gr70 (x4.toInt) = 0) (hr5_3_6 : 16 < x4.toInt → gr1 (x4.toInt) = 1 ∧ gr70 (x4.toInt) = 70) (sbb11 : sbL P6 k0 = oL P6 b11) (lbb11 : (oL P6 b11 = 16 ∨ oL P6 b11 = 34 ∨ oL P6 b11 = 70)) (cbb11 : (oI P6 25 k0).toInt ≤ ((oL P6 b11 : Nat) : Int)) (nbb11 : 0 ≤ (oI P6 25 k0).toInt) (kl14 : oL P13 b1 = oL P6 b1) (kl15 : oL P13 b11 = oL P6 b11) (hr12_3 : SBS P6 P13) (ak17 : (oI P13 25 k0).toInt = (oI P6 25 k0).toInt) (bk17 : sbL P13 k0 = sbL P6 k0) (sbb18 : sbL P13 k0 = oL P13 b18) (lbb18 : (oL P13 b18 = 16 ∨ oL P13 b18 = 34 ∨ oL P13 b18 = 70)) (cbb18 : (oI P13 25 k0).toInt ≤ ((oL P13 b18 : Nat) : Int)) (nbb18 : 0 ≤ (oI P13 25 k0).toInt) (af20 : (oI (sI P13 25 k0 x4) 25 k0).toInt = x4.toInt) (bf20 : sbL (sI P13 25 k0 x4) k0 = oL P13 b18) : (oI κ.2.2.2.2 25 k0).toInt < (oI (sI P13 25 k0 x4) 25 k0).toInt ∧ (oI (sI P13 25 k0 x4) 25 k0).toInt ≤ (oI κ.2.2.2.2 25 k0).toInt + 11 := by
  have zd0 := dg_spec (Int.natAbs k1.toInt)
  have zn0 := ngd_spec k1.toInt
  refine ⟨?_, ?_⟩ <;> first | assumption | omega | (subst_vars; omega) | trivial
-- post2 @54
theorem vJ5_append_c97b9_12 (sa : Nat → Nat) (κ : KS) (k0 : Nat) (k1 : Int32) (b1 : Nat) (x2 : Int32) (r3 : Int32) (x4 : Int32) (P6 : PL) (b11 : Nat) (P13 : PL) (b18 : Nat) (ht0 : oT κ.2.2.2.2 k0 = 12) (hPV : PV sa κ.2.2.2.2) (hpre : (oI κ.2.2.2.2 25 k0).toInt ≤ 1) (sbb1 : sbL κ.2.2.2.2 k0 = oL κ.2.2.2.2 b1) (lbb1 : (oL κ.2.2.2.2 b1 = 16 ∨ oL κ.2.2.2.2 b1 = 34 ∨ oL κ.2.2.2.2 b1 = 70)) (cbb1 : (oI κ.2.2.2.2 25 k0).toInt ≤ ((oL κ.2.2.2.2 b1 : Nat) : Int)) (nbb1 : 0 ≤ (oI κ.2.2.2.2 25 k0).toInt) (nsb1 : NS κ.2.2.2.2 b1) (ebb1 : oR κ.2.2.2.2 12 k0 = some b1) (tbb1 : oT κ.2.2.2.2 b1 = 8) (tx2 : (oI κ.2.2.2.2 25 k0).toInt = x2.toInt) (hr3 : r3.toInt = (((sb_dg (Int.natAbs k1.toInt) + ngd k1.toInt) : Nat) : Int)) (ex4 : x4 = x2 + r3) (tx4 : x4.toInt = x2.toInt + r3.toInt) (kl7 : oL P6 b1 = oL κ.2.2.2.2 b1) (hr5_0 : EX κ.2.2.2.2 P6) (hr5_2 : KPx True κ.2.2.2.2 P6) (hr5y : ∀ s9 : List Int, SBP κ.2.2.2.2 k0 s9 → (s9.length : Int) ≤ (oI κ.2.2.2.2 25 k0).toInt → SBP P6 k0 s9) (hr5_3_0 : (oI P6 25 k0).toInt = (oI κ.2.2.2.2 25 k0).toInt) (hr5_3_1 : x4.toInt ≤ ((sbL P6 k0 : Nat) : Int)) (hr5_3_2 : ((sbL κ.2.2.2.2 k0 : Nat) : Int) ≤ ((sbL P6 k0 : Nat) : Int)) (hr5_3_3 : gr1 (x4.toInt) ≤ 1) (hr5_3_4 : gr70 (x4.toInt) ≤ 70) (hr5_3_5 : x4.toInt ≤ 16 → gr1 (x4.toInt) = 0 ∧ gr70 (x4.toInt) = 0) (hr5_3_6 : 16 < x4.toInt → gr1 (x4.toInt) = 1 ∧ gr70 (x4.toInt) = 70) (sbb11 : sbL P6 k0 = oL P6 b11) (lbb11 : (oL P6 b11 = 16 ∨ oL P6 b11 = 34 ∨ oL P6 b11 = 70)) (cbb11 : (oI P6 25 k0).toInt ≤ ((oL P6 b11 : Nat) : Int)) (nbb11 : 0 ≤ (oI P6 25 k0).toInt) (nsb11 : NS P6 b11) (ebb11 : oR P6 12 k0 = some b11) (tbb11 : oT P6 b11 = 8) (kl14 : oL P13 b1 = oL P6 b1) (kl15 : oL P13 b11 = oL P6 b11) (hr12_0 : EX P6 P13) (hr12_2 : KPx True P6 P13) (hr12_3 : SBS P6 P13) (ak17 : (oI P13 25 k0).toInt = (oI P6 25 k0).toInt) (bk17 : sbL P13 k0 = sbL P6 k0) (hr12y : ∀ s9 : List Int, PFX P6 b11 s9 → x4.toInt = (s9.length : Int) + ((qDec k1.toInt).length : Int) → PFX P13 b11 (s9 ++ qDec k1.toInt)) (sbb18 : sbL P13 k0 = oL P13 b18) (lbb18 : (oL P13 b18 = 16 ∨ oL P13 b18 = 34 ∨ oL P13 b18 = 70)) (cbb18 : (oI P13 25 k0).toInt ≤ ((oL P13 b18 : Nat) : Int)) (nbb18 : 0 ≤ (oI P13 25 k0).toInt) (nsb18 : NS P13 b18) (ebb18 : oR P13 12 k0 = some b18) (tbb18 : oT P13 b18 = 8) (exz19 : EX P13 (sI P13 25 k0 x4)) (af20 : (oI (sI P13 25 k0 x4) 25 k0).toInt = x4.toInt) (bf20 : sbL (sI P13 25 k0 x4) k0 = oL P13 b18) : ∀ s9 : List Int, SBX κ.2.2.2.2 k0 s9 → SBX (sI P13 25 k0 x4) k0 (s9 ++ qDec k1.toInt) := by
  have zd0 := dg_spec (Int.natAbs k1.toInt)
  have zn0 := ngd_spec k1.toInt
  intro s9 h
  obtain ⟨h1, h2⟩ := h
  obtain ⟨b, e1, e2⟩ := hr5y s9 h2 (by omega)
  rw [ebb11] at e1
  obtain rfl := Option.some.inj e1
  have ql := qDec_len9 (v := k1.toInt) (by have := Int32.le_toInt k1; have := Int32.toInt_lt k1; omega)
  have z := hr12y s9 e2 (by omega)
  refine ⟨?_, b11, ((hr12_3 k0 ((hr5_0).T ht0 (by decide))).2).trans ebb11, z⟩
  rw [List.length_append]
  omega
-- grow @54
theorem vJ5_append_c97b9_13 (κ : KS) (k0 : Nat) (k1 : Int32) (b1 : Nat) (x2 : Int32) (r3 : Int32) (x4 : Int32) (P6 : PL) (b11 : Nat) (P13 : PL) (b18 : Nat) (hpre : (oI κ.2.2.2.2 25 k0).toInt ≤ 1) (sbb1 : sbL κ.2.2.2.2 k0 = oL κ.2.2.2.2 b1) (cbb1 : (oI κ.2.2.2.2 25 k0).toInt ≤ ((oL κ.2.2.2.2 b1 : Nat) : Int)) (nbb1 : 0 ≤ (oI κ.2.2.2.2 25 k0).toInt) (tx2 : (oI κ.2.2.2.2 25 k0).toInt = x2.toInt) (hr3 : r3.toInt = (((sb_dg (Int.natAbs k1.toInt) + ngd k1.toInt) : Nat) : Int)) (ex4 : x4 = x2 + r3) (tx4 : x4.toInt = x2.toInt + r3.toInt) (kl7 : oL P6 b1 = oL κ.2.2.2.2 b1) (hr5_3_0 : (oI P6 25 k0).toInt = (oI κ.2.2.2.2 25 k0).toInt) (hr5_3_1 : x4.toInt ≤ ((sbL P6 k0 : Nat) : Int)) (hr5_3_2 : ((sbL κ.2.2.2.2 k0 : Nat) : Int) ≤ ((sbL P6 k0 : Nat) : Int)) (hr5_3_3 : gr1 (x4.toInt) ≤ 1) (hr5_3_4 : gr70 (x4.toInt) ≤ 70) (hr5_3_5 : x4.toInt ≤ 16 → gr1 (x4.toInt) = 0 ∧ gr70 (x4.toInt) = 0) (hr5_3_6 : 16 < x4.toInt → gr1 (x4.toInt) = 1 ∧ gr70 (x4.toInt) = 70) (sbb11 : sbL P6 k0 = oL P6 b11) (lbb11 : (oL P6 b11 = 16 ∨ oL P6 b11 = 34 ∨ oL P6 b11 = 70)) (cbb11 : (oI P6 25 k0).toInt ≤ ((oL P6 b11 : Nat) : Int)) (nbb11 : 0 ≤ (oI P6 25 k0).toInt) (kl14 : oL P13 b1 = oL P6 b1) (kl15 : oL P13 b11 = oL P6 b11) (hr12_3 : SBS P6 P13) (ak17 : (oI P13 25 k0).toInt = (oI P6 25 k0).toInt) (bk17 : sbL P13 k0 = sbL P6 k0) (sbb18 : sbL P13 k0 = oL P13 b18) (lbb18 : (oL P13 b18 = 16 ∨ oL P13 b18 = 34 ∨ oL P13 b18 = 70)) (cbb18 : (oI P13 25 k0).toInt ≤ ((oL P13 b18 : Nat) : Int)) (nbb18 : 0 ≤ (oI P13 25 k0).toInt) (af20 : (oI (sI P13 25 k0 x4) 25 k0).toInt = x4.toInt) (bf20 : sbL (sI P13 25 k0 x4) k0 = oL P13 b18) : 0 + 0 + (gr1 (x4.toInt)) + 0 + 0 ≤ 0 := by
  have zg0 := gr_spec (x4.toInt)
  have zd0 := dg_spec (Int.natAbs k1.toInt)
  have zn0 := ngd_spec k1.toInt
  first | assumption | omega | (subst_vars; omega) | trivial
-- grow @54
theorem vJ5_append_c97b9_14 (κ : KS) (k0 : Nat) (k1 : Int32) (b1 : Nat) (x2 : Int32) (r3 : Int32) (x4 : Int32) (P6 : PL) (b11 : Nat) (P13 : PL) (b18 : Nat) (hpre : (oI κ.2.2.2.2 25 k0).toInt ≤ 1) (sbb1 : sbL κ.2.2.2.2 k0 = oL κ.2.2.2.2 b1) (cbb1 : (oI κ.2.2.2.2 25 k0).toInt ≤ ((oL κ.2.2.2.2 b1 : Nat) : Int)) (nbb1 : 0 ≤ (oI κ.2.2.2.2 25 k0).toInt) (tx2 : (oI κ.2.2.2.2 25 k0).toInt = x2.toInt) (hr3 : r3.toInt = (((sb_dg (Int.natAbs k1.toInt) + ngd k1.toInt) : Nat) : Int)) (ex4 : x4 = x2 + r3) (tx4 : x4.toInt = x2.toInt + r3.toInt) (kl7 : oL P6 b1 = oL κ.2.2.2.2 b1) (hr5_3_0 : (oI P6 25 k0).toInt = (oI κ.2.2.2.2 25 k0).toInt) (hr5_3_1 : x4.toInt ≤ ((sbL P6 k0 : Nat) : Int)) (hr5_3_2 : ((sbL κ.2.2.2.2 k0 : Nat) : Int) ≤ ((sbL P6 k0 : Nat) : Int)) (hr5_3_3 : gr1 (x4.toInt) ≤ 1) (hr5_3_4 : gr70 (x4.toInt) ≤ 70) (hr5_3_5 : x4.toInt ≤ 16 → gr1 (x4.toInt) = 0 ∧ gr70 (x4.toInt) = 0) (hr5_3_6 : 16 < x4.toInt → gr1 (x4.toInt) = 1 ∧ gr70 (x4.toInt) = 70) (sbb11 : sbL P6 k0 = oL P6 b11) (lbb11 : (oL P6 b11 = 16 ∨ oL P6 b11 = 34 ∨ oL P6 b11 = 70)) (cbb11 : (oI P6 25 k0).toInt ≤ ((oL P6 b11 : Nat) : Int)) (nbb11 : 0 ≤ (oI P6 25 k0).toInt) (kl14 : oL P13 b1 = oL P6 b1) (kl15 : oL P13 b11 = oL P6 b11) (hr12_3 : SBS P6 P13) (ak17 : (oI P13 25 k0).toInt = (oI P6 25 k0).toInt) (bk17 : sbL P13 k0 = sbL P6 k0) (sbb18 : sbL P13 k0 = oL P13 b18) (lbb18 : (oL P13 b18 = 16 ∨ oL P13 b18 = 34 ∨ oL P13 b18 = 70)) (cbb18 : (oI P13 25 k0).toInt ≤ ((oL P13 b18 : Nat) : Int)) (nbb18 : 0 ≤ (oI P13 25 k0).toInt) (af20 : (oI (sI P13 25 k0 x4) 25 k0).toInt = x4.toInt) (bf20 : sbL (sI P13 25 k0 x4) k0 = oL P13 b18) : 0 + 0 + (gr70 (x4.toInt)) + 0 + 0 ≤ 0 := by
  have zg0 := gr_spec (x4.toInt)
  have zd0 := dg_spec (Int.natAbs k1.toInt)
  have zn0 := ngd_spec k1.toInt
  first | assumption | omega | (subst_vars; omega) | trivial
set_option maxHeartbeats 4000000 in
set_option maxRecDepth 100000 in
theorem NJ5_append_c97b9 (l : Launch) (D : va_G) (cy : Nat → ClassId) (ad : Nat → Nat) (A : Nat → Prop) (sz0 : Nat) (sa : Nat → Nat)  (κ : KS) (sz sl : Nat) (hAF : ∀ q, A q → Fr sz0 q) (hAn : ∀ q : Nat, sz ≤ q → A q) (k0 : Nat) (k1 : Int32) (ht0 : oT κ.2.2.2.2 k0 = 12) (hPV : PV sa κ.2.2.2.2) (hpre : (oI κ.2.2.2.2 25 k0).toInt ≤ 1) : Met l yJ5_append_c97b9 (Cond.code yJ5_append_c97b9 cJ5_append_c97b9 4 (some (.object "java/lang/AbstractStringBuilder")) :: GWc) ({ frames := 4, cells := 0, slots := 0, locals := 100 }) (PcC D cy ad A sz0 sa [.ref k0, .int k1] κ sz sl) (va_Qq (fun (r : Option Nat) (u : PL) => ((EX κ.2.2.2.2 u) ∧ (PV sa u) ∧ (KPx True κ.2.2.2.2 u) ∧ (NN u 12 r) ∧ ((oI κ.2.2.2.2 25 k0).toInt < (oI u 25 k0).toInt ∧ (oI u 25 k0).toInt ≤ (oI κ.2.2.2.2 25 k0).toInt + 11)) ∧ (∀ s9 : List Int, SBX κ.2.2.2.2 k0 s9 → SBX u k0 (s9 ++ qDec k1.toInt))) (fun (u : PL) (t : State) => Bx D cy ad A sz sl (tP κ u) (0) (0) t) A) (0) (0) A := by
  refine CM_of (loc0 := [(0, .ref k0), (1, .int k1)]) (own := RJ5) (nm := "append") (by decide) rfl rfl rfl (Nat.le_of_ble_eq_true rfl) hAF hAn ?_
  intro p e s m below meth c ls hsz hsl C hP hS hl
  refine lv_aload_n C.x C.b dJ5_append_c97b9_0 rfl (lv_at hl 0 rfl) ?_
  obtain ⟨b1, ebb1, tbb1, sbb1, lbb1, cbb1, nbb1, zbb1⟩ : ∃ b, oR κ.2.2.2.2 12 k0 = some b ∧ oT κ.2.2.2.2 b = 8 ∧ sbL κ.2.2.2.2 k0 = oL κ.2.2.2.2 b ∧ (oL κ.2.2.2.2 b = 16 ∨ oL κ.2.2.2.2 b = 34 ∨ oL κ.2.2.2.2 b = 70) ∧ (oI κ.2.2.2.2 25 k0).toInt ≤ ((oL κ.2.2.2.2 b : Nat) : Int) ∧ 0 ≤ (oI κ.2.2.2.2 25 k0).toInt ∧ oI κ.2.2.2.2 23 k0 = 0 := hPV.sb ht0
  have nsb1 : NS κ.2.2.2.2 b1 := hPV.ns ht0 (show oR κ.2.2.2.2 12 k0 = some b1 from ebb1)
  obtain ⟨x2, ex2⟩ : ∃ z, oI κ.2.2.2.2 25 k0 = z := ⟨_, rfl⟩
  have tx2 : (oI κ.2.2.2.2 25 k0).toInt = x2.toInt := by rw [ex2]
  refine pg_J4_3 (v := x2) C hP (t20 (a := k0) (t := 12) ht0) ex2 cw_157 dJ5_append_c97b9_1 ?_
  refine lv_istore_n (lv' := [(2, .int x2), (0, .ref k0), (1, .int k1)]) C.x C.b dJ5_append_c97b9_4 rfl hl (by decide) rfl (fun ls hl => ?_)
  refine lv_iload_n C.x C.b dJ5_append_c97b9_5 rfl (lv_at hl 0 rfl) ?_
  refine lv_iload_n C.x C.b dJ5_append_c97b9_6 rfl (lv_at hl 2 rfl) ?_
  refine c_callSi (C2 := "") (b := 0) (n := 1) (As := [.int k1]) (rest := [.int x2]) C hP hS hl.1 (NJ6_stringSize_0f7a4 l D cy ad A sz0 sa κ s.heap.size (SLT s.heap) C.f (fun q h => C.a q (Nat.le_trans hS.1 h)) k1 hPV) ⟨cw_263, cw_266, by decide +kernel⟩ ⟨cw_264, cw_265⟩ rfl rfl (lv_room (Nat.le_of_ble_eq_true rfl)) ⟨Nat.le_of_ble_eq_true rfl, Nat.le_of_ble_eq_true rfl⟩ ⟨(Nat.le_of_ble_eq_true rfl), (Nat.le_of_ble_eq_true rfl)⟩ dJ5_append_c97b9_7 (fun r3 u H locs hr3 hP hS => ?_)
  have hr3 : (r3.toInt = (((sb_dg (Int.natAbs k1.toInt) + ngd k1.toInt) : Nat) : Int)) := hr3
  refine lv_iadd C.x C.b dJ5_append_c97b9_10 ?_
  refine lv_topi (fun x4 ex4 => ?_)
  have tx4 : x4.toInt = x2.toInt + r3.toInt := (vJ5_append_c97b9_1 κ k0 k1 b1 x2 r3 x4 hpre sbb1 lbb1 cbb1 nbb1 tx2 hr3 ex4)
  refine lv_istore_n (lv' := [(3, .int x4), (2, .int x2), (0, .ref k0), (1, .int k1)]) C.x C.b dJ5_append_c97b9_11 rfl hl (by decide) rfl (fun ls hl => ?_)
  refine lv_aload_n C.x C.b dJ5_append_c97b9_12 rfl (lv_at hl 2 rfl) ?_
  refine lv_iload_n C.x C.b dJ5_append_c97b9_13 rfl (lv_at hl 0 rfl) ?_
  refine c_callUv (owner := "java/lang/AbstractStringBuilder") (n := 1) (As := [.int x4]) (rest := []) C hP hS hl.1 (NJ5_ensureCapacityInternal_d00df l D cy ad A sz0 sa κ H.size (SLT H) C.f (fun q h => C.a q (Nat.le_trans hS.1 h)) k0 x4 ht0 hPV (vJ5_append_c97b9_2 κ k0 k1 b1 x2 r3 x4 hpre sbb1 lbb1 cbb1 nbb1 tx2 hr3 ex4 tx4)) ⟨cw_159, cw_163, by decide +kernel⟩ ⟨cw_160, cw_161, cw_162, cw_15⟩ rfl (hP.recvP (t := 12) (ci := 1) C.K (t20 (a := k0) (t := 12) ht0) (by decide) rfl rfl) rfl rfl (lv_room (Nat.le_of_ble_eq_true rfl)) ⟨Nat.le_of_ble_eq_true rfl, Nat.le_of_ble_eq_true rfl⟩ ⟨(vJ5_append_c97b9_3 κ k0 k1 b1 x2 r3 x4 hpre sbb1 cbb1 nbb1 tx2 hr3 ex4 tx4), (vJ5_append_c97b9_4 κ k0 k1 b1 x2 r3 x4 hpre sbb1 cbb1 nbb1 tx2 hr3 ex4 tx4)⟩ dJ5_append_c97b9_14 (fun u H locs hr5 hP hS => ?_)
  obtain ⟨P6, rfl⟩ : ∃ z, z = u := ⟨_, rfl⟩
  have hP : CH D cy ad A (tP κ P6) H := hP
  obtain ⟨hr5, hr5y⟩ := hr5
  have hr5y : ∀ s9 : List Int, SBP κ.2.2.2.2 k0 s9 → (s9.length : Int) ≤ (oI κ.2.2.2.2 25 k0).toInt → SBP P6 k0 s9 := hr5y
  have hr5 : (EX κ.2.2.2.2 P6) ∧ (PV sa P6) ∧ (KPx True κ.2.2.2.2 P6) ∧ ((oI P6 25 k0).toInt = (oI κ.2.2.2.2 25 k0).toInt ∧ x4.toInt ≤ ((sbL P6 k0 : Nat) : Int) ∧ ((sbL κ.2.2.2.2 k0 : Nat) : Int) ≤ ((sbL P6 k0 : Nat) : Int) ∧ (gr1 (x4.toInt) ≤ 1 ∧ gr70 (x4.toInt) ≤ 70 ∧ (x4.toInt ≤ 16 → gr1 (x4.toInt) = 0 ∧ gr70 (x4.toInt) = 0) ∧ (16 < x4.toInt → gr1 (x4.toInt) = 1 ∧ gr70 (x4.toInt) = 70))) := hr5
  obtain ⟨hr5_0, hr5_1, hr5_2, hr5_3⟩ := hr5
  have kl7 : oL P6 b1 = oL κ.2.2.2.2 b1 := hr5_0.L tbb1 (by decide)
  have kpz8 : KPx True κ.2.2.2.2 P6 := KPx.rf.trans hr5_2
  obtain ⟨hr5_3_0, hr5_3_1, hr5_3_2, ⟨hr5_3_3, hr5_3_4, hr5_3_5, hr5_3_6⟩⟩ := hr5_3
  refine lv_aload_n C.x C.b dJ5_append_c97b9_17 rfl (lv_at hl 2 rfl) ?_
  refine c_callUi (owner := "java/lang/AbstractStringBuilder") (n := 0) (As := []) (rest := []) C hP hS hl.1 (NJ5_isLatin1_aae02 l D cy ad A sz0 sa (tP κ P6) H.size (SLT H) C.f (fun q h => C.a q (Nat.le_trans hS.1 h)) k0 (hr5_0.T ht0 (by decide)) hr5_1) ⟨cw_199, cw_203, by decide +kernel⟩ ⟨cw_200, cw_201, cw_202, cw_15⟩ rfl (hP.recvP (t := 12) (ci := 1) C.K (t20 (a := k0) (t := 12) (hr5_0.T ht0 (by decide))) (by decide) rfl rfl) rfl rfl (lv_room (Nat.le_of_ble_eq_true rfl)) ⟨Nat.le_of_ble_eq_true rfl, Nat.le_of_ble_eq_true rfl⟩ ⟨(vJ5_append_c97b9_5 κ k0 k1 b1 x2 r3 x4 P6 hpre sbb1 cbb1 nbb1 tx2 hr3 ex4 tx4 kl7 hr5_3_0 hr5_3_1 hr5_3_2 hr5_3_3 hr5_3_4 hr5_3_5 hr5_3_6), (vJ5_append_c97b9_6 κ k0 k1 b1 x2 r3 x4 P6 hpre sbb1 cbb1 nbb1 tx2 hr3 ex4 tx4 kl7 hr5_3_0 hr5_3_1 hr5_3_2 hr5_3_3 hr5_3_4 hr5_3_5 hr5_3_6)⟩ dJ5_append_c97b9_18 (fun r9 u H locs hr9 hP hS => ?_)
  have hr9 : (r9 = (1 : Int32)) := hr9
  subst hr9
  refine lv_if_eq (tgt := 37) C.x C.b dJ5_append_c97b9_21 (by decide) (fun c10 => absurd c10 (by decide +kernel)) (fun _ => ?_)
  refine lv_iload_n C.x C.b dJ5_append_c97b9_24 rfl (lv_at hl 3 rfl) ?_
  refine lv_iload_n C.x C.b dJ5_append_c97b9_25 rfl (lv_at hl 0 rfl) ?_
  refine lv_aload_n C.x C.b dJ5_append_c97b9_26 rfl (lv_at hl 2 rfl) ?_
  obtain ⟨b11, ebb11, tbb11, sbb11, lbb11, cbb11, nbb11, zbb11⟩ : ∃ b, oR P6 12 k0 = some b ∧ oT P6 b = 8 ∧ sbL P6 k0 = oL P6 b ∧ (oL P6 b = 16 ∨ oL P6 b = 34 ∨ oL P6 b = 70) ∧ (oI P6 25 k0).toInt ≤ ((oL P6 b : Nat) : Int) ∧ 0 ≤ (oI P6 25 k0).toInt ∧ oI P6 23 k0 = 0 := hr5_1.sb (hr5_0.T ht0 (by decide))
  have nsb11 : NS P6 b11 := hr5_1.ns (hr5_0.T ht0 (by decide)) (show oR P6 12 k0 = some b11 from ebb11)
  refine pg_J4_0 (v := some b11) C hP (t20 (a := k0) (t := 12) (hr5_0.T ht0 (by decide))) ebb11 cw_20 dJ5_append_c97b9_27 ?_
  refine c_callSi (C2 := "") (b := 0) (n := 3) (As := [.int k1, .int x4, .ref b11]) (rest := []) C hP hS hl.1 (NJ6_getChars_ba4f3 l D cy ad A sz0 sa (tP κ P6) H.size (SLT H) C.f (fun q h => C.a q (Nat.le_trans hS.1 h)) k1 x4 b11 tbb11 hr5_1 (have z9 : (((sb_dg (Int.natAbs k1.toInt) + ngd k1.toInt) : Nat) : Int) ≤ x4.toInt ∧ x4.toInt ≤ ((oL P6 b11 : Nat) : Int) := (vJ5_append_c97b9_7 κ k0 k1 b1 x2 r3 x4 P6 b11 hpre sbb1 lbb1 cbb1 nbb1 tx2 hr3 ex4 tx4 kl7 hr5_3_0 hr5_3_1 hr5_3_2 hr5_3_3 hr5_3_4 hr5_3_5 hr5_3_6 sbb11 lbb11 cbb11 nbb11); ⟨z9.1, z9.2, (show NS P6 b11 from nsb11)⟩)) ⟨cw_267, cw_269, by decide +kernel⟩ ⟨cw_268, cw_265⟩ rfl rfl (lv_room (Nat.le_of_ble_eq_true rfl)) ⟨Nat.le_of_ble_eq_true rfl, Nat.le_of_ble_eq_true rfl⟩ ⟨(vJ5_append_c97b9_8 κ k0 k1 b1 x2 r3 x4 P6 b11 hpre sbb1 cbb1 nbb1 tx2 hr3 ex4 tx4 kl7 hr5_3_0 hr5_3_1 hr5_3_2 hr5_3_3 hr5_3_4 hr5_3_5 hr5_3_6 sbb11 lbb11 cbb11 nbb11), (vJ5_append_c97b9_9 κ k0 k1 b1 x2 r3 x4 P6 b11 hpre sbb1 cbb1 nbb1 tx2 hr3 ex4 tx4 kl7 hr5_3_0 hr5_3_1 hr5_3_2 hr5_3_3 hr5_3_4 hr5_3_5 hr5_3_6 sbb11 lbb11 cbb11 nbb11)⟩ dJ5_append_c97b9_30 (fun r12 u H locs hr12 hP hS => ?_)
  obtain ⟨P13, rfl⟩ : ∃ z, z = u := ⟨_, rfl⟩
  have hP : CH D cy ad A (tP (tP κ P6) P13) H := hP
  obtain ⟨hr12, hr12y⟩ := hr12
  have hr12y : ∀ s9 : List Int, PFX P6 b11 s9 → x4.toInt = (s9.length : Int) + ((qDec k1.toInt).length : Int) → PFX P13 b11 (s9 ++ qDec k1.toInt) := hr12y
  have hr12 : (EX P6 P13) ∧ (PV sa P13) ∧ (KPx True P6 P13) ∧ (SBS P6 P13) := hr12
  obtain ⟨hr12_0, hr12_1, hr12_2, hr12_3⟩ := hr12
  have kl14 : oL P13 b1 = oL P6 b1 := hr12_0.L (hr5_0.T tbb1 (by decide)) (by decide)
  have kl15 : oL P13 b11 = oL P6 b11 := hr12_0.L tbb11 (by decide)
  have kpz16 : KPx True κ.2.2.2.2 P13 := kpz8.trans hr12_2
  have ak17 : (oI P13 25 k0).toInt = (oI P6 25 k0).toInt := hr12_3.cnt (hr5_0.T ht0 (by decide))
  have bk17 : sbL P13 k0 = sbL P6 k0 := hr12_3.len (hr5_0.T ht0 (by decide)) hr12_0 hr5_1
  refine lv_pop C.x C.b dJ5_append_c97b9_33 rfl ?_
  refine lv_goto (tgt := 48) C.x C.b dJ5_append_c97b9_34 (by decide) ?_
  refine lv_aload_n C.x C.b dJ5_append_c97b9_48 rfl (lv_at hl 2 rfl) ?_
  refine lv_iload_n C.x C.b dJ5_append_c97b9_49 rfl (lv_at hl 0 rfl) ?_
  refine pp_J4_3 C hP hS (t20 (a := k0) (t := 12) (hr12_0.T (hr5_0.T ht0 (by decide)) (by decide))) cw_157 dJ5_append_c97b9_50 (fun H locs hP hS => ?_)
  obtain ⟨b18, ebb18, tbb18, sbb18, lbb18, cbb18, nbb18, zbb18⟩ : ∃ b, oR P13 12 k0 = some b ∧ oT P13 b = 8 ∧ sbL P13 k0 = oL P13 b ∧ (oL P13 b = 16 ∨ oL P13 b = 34 ∨ oL P13 b = 70) ∧ (oI P13 25 k0).toInt ≤ ((oL P13 b : Nat) : Int) ∧ 0 ≤ (oI P13 25 k0).toInt ∧ oI P13 23 k0 = 0 := hr12_1.sb (hr12_0.T (hr5_0.T ht0 (by decide)) (by decide))
  have nsb18 : NS P13 b18 := hr12_1.ns (hr12_0.T (hr5_0.T ht0 (by decide)) (by decide)) (show oR P13 12 k0 = some b18 from ebb18)
  have exz19 : EX P13 (sI P13 25 k0 x4) := (EX.stV (Or.inr rfl))
  have kpz19 : KPx True κ.2.2.2.2 (sI P13 25 k0 x4) := kpz16.sI9 (by decide)
  have pvz19 : PV sa (sI P13 25 k0 x4) := (hr12_1.st25 (hr12_0.T (hr5_0.T ht0 (by decide)) (by decide)) (vJ5_append_c97b9_10 κ k0 k1 b1 x2 r3 x4 P6 b11 P13 b18 hpre sbb1 lbb1 cbb1 nbb1 tx2 hr3 ex4 tx4 kl7 hr5_3_0 hr5_3_1 hr5_3_2 hr5_3_3 hr5_3_4 hr5_3_5 hr5_3_6 sbb11 lbb11 cbb11 nbb11 kl14 kl15 hr12_3 ak17 bk17 sbb18 lbb18 cbb18 nbb18))
  have af20 : (oI (sI P13 25 k0 x4) 25 k0).toInt = x4.toInt := congrArg Int32.toInt sI_eq
  have bf20 : sbL (sI P13 25 k0 x4) k0 = oL P13 b18 := sbb18
  refine lv_aload_n C.x C.b dJ5_append_c97b9_53 rfl (lv_at hl 2 rfl) ?_
  have hP : CH D cy ad A (tP κ (sI P13 25 k0 x4)) H := CH.cong hP rfl rfl rfl rfl rfl rfl rfl rfl rfl rfl rfl rfl rfl rfl rfl rfl rfl rfl rfl rfl rfl rfl rfl rfl rfl rfl rfl
  exact c_retq (v := (some k0)) (Or.inl ⟨_, rfl⟩) C hsz hsl (sI P13 25 k0 x4) ⟨⟨((hr5_0.trans hr12_0).trans exz19), pvz19, kpz19, ⟨k0, rfl, (exz19.T (hr12_0.T (hr5_0.T ht0 (by decide)) (by decide)) (by decide))⟩, (vJ5_append_c97b9_11 κ k0 k1 b1 x2 r3 x4 P6 b11 P13 b18 hpre sbb1 lbb1 cbb1 nbb1 tx2 hr3 ex4 tx4 kl7 hr5_3_0 hr5_3_1 hr5_3_2 hr5_3_3 hr5_3_4 hr5_3_5 hr5_3_6 sbb11 lbb11 cbb11 nbb11 kl14 kl15 hr12_3 ak17 bk17 sbb18 lbb18 cbb18 nbb18 af20 bf20)⟩, (vJ5_append_c97b9_12 sa κ k0 k1 b1 x2 r3 x4 P6 b11 P13 b18 ht0 hPV hpre sbb1 lbb1 cbb1 nbb1 nsb1 ebb1 tbb1 tx2 hr3 ex4 tx4 kl7 hr5_0 hr5_2 hr5y hr5_3_0 hr5_3_1 hr5_3_2 hr5_3_3 hr5_3_4 hr5_3_5 hr5_3_6 sbb11 lbb11 cbb11 nbb11 nsb11 ebb11 tbb11 kl14 kl15 hr12_0 hr12_2 hr12_3 ak17 bk17 hr12y sbb18 lbb18 cbb18 nbb18 nsb18 ebb18 tbb18 exz19 af20 bf20)⟩ hP hS ⟨(vJ5_append_c97b9_13 κ k0 k1 b1 x2 r3 x4 P6 b11 P13 b18 hpre sbb1 cbb1 nbb1 tx2 hr3 ex4 tx4 kl7 hr5_3_0 hr5_3_1 hr5_3_2 hr5_3_3 hr5_3_4 hr5_3_5 hr5_3_6 sbb11 lbb11 cbb11 nbb11 kl14 kl15 hr12_3 ak17 bk17 sbb18 lbb18 cbb18 nbb18 af20 bf20), (vJ5_append_c97b9_14 κ k0 k1 b1 x2 r3 x4 P6 b11 P13 b18 hpre sbb1 cbb1 nbb1 tx2 hr3 ex4 tx4 kl7 hr5_3_0 hr5_3_1 hr5_3_2 hr5_3_3 hr5_3_4 hr5_3_5 hr5_3_6 sbb11 lbb11 cbb11 nbb11 kl14 kl15 hr12_3 ak17 bk17 sbb18 lbb18 cbb18 nbb18 af20 bf20)⟩ ⟨(Nat.le_of_ble_eq_true rfl), (Nat.le_of_ble_eq_true rfl)⟩ dJ5_append_c97b9_54

-- pre:J5_append_c97b9@2 @2
theorem vJ4_append_bf812_1 (κ : KS) (k0 : Nat) (hpre : (oI κ.2.2.2.2 25 k0).toInt ≤ 1) : (oI κ.2.2.2.2 25 k0).toInt ≤ 1 := by
  first | assumption | omega | (subst_vars; omega) | trivial
-- post @7
theorem vJ4_append_bf812_2 (κ : KS) (k0 : Nat) (P2 : PL) (hpre : (oI κ.2.2.2.2 25 k0).toInt ≤ 1) (hr1_4_0 : (oI κ.2.2.2.2 25 k0).toInt < (oI P2 25 k0).toInt) (hr1_4_1 : (oI P2 25 k0).toInt ≤ (oI κ.2.2.2.2 25 k0).toInt + 11) : (oI κ.2.2.2.2 25 k0).toInt < (oI P2 25 k0).toInt ∧ (oI P2 25 k0).toInt ≤ (oI κ.2.2.2.2 25 k0).toInt + 11 := by
  refine ⟨?_, ?_⟩ <;> first | assumption | omega | (subst_vars; omega) | trivial
-- post2 @7
theorem vJ4_append_bf812_3 (sa : Nat → Nat) (κ : KS) (k0 : Nat) (k1 : Int32) (P2 : PL) (ht0 : oT κ.2.2.2.2 k0 = 12) (hPV : PV sa κ.2.2.2.2) (hpre : (oI κ.2.2.2.2 25 k0).toInt ≤ 1) (hr1_0 : EX κ.2.2.2.2 P2) (hr1_2 : KPx True κ.2.2.2.2 P2) (hr1y : ∀ s9 : List Int, SBX κ.2.2.2.2 k0 s9 → SBX P2 k0 (s9 ++ qDec k1.toInt)) (hr1_4_0 : (oI κ.2.2.2.2 25 k0).toInt < (oI P2 25 k0).toInt) (hr1_4_1 : (oI P2 25 k0).toInt ≤ (oI κ.2.2.2.2 25 k0).toInt + 11) : ∀ s9 : List Int, SBX κ.2.2.2.2 k0 s9 → SBX P2 k0 (s9 ++ qDec k1.toInt) := by
  exact hr1y
set_option maxHeartbeats 4000000 in
set_option maxRecDepth 100000 in
theorem NJ4_append_bf812 (l : Launch) (D : va_G) (cy : Nat → ClassId) (ad : Nat → Nat) (A : Nat → Prop) (sz0 : Nat) (sa : Nat → Nat)  (κ : KS) (sz sl : Nat) (hAF : ∀ q, A q → Fr sz0 q) (hAn : ∀ q : Nat, sz ≤ q → A q) (k0 : Nat) (k1 : Int32) (ht0 : oT κ.2.2.2.2 k0 = 12) (hPV : PV sa κ.2.2.2.2) (hpre : (oI κ.2.2.2.2 25 k0).toInt ≤ 1) : Met l yJ4_append_bf812 (Cond.code yJ4_append_bf812 cJ4_append_bf812 2 (some (.object "java/lang/StringBuilder")) :: GWc) ({ frames := 5, cells := 0, slots := 0, locals := 123 }) (PcC D cy ad A sz0 sa [.ref k0, .int k1] κ sz sl) (va_Qq (fun (r : Option Nat) (u : PL) => ((EX κ.2.2.2.2 u) ∧ (PV sa u) ∧ (KPx True κ.2.2.2.2 u) ∧ (NN u 12 r) ∧ ((oI κ.2.2.2.2 25 k0).toInt < (oI u 25 k0).toInt ∧ (oI u 25 k0).toInt ≤ (oI κ.2.2.2.2 25 k0).toInt + 11)) ∧ (∀ s9 : List Int, SBX κ.2.2.2.2 k0 s9 → SBX u k0 (s9 ++ qDec k1.toInt))) (fun (u : PL) (t : State) => Bx D cy ad A sz sl (tP κ u) (0) (0) t) A) (0) (0) A := by
  refine CM_of (loc0 := [(0, .ref k0), (1, .int k1)]) (own := RJ4) (nm := "append") (by decide) rfl rfl rfl (Nat.le_of_ble_eq_true rfl) hAF hAn ?_
  intro p e s m below meth c ls hsz hsl C hP hS hl
  refine lv_aload_n C.x C.b dJ4_append_bf812_0 rfl (lv_at hl 0 rfl) ?_
  refine lv_iload_n C.x C.b dJ4_append_bf812_1 rfl (lv_at hl 1 rfl) ?_
  refine c_callWq (n := 1) (As := [.int k1]) (rest := []) C hP hS hl.1 (NJ5_append_c97b9 l D cy ad A sz0 sa κ s.heap.size (SLT s.heap) C.f (fun q h => C.a q (Nat.le_trans hS.1 h)) k0 k1 ht0 hPV (vJ4_append_bf812_1 κ k0 hpre)) ⟨cw_259, cw_262, by decide +kernel⟩ ⟨cw_260, cw_154, cw_261, cw_15⟩ (by decide) (ci := 1) rfl rfl (hP.recvP (t := 12) (ci := 1) C.K (t20 (a := k0) (t := 12) ht0) (by decide) rfl rfl) rfl rfl (lv_room (Nat.le_of_ble_eq_true rfl)) ⟨Nat.le_of_ble_eq_true rfl, Nat.le_of_ble_eq_true rfl⟩ ⟨(Nat.le_of_ble_eq_true rfl), (Nat.le_of_ble_eq_true rfl)⟩ dJ4_append_bf812_2 (fun r1 u H locs hr1 hP hS => ?_)
  obtain ⟨P2, rfl⟩ : ∃ z, z = u := ⟨_, rfl⟩
  have hP : CH D cy ad A (tP κ P2) H := hP
  obtain ⟨hr1, hr1y⟩ := hr1
  have hr1y : ∀ s9 : List Int, SBX κ.2.2.2.2 k0 s9 → SBX P2 k0 (s9 ++ qDec k1.toInt) := hr1y
  have hr1 : (EX κ.2.2.2.2 P2) ∧ (PV sa P2) ∧ (KPx True κ.2.2.2.2 P2) ∧ (NN P2 12 r1) ∧ ((oI κ.2.2.2.2 25 k0).toInt < (oI P2 25 k0).toInt ∧ (oI P2 25 k0).toInt ≤ (oI κ.2.2.2.2 25 k0).toInt + 11) := hr1
  obtain ⟨hr1_0, hr1_1, hr1_2, hr1_3, hr1_4⟩ := hr1
  have kpz3 : KPx True κ.2.2.2.2 P2 := KPx.rf.trans hr1_2
  obtain ⟨b4, rfl, tb4⟩ := hr1_3
  obtain ⟨hr1_4_0, hr1_4_1⟩ := hr1_4
  refine lv_pop C.x C.b dJ4_append_bf812_5 rfl ?_
  refine lv_aload_n C.x C.b dJ4_append_bf812_6 rfl (lv_at hl 0 rfl) ?_
  exact c_retq (v := (some k0)) (Or.inl ⟨_, rfl⟩) C hsz hsl P2 ⟨⟨hr1_0, hr1_1, kpz3, ⟨k0, rfl, (hr1_0.T ht0 (by decide))⟩, (vJ4_append_bf812_2 κ k0 P2 hpre hr1_4_0 hr1_4_1)⟩, (vJ4_append_bf812_3 sa κ k0 k1 P2 ht0 hPV hpre hr1_0 hr1_2 hr1y hr1_4_0 hr1_4_1)⟩ hP hS ⟨(Nat.le_of_ble_eq_true rfl), (Nat.le_of_ble_eq_true rfl)⟩ ⟨(Nat.le_of_ble_eq_true rfl), (Nat.le_of_ble_eq_true rfl)⟩ dJ4_append_bf812_7

set_option maxHeartbeats 4000000 in
set_option maxRecDepth 100000 in
theorem NJ5_inflateIfNeededFor_a7421 (l : Launch) (D : va_G) (cy : Nat → ClassId) (ad : Nat → Nat) (A : Nat → Prop) (sz0 : Nat) (sa : Nat → Nat)  (κ : KS) (sz sl : Nat) (hAF : ∀ q, A q → Fr sz0 q) (hAn : ∀ q : Nat, sz ≤ q → A q) (k0 : Nat) (k1 : Nat) (ht0 : oT κ.2.2.2.2 k0 = 12) (ht1 : SOK κ.2.2.2.2 sa k1) (hPV : PV sa κ.2.2.2.2) : Met l yJ5_inflateIfNeededFor_a7421 (Cond.code yJ5_inflateIfNeededFor_a7421 cJ5_inflateIfNeededFor_a7421 2 none :: GWc) ({ frames := 1, cells := 0, slots := 0, locals := 20 }) (PcC D cy ad A sz0 sa [.ref k0, .ref k1] κ sz sl) (va_Qv (fun (u : Unit) => True) (fun (u : Unit) (t : State) => Bx D cy ad A sz sl κ (0) (0) t) A) (0) (0) A := by
  refine CM_of (loc0 := [(0, .ref k0), (1, .ref k1)]) (own := RJ5) (nm := "inflateIfNeededFor") (by decide) rfl rfl rfl (Nat.le_of_ble_eq_true rfl) hAF hAn ?_
  intro p e s m below meth c ls hsz hsl C hP hS hl
  have kz0 : KZ κ.2.2.2.2 sa := KZ.mk9 C hP
  refine va_gets (C := "java/lang/String") (n := "COMPACT_STRINGS") (d := "Z") (A := A) (v := .int 1) C.x C.b (C.cs) hS C.o (C.w _ cw_18) (fun _ h9 => h9) dJ5_inflateIfNeededFor_a7421_0 ?_
  refine lv_if_eq (tgt := 21) C.x C.b dJ5_inflateIfNeededFor_a7421_3 (by decide) (fun c1 => absurd c1 (by decide +kernel)) (fun _ => ?_)
  refine lv_aload_n C.x C.b dJ5_inflateIfNeededFor_a7421_6 rfl (lv_at hl 0 rfl) ?_
  obtain ⟨b2, ebb2, tbb2, sbb2, lbb2, cbb2, nbb2, zbb2⟩ : ∃ b, oR κ.2.2.2.2 12 k0 = some b ∧ oT κ.2.2.2.2 b = 8 ∧ sbL κ.2.2.2.2 k0 = oL κ.2.2.2.2 b ∧ (oL κ.2.2.2.2 b = 16 ∨ oL κ.2.2.2.2 b = 34 ∨ oL κ.2.2.2.2 b = 70) ∧ (oI κ.2.2.2.2 25 k0).toInt ≤ ((oL κ.2.2.2.2 b : Nat) : Int) ∧ 0 ≤ (oI κ.2.2.2.2 25 k0).toInt ∧ oI κ.2.2.2.2 23 k0 = 0 := hPV.sb ht0
  have nsb2 : NS κ.2.2.2.2 b2 := hPV.ns ht0 (show oR κ.2.2.2.2 12 k0 = some b2 from ebb2)
  refine pg_J4_1 (v := 0) C hP (t20 (a := k0) (t := 12) ht0) zbb2 cw_21 dJ5_inflateIfNeededFor_a7421_7 ?_
  refine lv_aload_n C.x C.b dJ5_inflateIfNeededFor_a7421_10 rfl (lv_at hl 1 rfl) ?_
  refine c_callVi (n := 0) (As := []) (rest := [.int 0]) C hP hS hl.1 (NJ0_coder_7d493 l D cy ad A sz0 sa κ s.heap.size (SLT s.heap) C.f (fun q h => C.a q (Nat.le_trans hS.1 h)) k1 ht1 hPV) ⟨cw_369, cw_105, by decide +kernel⟩ ⟨cw_103, cw_104, cw_70⟩ rfl (c_srecv C hP hS ht1) rfl rfl (lv_room (Nat.le_of_ble_eq_true rfl)) ⟨Nat.le_of_ble_eq_true rfl, Nat.le_of_ble_eq_true rfl⟩ ⟨(Nat.le_of_ble_eq_true rfl), (Nat.le_of_ble_eq_true rfl)⟩ dJ5_inflateIfNeededFor_a7421_11 (fun r3 u H locs hr3 hP hS => ?_)
  have hr3 : (r3 = (0 : Int32)) := hr3
  subst hr3
  refine lv_icmp_eq (tgt := 21) C.x C.b dJ5_inflateIfNeededFor_a7421_14 (by decide) (fun _ => ?_) (fun c4 => absurd (by decide +kernel) c4)
  exact c_retv C hsz hsl () trivial hP hS ⟨(Nat.le_of_ble_eq_true rfl), (Nat.le_of_ble_eq_true rfl)⟩ ⟨(Nat.le_of_ble_eq_true rfl), (Nat.le_of_ble_eq_true rfl)⟩ dJ5_inflateIfNeededFor_a7421_21

-- cpy1 @22
theorem vJ0_getBytes_840e7_1 (sa : Nat → Nat) (κ : KS) (k0 : Nat) (kn0 : Nat) (k1 : Nat) (k2 : Int32) (x4 : Int32) (hpre_0 : 0 ≤ k2.toInt) (hpre_1 : k2.toInt + ((kn0 : Nat) : Int) ≤ ((oL κ.2.2.2.2 k1 : Nat) : Int)) (hpre_3 : NS κ.2.2.2.2 k1) (hsl0 : sLen κ.2.2.2.2 sa k0 = kn0) (hl8_1 : oL κ.2.2.2.2 k1 ≤ 100) (ex4 : x4 = Int32.ofNat ((sLen κ.2.2.2.2 sa k0))) (tx4 : x4.toInt = (((sLen κ.2.2.2.2 sa k0) : Nat) : Int)) (lx4 : (sLen κ.2.2.2.2 sa k0) ≤ 100) : (0 : Int32).toInt + x4.toInt ≤ (((sLen κ.2.2.2.2 sa k0) : Nat) : Int) := by
  have q0 : (0 : Int32).toInt = 0 := by decide +kernel
  first | assumption | omega | (subst_vars; omega) | trivial
-- cpy2 @22
theorem vJ0_getBytes_840e7_2 (sa : Nat → Nat) (κ : KS) (k0 : Nat) (kn0 : Nat) (k1 : Nat) (k2 : Int32) (x4 : Int32) (ht0 : SL κ.2.2.2.2 sa k0 kn0) (ht1 : oT κ.2.2.2.2 k1 = 8) (hPV : PV sa κ.2.2.2.2) (kz0 : KZ κ.2.2.2.2 sa) (hpre_0 : 0 ≤ k2.toInt) (hpre_1 : k2.toInt + ((kn0 : Nat) : Int) ≤ ((oL κ.2.2.2.2 k1 : Nat) : Int)) (hpre_3 : NS κ.2.2.2.2 k1) (hsl0 : sLen κ.2.2.2.2 sa k0 = kn0) (hl8_1 : oL κ.2.2.2.2 k1 ≤ 100) (ex4 : x4 = Int32.ofNat ((sLen κ.2.2.2.2 sa k0))) (tx4 : x4.toInt = (((sLen κ.2.2.2.2 sa k0) : Nat) : Int)) (lx4 : (sLen κ.2.2.2.2 sa k0) ≤ 100) : k2.toInt + x4.toInt ≤ (((oL κ.2.2.2.2 k1) : Nat) : Int) := by
  first | assumption | omega | (subst_vars; omega) | trivial
-- cp0 @22
theorem vJ0_getBytes_840e7_3   : 0 ≤ (0 : Int32).toInt := by
  have q0 : (0 : Int32).toInt = 0 := by decide +kernel
  first | assumption | omega | (subst_vars; omega) | trivial
-- cp0 @22
theorem vJ0_getBytes_840e7_4 (sa : Nat → Nat) (κ : KS) (k0 : Nat) (kn0 : Nat) (k1 : Nat) (k2 : Int32) (x4 : Int32) (hpre_0 : 0 ≤ k2.toInt) (hpre_1 : k2.toInt + ((kn0 : Nat) : Int) ≤ ((oL κ.2.2.2.2 k1 : Nat) : Int)) (hpre_3 : NS κ.2.2.2.2 k1) (hsl0 : sLen κ.2.2.2.2 sa k0 = kn0) (hl8_1 : oL κ.2.2.2.2 k1 ≤ 100) (ex4 : x4 = Int32.ofNat ((sLen κ.2.2.2.2 sa k0))) (tx4 : x4.toInt = (((sLen κ.2.2.2.2 sa k0) : Nat) : Int)) (lx4 : (sLen κ.2.2.2.2 sa k0) ≤ 100) : 0 ≤ k2.toInt := by
  first | assumption | omega | (subst_vars; omega) | trivial
-- cp0 @22
theorem vJ0_getBytes_840e7_5 (sa : Nat → Nat) (κ : KS) (k0 : Nat) (kn0 : Nat) (k1 : Nat) (k2 : Int32) (x4 : Int32) (hpre_0 : 0 ≤ k2.toInt) (hpre_1 : k2.toInt + ((kn0 : Nat) : Int) ≤ ((oL κ.2.2.2.2 k1 : Nat) : Int)) (hpre_3 : NS κ.2.2.2.2 k1) (hsl0 : sLen κ.2.2.2.2 sa k0 = kn0) (hl8_1 : oL κ.2.2.2.2 k1 ≤ 100) (ex4 : x4 = Int32.ofNat ((sLen κ.2.2.2.2 sa k0))) (tx4 : x4.toInt = (((sLen κ.2.2.2.2 sa k0) : Nat) : Int)) (lx4 : (sLen κ.2.2.2.2 sa k0) ≤ 100) : 0 ≤ x4.toInt := by
  first | assumption | omega | (subst_vars; omega) | trivial
-- sbs @43
theorem vJ0_getBytes_840e7_6 (sa : Nat → Nat) (κ : KS) (k0 : Nat) (kn0 : Nat) (k1 : Nat) (k2 : Int32) (x4 : Int32) (F5 : Nat → Int32) (hpre_0 : 0 ≤ k2.toInt) (hpre_1 : k2.toInt + ((kn0 : Nat) : Int) ≤ ((oL κ.2.2.2.2 k1 : Nat) : Int)) (hpre_3 : NS κ.2.2.2.2 k1) (hsl0 : sLen κ.2.2.2.2 sa k0 = kn0) (hl8_1 : oL κ.2.2.2.2 k1 ≤ 100) (ex4 : x4 = Int32.ofNat ((sLen κ.2.2.2.2 sa k0))) (tx4 : x4.toInt = (((sLen κ.2.2.2.2 sa k0) : Nat) : Int)) (lx4 : (sLen κ.2.2.2.2 sa k0) ≤ 100) : SBS κ.2.2.2.2 (sB κ.2.2.2.2 k1 F5) := by
  first | assumption | exact fun _ _ => ⟨rfl, rfl⟩
-- post2 @43
theorem vJ0_getBytes_840e7_7 (sa : Nat → Nat) (κ : KS) (k0 : Nat) (kn0 : Nat) (k1 : Nat) (k2 : Int32) (x4 : Int32) (F5 : Nat → Int32) (ht0 : SL κ.2.2.2.2 sa k0 kn0) (ht1 : oT κ.2.2.2.2 k1 = 8) (hPV : PV sa κ.2.2.2.2) (kz0 : KZ κ.2.2.2.2 sa) (hpre_0 : 0 ≤ k2.toInt) (hpre_1 : k2.toInt + ((kn0 : Nat) : Int) ≤ ((oL κ.2.2.2.2 k1 : Nat) : Int)) (hpre_3 : NS κ.2.2.2.2 k1) (hsl0 : sLen κ.2.2.2.2 sa k0 = kn0) (hl8_1 : oL κ.2.2.2.2 k1 ≤ 100) (ex4 : x4 = Int32.ofNat ((sLen κ.2.2.2.2 sa k0))) (tx4 : x4.toInt = (((sLen κ.2.2.2.2 sa k0) : Nat) : Int)) (lx4 : (sLen κ.2.2.2.2 sa k0) ≤ 100) (hcF5 : BCP κ.2.2.2.2 sa (sVal κ.2.2.2.2 sa k0) k1 0 k2.toNatClampNeg x4.toNatClampNeg F5) (exz6 : EX κ.2.2.2.2 (sB κ.2.2.2.2 k1 F5)) : ∀ s9 t9 : List Int, PFX κ.2.2.2.2 k1 s9 → k2.toInt = (s9.length : Int) → TXq κ.2.2.2.2 sa k0 t9 → PFX (sB κ.2.2.2.2 k1 F5) k1 (s9 ++ t9) := by
  intro s9 t9 hs hl ht
  have l1 := TXq.len9 kz0 ht0 ht
  refine PFX.app9 hs (fun k hk => ?_) (fun k hk => ?_)
  · rw [q_oB]
    exact (hcF5 k).2 (fun q => by rw [clampN] at q; omega)
  · rw [q_oB]
    have z := (hcF5 (s9.length + k)).1 (by rw [clampN, clampN]; omega)
    rw [show 0 + (s9.length + k - k2.toNatClampNeg) = k by rw [clampN]; omega] at z
    exact BYR.tx9 (ht.b9 kz0) z hk
set_option maxHeartbeats 4000000 in
set_option maxRecDepth 100000 in
theorem NJ0_getBytes_840e7 (l : Launch) (D : va_G) (cy : Nat → ClassId) (ad : Nat → Nat) (A : Nat → Prop) (sz0 : Nat) (sa : Nat → Nat)  (κ : KS) (sz sl : Nat) (hAF : ∀ q, A q → Fr sz0 q) (hAn : ∀ q : Nat, sz ≤ q → A q) (k0 : Nat) (kn0 : Nat) (k1 : Nat) (k2 : Int32) (k3 : Int32) (ht0 : SL κ.2.2.2.2 sa k0 kn0) (ht1 : oT κ.2.2.2.2 k1 = 8) (hPV : PV sa κ.2.2.2.2) (hpre : 0 ≤ k2.toInt ∧ k2.toInt + ((kn0 : Nat) : Int) ≤ ((oL κ.2.2.2.2 k1 : Nat) : Int) ∧ k3.toInt = 0 ∧ NS κ.2.2.2.2 k1) : Met l yJ0_getBytes_840e7 (Cond.code yJ0_getBytes_840e7 cJ0_getBytes_840e7 4 none :: GWc) ({ frames := 1, cells := 0, slots := 0, locals := 40 }) (PcC D cy ad A sz0 sa [.ref k0, .ref k1, .int k2, .int k3] κ sz sl) (va_Qv (fun (u : PL) => ((EX κ.2.2.2.2 u) ∧ (PV sa u) ∧ (KPx True κ.2.2.2.2 u) ∧ (SBS κ.2.2.2.2 u)) ∧ (∀ s9 t9 : List Int, PFX κ.2.2.2.2 k1 s9 → k2.toInt = (s9.length : Int) → TXq κ.2.2.2.2 sa k0 t9 → PFX u k1 (s9 ++ t9))) (fun (u : PL) (t : State) => Bx D cy ad A sz sl (tP κ u) (0) (0) t) A) (0) (0) A := by
  refine CM_of (loc0 := [(0, .ref k0), (1, .ref k1), (2, .int k2), (3, .int k3)]) (own := RJ0) (nm := "getBytes") (by decide) rfl rfl rfl (Nat.le_of_ble_eq_true rfl) hAF hAn ?_
  intro p e s m below meth c ls hsz hsl C hP hS hl
  obtain ⟨hpre_0, hpre_1, hpre_2, hpre_3⟩ := hpre
  have e9 : k3 = 0 := Int32.toInt_inj.mp (hpre_2.trans (by decide +kernel))
  subst e9
  have kz0 : KZ κ.2.2.2.2 sa := KZ.mk9 C hP
  have hsl0 : sLen κ.2.2.2.2 sa k0 = kn0 := ht0.len C hP
  have hl8_1 : oL κ.2.2.2.2 k1 ≤ 100 := (hPV.t8 ht1).1
  refine lv_aload_n C.x C.b dJ0_getBytes_840e7_0 rfl (lv_at hl 0 rfl) ?_
  refine c_callVi (n := 0) (As := []) (rest := []) C hP hS hl.1 (NJ0_coder_7d493 l D cy ad A sz0 sa κ s.heap.size (SLT s.heap) C.f (fun q h => C.a q (Nat.le_trans hS.1 h)) k0 ht0.sok hPV) ⟨cw_102, cw_105, by decide +kernel⟩ ⟨cw_103, cw_104, cw_70⟩ rfl (c_srecv C hP hS ht0.sok) rfl rfl (lv_room (Nat.le_of_ble_eq_true rfl)) ⟨Nat.le_of_ble_eq_true rfl, Nat.le_of_ble_eq_true rfl⟩ ⟨(Nat.le_of_ble_eq_true rfl), (Nat.le_of_ble_eq_true rfl)⟩ dJ0_getBytes_840e7_1 (fun r1 u H locs hr1 hP hS => ?_)
  have hr1 : (r1 = (0 : Int32)) := hr1
  subst hr1
  refine lv_iload_n C.x C.b dJ0_getBytes_840e7_4 rfl (lv_at hl 3 rfl) ?_
  refine lv_icmp_ne (tgt := 28) C.x C.b dJ0_getBytes_840e7_5 (by decide) (fun c2 => absurd (by decide +kernel) c2) (fun _ => ?_)
  refine lv_aload_n C.x C.b dJ0_getBytes_840e7_8 rfl (lv_at hl 0 rfl) ?_
  refine ct_val C hP hS ht0.sok (fun e9 => (hPV.t7 e9).1.imp (fun b z => z.1)) cw_75 dJ0_getBytes_840e7_9 ?_
  refine lv_iconst (v := 0) C.x C.b dJ0_getBytes_840e7_12 (by decide +kernel) ?_
  refine lv_aload_n C.x C.b dJ0_getBytes_840e7_13 rfl (lv_at hl 1 rfl) ?_
  refine lv_iload_n C.x C.b dJ0_getBytes_840e7_14 rfl (lv_at hl 2 rfl) ?_
  refine lv_iload_n C.x C.b dJ0_getBytes_840e7_15 rfl (lv_at hl 3 rfl) ?_
  refine lv_ishl C.x C.b dJ0_getBytes_840e7_16 ?_
  refine lv_topi (fun x3 ex3 => ?_)
  obtain rfl : k2 = x3 := (ex3.trans (sb_shl0 _)).symm
  refine lv_aload_n C.x C.b dJ0_getBytes_840e7_17 rfl (lv_at hl 0 rfl) ?_
  refine ct_val C hP hS ht0.sok (fun e9 => (hPV.t7 e9).1.imp (fun b z => z.1)) cw_75 dJ0_getBytes_840e7_18 ?_
  refine ct_len C hP hS (sok_bok hPV ht0.sok) dJ0_getBytes_840e7_21 (fun x4 ex4 => ?_)
  have lx4 : (sLen κ.2.2.2.2 sa k0) ≤ 100 := (sok_len C hPV ht0.sok)
  have tx4 : x4.toInt = (((sLen κ.2.2.2.2 sa k0) : Nat) : Int) := by rw [ex4]; exact nI_toInt (n := (sLen κ.2.2.2.2 sa k0)) (by omega)
  refine ct_copy (n0 := (sLen κ.2.2.2.2 sa k0)) (n1 := (oL κ.2.2.2.2 k1)) C hP hS hl.1 (sok_bok hPV ht0.sok) (t20 (a := k1) (t := 8) ht1) rfl (hPV.t8 ht1).2 (vJ0_getBytes_840e7_3  ) (vJ0_getBytes_840e7_4 sa κ k0 kn0 k1 k2 x4 hpre_0 hpre_1 hpre_3 hsl0 hl8_1 ex4 tx4 lx4) (vJ0_getBytes_840e7_5 sa κ k0 kn0 k1 k2 x4 hpre_0 hpre_1 hpre_3 hsl0 hl8_1 ex4 tx4 lx4) (vJ0_getBytes_840e7_1 sa κ k0 kn0 k1 k2 x4 hpre_0 hpre_1 hpre_3 hsl0 hl8_1 ex4 tx4 lx4) (vJ0_getBytes_840e7_2 sa κ k0 kn0 k1 k2 x4 ht0 ht1 hPV kz0 hpre_0 hpre_1 hpre_3 hsl0 hl8_1 ex4 tx4 lx4) ⟨cw_374, cw_196, cw_197, cw_198⟩ ⟨Nat.le_of_ble_eq_true rfl, Nat.le_of_ble_eq_true rfl⟩ dJ0_getBytes_840e7_22 (fun H locs F5 hfF5 hcF5 hP hS => ?_)
  have exz6 : EX κ.2.2.2.2 (sB κ.2.2.2.2 k1 F5) := EX.stB
  have kpz6 : KPx True κ.2.2.2.2 (sB κ.2.2.2.2 k1 F5) := KPx.rf.sB9 (show NS κ.2.2.2.2 k1 from hpre_3)
  have pvz6 : PV sa (sB κ.2.2.2.2 k1 F5) := (hPV.stB ht1 hfF5)
  refine lv_goto (tgt := 43) C.x C.b dJ0_getBytes_840e7_25 (by decide) ?_
  exact c_retv C hsz hsl (sB κ.2.2.2.2 k1 F5) ⟨⟨exz6, pvz6, kpz6, (vJ0_getBytes_840e7_6 sa κ k0 kn0 k1 k2 x4 F5 hpre_0 hpre_1 hpre_3 hsl0 hl8_1 ex4 tx4 lx4)⟩, (vJ0_getBytes_840e7_7 sa κ k0 kn0 k1 k2 x4 F5 ht0 ht1 hPV kz0 hpre_0 hpre_1 hpre_3 hsl0 hl8_1 ex4 tx4 lx4 hcF5 exz6)⟩ hP hS ⟨(Nat.le_of_ble_eq_true rfl), (Nat.le_of_ble_eq_true rfl)⟩ ⟨(Nat.le_of_ble_eq_true rfl), (Nat.le_of_ble_eq_true rfl)⟩ dJ0_getBytes_840e7_43

-- pre:J0_getBytes_840e7@15 @15
theorem vJ5_putStringAt_47b60_1 (sa : Nat → Nat) (κ : KS) (k0 : Nat) (k1 : Int32) (k2 : Nat) (kn2 : Nat) (b2 : Nat) (hpre_0 : 0 ≤ k1.toInt) (hpre_1 : k1.toInt + ((kn2 : Nat) : Int) ≤ ((sbL κ.2.2.2.2 k0 : Nat) : Int)) (hsl2 : sLen κ.2.2.2.2 sa k2 = kn2) (sbb2 : sbL κ.2.2.2.2 k0 = oL κ.2.2.2.2 b2) (lbb2 : (oL κ.2.2.2.2 b2 = 16 ∨ oL κ.2.2.2.2 b2 = 34 ∨ oL κ.2.2.2.2 b2 = 70)) (cbb2 : (oI κ.2.2.2.2 25 k0).toInt ≤ ((oL κ.2.2.2.2 b2 : Nat) : Int)) (nbb2 : 0 ≤ (oI κ.2.2.2.2 25 k0).toInt) : 0 ≤ k1.toInt ∧ k1.toInt + ((kn2 : Nat) : Int) ≤ ((oL κ.2.2.2.2 b2 : Nat) : Int) ∧ (0 : Int32).toInt = 0 := by
  have q0 : (0 : Int32).toInt = 0 := by decide +kernel
  refine ⟨?_, ?_, ?_⟩ <;> first | assumption | omega | (subst_vars; omega) | trivial
-- sbs @18
theorem vJ5_putStringAt_47b60_2 (sa : Nat → Nat) (κ : KS) (k0 : Nat) (k1 : Int32) (k2 : Nat) (kn2 : Nat) (b2 : Nat) (P4 : PL) (hpre_0 : 0 ≤ k1.toInt) (hpre_1 : k1.toInt + ((kn2 : Nat) : Int) ≤ ((sbL κ.2.2.2.2 k0 : Nat) : Int)) (hsl2 : sLen κ.2.2.2.2 sa k2 = kn2) (sbb2 : sbL κ.2.2.2.2 k0 = oL κ.2.2.2.2 b2) (lbb2 : (oL κ.2.2.2.2 b2 = 16 ∨ oL κ.2.2.2.2 b2 = 34 ∨ oL κ.2.2.2.2 b2 = 70)) (cbb2 : (oI κ.2.2.2.2 25 k0).toInt ≤ ((oL κ.2.2.2.2 b2 : Nat) : Int)) (nbb2 : 0 ≤ (oI κ.2.2.2.2 25 k0).toInt) (kl5 : oL P4 b2 = oL κ.2.2.2.2 b2) (hr3_3 : SBS κ.2.2.2.2 P4) (ak7 : (oI P4 25 k0).toInt = (oI κ.2.2.2.2 25 k0).toInt) (bk7 : sbL P4 k0 = sbL κ.2.2.2.2 k0) : SBS κ.2.2.2.2 P4 := by
  first | assumption | exact fun _ _ => ⟨rfl, rfl⟩
-- post2 @18
theorem vJ5_putStringAt_47b60_3 (sa : Nat → Nat) (κ : KS) (k0 : Nat) (k1 : Int32) (k2 : Nat) (kn2 : Nat) (b2 : Nat) (P4 : PL) (ht0 : oT κ.2.2.2.2 k0 = 12) (ht2 : SL κ.2.2.2.2 sa k2 kn2) (hPV : PV sa κ.2.2.2.2) (kz0 : KZ κ.2.2.2.2 sa) (hpre_0 : 0 ≤ k1.toInt) (hpre_1 : k1.toInt + ((kn2 : Nat) : Int) ≤ ((sbL κ.2.2.2.2 k0 : Nat) : Int)) (hsl2 : sLen κ.2.2.2.2 sa k2 = kn2) (sbb2 : sbL κ.2.2.2.2 k0 = oL κ.2.2.2.2 b2) (lbb2 : (oL κ.2.2.2.2 b2 = 16 ∨ oL κ.2.2.2.2 b2 = 34 ∨ oL κ.2.2.2.2 b2 = 70)) (cbb2 : (oI κ.2.2.2.2 25 k0).toInt ≤ ((oL κ.2.2.2.2 b2 : Nat) : Int)) (nbb2 : 0 ≤ (oI κ.2.2.2.2 25 k0).toInt) (nsb2 : NS κ.2.2.2.2 b2) (ebb2 : oR κ.2.2.2.2 12 k0 = some b2) (tbb2 : oT κ.2.2.2.2 b2 = 8) (kl5 : oL P4 b2 = oL κ.2.2.2.2 b2) (hr3_0 : EX κ.2.2.2.2 P4) (hr3_2 : KPx True κ.2.2.2.2 P4) (hr3_3 : SBS κ.2.2.2.2 P4) (ak7 : (oI P4 25 k0).toInt = (oI κ.2.2.2.2 25 k0).toInt) (bk7 : sbL P4 k0 = sbL κ.2.2.2.2 k0) (hr3y : ∀ s9 t9 : List Int, PFX κ.2.2.2.2 b2 s9 → k1.toInt = (s9.length : Int) → TXq κ.2.2.2.2 sa k2 t9 → PFX P4 b2 (s9 ++ t9)) : ∀ s9 t9 : List Int, SBP κ.2.2.2.2 k0 s9 → k1.toInt = (s9.length : Int) → TXq κ.2.2.2.2 sa k2 t9 → SBP P4 k0 (s9 ++ t9) := by
  intro s9 t9 h hl ht
  obtain ⟨b, e1, e2⟩ := h
  rw [ebb2] at e1
  obtain rfl := Option.some.inj e1
  exact ⟨b2, ((hr3_3 k0 ht0).2).trans ebb2, hr3y s9 t9 e2 hl ht⟩
set_option maxHeartbeats 4000000 in
set_option maxRecDepth 100000 in
theorem NJ5_putStringAt_47b60 (l : Launch) (D : va_G) (cy : Nat → ClassId) (ad : Nat → Nat) (A : Nat → Prop) (sz0 : Nat) (sa : Nat → Nat)  (κ : KS) (sz sl : Nat) (hAF : ∀ q, A q → Fr sz0 q) (hAn : ∀ q : Nat, sz ≤ q → A q) (k0 : Nat) (k1 : Int32) (k2 : Nat) (kn2 : Nat) (ht0 : oT κ.2.2.2.2 k0 = 12) (ht2 : SL κ.2.2.2.2 sa k2 kn2) (hPV : PV sa κ.2.2.2.2) (hpre : 0 ≤ k1.toInt ∧ k1.toInt + ((kn2 : Nat) : Int) ≤ ((sbL κ.2.2.2.2 k0 : Nat) : Int)) : Met l yJ5_putStringAt_47b60 (Cond.code yJ5_putStringAt_47b60 cJ5_putStringAt_47b60 3 none :: GWc) ({ frames := 2, cells := 0, slots := 0, locals := 63 }) (PcC D cy ad A sz0 sa [.ref k0, .int k1, .ref k2] κ sz sl) (va_Qv (fun (u : PL) => ((EX κ.2.2.2.2 u) ∧ (PV sa u) ∧ (KPx True κ.2.2.2.2 u) ∧ (SBS κ.2.2.2.2 u)) ∧ (∀ s9 t9 : List Int, SBP κ.2.2.2.2 k0 s9 → k1.toInt = (s9.length : Int) → TXq κ.2.2.2.2 sa k2 t9 → SBP u k0 (s9 ++ t9))) (fun (u : PL) (t : State) => Bx D cy ad A sz sl (tP κ u) (0) (0) t) A) (0) (0) A := by
  refine CM_of (loc0 := [(0, .ref k0), (1, .int k1), (2, .ref k2)]) (own := RJ5) (nm := "putStringAt") (by decide) rfl rfl rfl (Nat.le_of_ble_eq_true rfl) hAF hAn ?_
  intro p e s m below meth c ls hsz hsl C hP hS hl
  obtain ⟨hpre_0, hpre_1⟩ := hpre
  have kz0 : KZ κ.2.2.2.2 sa := KZ.mk9 C hP
  have hsl2 : sLen κ.2.2.2.2 sa k2 = kn2 := ht2.len C hP
  refine lv_aload_n C.x C.b dJ5_putStringAt_47b60_0 rfl (lv_at hl 0 rfl) ?_
  refine lv_aload_n C.x C.b dJ5_putStringAt_47b60_1 rfl (lv_at hl 2 rfl) ?_
  refine c_callUv (owner := "java/lang/AbstractStringBuilder") (n := 1) (As := [.ref k2]) (rest := []) C hP hS hl.1 (NJ5_inflateIfNeededFor_a7421 l D cy ad A sz0 sa κ s.heap.size (SLT s.heap) C.f (fun q h => C.a q (Nat.le_trans hS.1 h)) k0 k2 ht0 ht2.sok hPV) ⟨cw_364, cw_368, by decide +kernel⟩ ⟨cw_365, cw_366, cw_367, cw_15⟩ rfl (hP.recvP (t := 12) (ci := 1) C.K (t20 (a := k0) (t := 12) ht0) (by decide) rfl rfl) rfl rfl (lv_room (Nat.le_of_ble_eq_true rfl)) ⟨Nat.le_of_ble_eq_true rfl, Nat.le_of_ble_eq_true rfl⟩ ⟨(Nat.le_of_ble_eq_true rfl), (Nat.le_of_ble_eq_true rfl)⟩ dJ5_putStringAt_47b60_2 (fun u H locs hr1 hP hS => ?_)
  have hr1 : True := hr1
  refine lv_aload_n C.x C.b dJ5_putStringAt_47b60_5 rfl (lv_at hl 2 rfl) ?_
  refine lv_aload_n C.x C.b dJ5_putStringAt_47b60_6 rfl (lv_at hl 0 rfl) ?_
  obtain ⟨b2, ebb2, tbb2, sbb2, lbb2, cbb2, nbb2, zbb2⟩ : ∃ b, oR κ.2.2.2.2 12 k0 = some b ∧ oT κ.2.2.2.2 b = 8 ∧ sbL κ.2.2.2.2 k0 = oL κ.2.2.2.2 b ∧ (oL κ.2.2.2.2 b = 16 ∨ oL κ.2.2.2.2 b = 34 ∨ oL κ.2.2.2.2 b = 70) ∧ (oI κ.2.2.2.2 25 k0).toInt ≤ ((oL κ.2.2.2.2 b : Nat) : Int) ∧ 0 ≤ (oI κ.2.2.2.2 25 k0).toInt ∧ oI κ.2.2.2.2 23 k0 = 0 := hPV.sb ht0
  have nsb2 : NS κ.2.2.2.2 b2 := hPV.ns ht0 (show oR κ.2.2.2.2 12 k0 = some b2 from ebb2)
  refine pg_J4_0 (v := some b2) C hP (t20 (a := k0) (t := 12) ht0) ebb2 cw_20 dJ5_putStringAt_47b60_7 ?_
  refine lv_iload_n C.x C.b dJ5_putStringAt_47b60_10 rfl (lv_at hl 1 rfl) ?_
  refine lv_aload_n C.x C.b dJ5_putStringAt_47b60_11 rfl (lv_at hl 0 rfl) ?_
  refine pg_J4_1 (v := 0) C hP (t20 (a := k0) (t := 12) ht0) zbb2 cw_21 dJ5_putStringAt_47b60_12 ?_
  refine c_callVv (n := 3) (As := [.ref b2, .int k1, .int 0]) (rest := []) C hP hS hl.1 (NJ0_getBytes_840e7 l D cy ad A sz0 sa κ H.size (SLT H) C.f (fun q h => C.a q (Nat.le_trans hS.1 h)) k2 kn2 b2 k1 (0 : Int32) ht2 tbb2 hPV (have z9 : 0 ≤ k1.toInt ∧ k1.toInt + ((kn2 : Nat) : Int) ≤ ((oL κ.2.2.2.2 b2 : Nat) : Int) ∧ (0 : Int32).toInt = 0 := (vJ5_putStringAt_47b60_1 sa κ k0 k1 k2 kn2 b2 hpre_0 hpre_1 hsl2 sbb2 lbb2 cbb2 nbb2); ⟨z9.1, z9.2.1, z9.2.2, (show NS κ.2.2.2.2 b2 from nsb2)⟩)) ⟨cw_370, cw_373, by decide +kernel⟩ ⟨cw_371, cw_372, cw_70⟩ rfl (c_srecv C hP hS ht2.sok) rfl rfl (lv_room (Nat.le_of_ble_eq_true rfl)) ⟨Nat.le_of_ble_eq_true rfl, Nat.le_of_ble_eq_true rfl⟩ ⟨(Nat.le_of_ble_eq_true rfl), (Nat.le_of_ble_eq_true rfl)⟩ dJ5_putStringAt_47b60_15 (fun u H locs hr3 hP hS => ?_)
  obtain ⟨P4, rfl⟩ : ∃ z, z = u := ⟨_, rfl⟩
  have hP : CH D cy ad A (tP κ P4) H := hP
  obtain ⟨hr3, hr3y⟩ := hr3
  have hr3y : ∀ s9 t9 : List Int, PFX κ.2.2.2.2 b2 s9 → k1.toInt = (s9.length : Int) → TXq κ.2.2.2.2 sa k2 t9 → PFX P4 b2 (s9 ++ t9) := hr3y
  have hr3 : (EX κ.2.2.2.2 P4) ∧ (PV sa P4) ∧ (KPx True κ.2.2.2.2 P4) ∧ (SBS κ.2.2.2.2 P4) := hr3
  obtain ⟨hr3_0, hr3_1, hr3_2, hr3_3⟩ := hr3
  have kl5 : oL P4 b2 = oL κ.2.2.2.2 b2 := hr3_0.L tbb2 (by decide)
  have kpz6 : KPx True κ.2.2.2.2 P4 := KPx.rf.trans hr3_2
  have ak7 : (oI P4 25 k0).toInt = (oI κ.2.2.2.2 25 k0).toInt := hr3_3.cnt ht0
  have bk7 : sbL P4 k0 = sbL κ.2.2.2.2 k0 := hr3_3.len ht0 hr3_0 hPV
  exact c_retv C hsz hsl P4 ⟨⟨hr3_0, hr3_1, kpz6, (vJ5_putStringAt_47b60_2 sa κ k0 k1 k2 kn2 b2 P4 hpre_0 hpre_1 hsl2 sbb2 lbb2 cbb2 nbb2 kl5 hr3_3 ak7 bk7)⟩, (vJ5_putStringAt_47b60_3 sa κ k0 k1 k2 kn2 b2 P4 ht0 ht2 hPV kz0 hpre_0 hpre_1 hsl2 sbb2 lbb2 cbb2 nbb2 nsb2 ebb2 tbb2 kl5 hr3_0 hr3_2 hr3_3 ak7 bk7 hr3y)⟩ hP hS ⟨(Nat.le_of_ble_eq_true rfl), (Nat.le_of_ble_eq_true rfl)⟩ ⟨(Nat.le_of_ble_eq_true rfl), (Nat.le_of_ble_eq_true rfl)⟩ dJ5_putStringAt_47b60_18

-- nw@20 @20
theorem vJ5_append_cf1ce_1 (sa : Nat → Nat) (κ : KS) (k0 : Nat) (k1 : Nat) (kn1 : Nat) (r1 : Int32) (b2 : Nat) (x3 : Int32) (x4 : Int32) (hpre : (oI κ.2.2.2.2 25 k0).toInt + ((kn1 : Nat) : Int) ≤ 16) (hsl1 : sLen κ.2.2.2.2 sa k1 = kn1) (hr1 : r1.toInt = ((kn1 : Nat) : Int)) (sbb2 : sbL κ.2.2.2.2 k0 = oL κ.2.2.2.2 b2) (lbb2 : (oL κ.2.2.2.2 b2 = 16 ∨ oL κ.2.2.2.2 b2 = 34 ∨ oL κ.2.2.2.2 b2 = 70)) (cbb2 : (oI κ.2.2.2.2 25 k0).toInt ≤ ((oL κ.2.2.2.2 b2 : Nat) : Int)) (nbb2 : 0 ≤ (oI κ.2.2.2.2 25 k0).toInt) (tx3 : (oI κ.2.2.2.2 25 k0).toInt = x3.toInt) (ex4 : x4 = x3 + r1) : x4.toInt = x3.toInt + r1.toInt := by
  rw [ex4, z_add (by omega) (by omega)]; first | done | omega
-- pre:J5_ensureCapacityInternal_d00df@21 @21
theorem vJ5_append_cf1ce_2 (sa : Nat → Nat) (κ : KS) (k0 : Nat) (k1 : Nat) (kn1 : Nat) (r1 : Int32) (b2 : Nat) (x3 : Int32) (x4 : Int32) (hpre : (oI κ.2.2.2.2 25 k0).toInt + ((kn1 : Nat) : Int) ≤ 16) (hsl1 : sLen κ.2.2.2.2 sa k1 = kn1) (hr1 : r1.toInt = ((kn1 : Nat) : Int)) (sbb2 : sbL κ.2.2.2.2 k0 = oL κ.2.2.2.2 b2) (lbb2 : (oL κ.2.2.2.2 b2 = 16 ∨ oL κ.2.2.2.2 b2 = 34 ∨ oL κ.2.2.2.2 b2 = 70)) (cbb2 : (oI κ.2.2.2.2 25 k0).toInt ≤ ((oL κ.2.2.2.2 b2 : Nat) : Int)) (nbb2 : 0 ≤ (oI κ.2.2.2.2 25 k0).toInt) (tx3 : (oI κ.2.2.2.2 25 k0).toInt = x3.toInt) (ex4 : x4 = x3 + r1) (tx4 : x4.toInt = x3.toInt + r1.toInt) : 0 ≤ x4.toInt ∧ x4.toInt ≤ ((sbL κ.2.2.2.2 k0 : Nat) : Int) + 1 ∧ x4.toInt ≤ 70 := by
  refine ⟨?_, ?_, ?_⟩ <;> first | assumption | omega | (subst_vars; omega) | trivial
-- room @21
theorem vJ5_append_cf1ce_3 (sa : Nat → Nat) (κ : KS) (k0 : Nat) (k1 : Nat) (kn1 : Nat) (r1 : Int32) (b2 : Nat) (x3 : Int32) (x4 : Int32) (hpre : (oI κ.2.2.2.2 25 k0).toInt + ((kn1 : Nat) : Int) ≤ 16) (hsl1 : sLen κ.2.2.2.2 sa k1 = kn1) (hr1 : r1.toInt = ((kn1 : Nat) : Int)) (sbb2 : sbL κ.2.2.2.2 k0 = oL κ.2.2.2.2 b2) (cbb2 : (oI κ.2.2.2.2 25 k0).toInt ≤ ((oL κ.2.2.2.2 b2 : Nat) : Int)) (nbb2 : 0 ≤ (oI κ.2.2.2.2 25 k0).toInt) (tx3 : (oI κ.2.2.2.2 25 k0).toInt = x3.toInt) (ex4 : x4 = x3 + r1) (tx4 : x4.toInt = x3.toInt + r1.toInt) : 0 + 0 + (gr1 (x4.toInt)) ≤ 0 := by
  have zg0 := gr_spec (x4.toInt)
  first | assumption | omega | (subst_vars; omega) | trivial
-- room @21
theorem vJ5_append_cf1ce_4 (sa : Nat → Nat) (κ : KS) (k0 : Nat) (k1 : Nat) (kn1 : Nat) (r1 : Int32) (b2 : Nat) (x3 : Int32) (x4 : Int32) (hpre : (oI κ.2.2.2.2 25 k0).toInt + ((kn1 : Nat) : Int) ≤ 16) (hsl1 : sLen κ.2.2.2.2 sa k1 = kn1) (hr1 : r1.toInt = ((kn1 : Nat) : Int)) (sbb2 : sbL κ.2.2.2.2 k0 = oL κ.2.2.2.2 b2) (cbb2 : (oI κ.2.2.2.2 25 k0).toInt ≤ ((oL κ.2.2.2.2 b2 : Nat) : Int)) (nbb2 : 0 ≤ (oI κ.2.2.2.2 25 k0).toInt) (tx3 : (oI κ.2.2.2.2 25 k0).toInt = x3.toInt) (ex4 : x4 = x3 + r1) (tx4 : x4.toInt = x3.toInt + r1.toInt) : 0 + 0 + (gr70 (x4.toInt)) ≤ 0 := by
  have zg0 := gr_spec (x4.toInt)
  first | assumption | omega | (subst_vars; omega) | trivial
-- pre:J5_putStringAt_47b60@30 @30
theorem vJ5_append_cf1ce_5 (sa : Nat → Nat) (κ : KS) (k0 : Nat) (k1 : Nat) (kn1 : Nat) (r1 : Int32) (b2 : Nat) (x3 : Int32) (x4 : Int32) (P6 : PL) (b9 : Nat) (x10 : Int32) (hpre : (oI κ.2.2.2.2 25 k0).toInt + ((kn1 : Nat) : Int) ≤ 16) (hsl1 : sLen κ.2.2.2.2 sa k1 = kn1) (hr1 : r1.toInt = ((kn1 : Nat) : Int)) (sbb2 : sbL κ.2.2.2.2 k0 = oL κ.2.2.2.2 b2) (lbb2 : (oL κ.2.2.2.2 b2 = 16 ∨ oL κ.2.2.2.2 b2 = 34 ∨ oL κ.2.2.2.2 b2 = 70)) (cbb2 : (oI κ.2.2.2.2 25 k0).toInt ≤ ((oL κ.2.2.2.2 b2 : Nat) : Int)) (nbb2 : 0 ≤ (oI κ.2.2.2.2 25 k0).toInt) (tx3 : (oI κ.2.2.2.2 25 k0).toInt = x3.toInt) (ex4 : x4 = x3 + r1) (tx4 : x4.toInt = x3.toInt + r1.toInt) (kl7 : oL P6 b2 = oL κ.2.2.2.2 b2) (hr5_3_0 : (oI P6 25 k0).toInt = (oI κ.2.2.2.2 25 k0).toInt) (hr5_3_1 : x4.toInt ≤ ((sbL P6 k0 : Nat) : Int)) (hr5_3_2 : ((sbL κ.2.2.2.2 k0 : Nat) : Int) ≤ ((sbL P6 k0 : Nat) : Int)) (hr5_3_3 : gr1 (x4.toInt) ≤ 1) (hr5_3_4 : gr70 (x4.toInt) ≤ 70) (hr5_3_5 : x4.toInt ≤ 16 → gr1 (x4.toInt) = 0 ∧ gr70 (x4.toInt) = 0) (hr5_3_6 : 16 < x4.toInt → gr1 (x4.toInt) = 1 ∧ gr70 (x4.toInt) = 70) (sbb9 : sbL P6 k0 = oL P6 b9) (lbb9 : (oL P6 b9 = 16 ∨ oL P6 b9 = 34 ∨ oL P6 b9 = 70)) (cbb9 : (oI P6 25 k0).toInt ≤ ((oL P6 b9 : Nat) : Int)) (nbb9 : 0 ≤ (oI P6 25 k0).toInt) (tx10 : (oI P6 25 k0).toInt = x10.toInt) : 0 ≤ x10.toInt ∧ x10.toInt + ((kn1 : Nat) : Int) ≤ ((sbL P6 k0 : Nat) : Int) := by
  refine ⟨?_, ?_⟩ <;> first | assumption | omega | (subst_vars; omega) | trivial
-- room @30
theorem vJ5_append_cf1ce_6 (sa : Nat → Nat) (κ : KS) (k0 : Nat) (k1 : Nat) (kn1 : Nat) (r1 : Int32) (b2 : Nat) (x3 : Int32) (x4 : Int32) (P6 : PL) (b9 : Nat) (x10 : Int32) (hpre : (oI κ.2.2.2.2 25 k0).toInt + ((kn1 : Nat) : Int) ≤ 16) (hsl1 : sLen κ.2.2.2.2 sa k1 = kn1) (hr1 : r1.toInt = ((kn1 : Nat) : Int)) (sbb2 : sbL κ.2.2.2.2 k0 = oL κ.2.2.2.2 b2) (cbb2 : (oI κ.2.2.2.2 25 k0).toInt ≤ ((oL κ.2.2.2.2 b2 : Nat) : Int)) (nbb2 : 0 ≤ (oI κ.2.2.2.2 25 k0).toInt) (tx3 : (oI κ.2.2.2.2 25 k0).toInt = x3.toInt) (ex4 : x4 = x3 + r1) (tx4 : x4.toInt = x3.toInt + r1.toInt) (kl7 : oL P6 b2 = oL κ.2.2.2.2 b2) (hr5_3_0 : (oI P6 25 k0).toInt = (oI κ.2.2.2.2 25 k0).toInt) (hr5_3_1 : x4.toInt ≤ ((sbL P6 k0 : Nat) : Int)) (hr5_3_2 : ((sbL κ.2.2.2.2 k0 : Nat) : Int) ≤ ((sbL P6 k0 : Nat) : Int)) (hr5_3_3 : gr1 (x4.toInt) ≤ 1) (hr5_3_4 : gr70 (x4.toInt) ≤ 70) (hr5_3_5 : x4.toInt ≤ 16 → gr1 (x4.toInt) = 0 ∧ gr70 (x4.toInt) = 0) (hr5_3_6 : 16 < x4.toInt → gr1 (x4.toInt) = 1 ∧ gr70 (x4.toInt) = 70) (sbb9 : sbL P6 k0 = oL P6 b9) (lbb9 : (oL P6 b9 = 16 ∨ oL P6 b9 = 34 ∨ oL P6 b9 = 70)) (cbb9 : (oI P6 25 k0).toInt ≤ ((oL P6 b9 : Nat) : Int)) (nbb9 : 0 ≤ (oI P6 25 k0).toInt) (tx10 : (oI P6 25 k0).toInt = x10.toInt) : 0 + 0 + (gr1 (x4.toInt)) + 0 ≤ 0 := by
  have zg0 := gr_spec (x4.toInt)
  first | assumption | omega | (subst_vars; omega) | trivial
-- room @30
theorem vJ5_append_cf1ce_7 (sa : Nat → Nat) (κ : KS) (k0 : Nat) (k1 : Nat) (kn1 : Nat) (r1 : Int32) (b2 : Nat) (x3 : Int32) (x4 : Int32) (P6 : PL) (b9 : Nat) (x10 : Int32) (hpre : (oI κ.2.2.2.2 25 k0).toInt + ((kn1 : Nat) : Int) ≤ 16) (hsl1 : sLen κ.2.2.2.2 sa k1 = kn1) (hr1 : r1.toInt = ((kn1 : Nat) : Int)) (sbb2 : sbL κ.2.2.2.2 k0 = oL κ.2.2.2.2 b2) (cbb2 : (oI κ.2.2.2.2 25 k0).toInt ≤ ((oL κ.2.2.2.2 b2 : Nat) : Int)) (nbb2 : 0 ≤ (oI κ.2.2.2.2 25 k0).toInt) (tx3 : (oI κ.2.2.2.2 25 k0).toInt = x3.toInt) (ex4 : x4 = x3 + r1) (tx4 : x4.toInt = x3.toInt + r1.toInt) (kl7 : oL P6 b2 = oL κ.2.2.2.2 b2) (hr5_3_0 : (oI P6 25 k0).toInt = (oI κ.2.2.2.2 25 k0).toInt) (hr5_3_1 : x4.toInt ≤ ((sbL P6 k0 : Nat) : Int)) (hr5_3_2 : ((sbL κ.2.2.2.2 k0 : Nat) : Int) ≤ ((sbL P6 k0 : Nat) : Int)) (hr5_3_3 : gr1 (x4.toInt) ≤ 1) (hr5_3_4 : gr70 (x4.toInt) ≤ 70) (hr5_3_5 : x4.toInt ≤ 16 → gr1 (x4.toInt) = 0 ∧ gr70 (x4.toInt) = 0) (hr5_3_6 : 16 < x4.toInt → gr1 (x4.toInt) = 1 ∧ gr70 (x4.toInt) = 70) (sbb9 : sbL P6 k0 = oL P6 b9) (lbb9 : (oL P6 b9 = 16 ∨ oL P6 b9 = 34 ∨ oL P6 b9 = 70)) (cbb9 : (oI P6 25 k0).toInt ≤ ((oL P6 b9 : Nat) : Int)) (nbb9 : 0 ≤ (oI P6 25 k0).toInt) (tx10 : (oI P6 25 k0).toInt = x10.toInt) : 0 + 0 + (gr70 (x4.toInt)) + 0 ≤ 0 := by
  have zg0 := gr_spec (x4.toInt)
  first | assumption | omega | (subst_vars; omega) | trivial
-- nw@39 @39
theorem vJ5_append_cf1ce_8 (sa : Nat → Nat) (κ : KS) (k0 : Nat) (k1 : Nat) (kn1 : Nat) (r1 : Int32) (b2 : Nat) (x3 : Int32) (x4 : Int32) (P6 : PL) (b9 : Nat) (x10 : Int32) (P12 : PL) (b17 : Nat) (x18 : Int32) (x19 : Int32) (hpre : (oI κ.2.2.2.2 25 k0).toInt + ((kn1 : Nat) : Int) ≤ 16) (hsl1 : sLen κ.2.2.2.2 sa k1 = kn1) (hr1 : r1.toInt = ((kn1 : Nat) : Int)) (sbb2 : sbL κ.2.2.2.2 k0 = oL κ.2.2.2.2 b2) (cbb2 : (oI κ.2.2.2.2 25 k0).toInt ≤ ((oL κ.2.2.2.2 b2 : Nat) : Int)) (nbb2 : 0 ≤ (oI κ.2.2.2.2 25 k0).toInt) (tx3 : (oI κ.2.2.2.2 25 k0).toInt = x3.toInt) (ex4 : x4 = x3 + r1) (tx4 : x4.toInt = x3.toInt + r1.toInt) (kl7 : oL P6 b2 = oL κ.2.2.2.2 b2) (hr5_3_0 : (oI P6 25 k0).toInt = (oI κ.2.2.2.2 25 k0).toInt) (hr5_3_1 : x4.toInt ≤ ((sbL P6 k0 : Nat) : Int)) (hr5_3_2 : ((sbL κ.2.2.2.2 k0 : Nat) : Int) ≤ ((sbL P6 k0 : Nat) : Int)) (hr5_3_3 : gr1 (x4.toInt) ≤ 1) (hr5_3_4 : gr70 (x4.toInt) ≤ 70) (hr5_3_5 : x4.toInt ≤ 16 → gr1 (x4.toInt) = 0 ∧ gr70 (x4.toInt) = 0) (hr5_3_6 : 16 < x4.toInt → gr1 (x4.toInt) = 1 ∧ gr70 (x4.toInt) = 70) (sbb9 : sbL P6 k0 = oL P6 b9) (cbb9 : (oI P6 25 k0).toInt ≤ ((oL P6 b9 : Nat) : Int)) (nbb9 : 0 ≤ (oI P6 25 k0).toInt) (tx10 : (oI P6 25 k0).toInt = x10.toInt) (kl13 : oL P12 b2 = oL P6 b2) (kl14 : oL P12 b9 = oL P6 b9) (hr11_3 : SBS P6 P12) (ak16 : (oI P12 25 k0).toInt = (oI P6 25 k0).toInt) (bk16 : sbL P12 k0 = sbL P6 k0) (sbb17 : sbL P12 k0 = oL P12 b17) (lbb17 : (oL P12 b17 = 16 ∨ oL P12 b17 = 34 ∨ oL P12 b17 = 70)) (cbb17 : (oI P12 25 k0).toInt ≤ ((oL P12 b17 : Nat) : Int)) (nbb17 : 0 ≤ (oI P12 25 k0).toInt) (tx18 : (oI P12 25 k0).toInt = x18.toInt) (ex19 : x19 = x18 + r1) : x19.toInt = x18.toInt + r1.toInt := by
  rw [ex19, z_add (by omega) (by omega)]; first | done | omega
-- cnt @40
theorem vJ5_append_cf1ce_9 (sa : Nat → Nat) (κ : KS) (k0 : Nat) (k1 : Nat) (kn1 : Nat) (r1 : Int32) (b2 : Nat) (x3 : Int32) (x4 : Int32) (P6 : PL) (b9 : Nat) (x10 : Int32) (P12 : PL) (b17 : Nat) (x18 : Int32) (x19 : Int32) (hpre : (oI κ.2.2.2.2 25 k0).toInt + ((kn1 : Nat) : Int) ≤ 16) (hsl1 : sLen κ.2.2.2.2 sa k1 = kn1) (hr1 : r1.toInt = ((kn1 : Nat) : Int)) (sbb2 : sbL κ.2.2.2.2 k0 = oL κ.2.2.2.2 b2) (lbb2 : (oL κ.2.2.2.2 b2 = 16 ∨ oL κ.2.2.2.2 b2 = 34 ∨ oL κ.2.2.2.2 b2 = 70)) (cbb2 : (oI κ.2.2.2.2 25 k0).toInt ≤ ((oL κ.2.2.2.2 b2 : Nat) : Int)) (nbb2 : 0 ≤ (oI κ.2.2.2.2 25 k0).toInt) (tx3 : (oI κ.2.2.2.2 25 k0).toInt = x3.toInt) (ex4 : x4 = x3 + r1) (tx4 : x4.toInt = x3.toInt + r1.toInt) (kl7 : oL P6 b2 = oL κ.2.2.2.2 b2) (hr5_3_0 : (oI P6 25 k0).toInt = (oI κ.2.2.2.2 25 k0).toInt) (hr5_3_1 : x4.toInt ≤ ((sbL P6 k0 : Nat) : Int)) (hr5_3_2 : ((sbL κ.2.2.2.2 k0 : Nat) : Int) ≤ ((sbL P6 k0 : Nat) : Int)) (hr5_3_3 : gr1 (x4.toInt) ≤ 1) (hr5_3_4 : gr70 (x4.toInt) ≤ 70) (hr5_3_5 : x4.toInt ≤ 16 → gr1 (x4.toInt) = 0 ∧ gr70 (x4.toInt) = 0) (hr5_3_6 : 16 < x4.toInt → gr1 (x4.toInt) = 1 ∧ gr70 (x4.toInt) = 70) (sbb9 : sbL P6 k0 = oL P6 b9) (lbb9 : (oL P6 b9 = 16 ∨ oL P6 b9 = 34 ∨ oL P6 b9 = 70)) (cbb9 : (oI P6 25 k0).toInt ≤ ((oL P6 b9 : Nat) : Int)) (nbb9 : 0 ≤ (oI P6 25 k0).toInt) (tx10 : (oI P6 25 k0).toInt = x10.toInt) (kl13 : oL P12 b2 = oL P6 b2) (kl14 : oL P12 b9 = oL P6 b9) (hr11_3 : SBS P6 P12) (ak16 : (oI P12 25 k0).toInt = (oI P6 25 k0).toInt) (bk16 : sbL P12 k0 = sbL P6 k0) (sbb17 : sbL P12 k0 = oL P12 b17) (lbb17 : (oL P12 b17 = 16 ∨ oL P12 b17 = 34 ∨ oL P12 b17 = 70)) (cbb17 : (oI P12 25 k0).toInt ≤ ((oL P12 b17 : Nat) : Int)) (nbb17 : 0 ≤ (oI P12 25 k0).toInt) (tx18 : (oI P12 25 k0).toInt = x18.toInt) (ex19 : x19 = x18 + r1) (tx19 : x19.toInt = x18.toInt + r1.toInt) : 0 ≤ x19.toInt ∧ x19.toInt ≤ ((sbL P12 k0 : Nat) : Int) := by
  refine ⟨?_, ?_⟩ <;> first | assumption | omega | (subst_vars; omega) | trivial
-- post @44
theorem vJ5_append_cf1ce_10 (sa : Nat → Nat) (κ : KS) (k0 : Nat) (k1 : Nat) (kn1 : Nat) (r1 : Int32) (b2 : Nat) (x3 : Int32) (x4 : Int32) (P6 : PL) (b9 : Nat) (x10 : Int32) (P12 : PL) (b17 : Nat) (x18 : Int32) (x19 : Int32) (hpre : (oI κ.2.2.2.2 25 k0).toInt + ((kn1 : Nat) : Int) ≤ 16) (hsl1 : sLen κ.2.2.2.2 sa k1 = kn1) (hr1 : r1.toInt = ((kn1 : Nat) : Int)) (sbb2 : sbL κ.2.2.2.2 k0 = oL κ.2.2.2.2 b2) (lbb2 : (oL κ.2.2.2.2 b2 = 16 ∨ oL κ.2.2.2.2 b2 = 34 ∨ oL κ.2.2.2.2 b2 = 70)) (cbb2 : (oI κ.2.2.2.2 25 k0).toInt ≤ ((oL κ.2.2.2.2 b2 : Nat) : Int)) (nbb2 : 0 ≤ (oI κ.2.2.2.2 25 k0).toInt) (tx3 : (oI κ.2.2.2.2 25 k0).toInt = x3.toInt) (ex4 : x4 = x3 + r1) (tx4 : x4.toInt = x3.toInt + r1.toInt) (kl7 : oL P6 b2 = oL κ.2.2.2.2 b2) (hr5_3_0 : (oI P6 25 k0).toInt = (oI κ.2.2.2.2 25 k0).toInt) (hr5_3_1 : x4.toInt ≤ ((sbL P6 k0 : Nat) : Int)) (hr5_3_2 : ((sbL κ.2.2.2.2 k0 : Nat) : Int) ≤ ((sbL P6 k0 : Nat) : Int)) (hr5_3_3 : gr1 (x4.toInt) ≤ 1) (hr5_3_4 : gr70 (x4.toInt) ≤ 70) (hr5_3_5 : x4.toInt ≤ 16 → gr1 (x4.toInt) = 0 ∧ gr70 (x4.toInt) = 0) (hr5_3_6 : 16 < x4.toInt → gr1 (x4.toInt) = 1 ∧ gr70 (x4.toInt) = 70) (sbb9 : sbL P6 k0 = oL P6 b9) (lbb9 : (oL P6 b9 = 16 ∨ oL P6 b9 = 34 ∨ oL P6 b9 = 70)) (cbb9 : (oI P6 25 k0).toInt ≤ ((oL P6 b9 : Nat) : Int)) (nbb9 : 0 ≤ (oI P6 25 k0).toInt) (tx10 : (oI P6 25 k0).toInt = x10.toInt) (kl13 : oL P12 b2 = oL P6 b2) (kl14 : oL P12 b9 = oL P6 b9) (hr11_3 : SBS P6 P12) (ak16 : (oI P12 25 k0).toInt = (oI P6 25 k0).toInt) (bk16 : sbL P12 k0 = sbL P6 k0) (sbb17 : sbL P12 k0 = oL P12 b17) (lbb17 : (oL P12 b17 = 16 ∨ oL P12 b17 = 34 ∨ oL P12 b17 = 70)) (cbb17 : (oI P12 25 k0).toInt ≤ ((oL P12 b17 : Nat) : Int)) (nbb17 : 0 ≤ (oI P12 25 k0).toInt) (tx18 : (oI P12 25 k0).toInt = x18.toInt) (ex19 : x19 = x18 + r1) (tx19 : x19.toInt = x18.toInt + r1.toInt) (af21 : (oI (sI P12 25 k0 x19) 25 k0).toInt = x19.toInt) (bf21 : sbL (sI P12 25 k0 x19) k0 = oL P12 b17) : (oI (sI P12 25 k0 x19) 25 k0).toInt = (oI κ.2.2.2.2 25 k0).toInt + ((kn1 : Nat) : Int) := by
  first | assumption | omega | (subst_vars; omega) | trivial
-- post2 @44
theorem vJ5_append_cf1ce_11 (sa : Nat → Nat) (κ : KS) (k0 : Nat) (k1 : Nat) (kn1 : Nat) (r1 : Int32) (b2 : Nat) (x3 : Int32) (x4 : Int32) (P6 : PL) (b9 : Nat) (x10 : Int32) (P12 : PL) (b17 : Nat) (x18 : Int32) (x19 : Int32) (ht0 : oT κ.2.2.2.2 k0 = 12) (ht1 : SL κ.2.2.2.2 sa k1 kn1) (hPV : PV sa κ.2.2.2.2) (kz0 : KZ κ.2.2.2.2 sa) (hpre : (oI κ.2.2.2.2 25 k0).toInt + ((kn1 : Nat) : Int) ≤ 16) (hsl1 : sLen κ.2.2.2.2 sa k1 = kn1) (hr1y : ∀ s9 : List Int, TXq κ.2.2.2.2 sa k1 s9 → r1.toInt = (s9.length : Int)) (hr1 : r1.toInt = ((kn1 : Nat) : Int)) (sbb2 : sbL κ.2.2.2.2 k0 = oL κ.2.2.2.2 b2) (lbb2 : (oL κ.2.2.2.2 b2 = 16 ∨ oL κ.2.2.2.2 b2 = 34 ∨ oL κ.2.2.2.2 b2 = 70)) (cbb2 : (oI κ.2.2.2.2 25 k0).toInt ≤ ((oL κ.2.2.2.2 b2 : Nat) : Int)) (nbb2 : 0 ≤ (oI κ.2.2.2.2 25 k0).toInt) (nsb2 : NS κ.2.2.2.2 b2) (ebb2 : oR κ.2.2.2.2 12 k0 = some b2) (tbb2 : oT κ.2.2.2.2 b2 = 8) (tx3 : (oI κ.2.2.2.2 25 k0).toInt = x3.toInt) (ex4 : x4 = x3 + r1) (tx4 : x4.toInt = x3.toInt + r1.toInt) (kl7 : oL P6 b2 = oL κ.2.2.2.2 b2) (hr5_0 : EX κ.2.2.2.2 P6) (hr5_2 : KPx True κ.2.2.2.2 P6) (hr5y : ∀ s9 : List Int, SBP κ.2.2.2.2 k0 s9 → (s9.length : Int) ≤ (oI κ.2.2.2.2 25 k0).toInt → SBP P6 k0 s9) (hr5_3_0 : (oI P6 25 k0).toInt = (oI κ.2.2.2.2 25 k0).toInt) (hr5_3_1 : x4.toInt ≤ ((sbL P6 k0 : Nat) : Int)) (hr5_3_2 : ((sbL κ.2.2.2.2 k0 : Nat) : Int) ≤ ((sbL P6 k0 : Nat) : Int)) (hr5_3_3 : gr1 (x4.toInt) ≤ 1) (hr5_3_4 : gr70 (x4.toInt) ≤ 70) (hr5_3_5 : x4.toInt ≤ 16 → gr1 (x4.toInt) = 0 ∧ gr70 (x4.toInt) = 0) (hr5_3_6 : 16 < x4.toInt → gr1 (x4.toInt) = 1 ∧ gr70 (x4.toInt) = 70) (sbb9 : sbL P6 k0 = oL P6 b9) (lbb9 : (oL P6 b9 = 16 ∨ oL P6 b9 = 34 ∨ oL P6 b9 = 70)) (cbb9 : (oI P6 25 k0).toInt ≤ ((oL P6 b9 : Nat) : Int)) (nbb9 : 0 ≤ (oI P6 25 k0).toInt) (nsb9 : NS P6 b9) (ebb9 : oR P6 12 k0 = some b9) (tbb9 : oT P6 b9 = 8) (tx10 : (oI P6 25 k0).toInt = x10.toInt) (kl13 : oL P12 b2 = oL P6 b2) (kl14 : oL P12 b9 = oL P6 b9) (hr11_0 : EX P6 P12) (hr11_2 : KPx True P6 P12) (hr11_3 : SBS P6 P12) (ak16 : (oI P12 25 k0).toInt = (oI P6 25 k0).toInt) (bk16 : sbL P12 k0 = sbL P6 k0) (hr11y : ∀ s9 t9 : List Int, SBP P6 k0 s9 → x10.toInt = (s9.length : Int) → TXq P6 sa k1 t9 → SBP P12 k0 (s9 ++ t9)) (sbb17 : sbL P12 k0 = oL P12 b17) (lbb17 : (oL P12 b17 = 16 ∨ oL P12 b17 = 34 ∨ oL P12 b17 = 70)) (cbb17 : (oI P12 25 k0).toInt ≤ ((oL P12 b17 : Nat) : Int)) (nbb17 : 0 ≤ (oI P12 25 k0).toInt) (nsb17 : NS P12 b17) (ebb17 : oR P12 12 k0 = some b17) (tbb17 : oT P12 b17 = 8) (tx18 : (oI P12 25 k0).toInt = x18.toInt) (ex19 : x19 = x18 + r1) (tx19 : x19.toInt = x18.toInt + r1.toInt) (exz20 : EX P12 (sI P12 25 k0 x19)) (af21 : (oI (sI P12 25 k0 x19) 25 k0).toInt = x19.toInt) (bf21 : sbL (sI P12 25 k0 x19) k0 = oL P12 b17) : ∀ s9 t9 : List Int, SBX κ.2.2.2.2 k0 s9 → TXq κ.2.2.2.2 sa k1 t9 → SBX (sI P12 25 k0 x19) k0 (s9 ++ t9) := by
  intro s9 t9 h ht
  obtain ⟨h1, h2⟩ := h
  have l1 := TXq.len9 kz0 ht1 ht
  have z := hr11y s9 t9 (hr5y s9 h2 (by omega)) (by omega) (ht.ex9 hr5_0 hr5_2)
  refine ⟨?_, z⟩
  rw [List.length_append]
  omega
-- grow @44
theorem vJ5_append_cf1ce_12 (sa : Nat → Nat) (κ : KS) (k0 : Nat) (k1 : Nat) (kn1 : Nat) (r1 : Int32) (b2 : Nat) (x3 : Int32) (x4 : Int32) (P6 : PL) (b9 : Nat) (x10 : Int32) (P12 : PL) (b17 : Nat) (x18 : Int32) (x19 : Int32) (hpre : (oI κ.2.2.2.2 25 k0).toInt + ((kn1 : Nat) : Int) ≤ 16) (hsl1 : sLen κ.2.2.2.2 sa k1 = kn1) (hr1 : r1.toInt = ((kn1 : Nat) : Int)) (sbb2 : sbL κ.2.2.2.2 k0 = oL κ.2.2.2.2 b2) (cbb2 : (oI κ.2.2.2.2 25 k0).toInt ≤ ((oL κ.2.2.2.2 b2 : Nat) : Int)) (nbb2 : 0 ≤ (oI κ.2.2.2.2 25 k0).toInt) (tx3 : (oI κ.2.2.2.2 25 k0).toInt = x3.toInt) (ex4 : x4 = x3 + r1) (tx4 : x4.toInt = x3.toInt + r1.toInt) (kl7 : oL P6 b2 = oL κ.2.2.2.2 b2) (hr5_3_0 : (oI P6 25 k0).toInt = (oI κ.2.2.2.2 25 k0).toInt) (hr5_3_1 : x4.toInt ≤ ((sbL P6 k0 : Nat) : Int)) (hr5_3_2 : ((sbL κ.2.2.2.2 k0 : Nat) : Int) ≤ ((sbL P6 k0 : Nat) : Int)) (hr5_3_3 : gr1 (x4.toInt) ≤ 1) (hr5_3_4 : gr70 (x4.toInt) ≤ 70) (hr5_3_5 : x4.toInt ≤ 16 → gr1 (x4.toInt) = 0 ∧ gr70 (x4.toInt) = 0) (hr5_3_6 : 16 < x4.toInt → gr1 (x4.toInt) = 1 ∧ gr70 (x4.toInt) = 70) (sbb9 : sbL P6 k0 = oL P6 b9) (lbb9 : (oL P6 b9 = 16 ∨ oL P6 b9 = 34 ∨ oL P6 b9 = 70)) (cbb9 : (oI P6 25 k0).toInt ≤ ((oL P6 b9 : Nat) : Int)) (nbb9 : 0 ≤ (oI P6 25 k0).toInt) (tx10 : (oI P6 25 k0).toInt = x10.toInt) (kl13 : oL P12 b2 = oL P6 b2) (kl14 : oL P12 b9 = oL P6 b9) (hr11_3 : SBS P6 P12) (ak16 : (oI P12 25 k0).toInt = (oI P6 25 k0).toInt) (bk16 : sbL P12 k0 = sbL P6 k0) (sbb17 : sbL P12 k0 = oL P12 b17) (cbb17 : (oI P12 25 k0).toInt ≤ ((oL P12 b17 : Nat) : Int)) (nbb17 : 0 ≤ (oI P12 25 k0).toInt) (tx18 : (oI P12 25 k0).toInt = x18.toInt) (ex19 : x19 = x18 + r1) (tx19 : x19.toInt = x18.toInt + r1.toInt) (af21 : (oI (sI P12 25 k0 x19) 25 k0).toInt = x19.toInt) (bf21 : sbL (sI P12 25 k0 x19) k0 = oL P12 b17) : 0 + 0 + (gr1 (x4.toInt)) + 0 ≤ 0 := by
  have zg0 := gr_spec (x4.toInt)
  first | assumption | omega | (subst_vars; omega) | trivial
-- grow @44
theorem vJ5_append_cf1ce_13 (sa : Nat → Nat) (κ : KS) (k0 : Nat) (k1 : Nat) (kn1 : Nat) (r1 : Int32) (b2 : Nat) (x3 : Int32) (x4 : Int32) (P6 : PL) (b9 : Nat) (x10 : Int32) (P12 : PL) (b17 : Nat) (x18 : Int32) (x19 : Int32) (hpre : (oI κ.2.2.2.2 25 k0).toInt + ((kn1 : Nat) : Int) ≤ 16) (hsl1 : sLen κ.2.2.2.2 sa k1 = kn1) (hr1 : r1.toInt = ((kn1 : Nat) : Int)) (sbb2 : sbL κ.2.2.2.2 k0 = oL κ.2.2.2.2 b2) (cbb2 : (oI κ.2.2.2.2 25 k0).toInt ≤ ((oL κ.2.2.2.2 b2 : Nat) : Int)) (nbb2 : 0 ≤ (oI κ.2.2.2.2 25 k0).toInt) (tx3 : (oI κ.2.2.2.2 25 k0).toInt = x3.toInt) (ex4 : x4 = x3 + r1) (tx4 : x4.toInt = x3.toInt + r1.toInt) (kl7 : oL P6 b2 = oL κ.2.2.2.2 b2) (hr5_3_0 : (oI P6 25 k0).toInt = (oI κ.2.2.2.2 25 k0).toInt) (hr5_3_1 : x4.toInt ≤ ((sbL P6 k0 : Nat) : Int)) (hr5_3_2 : ((sbL κ.2.2.2.2 k0 : Nat) : Int) ≤ ((sbL P6 k0 : Nat) : Int)) (hr5_3_3 : gr1 (x4.toInt) ≤ 1) (hr5_3_4 : gr70 (x4.toInt) ≤ 70) (hr5_3_5 : x4.toInt ≤ 16 → gr1 (x4.toInt) = 0 ∧ gr70 (x4.toInt) = 0) (hr5_3_6 : 16 < x4.toInt → gr1 (x4.toInt) = 1 ∧ gr70 (x4.toInt) = 70) (sbb9 : sbL P6 k0 = oL P6 b9) (lbb9 : (oL P6 b9 = 16 ∨ oL P6 b9 = 34 ∨ oL P6 b9 = 70)) (cbb9 : (oI P6 25 k0).toInt ≤ ((oL P6 b9 : Nat) : Int)) (nbb9 : 0 ≤ (oI P6 25 k0).toInt) (tx10 : (oI P6 25 k0).toInt = x10.toInt) (kl13 : oL P12 b2 = oL P6 b2) (kl14 : oL P12 b9 = oL P6 b9) (hr11_3 : SBS P6 P12) (ak16 : (oI P12 25 k0).toInt = (oI P6 25 k0).toInt) (bk16 : sbL P12 k0 = sbL P6 k0) (sbb17 : sbL P12 k0 = oL P12 b17) (cbb17 : (oI P12 25 k0).toInt ≤ ((oL P12 b17 : Nat) : Int)) (nbb17 : 0 ≤ (oI P12 25 k0).toInt) (tx18 : (oI P12 25 k0).toInt = x18.toInt) (ex19 : x19 = x18 + r1) (tx19 : x19.toInt = x18.toInt + r1.toInt) (af21 : (oI (sI P12 25 k0 x19) 25 k0).toInt = x19.toInt) (bf21 : sbL (sI P12 25 k0 x19) k0 = oL P12 b17) : 0 + 0 + (gr70 (x4.toInt)) + 0 ≤ 0 := by
  have zg0 := gr_spec (x4.toInt)
  first | assumption | omega | (subst_vars; omega) | trivial
set_option maxHeartbeats 4000000 in
set_option maxRecDepth 100000 in
theorem NJ5_append_cf1ce (l : Launch) (D : va_G) (cy : Nat → ClassId) (ad : Nat → Nat) (A : Nat → Prop) (sz0 : Nat) (sa : Nat → Nat)  (κ : KS) (sz sl : Nat) (hAF : ∀ q, A q → Fr sz0 q) (hAn : ∀ q : Nat, sz ≤ q → A q) (k0 : Nat) (k1 : Nat) (kn1 : Nat) (ht0 : oT κ.2.2.2.2 k0 = 12) (ht1 : SL κ.2.2.2.2 sa k1 kn1) (hPV : PV sa κ.2.2.2.2) (hpre : (oI κ.2.2.2.2 25 k0).toInt + ((kn1 : Nat) : Int) ≤ 16) : Met l yJ5_append_cf1ce (Cond.code yJ5_append_cf1ce cJ5_append_cf1ce 3 (some (.object "java/lang/AbstractStringBuilder")) :: GWc) ({ frames := 4, cells := 0, slots := 0, locals := 100 }) (PcC D cy ad A sz0 sa [.ref k0, .ref k1] κ sz sl) (va_Qq (fun (r : Option Nat) (u : PL) => ((EX κ.2.2.2.2 u) ∧ (PV sa u) ∧ (KPx True κ.2.2.2.2 u) ∧ (NN u 12 r) ∧ ((oI u 25 k0).toInt = (oI κ.2.2.2.2 25 k0).toInt + ((kn1 : Nat) : Int))) ∧ (∀ s9 t9 : List Int, SBX κ.2.2.2.2 k0 s9 → TXq κ.2.2.2.2 sa k1 t9 → SBX u k0 (s9 ++ t9))) (fun (u : PL) (t : State) => Bx D cy ad A sz sl (tP κ u) (0) (0) t) A) (0) (0) A := by
  refine CM_of (loc0 := [(0, .ref k0), (1, .ref k1)]) (own := RJ5) (nm := "append") (by decide) rfl rfl rfl (Nat.le_of_ble_eq_true rfl) hAF hAn ?_
  intro p e s m below meth c ls hsz hsl C hP hS hl
  have kz0 : KZ κ.2.2.2.2 sa := KZ.mk9 C hP
  have hsl1 : sLen κ.2.2.2.2 sa k1 = kn1 := ht1.len C hP
  refine lv_aload_n C.x C.b dJ5_append_cf1ce_0 rfl (lv_at hl 1 rfl) ?_
  refine lv_ifnonnull (tgt := 9) C.x C.b dJ5_append_cf1ce_1 (by decide) ?_
  refine lv_aload_n C.x C.b dJ5_append_cf1ce_9 rfl (lv_at hl 1 rfl) ?_
  refine c_callVi (n := 0) (As := []) (rest := []) C hP hS hl.1 (NJ0_length_8abf5 l D cy ad A sz0 sa κ s.heap.size (SLT s.heap) C.f (fun q h => C.a q (Nat.le_trans hS.1 h)) k1 kn1 ht1 hPV) ⟨cw_358, cw_101, by decide +kernel⟩ ⟨cw_99, cw_100, cw_70⟩ rfl (c_srecv C hP hS ht1.sok) rfl rfl (lv_room (Nat.le_of_ble_eq_true rfl)) ⟨Nat.le_of_ble_eq_true rfl, Nat.le_of_ble_eq_true rfl⟩ ⟨(Nat.le_of_ble_eq_true rfl), (Nat.le_of_ble_eq_true rfl)⟩ dJ5_append_cf1ce_10 (fun r1 u H locs hr1 hP hS => ?_)
  obtain ⟨hr1, hr1y⟩ := hr1
  have hr1y : ∀ s9 : List Int, TXq κ.2.2.2.2 sa k1 s9 → r1.toInt = (s9.length : Int) := hr1y
  have hr1 : (r1.toInt = ((kn1 : Nat) : Int)) := hr1
  refine lv_istore_n (lv' := [(2, .int r1), (0, .ref k0), (1, .ref k1)]) C.x C.b dJ5_append_cf1ce_13 rfl hl (by decide) rfl (fun ls hl => ?_)
  refine lv_aload_n C.x C.b dJ5_append_cf1ce_14 rfl (lv_at hl 1 rfl) ?_
  refine lv_aload_n C.x C.b dJ5_append_cf1ce_15 rfl (lv_at hl 1 rfl) ?_
  obtain ⟨b2, ebb2, tbb2, sbb2, lbb2, cbb2, nbb2, zbb2⟩ : ∃ b, oR κ.2.2.2.2 12 k0 = some b ∧ oT κ.2.2.2.2 b = 8 ∧ sbL κ.2.2.2.2 k0 = oL κ.2.2.2.2 b ∧ (oL κ.2.2.2.2 b = 16 ∨ oL κ.2.2.2.2 b = 34 ∨ oL κ.2.2.2.2 b = 70) ∧ (oI κ.2.2.2.2 25 k0).toInt ≤ ((oL κ.2.2.2.2 b : Nat) : Int) ∧ 0 ≤ (oI κ.2.2.2.2 25 k0).toInt ∧ oI κ.2.2.2.2 23 k0 = 0 := hPV.sb ht0
  have nsb2 : NS κ.2.2.2.2 b2 := hPV.ns ht0 (show oR κ.2.2.2.2 12 k0 = some b2 from ebb2)
  obtain ⟨x3, ex3⟩ : ∃ z, oI κ.2.2.2.2 25 k0 = z := ⟨_, rfl⟩
  have tx3 : (oI κ.2.2.2.2 25 k0).toInt = x3.toInt := by rw [ex3]
  refine pg_J4_3 (v := x3) C hP (t20 (a := k0) (t := 12) ht0) ex3 cw_157 dJ5_append_cf1ce_16 ?_
  refine lv_iload_n C.x C.b dJ5_append_cf1ce_19 rfl (lv_at hl 0 rfl) ?_
  refine lv_iadd C.x C.b dJ5_append_cf1ce_20 ?_
  refine lv_topi (fun x4 ex4 => ?_)
  have tx4 : x4.toInt = x3.toInt + r1.toInt := (vJ5_append_cf1ce_1 sa κ k0 k1 kn1 r1 b2 x3 x4 hpre hsl1 hr1 sbb2 lbb2 cbb2 nbb2 tx3 ex4)
  refine c_callUv (owner := "java/lang/AbstractStringBuilder") (n := 1) (As := [.int x4]) (rest := []) C hP hS hl.1 (NJ5_ensureCapacityInternal_d00df l D cy ad A sz0 sa κ H.size (SLT H) C.f (fun q h => C.a q (Nat.le_trans hS.1 h)) k0 x4 ht0 hPV (vJ5_append_cf1ce_2 sa κ k0 k1 kn1 r1 b2 x3 x4 hpre hsl1 hr1 sbb2 lbb2 cbb2 nbb2 tx3 ex4 tx4)) ⟨cw_159, cw_163, by decide +kernel⟩ ⟨cw_160, cw_161, cw_162, cw_15⟩ rfl (hP.recvP (t := 12) (ci := 1) C.K (t20 (a := k0) (t := 12) ht0) (by decide) rfl rfl) rfl rfl (lv_room (Nat.le_of_ble_eq_true rfl)) ⟨Nat.le_of_ble_eq_true rfl, Nat.le_of_ble_eq_true rfl⟩ ⟨(vJ5_append_cf1ce_3 sa κ k0 k1 kn1 r1 b2 x3 x4 hpre hsl1 hr1 sbb2 cbb2 nbb2 tx3 ex4 tx4), (vJ5_append_cf1ce_4 sa κ k0 k1 kn1 r1 b2 x3 x4 hpre hsl1 hr1 sbb2 cbb2 nbb2 tx3 ex4 tx4)⟩ dJ5_append_cf1ce_21 (fun u H locs hr5 hP hS => ?_)
  obtain ⟨P6, rfl⟩ : ∃ z, z = u := ⟨_, rfl⟩
  have hP : CH D cy ad A (tP κ P6) H := hP
  obtain ⟨hr5, hr5y⟩ := hr5
  have hr5y : ∀ s9 : List Int, SBP κ.2.2.2.2 k0 s9 → (s9.length : Int) ≤ (oI κ.2.2.2.2 25 k0).toInt → SBP P6 k0 s9 := hr5y
  have hr5 : (EX κ.2.2.2.2 P6) ∧ (PV sa P6) ∧ (KPx True κ.2.2.2.2 P6) ∧ ((oI P6 25 k0).toInt = (oI κ.2.2.2.2 25 k0).toInt ∧ x4.toInt ≤ ((sbL P6 k0 : Nat) : Int) ∧ ((sbL κ.2.2.2.2 k0 : Nat) : Int) ≤ ((sbL P6 k0 : Nat) : Int) ∧ (gr1 (x4.toInt) ≤ 1 ∧ gr70 (x4.toInt) ≤ 70 ∧ (x4.toInt ≤ 16 → gr1 (x4.toInt) = 0 ∧ gr70 (x4.toInt) = 0) ∧ (16 < x4.toInt → gr1 (x4.toInt) = 1 ∧ gr70 (x4.toInt) = 70))) := hr5
  obtain ⟨hr5_0, hr5_1, hr5_2, hr5_3⟩ := hr5
  have kl7 : oL P6 b2 = oL κ.2.2.2.2 b2 := hr5_0.L tbb2 (by decide)
  have kpz8 : KPx True κ.2.2.2.2 P6 := KPx.rf.trans hr5_2
  obtain ⟨hr5_3_0, hr5_3_1, hr5_3_2, ⟨hr5_3_3, hr5_3_4, hr5_3_5, hr5_3_6⟩⟩ := hr5_3
  refine lv_aload_n C.x C.b dJ5_append_cf1ce_24 rfl (lv_at hl 1 rfl) ?_
  refine lv_aload_n C.x C.b dJ5_append_cf1ce_25 rfl (lv_at hl 1 rfl) ?_
  obtain ⟨b9, ebb9, tbb9, sbb9, lbb9, cbb9, nbb9, zbb9⟩ : ∃ b, oR P6 12 k0 = some b ∧ oT P6 b = 8 ∧ sbL P6 k0 = oL P6 b ∧ (oL P6 b = 16 ∨ oL P6 b = 34 ∨ oL P6 b = 70) ∧ (oI P6 25 k0).toInt ≤ ((oL P6 b : Nat) : Int) ∧ 0 ≤ (oI P6 25 k0).toInt ∧ oI P6 23 k0 = 0 := hr5_1.sb (hr5_0.T ht0 (by decide))
  have nsb9 : NS P6 b9 := hr5_1.ns (hr5_0.T ht0 (by decide)) (show oR P6 12 k0 = some b9 from ebb9)
  obtain ⟨x10, ex10⟩ : ∃ z, oI P6 25 k0 = z := ⟨_, rfl⟩
  have tx10 : (oI P6 25 k0).toInt = x10.toInt := by rw [ex10]
  refine pg_J4_3 (v := x10) C hP (t20 (a := k0) (t := 12) (hr5_0.T ht0 (by decide))) ex10 cw_157 dJ5_append_cf1ce_26 ?_
  refine lv_aload_n C.x C.b dJ5_append_cf1ce_29 rfl (lv_at hl 2 rfl) ?_
  refine c_callUv (owner := "java/lang/AbstractStringBuilder") (n := 2) (As := [.int x10, .ref k1]) (rest := []) C hP hS hl.1 (NJ5_putStringAt_47b60 l D cy ad A sz0 sa (tP κ P6) H.size (SLT H) C.f (fun q h => C.a q (Nat.le_trans hS.1 h)) k0 x10 k1 kn1 (hr5_0.T ht0 (by decide)) (hr5_0.SL ht1) hr5_1 (vJ5_append_cf1ce_5 sa κ k0 k1 kn1 r1 b2 x3 x4 P6 b9 x10 hpre hsl1 hr1 sbb2 lbb2 cbb2 nbb2 tx3 ex4 tx4 kl7 hr5_3_0 hr5_3_1 hr5_3_2 hr5_3_3 hr5_3_4 hr5_3_5 hr5_3_6 sbb9 lbb9 cbb9 nbb9 tx10)) ⟨cw_359, cw_363, by decide +kernel⟩ ⟨cw_360, cw_361, cw_362, cw_15⟩ rfl (hP.recvP (t := 12) (ci := 1) C.K (t20 (a := k0) (t := 12) (hr5_0.T ht0 (by decide))) (by decide) rfl rfl) rfl rfl (lv_room (Nat.le_of_ble_eq_true rfl)) ⟨Nat.le_of_ble_eq_true rfl, Nat.le_of_ble_eq_true rfl⟩ ⟨(vJ5_append_cf1ce_6 sa κ k0 k1 kn1 r1 b2 x3 x4 P6 b9 x10 hpre hsl1 hr1 sbb2 cbb2 nbb2 tx3 ex4 tx4 kl7 hr5_3_0 hr5_3_1 hr5_3_2 hr5_3_3 hr5_3_4 hr5_3_5 hr5_3_6 sbb9 lbb9 cbb9 nbb9 tx10), (vJ5_append_cf1ce_7 sa κ k0 k1 kn1 r1 b2 x3 x4 P6 b9 x10 hpre hsl1 hr1 sbb2 cbb2 nbb2 tx3 ex4 tx4 kl7 hr5_3_0 hr5_3_1 hr5_3_2 hr5_3_3 hr5_3_4 hr5_3_5 hr5_3_6 sbb9 lbb9 cbb9 nbb9 tx10)⟩ dJ5_append_cf1ce_30 (fun u H locs hr11 hP hS => ?_)
  obtain ⟨P12, rfl⟩ : ∃ z, z = u := ⟨_, rfl⟩
  have hP : CH D cy ad A (tP (tP κ P6) P12) H := hP
  obtain ⟨hr11, hr11y⟩ := hr11
  have hr11y : ∀ s9 t9 : List Int, SBP P6 k0 s9 → x10.toInt = (s9.length : Int) → TXq P6 sa k1 t9 → SBP P12 k0 (s9 ++ t9) := hr11y
  have hr11 : (EX P6 P12) ∧ (PV sa P12) ∧ (KPx True P6 P12) ∧ (SBS P6 P12) := hr11
  obtain ⟨hr11_0, hr11_1, hr11_2, hr11_3⟩ := hr11
  have kl13 : oL P12 b2 = oL P6 b2 := hr11_0.L (hr5_0.T tbb2 (by decide)) (by decide)
  have kl14 : oL P12 b9 = oL P6 b9 := hr11_0.L tbb9 (by decide)
  have kpz15 : KPx True κ.2.2.2.2 P12 := kpz8.trans hr11_2
  have ak16 : (oI P12 25 k0).toInt = (oI P6 25 k0).toInt := hr11_3.cnt (hr5_0.T ht0 (by decide))
  have bk16 : sbL P12 k0 = sbL P6 k0 := hr11_3.len (hr5_0.T ht0 (by decide)) hr11_0 hr5_1
  refine lv_aload_n C.x C.b dJ5_append_cf1ce_33 rfl (lv_at hl 1 rfl) ?_
  refine lv_dup C.x C.b dJ5_append_cf1ce_34 rfl ?_
  obtain ⟨b17, ebb17, tbb17, sbb17, lbb17, cbb17, nbb17, zbb17⟩ : ∃ b, oR P12 12 k0 = some b ∧ oT P12 b = 8 ∧ sbL P12 k0 = oL P12 b ∧ (oL P12 b = 16 ∨ oL P12 b = 34 ∨ oL P12 b = 70) ∧ (oI P12 25 k0).toInt ≤ ((oL P12 b : Nat) : Int) ∧ 0 ≤ (oI P12 25 k0).toInt ∧ oI P12 23 k0 = 0 := hr11_1.sb (hr11_0.T (hr5_0.T ht0 (by decide)) (by decide))
  have nsb17 : NS P12 b17 := hr11_1.ns (hr11_0.T (hr5_0.T ht0 (by decide)) (by decide)) (show oR P12 12 k0 = some b17 from ebb17)
  obtain ⟨x18, ex18⟩ : ∃ z, oI P12 25 k0 = z := ⟨_, rfl⟩
  have tx18 : (oI P12 25 k0).toInt = x18.toInt := by rw [ex18]
  refine pg_J4_3 (v := x18) C hP (t20 (a := k0) (t := 12) (hr11_0.T (hr5_0.T ht0 (by decide)) (by decide))) ex18 cw_157 dJ5_append_cf1ce_35 ?_
  refine lv_iload_n C.x C.b dJ5_append_cf1ce_38 rfl (lv_at hl 0 rfl) ?_
  refine lv_iadd C.x C.b dJ5_append_cf1ce_39 ?_
  refine lv_topi (fun x19 ex19 => ?_)
  have tx19 : x19.toInt = x18.toInt + r1.toInt := (vJ5_append_cf1ce_8 sa κ k0 k1 kn1 r1 b2 x3 x4 P6 b9 x10 P12 b17 x18 x19 hpre hsl1 hr1 sbb2 cbb2 nbb2 tx3 ex4 tx4 kl7 hr5_3_0 hr5_3_1 hr5_3_2 hr5_3_3 hr5_3_4 hr5_3_5 hr5_3_6 sbb9 cbb9 nbb9 tx10 kl13 kl14 hr11_3 ak16 bk16 sbb17 lbb17 cbb17 nbb17 tx18 ex19)
  refine pp_J4_3 C hP hS (t20 (a := k0) (t := 12) (hr11_0.T (hr5_0.T ht0 (by decide)) (by decide))) cw_157 dJ5_append_cf1ce_40 (fun H locs hP hS => ?_)
  have exz20 : EX P12 (sI P12 25 k0 x19) := (EX.stV (Or.inr rfl))
  have kpz20 : KPx True κ.2.2.2.2 (sI P12 25 k0 x19) := kpz15.sI9 (by decide)
  have pvz20 : PV sa (sI P12 25 k0 x19) := (hr11_1.st25 (hr11_0.T (hr5_0.T ht0 (by decide)) (by decide)) (vJ5_append_cf1ce_9 sa κ k0 k1 kn1 r1 b2 x3 x4 P6 b9 x10 P12 b17 x18 x19 hpre hsl1 hr1 sbb2 lbb2 cbb2 nbb2 tx3 ex4 tx4 kl7 hr5_3_0 hr5_3_1 hr5_3_2 hr5_3_3 hr5_3_4 hr5_3_5 hr5_3_6 sbb9 lbb9 cbb9 nbb9 tx10 kl13 kl14 hr11_3 ak16 bk16 sbb17 lbb17 cbb17 nbb17 tx18 ex19 tx19))
  have af21 : (oI (sI P12 25 k0 x19) 25 k0).toInt = x19.toInt := congrArg Int32.toInt sI_eq
  have bf21 : sbL (sI P12 25 k0 x19) k0 = oL P12 b17 := sbb17
  refine lv_aload_n C.x C.b dJ5_append_cf1ce_43 rfl (lv_at hl 1 rfl) ?_
  have hP : CH D cy ad A (tP κ (sI P12 25 k0 x19)) H := CH.cong hP rfl rfl rfl rfl rfl rfl rfl rfl rfl rfl rfl rfl rfl rfl rfl rfl rfl rfl rfl rfl rfl rfl rfl rfl rfl rfl rfl
  exact c_retq (v := (some k0)) (Or.inl ⟨_, rfl⟩) C hsz hsl (sI P12 25 k0 x19) ⟨⟨((hr5_0.trans hr11_0).trans exz20), pvz20, kpz20, ⟨k0, rfl, (exz20.T (hr11_0.T (hr5_0.T ht0 (by decide)) (by decide)) (by decide))⟩, (vJ5_append_cf1ce_10 sa κ k0 k1 kn1 r1 b2 x3 x4 P6 b9 x10 P12 b17 x18 x19 hpre hsl1 hr1 sbb2 lbb2 cbb2 nbb2 tx3 ex4 tx4 kl7 hr5_3_0 hr5_3_1 hr5_3_2 hr5_3_3 hr5_3_4 hr5_3_5 hr5_3_6 sbb9 lbb9 cbb9 nbb9 tx10 kl13 kl14 hr11_3 ak16 bk16 sbb17 lbb17 cbb17 nbb17 tx18 ex19 tx19 af21 bf21)⟩, (vJ5_append_cf1ce_11 sa κ k0 k1 kn1 r1 b2 x3 x4 P6 b9 x10 P12 b17 x18 x19 ht0 ht1 hPV kz0 hpre hsl1 hr1y hr1 sbb2 lbb2 cbb2 nbb2 nsb2 ebb2 tbb2 tx3 ex4 tx4 kl7 hr5_0 hr5_2 hr5y hr5_3_0 hr5_3_1 hr5_3_2 hr5_3_3 hr5_3_4 hr5_3_5 hr5_3_6 sbb9 lbb9 cbb9 nbb9 nsb9 ebb9 tbb9 tx10 kl13 kl14 hr11_0 hr11_2 hr11_3 ak16 bk16 hr11y sbb17 lbb17 cbb17 nbb17 nsb17 ebb17 tbb17 tx18 ex19 tx19 exz20 af21 bf21)⟩ hP hS ⟨(vJ5_append_cf1ce_12 sa κ k0 k1 kn1 r1 b2 x3 x4 P6 b9 x10 P12 b17 x18 x19 hpre hsl1 hr1 sbb2 cbb2 nbb2 tx3 ex4 tx4 kl7 hr5_3_0 hr5_3_1 hr5_3_2 hr5_3_3 hr5_3_4 hr5_3_5 hr5_3_6 sbb9 lbb9 cbb9 nbb9 tx10 kl13 kl14 hr11_3 ak16 bk16 sbb17 cbb17 nbb17 tx18 ex19 tx19 af21 bf21), (vJ5_append_cf1ce_13 sa κ k0 k1 kn1 r1 b2 x3 x4 P6 b9 x10 P12 b17 x18 x19 hpre hsl1 hr1 sbb2 cbb2 nbb2 tx3 ex4 tx4 kl7 hr5_3_0 hr5_3_1 hr5_3_2 hr5_3_3 hr5_3_4 hr5_3_5 hr5_3_6 sbb9 lbb9 cbb9 nbb9 tx10 kl13 kl14 hr11_3 ak16 bk16 sbb17 cbb17 nbb17 tx18 ex19 tx19 af21 bf21)⟩ ⟨(Nat.le_of_ble_eq_true rfl), (Nat.le_of_ble_eq_true rfl)⟩ dJ5_append_cf1ce_44

-- pre:J5_append_cf1ce@2 @2
theorem vJ4_append_15ec4_1 (sa : Nat → Nat) (κ : KS) (k0 : Nat) (k1 : Nat) (kn1 : Nat) (hpre : (oI κ.2.2.2.2 25 k0).toInt + ((kn1 : Nat) : Int) ≤ 16) (hsl1 : sLen κ.2.2.2.2 sa k1 = kn1) : (oI κ.2.2.2.2 25 k0).toInt + ((kn1 : Nat) : Int) ≤ 16 := by
  first | assumption | omega | (subst_vars; omega) | trivial
-- post @7
theorem vJ4_append_15ec4_2 (sa : Nat → Nat) (κ : KS) (k0 : Nat) (k1 : Nat) (kn1 : Nat) (P2 : PL) (hpre : (oI κ.2.2.2.2 25 k0).toInt + ((kn1 : Nat) : Int) ≤ 16) (hsl1 : sLen κ.2.2.2.2 sa k1 = kn1) (hr1_4 : (oI P2 25 k0).toInt = (oI κ.2.2.2.2 25 k0).toInt + ((kn1 : Nat) : Int)) : (oI P2 25 k0).toInt = (oI κ.2.2.2.2 25 k0).toInt + ((kn1 : Nat) : Int) := by
  first | assumption | omega | (subst_vars; omega) | trivial
-- post2 @7
theorem vJ4_append_15ec4_3 (sa : Nat → Nat) (κ : KS) (k0 : Nat) (k1 : Nat) (kn1 : Nat) (P2 : PL) (ht0 : oT κ.2.2.2.2 k0 = 12) (ht1 : SL κ.2.2.2.2 sa k1 kn1) (hPV : PV sa κ.2.2.2.2) (kz0 : KZ κ.2.2.2.2 sa) (hpre : (oI κ.2.2.2.2 25 k0).toInt + ((kn1 : Nat) : Int) ≤ 16) (hsl1 : sLen κ.2.2.2.2 sa k1 = kn1) (hr1_0 : EX κ.2.2.2.2 P2) (hr1_2 : KPx True κ.2.2.2.2 P2) (hr1y : ∀ s9 t9 : List Int, SBX κ.2.2.2.2 k0 s9 → TXq κ.2.2.2.2 sa k1 t9 → SBX P2 k0 (s9 ++ t9)) (hr1_4 : (oI P2 25 k0).toInt = (oI κ.2.2.2.2 25 k0).toInt + ((kn1 : Nat) : Int)) : ∀ s9 t9 : List Int, SBX κ.2.2.2.2 k0 s9 → TXq κ.2.2.2.2 sa k1 t9 → SBX P2 k0 (s9 ++ t9) := by
  exact hr1y
set_option maxHeartbeats 4000000 in
set_option maxRecDepth 100000 in
theorem NJ4_append_15ec4 (l : Launch) (D : va_G) (cy : Nat → ClassId) (ad : Nat → Nat) (A : Nat → Prop) (sz0 : Nat) (sa : Nat → Nat)  (κ : KS) (sz sl : Nat) (hAF : ∀ q, A q → Fr sz0 q) (hAn : ∀ q : Nat, sz ≤ q → A q) (k0 : Nat) (k1 : Nat) (kn1 : Nat) (ht0 : oT κ.2.2.2.2 k0 = 12) (ht1 : SL κ.2.2.2.2 sa k1 kn1) (hPV : PV sa κ.2.2.2.2) (hpre : (oI κ.2.2.2.2 25 k0).toInt + ((kn1 : Nat) : Int) ≤ 16) : Met l yJ4_append_15ec4 (Cond.code yJ4_append_15ec4 cJ4_append_15ec4 2 (some (.object "java/lang/StringBuilder")) :: GWc) ({ frames := 5, cells := 0, slots := 0, locals := 122 }) (PcC D cy ad A sz0 sa [.ref k0, .ref k1] κ sz sl) (va_Qq (fun (r : Option Nat) (u : PL) => ((EX κ.2.2.2.2 u) ∧ (PV sa u) ∧ (KPx True κ.2.2.2.2 u) ∧ (NN u 12 r) ∧ ((oI u 25 k0).toInt = (oI κ.2.2.2.2 25 k0).toInt + ((kn1 : Nat) : Int))) ∧ (∀ s9 t9 : List Int, SBX κ.2.2.2.2 k0 s9 → TXq κ.2.2.2.2 sa k1 t9 → SBX u k0 (s9 ++ t9))) (fun (u : PL) (t : State) => Bx D cy ad A sz sl (tP κ u) (0) (0) t) A) (0) (0) A := by
  refine CM_of (loc0 := [(0, .ref k0), (1, .ref k1)]) (own := RJ4) (nm := "append") (by decide) rfl rfl rfl (Nat.le_of_ble_eq_true rfl) hAF hAn ?_
  intro p e s m below meth c ls hsz hsl C hP hS hl
  have kz0 : KZ κ.2.2.2.2 sa := KZ.mk9 C hP
  have hsl1 : sLen κ.2.2.2.2 sa k1 = kn1 := ht1.len C hP
  refine lv_aload_n C.x C.b dJ4_append_15ec4_0 rfl (lv_at hl 0 rfl) ?_
  refine lv_aload_n C.x C.b dJ4_append_15ec4_1 rfl (lv_at hl 1 rfl) ?_
  refine c_callWq (n := 1) (As := [.ref k1]) (rest := []) C hP hS hl.1 (NJ5_append_cf1ce l D cy ad A sz0 sa κ s.heap.size (SLT s.heap) C.f (fun q h => C.a q (Nat.le_trans hS.1 h)) k0 k1 kn1 ht0 ht1 hPV (vJ4_append_15ec4_1 sa κ k0 k1 kn1 hpre hsl1)) ⟨cw_346, cw_349, by decide +kernel⟩ ⟨cw_347, cw_154, cw_348, cw_15⟩ (by decide) (ci := 1) rfl rfl (hP.recvP (t := 12) (ci := 1) C.K (t20 (a := k0) (t := 12) ht0) (by decide) rfl rfl) rfl rfl (lv_room (Nat.le_of_ble_eq_true rfl)) ⟨Nat.le_of_ble_eq_true rfl, Nat.le_of_ble_eq_true rfl⟩ ⟨(Nat.le_of_ble_eq_true rfl), (Nat.le_of_ble_eq_true rfl)⟩ dJ4_append_15ec4_2 (fun r1 u H locs hr1 hP hS => ?_)
  obtain ⟨P2, rfl⟩ : ∃ z, z = u := ⟨_, rfl⟩
  have hP : CH D cy ad A (tP κ P2) H := hP
  obtain ⟨hr1, hr1y⟩ := hr1
  have hr1y : ∀ s9 t9 : List Int, SBX κ.2.2.2.2 k0 s9 → TXq κ.2.2.2.2 sa k1 t9 → SBX P2 k0 (s9 ++ t9) := hr1y
  have hr1 : (EX κ.2.2.2.2 P2) ∧ (PV sa P2) ∧ (KPx True κ.2.2.2.2 P2) ∧ (NN P2 12 r1) ∧ ((oI P2 25 k0).toInt = (oI κ.2.2.2.2 25 k0).toInt + ((kn1 : Nat) : Int)) := hr1
  obtain ⟨hr1_0, hr1_1, hr1_2, hr1_3, hr1_4⟩ := hr1
  have kpz3 : KPx True κ.2.2.2.2 P2 := KPx.rf.trans hr1_2
  obtain ⟨b4, rfl, tb4⟩ := hr1_3
  refine lv_pop C.x C.b dJ4_append_15ec4_5 rfl ?_
  refine lv_aload_n C.x C.b dJ4_append_15ec4_6 rfl (lv_at hl 0 rfl) ?_
  exact c_retq (v := (some k0)) (Or.inl ⟨_, rfl⟩) C hsz hsl P2 ⟨⟨hr1_0, hr1_1, kpz3, ⟨k0, rfl, (hr1_0.T ht0 (by decide))⟩, (vJ4_append_15ec4_2 sa κ k0 k1 kn1 P2 hpre hsl1 hr1_4)⟩, (vJ4_append_15ec4_3 sa κ k0 k1 kn1 P2 ht0 ht1 hPV kz0 hpre hsl1 hr1_0 hr1_2 hr1y hr1_4)⟩ hP hS ⟨(Nat.le_of_ble_eq_true rfl), (Nat.le_of_ble_eq_true rfl)⟩ ⟨(Nat.le_of_ble_eq_true rfl), (Nat.le_of_ble_eq_true rfl)⟩ dJ4_append_15ec4_7
