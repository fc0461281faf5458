-- init@15 @15
theorem v_settle_1   : 0 ≤ (0 : Int32).toInt ∧ (0 : Int32).toInt ≤ 48 := by
  have q0 : (0 : Int32).toInt = 0 := by decide +kernel
  refine ⟨?_, ?_⟩ <;> first | assumption | omega | (subst_vars; omega) | trivial
-- init2@15 @15
theorem v_settle_2 (σ : RS) (k0 : Int32) (x1 : Int64) (x2 : Int64) (hpre_0 : 0 ≤ k0.toInt) (hpre_1 : k0.toInt < 980) (hpre_2 : 0 ≤ (σ.1 59).toInt) (hpre_3 : (σ.1 59).toInt ≤ 48) (ex1 : x1 = Int32.toInt64 (σ.1 59)) (tx1 : x1.toInt = (σ.1 59).toInt) (ex2 : x2 = x1 <<< (Int32.toInt64 (56 : Int32) &&& 63)) : ∀ s9 : List Int, QB (σ.2.1 58) (σ.1 59) s9 → s9.length ≤ 16 → (∀ c9 ∈ s9, 0 ≤ c9 ∧ c9 < 128) → (0 : Int32).toInt ≤ (s9.length : Int) ∧ x2.toInt = (s9.length : Int) * 72057594037927936 + qPk ((s9.take 8).take (0 : Int32).toInt.toNat) ∧ (0 : Int64).toInt = qPk ((s9.drop 8).take ((0 : Int32).toInt - 8).toNat) := by
  have q0 : (0 : Int32).toInt = 0 := by decide +kernel
  have q56 : (56 : Int32).toInt = 56 := by decide +kernel
  have ql0 : (0 : Int64).toInt = 0 := by decide +kernel
  intro s9 hb hl hc
  have hn := hb.1
  have z := q_shl (x := x1) (i := 56) (n := 56) (c := s9.length) (by decide +kernel) (by decide) (by omega) (by omega)
  rw [← ex2] at z
  refine ⟨by omega, ?_, ?_⟩
  · rw [z, q0]; show _ = _ + (0 : Int); omega
  · rw [show (0 : Int64).toInt = 0 by decide +kernel]; rfl
-- in@85 @85
theorem v_settle_3 (k0 : Int32) (hpre_0 : 0 ≤ k0.toInt) (hpre_1 : k0.toInt < 980) : vp_in k0 980 := by
  exact vp_in_iff.mpr ⟨by omega, by omega⟩
-- post @108
theorem v_settle_4 (σ : RS) (k0 : Int32) (y3 : Int64) (hpre_0 : 0 ≤ k0.toInt) (hpre_1 : k0.toInt < 980) : Cell1 (σ.2.1 51) (upd (σ.2.1 51) k0.toNatClampNeg (4 : Int32)) (σ.2.2.1 52) (vp_updL (σ.2.2.1 52) k0.toNatClampNeg y3) (σ.2.2.2) (vf_upd (σ.2.2.2) k0.toNatClampNeg FP.dconst0) k0.toNatClampNeg (fun k v r => k = 4) := by
  have q4 : (4 : Int32).toInt = 4 := by decide +kernel
  exact ⟨_, _, _, rfl, rfl, rfl, q4⟩
-- post2 @108
theorem v_settle_5 (σ : RS) (k0 : Int32) (x1 : Int64) (x2 : Int64) (y3 : Int64) (y4 : Int64) (y5 : Int32) (hpre_0 : 0 ≤ k0.toInt) (hpre_1 : k0.toInt < 980) (hpre_2 : 0 ≤ (σ.1 59).toInt) (hpre_3 : (σ.1 59).toInt ≤ 48) (ex1 : x1 = Int32.toInt64 (σ.1 59)) (tx1 : x1.toInt = (σ.1 59).toInt) (ex2 : x2 = x1 <<< (Int32.toInt64 (56 : Int32) &&& 63)) (hi15_0 : 0 ≤ y5.toInt) (hi15_1 : y5.toInt ≤ 48) (hi15y : ∀ s9 : List Int, QB (σ.2.1 58) (σ.1 59) s9 → s9.length ≤ 16 → (∀ c9 ∈ s9, 0 ≤ c9 ∧ c9 < 128) → y5.toInt ≤ (s9.length : Int) ∧ y3.toInt = (s9.length : Int) * 72057594037927936 + qPk ((s9.take 8).take y5.toInt.toNat) ∧ y4.toInt = qPk ((s9.drop 8).take (y5.toInt - 8).toNat)) (c6 : (σ.1 59).toInt ≤ y5.toInt) : ∀ s9 : List Int, QB (σ.2.1 58) (σ.1 59) s9 → s9.length ≤ 16 → (∀ c9 ∈ s9, 0 ≤ c9 ∧ c9 < 128) → QW (qH (σ.2.1 36) (σ.2.1 37) (σ.2.1 38) (σ.2.1 39) (σ.2.1 40) (σ.2.1 41) (σ.2.1 42) (σ.2.1 43) (σ.2.1 44) (σ.2.1 45) (σ.2.1 46) (σ.2.1 48)) (σ.1 47).toInt ((σ.2.1 51), (σ.2.2.1 52), (σ.2.2.1 53), (σ.2.2.2)) ((upd (σ.2.1 51) k0.toNatClampNeg (4 : Int32)), (vp_updL (σ.2.2.1 52) k0.toNatClampNeg y3), (vp_updL (σ.2.2.1 53) k0.toNatClampNeg y4), (vf_upd (σ.2.2.2) k0.toNatClampNeg FP.dconst0)) k0.toNatClampNeg (qText s9) := by
  have q4 : (4 : Int32).toInt = 4 := by decide +kernel
  have q56 : (56 : Int32).toInt = 56 := by decide +kernel
  intro s9 hb hl hc
  obtain ⟨z1, z2, z3⟩ := hi15y s9 hb hl hc
  have hn := hb.1
  rw [q_tall (by rw [List.length_take]; omega)] at z2
  rw [q_tall (by rw [List.length_drop]; omega)] at z3
  exact QW.text q4 z2 z3 hl hc
-- in@59 @59
theorem v_settle_6 (σ : RS) (x1 : Int64) (x2 : Int64) (y5 : Int32) (hpre_2 : 0 ≤ (σ.1 59).toInt) (hpre_3 : (σ.1 59).toInt ≤ 48) (ex1 : x1 = Int32.toInt64 (σ.1 59)) (tx1 : x1.toInt = (σ.1 59).toInt) (ex2 : x2 = x1 <<< (Int32.toInt64 (56 : Int32) &&& 63)) (hi15_0 : 0 ≤ y5.toInt) (hi15_1 : y5.toInt ≤ 48) (c6 : y5.toInt < (σ.1 59).toInt) (c7 : 8 ≤ y5.toInt) : vp_in y5 48 := by
  have q56 : (56 : Int32).toInt = 56 := by decide +kernel
  exact vp_in_iff.mpr ⟨by omega, by omega⟩
-- nw@67 @67
theorem v_settle_7 (σ : RS) (x1 : Int64) (x2 : Int64) (y5 : Int32) (x8 : Int32) (x9 : Int64) (x10 : Int32) (hpre_2 : 0 ≤ (σ.1 59).toInt) (hpre_3 : (σ.1 59).toInt ≤ 48) (ex1 : x1 = Int32.toInt64 (σ.1 59)) (tx1 : x1.toInt = (σ.1 59).toInt) (ex2 : x2 = x1 <<< (Int32.toInt64 (56 : Int32) &&& 63)) (hi15_0 : 0 ≤ y5.toInt) (hi15_1 : y5.toInt ≤ 48) (c6 : y5.toInt < (σ.1 59).toInt) (c7 : 8 ≤ y5.toInt) (ex8 : x8 = (σ.2.1 58) y5.toNatClampNeg) (tx8 : x8.toInt = ((σ.2.1 58) y5.toNatClampNeg).toInt) (ex9 : x9 = Int32.toInt64 x8) (tx9 : x9.toInt = x8.toInt) (ex10 : x10 = y5 - (8 : Int32)) : x10.toInt = y5.toInt - 8 := by
  have q8 : (8 : Int32).toInt = 8 := by decide +kernel
  have q56 : (56 : Int32).toInt = 56 := by decide +kernel
  have w1 : (8 : Int32).toInt = 8 := by decide +kernel
  rw [ex10, z_sub (by omega) (by omega)]; first | done | omega
-- nw@68 @68
theorem v_settle_8 (σ : RS) (x1 : Int64) (x2 : Int64) (y5 : Int32) (x8 : Int32) (x9 : Int64) (x10 : Int32) (x11 : Int32) (hpre_2 : 0 ≤ (σ.1 59).toInt) (hpre_3 : (σ.1 59).toInt ≤ 48) (ex1 : x1 = Int32.toInt64 (σ.1 59)) (tx1 : x1.toInt = (σ.1 59).toInt) (ex2 : x2 = x1 <<< (Int32.toInt64 (56 : Int32) &&& 63)) (hi15_0 : 0 ≤ y5.toInt) (hi15_1 : y5.toInt ≤ 48) (c6 : y5.toInt < (σ.1 59).toInt) (c7 : 8 ≤ y5.toInt) (ex8 : x8 = (σ.2.1 58) y5.toNatClampNeg) (tx8 : x8.toInt = ((σ.2.1 58) y5.toNatClampNeg).toInt) (ex9 : x9 = Int32.toInt64 x8) (tx9 : x9.toInt = x8.toInt) (ex10 : x10 = y5 - (8 : Int32)) (tx10 : x10.toInt = y5.toInt - 8) (ex11 : x11 = (7 : Int32) * x10) : x11.toInt = 7 * x10.toInt := by
  have q7 : (7 : Int32).toInt = 7 := by decide +kernel
  have q8 : (8 : Int32).toInt = 8 := by decide +kernel
  have q56 : (56 : Int32).toInt = 56 := by decide +kernel
  have w0 : (7 : Int32).toInt = 7 := by decide +kernel
  rw [ex11, z_mulc 7 w0 (by omega) (by omega)]
-- nw@73 @73
theorem v_settle_9 (σ : RS) (x1 : Int64) (x2 : Int64) (y4 : Int64) (y5 : Int32) (x8 : Int32) (x9 : Int64) (x10 : Int32) (x11 : Int32) (x12 : Int64) (x13 : Int64) (x14 : Int32) (hpre_2 : 0 ≤ (σ.1 59).toInt) (hpre_3 : (σ.1 59).toInt ≤ 48) (ex1 : x1 = Int32.toInt64 (σ.1 59)) (tx1 : x1.toInt = (σ.1 59).toInt) (ex2 : x2 = x1 <<< (Int32.toInt64 (56 : Int32) &&& 63)) (hi15_0 : 0 ≤ y5.toInt) (hi15_1 : y5.toInt ≤ 48) (c6 : y5.toInt < (σ.1 59).toInt) (c7 : 8 ≤ y5.toInt) (ex8 : x8 = (σ.2.1 58) y5.toNatClampNeg) (tx8 : x8.toInt = ((σ.2.1 58) y5.toNatClampNeg).toInt) (ex9 : x9 = Int32.toInt64 x8) (tx9 : x9.toInt = x8.toInt) (ex10 : x10 = y5 - (8 : Int32)) (tx10 : x10.toInt = y5.toInt - 8) (ex11 : x11 = (7 : Int32) * x10) (tx11 : x11.toInt = 7 * x10.toInt) (ex12 : x12 = x9 <<< (Int32.toInt64 x11 &&& 63)) (ex13 : x13 = y4 ||| x12) (ex14 : x14 = y5 + (1 : Int32)) : x14.toInt = y5.toInt + 1 := by
  have q1 : (1 : Int32).toInt = 1 := by decide +kernel
  have q7 : (7 : Int32).toInt = 7 := by decide +kernel
  have q8 : (8 : Int32).toInt = 8 := by decide +kernel
  have q56 : (56 : Int32).toInt = 56 := by decide +kernel
  have z9 : (1 : Int32).toInt = 1 := by decide +kernel
  rw [ex14, z_add (by omega) (by omega)]; first | done | omega
-- inv@15 @15
theorem v_settle_10 (σ : RS) (x1 : Int64) (x2 : Int64) (y4 : Int64) (y5 : Int32) (x8 : Int32) (x9 : Int64) (x10 : Int32) (x11 : Int32) (x12 : Int64) (x13 : Int64) (x14 : Int32) (hpre_2 : 0 ≤ (σ.1 59).toInt) (hpre_3 : (σ.1 59).toInt ≤ 48) (ex1 : x1 = Int32.toInt64 (σ.1 59)) (tx1 : x1.toInt = (σ.1 59).toInt) (ex2 : x2 = x1 <<< (Int32.toInt64 (56 : Int32) &&& 63)) (hi15_0 : 0 ≤ y5.toInt) (hi15_1 : y5.toInt ≤ 48) (c6 : y5.toInt < (σ.1 59).toInt) (c7 : 8 ≤ y5.toInt) (ex8 : x8 = (σ.2.1 58) y5.toNatClampNeg) (tx8 : x8.toInt = ((σ.2.1 58) y5.toNatClampNeg).toInt) (ex9 : x9 = Int32.toInt64 x8) (tx9 : x9.toInt = x8.toInt) (ex10 : x10 = y5 - (8 : Int32)) (tx10 : x10.toInt = y5.toInt - 8) (ex11 : x11 = (7 : Int32) * x10) (tx11 : x11.toInt = 7 * x10.toInt) (ex12 : x12 = x9 <<< (Int32.toInt64 x11 &&& 63)) (ex13 : x13 = y4 ||| x12) (ex14 : x14 = y5 + (1 : Int32)) (tx14 : x14.toInt = y5.toInt + 1) : 0 ≤ x14.toInt ∧ x14.toInt ≤ 48 := by
  have q1 : (1 : Int32).toInt = 1 := by decide +kernel
  have q7 : (7 : Int32).toInt = 7 := by decide +kernel
  have q8 : (8 : Int32).toInt = 8 := by decide +kernel
  have q56 : (56 : Int32).toInt = 56 := by decide +kernel
  refine ⟨?_, ?_⟩ <;> first | assumption | omega | (subst_vars; omega) | trivial
-- inv2@15 @15
theorem v_settle_11 (σ : RS) (k0 : Int32) (x1 : Int64) (x2 : Int64) (y3 : Int64) (y4 : Int64) (y5 : Int32) (x8 : Int32) (x9 : Int64) (x10 : Int32) (x11 : Int32) (x12 : Int64) (x13 : Int64) (x14 : Int32) (hpre_0 : 0 ≤ k0.toInt) (hpre_1 : k0.toInt < 980) (hpre_2 : 0 ≤ (σ.1 59).toInt) (hpre_3 : (σ.1 59).toInt ≤ 48) (ex1 : x1 = Int32.toInt64 (σ.1 59)) (tx1 : x1.toInt = (σ.1 59).toInt) (ex2 : x2 = x1 <<< (Int32.toInt64 (56 : Int32) &&& 63)) (hi15_0 : 0 ≤ y5.toInt) (hi15_1 : y5.toInt ≤ 48) (hi15y : ∀ s9 : List Int, QB (σ.2.1 58) (σ.1 59) s9 → s9.length ≤ 16 → (∀ c9 ∈ s9, 0 ≤ c9 ∧ c9 < 128) → y5.toInt ≤ (s9.length : Int) ∧ y3.toInt = (s9.length : Int) * 72057594037927936 + qPk ((s9.take 8).take y5.toInt.toNat) ∧ y4.toInt = qPk ((s9.drop 8).take (y5.toInt - 8).toNat)) (c6 : y5.toInt < (σ.1 59).toInt) (c7 : 8 ≤ y5.toInt) (ex8 : x8 = (σ.2.1 58) y5.toNatClampNeg) (tx8 : x8.toInt = ((σ.2.1 58) y5.toNatClampNeg).toInt) (ex9 : x9 = Int32.toInt64 x8) (tx9 : x9.toInt = x8.toInt) (ex10 : x10 = y5 - (8 : Int32)) (tx10 : x10.toInt = y5.toInt - 8) (ex11 : x11 = (7 : Int32) * x10) (tx11 : x11.toInt = 7 * x10.toInt) (ex12 : x12 = x9 <<< (Int32.toInt64 x11 &&& 63)) (ex13 : x13 = y4 ||| x12) (ex14 : x14 = y5 + (1 : Int32)) (tx14 : x14.toInt = y5.toInt + 1) : ∀ s9 : List Int, QB (σ.2.1 58) (σ.1 59) s9 → s9.length ≤ 16 → (∀ c9 ∈ s9, 0 ≤ c9 ∧ c9 < 128) → x14.toInt ≤ (s9.length : Int) ∧ y3.toInt = (s9.length : Int) * 72057594037927936 + qPk ((s9.take 8).take x14.toInt.toNat) ∧ x13.toInt = qPk ((s9.drop 8).take (x14.toInt - 8).toNat) := by
  have q1 : (1 : Int32).toInt = 1 := by decide +kernel
  have q7 : (7 : Int32).toInt = 7 := by decide +kernel
  have q8 : (8 : Int32).toInt = 8 := by decide +kernel
  have q56 : (56 : Int32).toInt = 56 := by decide +kernel
  intro s9 hb hl hc
  obtain ⟨z1, z2, z3⟩ := hi15y s9 hb hl hc
  have hn := hb.1
  have hg := hb.2 y5.toInt.toNat (by omega)
  have tc : x8.toInt = s9.getD y5.toInt.toNat 0 := by rw [← hg, tx8, clampN]
  have k := q_st1 (L := 0) (s := s9.drop 8) (i := (y5.toInt - 8).toNat) (c := x8) (j := x11) (by rw [Int.ofNat_zero, Int.zero_mul, Int.zero_add]; exact z3) (q_drop hc 8) (by omega) (by rw [List.length_drop]; omega) (by decide) (by rw [q_gdrop, show 8 + (y5.toInt - 8).toNat = y5.toInt.toNat by omega]; exact tc) (by omega)
  rw [← ex9, ← ex12, ← ex13, Int.ofNat_zero, Int.zero_mul, Int.zero_add] at k
  refine ⟨by omega, ?_, ?_⟩
  · rw [q_tall (by rw [List.length_take]; omega)] at z2 ⊢; exact z2
  · rw [show (x14.toInt - 8).toNat = (y5.toInt - 8).toNat + 1 by omega]; exact k
-- meas@15 @15
theorem v_settle_12 (σ : RS) (x1 : Int64) (x2 : Int64) (y4 : Int64) (y5 : Int32) (x8 : Int32) (x9 : Int64) (x10 : Int32) (x11 : Int32) (x12 : Int64) (x13 : Int64) (x14 : Int32) (hpre_2 : 0 ≤ (σ.1 59).toInt) (hpre_3 : (σ.1 59).toInt ≤ 48) (ex1 : x1 = Int32.toInt64 (σ.1 59)) (tx1 : x1.toInt = (σ.1 59).toInt) (ex2 : x2 = x1 <<< (Int32.toInt64 (56 : Int32) &&& 63)) (hi15_0 : 0 ≤ y5.toInt) (hi15_1 : y5.toInt ≤ 48) (c6 : y5.toInt < (σ.1 59).toInt) (c7 : 8 ≤ y5.toInt) (ex8 : x8 = (σ.2.1 58) y5.toNatClampNeg) (tx8 : x8.toInt = ((σ.2.1 58) y5.toNatClampNeg).toInt) (ex9 : x9 = Int32.toInt64 x8) (tx9 : x9.toInt = x8.toInt) (ex10 : x10 = y5 - (8 : Int32)) (tx10 : x10.toInt = y5.toInt - 8) (ex11 : x11 = (7 : Int32) * x10) (tx11 : x11.toInt = 7 * x10.toInt) (ex12 : x12 = x9 <<< (Int32.toInt64 x11 &&& 63)) (ex13 : x13 = y4 ||| x12) (ex14 : x14 = y5 + (1 : Int32)) (tx14 : x14.toInt = y5.toInt + 1) : (48 - x14.toInt).toNat < (48 - y5.toInt).toNat := by
  have q1 : (1 : Int32).toInt = 1 := by decide +kernel
  have q7 : (7 : Int32).toInt = 7 := by decide +kernel
  have q8 : (8 : Int32).toInt = 8 := by decide +kernel
  have q56 : (56 : Int32).toInt = 56 := by decide +kernel
  first | assumption | omega | (subst_vars; omega) | trivial
-- in@38 @38
theorem v_settle_13 (σ : RS) (x1 : Int64) (x2 : Int64) (y5 : Int32) (hpre_2 : 0 ≤ (σ.1 59).toInt) (hpre_3 : (σ.1 59).toInt ≤ 48) (ex1 : x1 = Int32.toInt64 (σ.1 59)) (tx1 : x1.toInt = (σ.1 59).toInt) (ex2 : x2 = x1 <<< (Int32.toInt64 (56 : Int32) &&& 63)) (hi15_0 : 0 ≤ y5.toInt) (hi15_1 : y5.toInt ≤ 48) (c6 : y5.toInt < (σ.1 59).toInt) (c7 : y5.toInt < 8) : vp_in y5 48 := by
  have q56 : (56 : Int32).toInt = 56 := by decide +kernel
  exact vp_in_iff.mpr ⟨by omega, by omega⟩
-- nw@44 @44
theorem v_settle_14 (σ : RS) (x1 : Int64) (x2 : Int64) (y5 : Int32) (x15 : Int32) (x16 : Int64) (x17 : Int32) (hpre_2 : 0 ≤ (σ.1 59).toInt) (hpre_3 : (σ.1 59).toInt ≤ 48) (ex1 : x1 = Int32.toInt64 (σ.1 59)) (tx1 : x1.toInt = (σ.1 59).toInt) (ex2 : x2 = x1 <<< (Int32.toInt64 (56 : Int32) &&& 63)) (hi15_0 : 0 ≤ y5.toInt) (hi15_1 : y5.toInt ≤ 48) (c6 : y5.toInt < (σ.1 59).toInt) (c7 : y5.toInt < 8) (ex15 : x15 = (σ.2.1 58) y5.toNatClampNeg) (tx15 : x15.toInt = ((σ.2.1 58) y5.toNatClampNeg).toInt) (ex16 : x16 = Int32.toInt64 x15) (tx16 : x16.toInt = x15.toInt) (ex17 : x17 = (7 : Int32) * y5) : x17.toInt = 7 * y5.toInt := by
  have q7 : (7 : Int32).toInt = 7 := by decide +kernel
  have q56 : (56 : Int32).toInt = 56 := by decide +kernel
  have w0 : (7 : Int32).toInt = 7 := by decide +kernel
  rw [ex17, z_mulc 7 w0 (by omega) (by omega)]
-- nw@73 @73
theorem v_settle_15 (σ : RS) (x1 : Int64) (x2 : Int64) (y3 : Int64) (y5 : Int32) (x15 : Int32) (x16 : Int64) (x17 : Int32) (x18 : Int64) (x19 : Int64) (x20 : Int32) (hpre_2 : 0 ≤ (σ.1 59).toInt) (hpre_3 : (σ.1 59).toInt ≤ 48) (ex1 : x1 = Int32.toInt64 (σ.1 59)) (tx1 : x1.toInt = (σ.1 59).toInt) (ex2 : x2 = x1 <<< (Int32.toInt64 (56 : Int32) &&& 63)) (hi15_0 : 0 ≤ y5.toInt) (hi15_1 : y5.toInt ≤ 48) (c6 : y5.toInt < (σ.1 59).toInt) (c7 : y5.toInt < 8) (ex15 : x15 = (σ.2.1 58) y5.toNatClampNeg) (tx15 : x15.toInt = ((σ.2.1 58) y5.toNatClampNeg).toInt) (ex16 : x16 = Int32.toInt64 x15) (tx16 : x16.toInt = x15.toInt) (ex17 : x17 = (7 : Int32) * y5) (tx17 : x17.toInt = 7 * y5.toInt) (ex18 : x18 = x16 <<< (Int32.toInt64 x17 &&& 63)) (ex19 : x19 = y3 ||| x18) (ex20 : x20 = y5 + (1 : Int32)) : x20.toInt = y5.toInt + 1 := by
  have q1 : (1 : Int32).toInt = 1 := by decide +kernel
  have q7 : (7 : Int32).toInt = 7 := by decide +kernel
  have q56 : (56 : Int32).toInt = 56 := by decide +kernel
  have z9 : (1 : Int32).toInt = 1 := by decide +kernel
  rw [ex20, z_add (by omega) (by omega)]; first | done | omega
-- inv@15 @15
theorem v_settle_16 (σ : RS) (x1 : Int64) (x2 : Int64) (y3 : Int64) (y5 : Int32) (x15 : Int32) (x16 : Int64) (x17 : Int32) (x18 : Int64) (x19 : Int64) (x20 : Int32) (hpre_2 : 0 ≤ (σ.1 59).toInt) (hpre_3 : (σ.1 59).toInt ≤ 48) (ex1 : x1 = Int32.toInt64 (σ.1 59)) (tx1 : x1.toInt = (σ.1 59).toInt) (ex2 : x2 = x1 <<< (Int32.toInt64 (56 : Int32) &&& 63)) (hi15_0 : 0 ≤ y5.toInt) (hi15_1 : y5.toInt ≤ 48) (c6 : y5.toInt < (σ.1 59).toInt) (c7 : y5.toInt < 8) (ex15 : x15 = (σ.2.1 58) y5.toNatClampNeg) (tx15 : x15.toInt = ((σ.2.1 58) y5.toNatClampNeg).toInt) (ex16 : x16 = Int32.toInt64 x15) (tx16 : x16.toInt = x15.toInt) (ex17 : x17 = (7 : Int32) * y5) (tx17 : x17.toInt = 7 * y5.toInt) (ex18 : x18 = x16 <<< (Int32.toInt64 x17 &&& 63)) (ex19 : x19 = y3 ||| x18) (ex20 : x20 = y5 + (1 : Int32)) (tx20 : x20.toInt = y5.toInt + 1) : 0 ≤ x20.toInt ∧ x20.toInt ≤ 48 := by
  have q1 : (1 : Int32).toInt = 1 := by decide +kernel
  have q7 : (7 : Int32).toInt = 7 := by decide +kernel
  have q56 : (56 : Int32).toInt = 56 := by decide +kernel
  refine ⟨?_, ?_⟩ <;> first | assumption | omega | (subst_vars; omega) | trivial
-- inv2@15 @15
theorem v_settle_17 (σ : RS) (k0 : Int32) (x1 : Int64) (x2 : Int64) (y3 : Int64) (y4 : Int64) (y5 : Int32) (x15 : Int32) (x16 : Int64) (x17 : Int32) (x18 : Int64) (x19 : Int64) (x20 : Int32) (hpre_0 : 0 ≤ k0.toInt) (hpre_1 : k0.toInt < 980) (hpre_2 : 0 ≤ (σ.1 59).toInt) (hpre_3 : (σ.1 59).toInt ≤ 48) (ex1 : x1 = Int32.toInt64 (σ.1 59)) (tx1 : x1.toInt = (σ.1 59).toInt) (ex2 : x2 = x1 <<< (Int32.toInt64 (56 : Int32) &&& 63)) (hi15_0 : 0 ≤ y5.toInt) (hi15_1 : y5.toInt ≤ 48) (hi15y : ∀ s9 : List Int, QB (σ.2.1 58) (σ.1 59) s9 → s9.length ≤ 16 → (∀ c9 ∈ s9, 0 ≤ c9 ∧ c9 < 128) → y5.toInt ≤ (s9.length : Int) ∧ y3.toInt = (s9.length : Int) * 72057594037927936 + qPk ((s9.take 8).take y5.toInt.toNat) ∧ y4.toInt = qPk ((s9.drop 8).take (y5.toInt - 8).toNat)) (c6 : y5.toInt < (σ.1 59).toInt) (c7 : y5.toInt < 8) (ex15 : x15 = (σ.2.1 58) y5.toNatClampNeg) (tx15 : x15.toInt = ((σ.2.1 58) y5.toNatClampNeg).toInt) (ex16 : x16 = Int32.toInt64 x15) (tx16 : x16.toInt = x15.toInt) (ex17 : x17 = (7 : Int32) * y5) (tx17 : x17.toInt = 7 * y5.toInt) (ex18 : x18 = x16 <<< (Int32.toInt64 x17 &&& 63)) (ex19 : x19 = y3 ||| x18) (ex20 : x20 = y5 + (1 : Int32)) (tx20 : x20.toInt = y5.toInt + 1) : ∀ s9 : List Int, QB (σ.2.1 58) (σ.1 59) s9 → s9.length ≤ 16 → (∀ c9 ∈ s9, 0 ≤ c9 ∧ c9 < 128) → x20.toInt ≤ (s9.length : Int) ∧ x19.toInt = (s9.length : Int) * 72057594037927936 + qPk ((s9.take 8).take x20.toInt.toNat) ∧ y4.toInt = qPk ((s9.drop 8).take (x20.toInt - 8).toNat) := by
  have q1 : (1 : Int32).toInt = 1 := by decide +kernel
  have q7 : (7 : Int32).toInt = 7 := by decide +kernel
  have q56 : (56 : Int32).toInt = 56 := by decide +kernel
  intro s9 hb hl hc
  obtain ⟨z1, z2, z3⟩ := hi15y s9 hb hl hc
  have hn := hb.1
  have hg := hb.2 y5.toInt.toNat (by omega)
  have tc : x15.toInt = s9.getD y5.toInt.toNat 0 := by rw [← hg, tx15, clampN]
  have k := q_st1 (s := s9.take 8) (i := y5.toInt.toNat) (c := x15) (j := x17) z2 (q_take hc 8) (by omega) (by rw [List.length_take]; omega) hl (by rw [q_gtake (by omega)]; exact tc) (by omega)
  rw [← ex16, ← ex18, ← ex19] at k
  refine ⟨by omega, ?_, ?_⟩
  · rw [show x20.toInt.toNat = y5.toInt.toNat + 1 by omega]; exact k
  · rw [show (x20.toInt - 8).toNat = (y5.toInt - 8).toNat by omega]; exact z3
-- meas@15 @15
theorem v_settle_18 (σ : RS) (x1 : Int64) (x2 : Int64) (y3 : Int64) (y5 : Int32) (x15 : Int32) (x16 : Int64) (x17 : Int32) (x18 : Int64) (x19 : Int64) (x20 : Int32) (hpre_2 : 0 ≤ (σ.1 59).toInt) (hpre_3 : (σ.1 59).toInt ≤ 48) (ex1 : x1 = Int32.toInt64 (σ.1 59)) (tx1 : x1.toInt = (σ.1 59).toInt) (ex2 : x2 = x1 <<< (Int32.toInt64 (56 : Int32) &&& 63)) (hi15_0 : 0 ≤ y5.toInt) (hi15_1 : y5.toInt ≤ 48) (c6 : y5.toInt < (σ.1 59).toInt) (c7 : y5.toInt < 8) (ex15 : x15 = (σ.2.1 58) y5.toNatClampNeg) (tx15 : x15.toInt = ((σ.2.1 58) y5.toNatClampNeg).toInt) (ex16 : x16 = Int32.toInt64 x15) (tx16 : x16.toInt = x15.toInt) (ex17 : x17 = (7 : Int32) * y5) (tx17 : x17.toInt = 7 * y5.toInt) (ex18 : x18 = x16 <<< (Int32.toInt64 x17 &&& 63)) (ex19 : x19 = y3 ||| x18) (ex20 : x20 = y5 + (1 : Int32)) (tx20 : x20.toInt = y5.toInt + 1) : (48 - x20.toInt).toNat < (48 - y5.toInt).toNat := by
  have q1 : (1 : Int32).toInt = 1 := by decide +kernel
  have q7 : (7 : Int32).toInt = 7 := by decide +kernel
  have q56 : (56 : Int32).toInt = 56 := by decide +kernel
  first | assumption | omega | (subst_vars; omega) | trivial
set_option maxHeartbeats 4000000 in
set_option maxRecDepth 100000 in
theorem L_settle_15_1 {p : Program} {e : Env} {s : State} {m : MethodId} {below : List Frame} {meth : Method} {c : Code} (l : Launch) (D : va_G) (cy : Nat → ClassId) (sz0 : Nat) (sa : Nat → Nat) (ad : Nat → Nat) (sz : Nat) (σ : RS) (k0 : Int32) (x1 : Int64) (x2 : Int64) (C : RC p s m #[.ref (ad 0), .int k0] meth c cX12_settle 7 none D cy sz0 sa ad (AR cy ad sz)) (hpre_0 : 0 ≤ k0.toInt) (hpre_1 : k0.toInt < 980) (hpre_2 : 0 ≤ (σ.1 59).toInt) (hpre_3 : (σ.1 59).toInt ≤ 48) (ex1 : x1 = Int32.toInt64 (σ.1 59)) (tx1 : x1.toInt = (σ.1 59).toInt) (ex2 : x2 = x1 <<< (Int32.toInt64 (56 : Int32) &&& 63)) : ∀ (n : Nat) (y3 : Int64) (y4 : Int64) (y5 : Int32) (H : Heap) (locs : List Loc) (ls : Array Slot), (48 - y5.toInt).toNat < n → ((0 ≤ y5.toInt ∧ y5.toInt ≤ 48) ∧ (∀ s9 : List Int, QB (σ.2.1 58) (σ.1 59) s9 → s9.length ≤ 16 → (∀ c9 ∈ s9, 0 ≤ c9 ∧ c9 < 128) → y5.toInt ≤ (s9.length : Int) ∧ y3.toInt = (s9.length : Int) * 72057594037927936 + qPk ((s9.take 8).take y5.toInt.toNat) ∧ y4.toInt = qPk ((s9.drop 8).take (y5.toInt - 8).toNat))) → RP D cy ad σ H → va_S (AR cy ad sz) s.heap H locs → lv_has ls 7 [(6, .int y5), (4, .long y4), (2, .long y3), (0, .ref (ad 0)), (1, .int k0)] → W p l e (headSpec (Cond.code yX12_settle cX12_settle 7 none :: GWm) ({ frames := 0, cells := 0, slots := 0, locals := 0 })).room s m #[.ref (ad 0), .int k0] below meth c H locs 0 0 (MQ below (va_Qv (fun (u : (Nat → Int32) × (Nat → Int64) × (Nat → Int64) × (Nat → UInt64)) => (Cell1 (σ.2.1 51) u.1 (σ.2.2.1 52) u.2.1 (σ.2.2.2) u.2.2.2 k0.toNatClampNeg (fun k v r => k = 4)) ∧ (∀ s9 : List Int, QB (σ.2.1 58) (σ.1 59) s9 → s9.length ≤ 16 → (∀ c9 ∈ s9, 0 ≤ c9 ∧ c9 < 128) → QW (qH (σ.2.1 36) (σ.2.1 37) (σ.2.1 38) (σ.2.1 39) (σ.2.1 40) (σ.2.1 41) (σ.2.1 42) (σ.2.1 43) (σ.2.1 44) (σ.2.1 45) (σ.2.1 46) (σ.2.1 48)) (σ.1 47).toInt ((σ.2.1 51), (σ.2.2.1 52), (σ.2.2.1 53), (σ.2.2.2)) (u.1, u.2.1, u.2.2.1, u.2.2.2) k0.toNatClampNeg (qText s9))) (fun (u : (Nat → Int32) × (Nat → Int64) × (Nat → Int64) × (Nat → UInt64)) (t : State) => RP D cy ad (rR (rJ (rJ (rA σ 51 u.1) 52 u.2.1) 53 u.2.2.1) u.2.2.2) t.heap) (AR cy ad sz)) #[.ref (ad 0), .int k0] s 0 0 (AR cy ad sz)) (F0 m 15 ls []) := by
  have hx := C.1
  have hb := C.2.1
  have hown := C.2.2.2.2.1
  have hw := C.2.2.2.2.2.1
  intro n
  induction n with
  | zero => intro y3 y4 y5 H locs ls hn; exact absurd hn (Nat.not_lt_zero _)
  | succ n ih15 =>
    intro y3 y4 y5 H locs ls hn15 hi15 hP hS hl
    obtain ⟨hi15, hi15y⟩ := hi15
    obtain ⟨hi15_0, hi15_1⟩ := hi15
    refine lv_iload hx hb dX12_settle_15 (lv_at hl 0 rfl) ?_
    refine lv_aload_n hx hb dX12_settle_17 rfl (lv_at hl 3 rfl) ?_
    refine rg_59 (v := (σ.1 59)) C hP rfl wm_220 dX12_settle_18 ?_
    refine lv_icmp_ge (tgt := 79) hx hb dX12_settle_21 (by decide) (fun c6 => ?_) (fun c6 => ?_)
    · have c6 : (σ.1 59).toInt ≤ y5.toInt := by have h := z_le c6; exact h
      refine lv_aload_n hx hb dX12_settle_79 rfl (lv_at hl 3 rfl) ?_
      refine rg_51 C hP wm_205 dX12_settle_80 ?_
      refine lv_iload_n hx hb dX12_settle_83 rfl (lv_at hl 4 rfl) ?_
      refine lv_iconst (v := 4) hx hb dX12_settle_84 (by decide +kernel) ?_
      refine rw_51 (f := (σ.2.1 51)) C hP hS rfl (v_settle_3 k0 hpre_0 hpre_1) dX12_settle_85 (fun H locs hP hS => ?_)
      refine lv_aload_n hx hb dX12_settle_86 rfl (lv_at hl 3 rfl) ?_
      refine rg_52 C hP wm_206 dX12_settle_87 ?_
      refine lv_iload_n hx hb dX12_settle_90 rfl (lv_at hl 4 rfl) ?_
      refine lv_lload_n hx hb dX12_settle_91 rfl (lv_at hl 2 rfl) ?_
      refine rw_52 (f := (σ.2.2.1 52)) C hP hS rfl (v_settle_3 k0 hpre_0 hpre_1) dX12_settle_92 (fun H locs hP hS => ?_)
      refine lv_aload_n hx hb dX12_settle_93 rfl (lv_at hl 3 rfl) ?_
      refine rg_53 C hP wm_208 dX12_settle_94 ?_
      refine lv_iload_n hx hb dX12_settle_97 rfl (lv_at hl 4 rfl) ?_
      refine lv_lload hx hb dX12_settle_98 (lv_at hl 1 rfl) ?_
      refine rw_53 (f := (σ.2.2.1 53)) C hP hS rfl (v_settle_3 k0 hpre_0 hpre_1) dX12_settle_100 (fun H locs hP hS => ?_)
      refine lv_aload_n hx hb dX12_settle_101 rfl (lv_at hl 3 rfl) ?_
      refine rg_54 C hP wm_209 dX12_settle_102 ?_
      refine lv_iload_n hx hb dX12_settle_105 rfl (lv_at hl 4 rfl) ?_
      refine lv_dconst0 hx hb dX12_settle_106 ?_
      refine rw_54 (f := (σ.2.2.2)) C hP hS rfl (v_settle_3 k0 hpre_0 hpre_1) dX12_settle_107 (fun H locs hP hS => ?_)
      exact r_retv C ⟨(upd (σ.2.1 51) k0.toNatClampNeg (4 : Int32)), (vp_updL (σ.2.2.1 52) k0.toNatClampNeg y3), (vp_updL (σ.2.2.1 53) k0.toNatClampNeg y4), (vf_upd (σ.2.2.2) k0.toNatClampNeg FP.dconst0)⟩ ⟨(v_settle_4 σ k0 y3 hpre_0 hpre_1), (v_settle_5 σ k0 x1 x2 y3 y4 y5 hpre_0 hpre_1 hpre_2 hpre_3 ex1 tx1 ex2 hi15_0 hi15_1 hi15y c6)⟩ hP hS dX12_settle_108
    · have c6 : y5.toInt < (σ.1 59).toInt := by have h := z_nle c6; exact h
      refine lv_iload hx hb dX12_settle_24 (lv_at hl 0 rfl) ?_
      refine lv_bipush (v := 8) hx hb dX12_settle_26 (by decide +kernel) ?_
      refine lv_icmp_ge (tgt := 51) hx hb dX12_settle_28 (by decide) (fun c7 => ?_) (fun c7 => ?_)
      · have c7 : 8 ≤ y5.toInt := by have h := z_le c7; rw [show (8 : Int32).toInt = 8 from by decide +kernel] at h; exact h
        refine lv_lload hx hb dX12_settle_51 (lv_at hl 1 rfl) ?_
        refine lv_aload_n hx hb dX12_settle_53 rfl (lv_at hl 3 rfl) ?_
        refine rg_58 C hP wm_221 dX12_settle_54 ?_
        refine lv_iload hx hb dX12_settle_57 (lv_at hl 0 rfl) ?_
        refine ra_58 (f := (σ.2.1 58)) C hP rfl (v_settle_6 σ x1 x2 y5 hpre_2 hpre_3 ex1 tx1 ex2 hi15_0 hi15_1 c6 c7) dX12_settle_59 (fun x8 ex8 => ?_)
        have tx8 : x8.toInt = ((σ.2.1 58) y5.toNatClampNeg).toInt := by rw [ex8]
        refine lv_i2l hx hb dX12_settle_60 rfl ?_
        refine lv_topl (fun x9 ex9 => ?_)
        have tx9 : x9.toInt = x8.toInt := by rw [ex9]; exact Int32.toInt_toInt64 _
        refine lv_bipush (v := 7) hx hb dX12_settle_61 (by decide +kernel) ?_
        refine lv_iload hx hb dX12_settle_63 (lv_at hl 0 rfl) ?_
        refine lv_bipush (v := 8) hx hb dX12_settle_65 (by decide +kernel) ?_
        refine lv_isub hx hb dX12_settle_67 ?_
        refine lv_topi (fun x10 ex10 => ?_)
        have tx10 : x10.toInt = y5.toInt - 8 := (v_settle_7 σ x1 x2 y5 x8 x9 x10 hpre_2 hpre_3 ex1 tx1 ex2 hi15_0 hi15_1 c6 c7 ex8 tx8 ex9 tx9 ex10)
        refine lv_imul hx hb dX12_settle_68 ?_
        refine lv_topi (fun x11 ex11 => ?_)
        have tx11 : x11.toInt = 7 * x10.toInt := (v_settle_8 σ x1 x2 y5 x8 x9 x10 x11 hpre_2 hpre_3 ex1 tx1 ex2 hi15_0 hi15_1 c6 c7 ex8 tx8 ex9 tx9 ex10 tx10 ex11)
        refine lv_lshl hx hb dX12_settle_69 rfl ?_
        refine lv_topl (fun x12 ex12 => ?_)
        refine lv_lor hx hb dX12_settle_70 ?_
        refine lv_topl (fun x13 ex13 => ?_)
        refine lv_lstore (lv' := [(4, .long x13), (6, .int y5), (2, .long y3), (0, .ref (ad 0)), (1, .int k0)]) hx hb dX12_settle_71 hl (by decide) rfl (fun ls hl => ?_)
        obtain ⟨x14, ex14⟩ : ∃ y : Int32, y = y5 + (1 : Int32) := ⟨_, rfl⟩
        have tx14 : x14.toInt = y5.toInt + 1 := (v_settle_9 σ x1 x2 y4 y5 x8 x9 x10 x11 x12 x13 x14 hpre_2 hpre_3 ex1 tx1 ex2 hi15_0 hi15_1 c6 c7 ex8 tx8 ex9 tx9 ex10 tx10 ex11 tx11 ex12 ex13 ex14)
        refine lv_iinc (v := x14) (lv' := [(6, .int x14), (4, .long x13), (2, .long y3), (0, .ref (ad 0)), (1, .int k0)]) hx hb dX12_settle_73 hl (k := 1) rfl (by rw [ex14]; rfl) (by decide) rfl (fun ls hl => ?_)
        refine lv_goto (tgt := 15) hx hb dX12_settle_76 (by decide) ?_
        exact ih15 y3 x13 x14 _ _ _ (Nat.lt_of_lt_of_le (v_settle_12 σ x1 x2 y4 y5 x8 x9 x10 x11 x12 x13 x14 hpre_2 hpre_3 ex1 tx1 ex2 hi15_0 hi15_1 c6 c7 ex8 tx8 ex9 tx9 ex10 tx10 ex11 tx11 ex12 ex13 ex14 tx14) (Nat.le_of_lt_succ hn15)) ⟨(v_settle_10 σ x1 x2 y4 y5 x8 x9 x10 x11 x12 x13 x14 hpre_2 hpre_3 ex1 tx1 ex2 hi15_0 hi15_1 c6 c7 ex8 tx8 ex9 tx9 ex10 tx10 ex11 tx11 ex12 ex13 ex14 tx14), (v_settle_11 σ k0 x1 x2 y3 y4 y5 x8 x9 x10 x11 x12 x13 x14 hpre_0 hpre_1 hpre_2 hpre_3 ex1 tx1 ex2 hi15_0 hi15_1 hi15y c6 c7 ex8 tx8 ex9 tx9 ex10 tx10 ex11 tx11 ex12 ex13 ex14 tx14)⟩ hP hS (lv_sub hl [0, 1, 2, 3, 4] rfl)
      · have c7 : y5.toInt < 8 := by have h := z_nle c7; rw [show (8 : Int32).toInt = 8 from by decide +kernel] at h; exact h
        refine lv_lload_n hx hb dX12_settle_31 rfl (lv_at hl 2 rfl) ?_
        refine lv_aload_n hx hb dX12_settle_32 rfl (lv_at hl 3 rfl) ?_
        refine rg_58 C hP wm_221 dX12_settle_33 ?_
        refine lv_iload hx hb dX12_settle_36 (lv_at hl 0 rfl) ?_
        refine ra_58 (f := (σ.2.1 58)) C hP rfl (v_settle_13 σ x1 x2 y5 hpre_2 hpre_3 ex1 tx1 ex2 hi15_0 hi15_1 c6 c7) dX12_settle_38 (fun x15 ex15 => ?_)
        have tx15 : x15.toInt = ((σ.2.1 58) y5.toNatClampNeg).toInt := by rw [ex15]
        refine lv_i2l hx hb dX12_settle_39 rfl ?_
        refine lv_topl (fun x16 ex16 => ?_)
        have tx16 : x16.toInt = x15.toInt := by rw [ex16]; exact Int32.toInt_toInt64 _
        refine lv_bipush (v := 7) hx hb dX12_settle_40 (by decide +kernel) ?_
        refine lv_iload hx hb dX12_settle_42 (lv_at hl 0 rfl) ?_
        refine lv_imul hx hb dX12_settle_44 ?_
        refine lv_topi (fun x17 ex17 => ?_)
        have tx17 : x17.toInt = 7 * y5.toInt := (v_settle_14 σ x1 x2 y5 x15 x16 x17 hpre_2 hpre_3 ex1 tx1 ex2 hi15_0 hi15_1 c6 c7 ex15 tx15 ex16 tx16 ex17)
        refine lv_lshl hx hb dX12_settle_45 rfl ?_
        refine lv_topl (fun x18 ex18 => ?_)
        refine lv_lor hx hb dX12_settle_46 ?_
        refine lv_topl (fun x19 ex19 => ?_)
        refine lv_lstore_n (lv' := [(2, .long x19), (6, .int y5), (4, .long y4), (0, .ref (ad 0)), (1, .int k0)]) hx hb dX12_settle_47 rfl hl (by decide) rfl (fun ls hl => ?_)
        refine lv_goto (tgt := 73) hx hb dX12_settle_48 (by decide) ?_
        obtain ⟨x20, ex20⟩ : ∃ y : Int32, y = y5 + (1 : Int32) := ⟨_, rfl⟩
        have tx20 : x20.toInt = y5.toInt + 1 := (v_settle_15 σ x1 x2 y3 y5 x15 x16 x17 x18 x19 x20 hpre_2 hpre_3 ex1 tx1 ex2 hi15_0 hi15_1 c6 c7 ex15 tx15 ex16 tx16 ex17 tx17 ex18 ex19 ex20)
        refine lv_iinc (v := x20) (lv' := [(6, .int x20), (2, .long x19), (4, .long y4), (0, .ref (ad 0)), (1, .int k0)]) hx hb dX12_settle_73 hl (k := 1) rfl (by rw [ex20]; rfl) (by decide) rfl (fun ls hl => ?_)
        refine lv_goto (tgt := 15) hx hb dX12_settle_76 (by decide) ?_
        exact ih15 x19 y4 x20 _ _ _ (Nat.lt_of_lt_of_le (v_settle_18 σ x1 x2 y3 y5 x15 x16 x17 x18 x19 x20 hpre_2 hpre_3 ex1 tx1 ex2 hi15_0 hi15_1 c6 c7 ex15 tx15 ex16 tx16 ex17 tx17 ex18 ex19 ex20 tx20) (Nat.le_of_lt_succ hn15)) ⟨(v_settle_16 σ x1 x2 y3 y5 x15 x16 x17 x18 x19 x20 hpre_2 hpre_3 ex1 tx1 ex2 hi15_0 hi15_1 c6 c7 ex15 tx15 ex16 tx16 ex17 tx17 ex18 ex19 ex20 tx20), (v_settle_17 σ k0 x1 x2 y3 y4 y5 x15 x16 x17 x18 x19 x20 hpre_0 hpre_1 hpre_2 hpre_3 ex1 tx1 ex2 hi15_0 hi15_1 hi15y c6 c7 ex15 tx15 ex16 tx16 ex17 tx17 ex18 ex19 ex20 tx20)⟩ hP hS (lv_sub hl [0, 2, 1, 3, 4] rfl)
set_option maxHeartbeats 4000000 in
set_option maxRecDepth 100000 in
theorem M_settle (l : Launch) (D : va_G) (cy : Nat → ClassId) (sz0 : Nat) (sa : Nat → Nat) (ad : Nat → Nat) (σ : RS) (sz : Nat) (k0 : Int32) (hpre : 0 ≤ k0.toInt ∧ k0.toInt < 980 ∧ 0 ≤ (σ.1 59).toInt ∧ (σ.1 59).toInt ≤ 48) : Met l yX12_settle (Cond.code yX12_settle cX12_settle 7 none :: GWm) ({ frames := 0, cells := 0, slots := 0, locals := 0 }) (PcR D cy sz0 sa ad [.ref (ad 0), .int k0] σ sz) (va_Qv (fun (u : (Nat → Int32) × (Nat → Int64) × (Nat → Int64) × (Nat → UInt64)) => (Cell1 (σ.2.1 51) u.1 (σ.2.2.1 52) u.2.1 (σ.2.2.2) u.2.2.2 k0.toNatClampNeg (fun k v r => k = 4)) ∧ (∀ s9 : List Int, QB (σ.2.1 58) (σ.1 59) s9 → s9.length ≤ 16 → (∀ c9 ∈ s9, 0 ≤ c9 ∧ c9 < 128) → QW (qH (σ.2.1 36) (σ.2.1 37) (σ.2.1 38) (σ.2.1 39) (σ.2.1 40) (σ.2.1 41) (σ.2.1 42) (σ.2.1 43) (σ.2.1 44) (σ.2.1 45) (σ.2.1 46) (σ.2.1 48)) (σ.1 47).toInt ((σ.2.1 51), (σ.2.2.1 52), (σ.2.2.1 53), (σ.2.2.2)) (u.1, u.2.1, u.2.2.1, u.2.2.2) k0.toNatClampNeg (qText s9))) (fun (u : (Nat → Int32) × (Nat → Int64) × (Nat → Int64) × (Nat → UInt64)) (t : State) => RP D cy ad (rR (rJ (rJ (rA σ 51 u.1) 52 u.2.1) 53 u.2.2.1) u.2.2.2) t.heap) (AR cy ad sz)) 0 0 (AR cy ad sz) := by
  refine RM_of (loc0 := [(0, .ref (ad 0)), (1, .int k0)]) (by decide) rfl rfl (Nat.le_of_ble_eq_true rfl) ?_
  intro p e s m below meth c ls hsz C hP hS hl
  have hx := C.1
  have hb := C.2.1
  have hown := C.2.2.2.2.1
  have hw := C.2.2.2.2.2.1
  clear hsz
  obtain ⟨hpre_0, hpre_1, hpre_2, hpre_3⟩ := hpre
  refine lv_aload_n hx hb dX12_settle_0 rfl (lv_at hl 0 rfl) ?_
  refine rg_59 (v := (σ.1 59)) C hP rfl wm_220 dX12_settle_1 ?_
  refine lv_i2l hx hb dX12_settle_4 rfl ?_
  refine lv_topl (fun x1 ex1 => ?_)
  have tx1 : x1.toInt = (σ.1 59).toInt := by rw [ex1]; exact Int32.toInt_toInt64 _
  refine lv_bipush (v := 56) hx hb dX12_settle_5 (by decide +kernel) ?_
  refine lv_lshl hx hb dX12_settle_7 rfl ?_
  refine lv_topl (fun x2 ex2 => ?_)
  refine lv_lstore_n (lv' := [(2, .long x2), (0, .ref (ad 0)), (1, .int k0)]) hx hb dX12_settle_8 rfl hl (by decide) rfl (fun ls hl => ?_)
  refine lv_lconst (v := 0) hx hb dX12_settle_9 rfl ?_
  refine lv_lstore (lv' := [(4, .long 0), (2, .long x2), (0, .ref (ad 0)), (1, .int k0)]) hx hb dX12_settle_10 hl (by decide) rfl (fun ls hl => ?_)
  refine lv_iconst (v := 0) hx hb dX12_settle_12 (by decide +kernel) ?_
  refine lv_istore (lv' := [(6, .int 0), (4, .long 0), (2, .long x2), (0, .ref (ad 0)), (1, .int k0)]) hx hb dX12_settle_13 hl (by decide) rfl (fun ls hl => ?_)
  exact L_settle_15_1 l D cy sz0 sa ad sz σ k0 x1 x2 C hpre_0 hpre_1 hpre_2 hpre_3 ex1 tx1 ex2 ((48 - (0 : Int32).toInt).toNat + 1) x2 (0 : Int64) (0 : Int32) _ _ _ (Nat.lt_succ_self _) ⟨(v_settle_1  ), (v_settle_2 σ k0 x1 x2 hpre_0 hpre_1 hpre_2 hpre_3 ex1 tx1 ex2)⟩ hP hS (lv_sub hl [0, 1, 2, 3, 4] rfl)
