-- pre:J4_setLength_d00df@5 @5
theorem vX4_quoted_1   : (0 : Int32).toInt = 0 := by
  have q0 : (0 : Int32).toInt = 0 := by decide +kernel
  first | assumption | omega | (subst_vars; omega) | trivial
-- nw@10 @10
theorem vX4_quoted_2 (k0 : Int32) (x5 : Int32) (hpre_5 : 0 ≤ k0.toInt) (hpre_6 : k0.toInt ≤ 40) (ex5 : x5 = k0 + (1 : Int32)) : x5.toInt = k0.toInt + 1 := by
  have q1 : (1 : Int32).toInt = 1 := by decide +kernel
  have w1 : (1 : Int32).toInt = 1 := by decide +kernel
  rw [ex5, z_add (by omega) (by omega)]; first | done | omega
-- init@12 @12
theorem vX4_quoted_3 (ad : Nat → Nat) (k0 : Int32) (P2 : PL) (x5 : Int32) (hpre_5 : 0 ≤ k0.toInt) (hpre_6 : k0.toInt ≤ 40) (hr1_3 : (oI P2 25 (ad 18)).toInt = 0) (ex5 : x5 = k0 + (1 : Int32)) (tx5 : x5.toInt = k0.toInt + 1) : k0.toInt < x5.toInt ∧ x5.toInt ≤ 41 ∧ (oI P2 25 (ad 18)).toInt = x5.toInt - k0.toInt - 1 := by
  have q1 : (1 : Int32).toInt = 1 := by decide +kernel
  refine ⟨?_, ?_, ?_⟩ <;> first | assumption | omega | (subst_vars; omega) | trivial
-- init2@12 @12
theorem vX4_quoted_4 (ad : Nat → Nat) (sa : Nat → Nat) (κ : KS) (k0 : Int32) (P2 : PL) (x5 : Int32) (hPV : PV sa κ.2.2.2.2) (hSV : SV ad κ.2.2.2.2 (κ.2.1 0) (κ.2.1 1) (κ.2.2.2.1 6) (κ.2.2.2.1 7) (κ.2.2.2.1 8) (κ.2.2.2.1 13) (κ.2.2.2.1 15) (κ.2.2.2.1 17) (κ.1 1).toInt) (hpre_0 : L9 (κ.2.2.1 9)) (hpre_1 : 0 ≤ (κ.1 6).toInt) (hpre_2 : (κ.1 6).toInt ≤ 40) (hpre_3 : 0 ≤ (κ.1 7).toInt) (hpre_4 : (κ.1 7).toInt ≤ 41) (hpre_5 : 0 ≤ k0.toInt) (hpre_6 : k0.toInt ≤ 40) (hr1_0 : EX κ.2.2.2.2 P2) (hr1_2 : KPx True κ.2.2.2.2 P2) (hr1y : SBX P2 (ad 18) []) (hr1_3 : (oI P2 25 (ad 18)).toInt = 0) (ex5 : x5 = k0 + (1 : Int32)) (tx5 : x5.toInt = k0.toInt + 1) : RT qt (tx (κ.2.2.1 9) (κ.1 6)) (k0.toInt + 1) x5.toInt ∧ (k0.toInt < (κ.1 6).toInt → x5.toInt ≤ (κ.1 6).toInt) := by
  have q1 : (1 : Int32).toInt = 1 := by decide +kernel
  exact ⟨RT.at (by omega), fun _ => by omega⟩
-- post @70
theorem vX4_quoted_5 (ad : Nat → Nat) (κ : KS) (k0 : Int32) (x5 : Int32) (y6 : Int32) (P7 : PL) (hpre_1 : 0 ≤ (κ.1 6).toInt) (hpre_2 : (κ.1 6).toInt ≤ 40) (hpre_3 : 0 ≤ (κ.1 7).toInt) (hpre_4 : (κ.1 7).toInt ≤ 41) (hpre_5 : 0 ≤ k0.toInt) (hpre_6 : k0.toInt ≤ 40) (ex5 : x5 = k0 + (1 : Int32)) (tx5 : x5.toInt = k0.toInt + 1) (hi12_0 : k0.toInt < y6.toInt) (hi12_1 : y6.toInt ≤ 41) (hi12_2 : (oI P7 25 (ad 18)).toInt = y6.toInt - k0.toInt - 1) (c8 : (κ.1 6).toInt ≤ y6.toInt) (c9 : (κ.1 6).toInt ≤ y6.toInt) : 0 ≤ (κ.1 7).toInt ∧ (κ.1 7).toInt ≤ 41 ∧ (-1 : Int32).toInt ≤ 41 ∧ qg1 k0.toInt (-1 : Int32).toInt ≤ 40 ∧ qg2 k0.toInt (-1 : Int32).toInt ≤ 2800 := by
  have qm1 : (-1 : Int32).toInt = (-1) := by decide +kernel
  have q1 : (1 : Int32).toInt = 1 := by decide +kernel
  have zq0 := qg_spec k0.toInt (-1 : Int32).toInt
  refine ⟨?_, ?_, ?_, ?_, ?_⟩ <;> first | assumption | omega | (subst_vars; omega) | trivial
-- post2 @70
theorem vX4_quoted_6 (ad : Nat → Nat) (sa : Nat → Nat) (κ : KS) (k0 : Int32) (P2 : PL) (x5 : Int32) (y6 : Int32) (P7 : PL) (hPV : PV sa κ.2.2.2.2) (hSV : SV ad κ.2.2.2.2 (κ.2.1 0) (κ.2.1 1) (κ.2.2.2.1 6) (κ.2.2.2.1 7) (κ.2.2.2.1 8) (κ.2.2.2.1 13) (κ.2.2.2.1 15) (κ.2.2.2.1 17) (κ.1 1).toInt) (hpre_0 : L9 (κ.2.2.1 9)) (hpre_1 : 0 ≤ (κ.1 6).toInt) (hpre_2 : (κ.1 6).toInt ≤ 40) (hpre_3 : 0 ≤ (κ.1 7).toInt) (hpre_4 : (κ.1 7).toInt ≤ 41) (hpre_5 : 0 ≤ k0.toInt) (hpre_6 : k0.toInt ≤ 40) (hr1_0 : EX κ.2.2.2.2 P2) (hr1_2 : KPx True κ.2.2.2.2 P2) (hr1y : SBX P2 (ad 18) []) (hr1_3 : (oI P2 25 (ad 18)).toInt = 0) (ex5 : x5 = k0 + (1 : Int32)) (tx5 : x5.toInt = k0.toInt + 1) (hi12_0 : k0.toInt < y6.toInt) (hi12_1 : y6.toInt ≤ 41) (hi12_2 : (oI P7 25 (ad 18)).toInt = y6.toInt - k0.toInt - 1) (hf12_0 : EX P2 P7) (hf12_2 : KPx True κ.2.2.2.2 P7) (hi12y_0 : RT qt (tx (κ.2.2.1 9) (κ.1 6)) (k0.toInt + 1) y6.toInt) (hi12y_1 : k0.toInt < (κ.1 6).toInt → y6.toInt ≤ (κ.1 6).toInt) (c8 : (κ.1 6).toInt ≤ y6.toInt) (c9 : (κ.1 6).toInt ≤ y6.toInt) : (κ.1 7).toInt ≤ k0.toInt → k0.toInt < (κ.1 6).toInt → tx (κ.2.2.1 9) (κ.1 6) k0.toInt = 39 → ∃ t9, TokR (tx (κ.2.2.1 9) (κ.1 6)) (κ.1 6).toInt k0.toInt t9 ∧ LXc (κ.2.2.1 10) (κ.2.2.1 11) (κ.2.2.1 12) (κ.1 7) (κ.2.2.1 10) (κ.2.2.1 11) (κ.2.2.1 12) (κ.1 7) k0.toInt (-1 : Int32).toInt t9 := by
  have qm1 : (-1 : Int32).toInt = (-1) := by decide +kernel
  have q1 : (1 : Int32).toInt = 1 := by decide +kernel
  intro h1 h2 h3
  first
  | (exfalso; omega)
  | exact ⟨none, quoX hi12y_0 rfl (by omega) (Or.inl (by omega)) (by omega) h3, by show (-1 : Int32).toInt ≤ _; omega⟩
  | exact ⟨none, quoX hi12y_0 rfl (by rw [tx_o (by omega)]; omega) (Or.inr (by have := hi12y_1 h2; omega)) (by have := hi12y_1 h2; omega) h3, by show (-1 : Int32).toInt ≤ _; omega⟩
-- grow @70
theorem vX4_quoted_7 (ad : Nat → Nat) (κ : KS) (k0 : Int32) (x5 : Int32) (y6 : Int32) (P7 : PL) (hpre_1 : 0 ≤ (κ.1 6).toInt) (hpre_2 : (κ.1 6).toInt ≤ 40) (hpre_5 : 0 ≤ k0.toInt) (hpre_6 : k0.toInt ≤ 40) (ex5 : x5 = k0 + (1 : Int32)) (tx5 : x5.toInt = k0.toInt + 1) (hi12_0 : k0.toInt < y6.toInt) (hi12_1 : y6.toInt ≤ 41) (hi12_2 : (oI P7 25 (ad 18)).toInt = y6.toInt - k0.toInt - 1) (c8 : (κ.1 6).toInt ≤ y6.toInt) (c9 : (κ.1 6).toInt ≤ y6.toInt) : (y6.toInt - k0.toInt - 17).toNat ≤ qg1 k0.toInt (-1 : Int32).toInt := by
  have qm1 : (-1 : Int32).toInt = (-1) := by decide +kernel
  have q1 : (1 : Int32).toInt = 1 := by decide +kernel
  have zq0 := qg_spec k0.toInt (-1 : Int32).toInt
  first | assumption | omega | (subst_vars; omega) | trivial
-- grow @70
theorem vX4_quoted_8 (ad : Nat → Nat) (κ : KS) (k0 : Int32) (x5 : Int32) (y6 : Int32) (P7 : PL) (hpre_1 : 0 ≤ (κ.1 6).toInt) (hpre_2 : (κ.1 6).toInt ≤ 40) (hpre_5 : 0 ≤ k0.toInt) (hpre_6 : k0.toInt ≤ 40) (ex5 : x5 = k0 + (1 : Int32)) (tx5 : x5.toInt = k0.toInt + 1) (hi12_0 : k0.toInt < y6.toInt) (hi12_1 : y6.toInt ≤ 41) (hi12_2 : (oI P7 25 (ad 18)).toInt = y6.toInt - k0.toInt - 1) (c8 : (κ.1 6).toInt ≤ y6.toInt) (c9 : (κ.1 6).toInt ≤ y6.toInt) : (70 * (y6.toInt - k0.toInt - 17)).toNat ≤ qg2 k0.toInt (-1 : Int32).toInt := by
  have qm1 : (-1 : Int32).toInt = (-1) := by decide +kernel
  have q1 : (1 : Int32).toInt = 1 := by decide +kernel
  have zq0 := qg_spec k0.toInt (-1 : Int32).toInt
  first | assumption | omega | (subst_vars; omega) | trivial
-- growm @70
theorem vX4_quoted_9 (ad : Nat → Nat) (κ : KS) (k0 : Int32) (x5 : Int32) (y6 : Int32) (P7 : PL) (hpre_1 : 0 ≤ (κ.1 6).toInt) (hpre_2 : (κ.1 6).toInt ≤ 40) (hpre_5 : 0 ≤ k0.toInt) (hpre_6 : k0.toInt ≤ 40) (ex5 : x5 = k0 + (1 : Int32)) (tx5 : x5.toInt = k0.toInt + 1) (hi12_0 : k0.toInt < y6.toInt) (hi12_1 : y6.toInt ≤ 41) (hi12_2 : (oI P7 25 (ad 18)).toInt = y6.toInt - k0.toInt - 1) (c8 : (κ.1 6).toInt ≤ y6.toInt) (c9 : (κ.1 6).toInt ≤ y6.toInt) : qg1 k0.toInt (-1 : Int32).toInt ≤ 40 := by
  have qm1 : (-1 : Int32).toInt = (-1) := by decide +kernel
  have q1 : (1 : Int32).toInt = 1 := by decide +kernel
  have zq0 := qg_spec k0.toInt (-1 : Int32).toInt
  first | assumption | omega | (subst_vars; omega) | trivial
-- growm @70
theorem vX4_quoted_10 (ad : Nat → Nat) (κ : KS) (k0 : Int32) (x5 : Int32) (y6 : Int32) (P7 : PL) (hpre_1 : 0 ≤ (κ.1 6).toInt) (hpre_2 : (κ.1 6).toInt ≤ 40) (hpre_5 : 0 ≤ k0.toInt) (hpre_6 : k0.toInt ≤ 40) (ex5 : x5 = k0 + (1 : Int32)) (tx5 : x5.toInt = k0.toInt + 1) (hi12_0 : k0.toInt < y6.toInt) (hi12_1 : y6.toInt ≤ 41) (hi12_2 : (oI P7 25 (ad 18)).toInt = y6.toInt - k0.toInt - 1) (c8 : (κ.1 6).toInt ≤ y6.toInt) (c9 : (κ.1 6).toInt ≤ y6.toInt) : qg2 k0.toInt (-1 : Int32).toInt ≤ 2800 := by
  have qm1 : (-1 : Int32).toInt = (-1) := by decide +kernel
  have q1 : (1 : Int32).toInt = 1 := by decide +kernel
  have zq0 := qg_spec k0.toInt (-1 : Int32).toInt
  first | assumption | omega | (subst_vars; omega) | trivial
-- room @61
theorem vX4_quoted_11 (ad : Nat → Nat) (κ : KS) (k0 : Int32) (x5 : Int32) (y6 : Int32) (P7 : PL) (hpre_1 : 0 ≤ (κ.1 6).toInt) (hpre_2 : (κ.1 6).toInt ≤ 40) (hpre_5 : 0 ≤ k0.toInt) (hpre_6 : k0.toInt ≤ 40) (ex5 : x5 = k0 + (1 : Int32)) (tx5 : x5.toInt = k0.toInt + 1) (hi12_0 : k0.toInt < y6.toInt) (hi12_1 : y6.toInt ≤ 41) (hi12_2 : (oI P7 25 (ad 18)).toInt = y6.toInt - k0.toInt - 1) (c8 : (κ.1 6).toInt ≤ y6.toInt) (c9 : y6.toInt < (κ.1 6).toInt) : (y6.toInt - k0.toInt - 17).toNat + 0 ≤ 40 := by
  have q1 : (1 : Int32).toInt = 1 := by decide +kernel
  first | assumption | omega | (subst_vars; omega) | trivial
-- room @61
theorem vX4_quoted_12 (ad : Nat → Nat) (κ : KS) (k0 : Int32) (x5 : Int32) (y6 : Int32) (P7 : PL) (hpre_1 : 0 ≤ (κ.1 6).toInt) (hpre_2 : (κ.1 6).toInt ≤ 40) (hpre_5 : 0 ≤ k0.toInt) (hpre_6 : k0.toInt ≤ 40) (ex5 : x5 = k0 + (1 : Int32)) (tx5 : x5.toInt = k0.toInt + 1) (hi12_0 : k0.toInt < y6.toInt) (hi12_1 : y6.toInt ≤ 41) (hi12_2 : (oI P7 25 (ad 18)).toInt = y6.toInt - k0.toInt - 1) (c8 : (κ.1 6).toInt ≤ y6.toInt) (c9 : y6.toInt < (κ.1 6).toInt) : (70 * (y6.toInt - k0.toInt - 17)).toNat + 0 ≤ 2800 := by
  have q1 : (1 : Int32).toInt = 1 := by decide +kernel
  first | assumption | omega | (subst_vars; omega) | trivial
-- pre:J4_toString_0e30d@79 @79
theorem vX4_quoted_13 (ad : Nat → Nat) (κ : KS) (k0 : Int32) (x5 : Int32) (y6 : Int32) (P7 : PL) (r10 : Int32) (hpre_1 : 0 ≤ (κ.1 6).toInt) (hpre_2 : (κ.1 6).toInt ≤ 40) (hpre_5 : 0 ≤ k0.toInt) (hpre_6 : k0.toInt ≤ 40) (ex5 : x5 = k0 + (1 : Int32)) (tx5 : x5.toInt = k0.toInt + 1) (hi12_0 : k0.toInt < y6.toInt) (hi12_1 : y6.toInt ≤ 41) (hi12_2 : (oI P7 25 (ad 18)).toInt = y6.toInt - k0.toInt - 1) (c8 : (κ.1 6).toInt ≤ y6.toInt) (c9 : y6.toInt < (κ.1 6).toInt) (hr10 : r10.toInt = (oI P7 25 (ad 18)).toInt) (c11 : r10.toInt ≤ 8) : (oI P7 25 (ad 18)).toInt ≤ 40 := by
  have q1 : (1 : Int32).toInt = 1 := by decide +kernel
  first | assumption | omega | (subst_vars; omega) | trivial
-- room @79
theorem vX4_quoted_14 (ad : Nat → Nat) (κ : KS) (k0 : Int32) (x5 : Int32) (y6 : Int32) (P7 : PL) (r10 : Int32) (hpre_1 : 0 ≤ (κ.1 6).toInt) (hpre_2 : (κ.1 6).toInt ≤ 40) (hpre_5 : 0 ≤ k0.toInt) (hpre_6 : k0.toInt ≤ 40) (ex5 : x5 = k0 + (1 : Int32)) (tx5 : x5.toInt = k0.toInt + 1) (hi12_0 : k0.toInt < y6.toInt) (hi12_1 : y6.toInt ≤ 41) (hi12_2 : (oI P7 25 (ad 18)).toInt = y6.toInt - k0.toInt - 1) (c8 : (κ.1 6).toInt ≤ y6.toInt) (c9 : y6.toInt < (κ.1 6).toInt) (hr10 : r10.toInt = (oI P7 25 (ad 18)).toInt) (c11 : r10.toInt ≤ 8) : (y6.toInt - k0.toInt - 17).toNat + 0 + 2 ≤ 40 := by
  have q1 : (1 : Int32).toInt = 1 := by decide +kernel
  first | assumption | omega | (subst_vars; omega) | trivial
-- room @79
theorem vX4_quoted_15 (ad : Nat → Nat) (κ : KS) (k0 : Int32) (x5 : Int32) (y6 : Int32) (P7 : PL) (r10 : Int32) (hpre_1 : 0 ≤ (κ.1 6).toInt) (hpre_2 : (κ.1 6).toInt ≤ 40) (hpre_5 : 0 ≤ k0.toInt) (hpre_6 : k0.toInt ≤ 40) (ex5 : x5 = k0 + (1 : Int32)) (tx5 : x5.toInt = k0.toInt + 1) (hi12_0 : k0.toInt < y6.toInt) (hi12_1 : y6.toInt ≤ 41) (hi12_2 : (oI P7 25 (ad 18)).toInt = y6.toInt - k0.toInt - 1) (c8 : (κ.1 6).toInt ≤ y6.toInt) (c9 : y6.toInt < (κ.1 6).toInt) (hr10 : r10.toInt = (oI P7 25 (ad 18)).toInt) (c11 : r10.toInt ≤ 8) : (70 * (y6.toInt - k0.toInt - 17)).toNat + 0 + (4 + (oI P7 25 (ad 18)).toInt.toNat) ≤ 2800 := by
  have q1 : (1 : Int32).toInt = 1 := by decide +kernel
  first | assumption | omega | (subst_vars; omega) | trivial
-- room @82
theorem vX4_quoted_16 (ad : Nat → Nat) (κ : KS) (k0 : Int32) (x5 : Int32) (y6 : Int32) (P7 : PL) (r10 : Int32) (nb15 : Nat) (hpre_1 : 0 ≤ (κ.1 6).toInt) (hpre_2 : (κ.1 6).toInt ≤ 40) (hpre_5 : 0 ≤ k0.toInt) (hpre_6 : k0.toInt ≤ 40) (ex5 : x5 = k0 + (1 : Int32)) (tx5 : x5.toInt = k0.toInt + 1) (hi12_0 : k0.toInt < y6.toInt) (hi12_1 : y6.toInt ≤ 41) (hi12_2 : (oI P7 25 (ad 18)).toInt = y6.toInt - k0.toInt - 1) (c8 : (κ.1 6).toInt ≤ y6.toInt) (c9 : y6.toInt < (κ.1 6).toInt) (hr10 : r10.toInt = (oI P7 25 (ad 18)).toInt) (c11 : r10.toInt ≤ 8) (leb15 : ((nb15 : Nat) : Int) = (oI P7 25 (ad 18)).toInt) : (y6.toInt - k0.toInt - 17).toNat + 0 + 2 + 1 ≤ 40 := by
  have q1 : (1 : Int32).toInt = 1 := by decide +kernel
  first | assumption | omega | (subst_vars; omega) | trivial
-- room @82
theorem vX4_quoted_17 (ad : Nat → Nat) (κ : KS) (k0 : Int32) (x5 : Int32) (y6 : Int32) (P7 : PL) (r10 : Int32) (nb15 : Nat) (hpre_1 : 0 ≤ (κ.1 6).toInt) (hpre_2 : (κ.1 6).toInt ≤ 40) (hpre_5 : 0 ≤ k0.toInt) (hpre_6 : k0.toInt ≤ 40) (ex5 : x5 = k0 + (1 : Int32)) (tx5 : x5.toInt = k0.toInt + 1) (hi12_0 : k0.toInt < y6.toInt) (hi12_1 : y6.toInt ≤ 41) (hi12_2 : (oI P7 25 (ad 18)).toInt = y6.toInt - k0.toInt - 1) (c8 : (κ.1 6).toInt ≤ y6.toInt) (c9 : y6.toInt < (κ.1 6).toInt) (hr10 : r10.toInt = (oI P7 25 (ad 18)).toInt) (c11 : r10.toInt ≤ 8) (leb15 : ((nb15 : Nat) : Int) = (oI P7 25 (ad 18)).toInt) : (70 * (y6.toInt - k0.toInt - 17)).toNat + 0 + (4 + (oI P7 25 (ad 18)).toInt.toNat) + 5 ≤ 2800 := by
  have q1 : (1 : Int32).toInt = 1 := by decide +kernel
  first | assumption | omega | (subst_vars; omega) | trivial
-- pre:X4_add@85 @85
theorem vX4_quoted_18 (κ : KS) (hpre_3 : 0 ≤ (κ.1 7).toInt) (hpre_4 : (κ.1 7).toInt ≤ 41) : 0 ≤ (κ.1 7).toInt ∧ (κ.1 7).toInt ≤ 41 := by
  refine ⟨?_, ?_⟩ <;> first | assumption | omega | (subst_vars; omega) | trivial
-- room @85
theorem vX4_quoted_19 (ad : Nat → Nat) (κ : KS) (k0 : Int32) (x5 : Int32) (y6 : Int32) (P7 : PL) (r10 : Int32) (nb15 : Nat) (hpre_1 : 0 ≤ (κ.1 6).toInt) (hpre_2 : (κ.1 6).toInt ≤ 40) (hpre_5 : 0 ≤ k0.toInt) (hpre_6 : k0.toInt ≤ 40) (ex5 : x5 = k0 + (1 : Int32)) (tx5 : x5.toInt = k0.toInt + 1) (hi12_0 : k0.toInt < y6.toInt) (hi12_1 : y6.toInt ≤ 41) (hi12_2 : (oI P7 25 (ad 18)).toInt = y6.toInt - k0.toInt - 1) (c8 : (κ.1 6).toInt ≤ y6.toInt) (c9 : y6.toInt < (κ.1 6).toInt) (hr10 : r10.toInt = (oI P7 25 (ad 18)).toInt) (c11 : r10.toInt ≤ 8) (leb15 : ((nb15 : Nat) : Int) = (oI P7 25 (ad 18)).toInt) : (y6.toInt - k0.toInt - 17).toNat + 0 + 2 + 1 + 0 ≤ 40 := by
  have q1 : (1 : Int32).toInt = 1 := by decide +kernel
  first | assumption | omega | (subst_vars; omega) | trivial
-- room @85
theorem vX4_quoted_20 (ad : Nat → Nat) (κ : KS) (k0 : Int32) (x5 : Int32) (y6 : Int32) (P7 : PL) (r10 : Int32) (nb15 : Nat) (hpre_1 : 0 ≤ (κ.1 6).toInt) (hpre_2 : (κ.1 6).toInt ≤ 40) (hpre_5 : 0 ≤ k0.toInt) (hpre_6 : k0.toInt ≤ 40) (ex5 : x5 = k0 + (1 : Int32)) (tx5 : x5.toInt = k0.toInt + 1) (hi12_0 : k0.toInt < y6.toInt) (hi12_1 : y6.toInt ≤ 41) (hi12_2 : (oI P7 25 (ad 18)).toInt = y6.toInt - k0.toInt - 1) (c8 : (κ.1 6).toInt ≤ y6.toInt) (c9 : y6.toInt < (κ.1 6).toInt) (hr10 : r10.toInt = (oI P7 25 (ad 18)).toInt) (c11 : r10.toInt ≤ 8) (leb15 : ((nb15 : Nat) : Int) = (oI P7 25 (ad 18)).toInt) : (70 * (y6.toInt - k0.toInt - 17)).toNat + 0 + (4 + (oI P7 25 (ad 18)).toInt.toNat) + 5 + 0 ≤ 2800 := by
  have q1 : (1 : Int32).toInt = 1 := by decide +kernel
  first | assumption | omega | (subst_vars; omega) | trivial
-- nw@90 @90
theorem vX4_quoted_21 (ad : Nat → Nat) (κ : KS) (k0 : Int32) (x5 : Int32) (y6 : Int32) (P7 : PL) (r10 : Int32) (nb15 : Nat) (x28 : Int32) (hpre_1 : 0 ≤ (κ.1 6).toInt) (hpre_2 : (κ.1 6).toInt ≤ 40) (hpre_5 : 0 ≤ k0.toInt) (hpre_6 : k0.toInt ≤ 40) (ex5 : x5 = k0 + (1 : Int32)) (tx5 : x5.toInt = k0.toInt + 1) (hi12_0 : k0.toInt < y6.toInt) (hi12_1 : y6.toInt ≤ 41) (hi12_2 : (oI P7 25 (ad 18)).toInt = y6.toInt - k0.toInt - 1) (c8 : (κ.1 6).toInt ≤ y6.toInt) (c9 : y6.toInt < (κ.1 6).toInt) (hr10 : r10.toInt = (oI P7 25 (ad 18)).toInt) (c11 : r10.toInt ≤ 8) (leb15 : ((nb15 : Nat) : Int) = (oI P7 25 (ad 18)).toInt) (ex28 : x28 = y6 + (1 : Int32)) : x28.toInt = y6.toInt + 1 := by
  have q1 : (1 : Int32).toInt = 1 := by decide +kernel
  have w1 : (1 : Int32).toInt = 1 := by decide +kernel
  rw [ex28, z_add (by omega) (by omega)]; first | done | omega
-- post @91
theorem vX4_quoted_22 (ad : Nat → Nat) (κ : KS) (k0 : Int32) (x5 : Int32) (y6 : Int32) (P7 : PL) (r10 : Int32) (nb15 : Nat) (n23 : Int32) (x28 : Int32) (hpre_1 : 0 ≤ (κ.1 6).toInt) (hpre_2 : (κ.1 6).toInt ≤ 40) (hpre_5 : 0 ≤ k0.toInt) (hpre_6 : k0.toInt ≤ 40) (ex5 : x5 = k0 + (1 : Int32)) (tx5 : x5.toInt = k0.toInt + 1) (hi12_0 : k0.toInt < y6.toInt) (hi12_1 : y6.toInt ≤ 41) (hi12_2 : (oI P7 25 (ad 18)).toInt = y6.toInt - k0.toInt - 1) (c8 : (κ.1 6).toInt ≤ y6.toInt) (c9 : y6.toInt < (κ.1 6).toInt) (hr10 : r10.toInt = (oI P7 25 (ad 18)).toInt) (c11 : r10.toInt ≤ 8) (leb15 : ((nb15 : Nat) : Int) = (oI P7 25 (ad 18)).toInt) (hr22_1_0 : 0 ≤ n23.toInt) (hr22_1_1 : n23.toInt ≤ 41) (ex28 : x28 = y6 + (1 : Int32)) (tx28 : x28.toInt = y6.toInt + 1) : 0 ≤ n23.toInt ∧ n23.toInt ≤ 41 ∧ x28.toInt ≤ 41 ∧ qg1 k0.toInt x28.toInt ≤ 40 ∧ qg2 k0.toInt x28.toInt ≤ 2800 := by
  have q1 : (1 : Int32).toInt = 1 := by decide +kernel
  have zq0 := qg_spec k0.toInt x28.toInt
  refine ⟨?_, ?_, ?_, ?_, ?_⟩ <;> first | assumption | omega | (subst_vars; omega) | trivial
-- post2 @91
theorem vX4_quoted_23 (ad : Nat → Nat) (sa : Nat → Nat) (κ : KS) (k0 : Int32) (P2 : PL) (x5 : Int32) (y6 : Int32) (P7 : PL) (r10 : Int32) (P13 : PL) (b15 : Nat) (nb15 : Nat) (P18 : PL) (b20 : Nat) (n23 : Int32) (F24 : (Nat → Int32)) (F25 : (Nat → Int32)) (F26 : (Nat → Int32)) (x28 : Int32) (hPV : PV sa κ.2.2.2.2) (hSV : SV ad κ.2.2.2.2 (κ.2.1 0) (κ.2.1 1) (κ.2.2.2.1 6) (κ.2.2.2.1 7) (κ.2.2.2.1 8) (κ.2.2.2.1 13) (κ.2.2.2.1 15) (κ.2.2.2.1 17) (κ.1 1).toInt) (hpre_0 : L9 (κ.2.2.1 9)) (hpre_1 : 0 ≤ (κ.1 6).toInt) (hpre_2 : (κ.1 6).toInt ≤ 40) (hpre_3 : 0 ≤ (κ.1 7).toInt) (hpre_4 : (κ.1 7).toInt ≤ 41) (hpre_5 : 0 ≤ k0.toInt) (hpre_6 : k0.toInt ≤ 40) (hr1_0 : EX κ.2.2.2.2 P2) (hr1_2 : KPx True κ.2.2.2.2 P2) (hr1y : SBX P2 (ad 18) []) (hr1_3 : (oI P2 25 (ad 18)).toInt = 0) (ex5 : x5 = k0 + (1 : Int32)) (tx5 : x5.toInt = k0.toInt + 1) (hi12_0 : k0.toInt < y6.toInt) (hi12_1 : y6.toInt ≤ 41) (hi12_2 : (oI P7 25 (ad 18)).toInt = y6.toInt - k0.toInt - 1) (hf12_0 : EX P2 P7) (hf12_2 : KPx True κ.2.2.2.2 P7) (hi12y_0 : RT qt (tx (κ.2.2.1 9) (κ.1 6)) (k0.toInt + 1) y6.toInt) (hi12y_1 : k0.toInt < (κ.1 6).toInt → y6.toInt ≤ (κ.1 6).toInt) (c8 : (κ.1 6).toInt ≤ y6.toInt) (c9 : y6.toInt < (κ.1 6).toInt) (hr10 : r10.toInt = (oI P7 25 (ad 18)).toInt) (c11 : r10.toInt ≤ 8) (hr12_0 : EX P7 P13) (hr12_2 : KPx True P7 P13) (leb15 : ((nb15 : Nat) : Int) = (oI P7 25 (ad 18)).toInt) (hr12y : ∀ s9 : List Int, SBX P7 (ad 18) s9 → TXq P13 sa b15 s9) (hr17_0 : EX P13 P18) (hr17_2 : KPx True P13 P18) (hr17y : ∀ (q7 q8 : Nat → Option Nat) (s9 : List Int), TXq P13 sa b15 s9 → s9.length ≤ 16 → CHS s9 → VALq P18 sa q7 q8 b20 (qText s9)) (hr22y : (κ.1 7).toInt < 41 → ADc (κ.2.2.1 10) (κ.2.2.1 11) (κ.2.2.1 12) (κ.1 7) F24 F25 F26 n23 (1 : Int32) k0 (0 : Int32)) (hr22_1_0 : 0 ≤ n23.toInt) (hr22_1_1 : n23.toInt ≤ 41) (ex28 : x28 = y6 + (1 : Int32)) (tx28 : x28.toInt = y6.toInt + 1) : (κ.1 7).toInt ≤ k0.toInt → k0.toInt < (κ.1 6).toInt → tx (κ.2.2.1 9) (κ.1 6) k0.toInt = 39 → ∃ t9, TokR (tx (κ.2.2.1 9) (κ.1 6)) (κ.1 6).toInt k0.toInt t9 ∧ LXc (κ.2.2.1 10) (κ.2.2.1 11) (κ.2.2.1 12) (κ.1 7) F24 F25 F26 n23 k0.toInt x28.toInt t9 := by
  have q0 : (0 : Int32).toInt = 0 := by decide +kernel
  have q1 : (1 : Int32).toInt = 1 := by decide +kernel
  intro h1 h2 h3
  first | (exfalso; omega) | exact ⟨_, quoN hi12y_0 rfl (by omega) (by omega) rfl (by omega) h3, LXc.add (hr22y (by omega)) (by omega) (by omega) (by omega) (by first | rfl | omega) rfl⟩
-- grow @91
theorem vX4_quoted_24 (ad : Nat → Nat) (κ : KS) (k0 : Int32) (x5 : Int32) (y6 : Int32) (P7 : PL) (r10 : Int32) (nb15 : Nat) (x28 : Int32) (hpre_1 : 0 ≤ (κ.1 6).toInt) (hpre_2 : (κ.1 6).toInt ≤ 40) (hpre_5 : 0 ≤ k0.toInt) (hpre_6 : k0.toInt ≤ 40) (ex5 : x5 = k0 + (1 : Int32)) (tx5 : x5.toInt = k0.toInt + 1) (hi12_0 : k0.toInt < y6.toInt) (hi12_1 : y6.toInt ≤ 41) (hi12_2 : (oI P7 25 (ad 18)).toInt = y6.toInt - k0.toInt - 1) (c8 : (κ.1 6).toInt ≤ y6.toInt) (c9 : y6.toInt < (κ.1 6).toInt) (hr10 : r10.toInt = (oI P7 25 (ad 18)).toInt) (c11 : r10.toInt ≤ 8) (leb15 : ((nb15 : Nat) : Int) = (oI P7 25 (ad 18)).toInt) (ex28 : x28 = y6 + (1 : Int32)) (tx28 : x28.toInt = y6.toInt + 1) : (y6.toInt - k0.toInt - 17).toNat + 0 + 2 + 1 + 0 ≤ qg1 k0.toInt x28.toInt := by
  have q1 : (1 : Int32).toInt = 1 := by decide +kernel
  have zq0 := qg_spec k0.toInt x28.toInt
  first | assumption | omega | (subst_vars; omega) | trivial
-- grow @91
theorem vX4_quoted_25 (ad : Nat → Nat) (κ : KS) (k0 : Int32) (x5 : Int32) (y6 : Int32) (P7 : PL) (r10 : Int32) (nb15 : Nat) (x28 : Int32) (hpre_1 : 0 ≤ (κ.1 6).toInt) (hpre_2 : (κ.1 6).toInt ≤ 40) (hpre_5 : 0 ≤ k0.toInt) (hpre_6 : k0.toInt ≤ 40) (ex5 : x5 = k0 + (1 : Int32)) (tx5 : x5.toInt = k0.toInt + 1) (hi12_0 : k0.toInt < y6.toInt) (hi12_1 : y6.toInt ≤ 41) (hi12_2 : (oI P7 25 (ad 18)).toInt = y6.toInt - k0.toInt - 1) (c8 : (κ.1 6).toInt ≤ y6.toInt) (c9 : y6.toInt < (κ.1 6).toInt) (hr10 : r10.toInt = (oI P7 25 (ad 18)).toInt) (c11 : r10.toInt ≤ 8) (leb15 : ((nb15 : Nat) : Int) = (oI P7 25 (ad 18)).toInt) (ex28 : x28 = y6 + (1 : Int32)) (tx28 : x28.toInt = y6.toInt + 1) : (70 * (y6.toInt - k0.toInt - 17)).toNat + 0 + (4 + (oI P7 25 (ad 18)).toInt.toNat) + 5 + 0 ≤ qg2 k0.toInt x28.toInt := by
  have q1 : (1 : Int32).toInt = 1 := by decide +kernel
  have zq0 := qg_spec k0.toInt x28.toInt
  first | assumption | omega | (subst_vars; omega) | trivial
-- growm @91
theorem vX4_quoted_26 (ad : Nat → Nat) (κ : KS) (k0 : Int32) (x5 : Int32) (y6 : Int32) (P7 : PL) (r10 : Int32) (nb15 : Nat) (x28 : Int32) (hpre_1 : 0 ≤ (κ.1 6).toInt) (hpre_2 : (κ.1 6).toInt ≤ 40) (hpre_5 : 0 ≤ k0.toInt) (hpre_6 : k0.toInt ≤ 40) (ex5 : x5 = k0 + (1 : Int32)) (tx5 : x5.toInt = k0.toInt + 1) (hi12_0 : k0.toInt < y6.toInt) (hi12_1 : y6.toInt ≤ 41) (hi12_2 : (oI P7 25 (ad 18)).toInt = y6.toInt - k0.toInt - 1) (c8 : (κ.1 6).toInt ≤ y6.toInt) (c9 : y6.toInt < (κ.1 6).toInt) (hr10 : r10.toInt = (oI P7 25 (ad 18)).toInt) (c11 : r10.toInt ≤ 8) (leb15 : ((nb15 : Nat) : Int) = (oI P7 25 (ad 18)).toInt) (ex28 : x28 = y6 + (1 : Int32)) (tx28 : x28.toInt = y6.toInt + 1) : qg1 k0.toInt x28.toInt ≤ 40 := by
  have q1 : (1 : Int32).toInt = 1 := by decide +kernel
  have zq0 := qg_spec k0.toInt x28.toInt
  first | assumption | omega | (subst_vars; omega) | trivial
-- growm @91
theorem vX4_quoted_27 (ad : Nat → Nat) (κ : KS) (k0 : Int32) (x5 : Int32) (y6 : Int32) (P7 : PL) (r10 : Int32) (nb15 : Nat) (x28 : Int32) (hpre_1 : 0 ≤ (κ.1 6).toInt) (hpre_2 : (κ.1 6).toInt ≤ 40) (hpre_5 : 0 ≤ k0.toInt) (hpre_6 : k0.toInt ≤ 40) (ex5 : x5 = k0 + (1 : Int32)) (tx5 : x5.toInt = k0.toInt + 1) (hi12_0 : k0.toInt < y6.toInt) (hi12_1 : y6.toInt ≤ 41) (hi12_2 : (oI P7 25 (ad 18)).toInt = y6.toInt - k0.toInt - 1) (c8 : (κ.1 6).toInt ≤ y6.toInt) (c9 : y6.toInt < (κ.1 6).toInt) (hr10 : r10.toInt = (oI P7 25 (ad 18)).toInt) (c11 : r10.toInt ≤ 8) (leb15 : ((nb15 : Nat) : Int) = (oI P7 25 (ad 18)).toInt) (ex28 : x28 = y6 + (1 : Int32)) (tx28 : x28.toInt = y6.toInt + 1) : qg2 k0.toInt x28.toInt ≤ 2800 := by
  have q1 : (1 : Int32).toInt = 1 := by decide +kernel
  have zq0 := qg_spec k0.toInt x28.toInt
  first | assumption | omega | (subst_vars; omega) | trivial
-- post @70
theorem vX4_quoted_28 (ad : Nat → Nat) (κ : KS) (k0 : Int32) (x5 : Int32) (y6 : Int32) (P7 : PL) (r10 : Int32) (hpre_1 : 0 ≤ (κ.1 6).toInt) (hpre_2 : (κ.1 6).toInt ≤ 40) (hpre_3 : 0 ≤ (κ.1 7).toInt) (hpre_4 : (κ.1 7).toInt ≤ 41) (hpre_5 : 0 ≤ k0.toInt) (hpre_6 : k0.toInt ≤ 40) (ex5 : x5 = k0 + (1 : Int32)) (tx5 : x5.toInt = k0.toInt + 1) (hi12_0 : k0.toInt < y6.toInt) (hi12_1 : y6.toInt ≤ 41) (hi12_2 : (oI P7 25 (ad 18)).toInt = y6.toInt - k0.toInt - 1) (c8 : (κ.1 6).toInt ≤ y6.toInt) (c9 : y6.toInt < (κ.1 6).toInt) (hr10 : r10.toInt = (oI P7 25 (ad 18)).toInt) (c11 : 8 < r10.toInt) : 0 ≤ (κ.1 7).toInt ∧ (κ.1 7).toInt ≤ 41 ∧ (-1 : Int32).toInt ≤ 41 ∧ qg1 k0.toInt (-1 : Int32).toInt ≤ 40 ∧ qg2 k0.toInt (-1 : Int32).toInt ≤ 2800 := by
  have qm1 : (-1 : Int32).toInt = (-1) := by decide +kernel
  have q1 : (1 : Int32).toInt = 1 := by decide +kernel
  have zq0 := qg_spec k0.toInt (-1 : Int32).toInt
  refine ⟨?_, ?_, ?_, ?_, ?_⟩ <;> first | assumption | omega | (subst_vars; omega) | trivial
-- post2 @70
theorem vX4_quoted_29 (ad : Nat → Nat) (sa : Nat → Nat) (κ : KS) (k0 : Int32) (P2 : PL) (x5 : Int32) (y6 : Int32) (P7 : PL) (r10 : Int32) (hPV : PV sa κ.2.2.2.2) (hSV : SV ad κ.2.2.2.2 (κ.2.1 0) (κ.2.1 1) (κ.2.2.2.1 6) (κ.2.2.2.1 7) (κ.2.2.2.1 8) (κ.2.2.2.1 13) (κ.2.2.2.1 15) (κ.2.2.2.1 17) (κ.1 1).toInt) (hpre_0 : L9 (κ.2.2.1 9)) (hpre_1 : 0 ≤ (κ.1 6).toInt) (hpre_2 : (κ.1 6).toInt ≤ 40) (hpre_3 : 0 ≤ (κ.1 7).toInt) (hpre_4 : (κ.1 7).toInt ≤ 41) (hpre_5 : 0 ≤ k0.toInt) (hpre_6 : k0.toInt ≤ 40) (hr1_0 : EX κ.2.2.2.2 P2) (hr1_2 : KPx True κ.2.2.2.2 P2) (hr1y : SBX P2 (ad 18) []) (hr1_3 : (oI P2 25 (ad 18)).toInt = 0) (ex5 : x5 = k0 + (1 : Int32)) (tx5 : x5.toInt = k0.toInt + 1) (hi12_0 : k0.toInt < y6.toInt) (hi12_1 : y6.toInt ≤ 41) (hi12_2 : (oI P7 25 (ad 18)).toInt = y6.toInt - k0.toInt - 1) (hf12_0 : EX P2 P7) (hf12_2 : KPx True κ.2.2.2.2 P7) (hi12y_0 : RT qt (tx (κ.2.2.1 9) (κ.1 6)) (k0.toInt + 1) y6.toInt) (hi12y_1 : k0.toInt < (κ.1 6).toInt → y6.toInt ≤ (κ.1 6).toInt) (c8 : (κ.1 6).toInt ≤ y6.toInt) (c9 : y6.toInt < (κ.1 6).toInt) (hr10 : r10.toInt = (oI P7 25 (ad 18)).toInt) (c11 : 8 < r10.toInt) : (κ.1 7).toInt ≤ k0.toInt → k0.toInt < (κ.1 6).toInt → tx (κ.2.2.1 9) (κ.1 6) k0.toInt = 39 → ∃ t9, TokR (tx (κ.2.2.1 9) (κ.1 6)) (κ.1 6).toInt k0.toInt t9 ∧ LXc (κ.2.2.1 10) (κ.2.2.1 11) (κ.2.2.1 12) (κ.1 7) (κ.2.2.1 10) (κ.2.2.1 11) (κ.2.2.1 12) (κ.1 7) k0.toInt (-1 : Int32).toInt t9 := by
  have qm1 : (-1 : Int32).toInt = (-1) := by decide +kernel
  have q1 : (1 : Int32).toInt = 1 := by decide +kernel
  intro h1 h2 h3
  first
  | (exfalso; omega)
  | exact ⟨none, quoX hi12y_0 rfl (by omega) (Or.inl (by omega)) (by omega) h3, by show (-1 : Int32).toInt ≤ _; omega⟩
  | exact ⟨none, quoX hi12y_0 rfl (by rw [tx_o (by omega)]; omega) (Or.inr (by have := hi12y_1 h2; omega)) (by have := hi12y_1 h2; omega) h3, by show (-1 : Int32).toInt ≤ _; omega⟩
-- grow @70
theorem vX4_quoted_30 (ad : Nat → Nat) (κ : KS) (k0 : Int32) (x5 : Int32) (y6 : Int32) (P7 : PL) (r10 : Int32) (hpre_1 : 0 ≤ (κ.1 6).toInt) (hpre_2 : (κ.1 6).toInt ≤ 40) (hpre_5 : 0 ≤ k0.toInt) (hpre_6 : k0.toInt ≤ 40) (ex5 : x5 = k0 + (1 : Int32)) (tx5 : x5.toInt = k0.toInt + 1) (hi12_0 : k0.toInt < y6.toInt) (hi12_1 : y6.toInt ≤ 41) (hi12_2 : (oI P7 25 (ad 18)).toInt = y6.toInt - k0.toInt - 1) (c8 : (κ.1 6).toInt ≤ y6.toInt) (c9 : y6.toInt < (κ.1 6).toInt) (hr10 : r10.toInt = (oI P7 25 (ad 18)).toInt) (c11 : 8 < r10.toInt) : (y6.toInt - k0.toInt - 17).toNat + 0 ≤ qg1 k0.toInt (-1 : Int32).toInt := by
  have qm1 : (-1 : Int32).toInt = (-1) := by decide +kernel
  have q1 : (1 : Int32).toInt = 1 := by decide +kernel
  have zq0 := qg_spec k0.toInt (-1 : Int32).toInt
  first | assumption | omega | (subst_vars; omega) | trivial
-- grow @70
theorem vX4_quoted_31 (ad : Nat → Nat) (κ : KS) (k0 : Int32) (x5 : Int32) (y6 : Int32) (P7 : PL) (r10 : Int32) (hpre_1 : 0 ≤ (κ.1 6).toInt) (hpre_2 : (κ.1 6).toInt ≤ 40) (hpre_5 : 0 ≤ k0.toInt) (hpre_6 : k0.toInt ≤ 40) (ex5 : x5 = k0 + (1 : Int32)) (tx5 : x5.toInt = k0.toInt + 1) (hi12_0 : k0.toInt < y6.toInt) (hi12_1 : y6.toInt ≤ 41) (hi12_2 : (oI P7 25 (ad 18)).toInt = y6.toInt - k0.toInt - 1) (c8 : (κ.1 6).toInt ≤ y6.toInt) (c9 : y6.toInt < (κ.1 6).toInt) (hr10 : r10.toInt = (oI P7 25 (ad 18)).toInt) (c11 : 8 < r10.toInt) : (70 * (y6.toInt - k0.toInt - 17)).toNat + 0 ≤ qg2 k0.toInt (-1 : Int32).toInt := by
  have qm1 : (-1 : Int32).toInt = (-1) := by decide +kernel
  have q1 : (1 : Int32).toInt = 1 := by decide +kernel
  have zq0 := qg_spec k0.toInt (-1 : Int32).toInt
  first | assumption | omega | (subst_vars; omega) | trivial
-- growm @70
theorem vX4_quoted_32 (ad : Nat → Nat) (κ : KS) (k0 : Int32) (x5 : Int32) (y6 : Int32) (P7 : PL) (r10 : Int32) (hpre_1 : 0 ≤ (κ.1 6).toInt) (hpre_2 : (κ.1 6).toInt ≤ 40) (hpre_5 : 0 ≤ k0.toInt) (hpre_6 : k0.toInt ≤ 40) (ex5 : x5 = k0 + (1 : Int32)) (tx5 : x5.toInt = k0.toInt + 1) (hi12_0 : k0.toInt < y6.toInt) (hi12_1 : y6.toInt ≤ 41) (hi12_2 : (oI P7 25 (ad 18)).toInt = y6.toInt - k0.toInt - 1) (c8 : (κ.1 6).toInt ≤ y6.toInt) (c9 : y6.toInt < (κ.1 6).toInt) (hr10 : r10.toInt = (oI P7 25 (ad 18)).toInt) (c11 : 8 < r10.toInt) : qg1 k0.toInt (-1 : Int32).toInt ≤ 40 := by
  have qm1 : (-1 : Int32).toInt = (-1) := by decide +kernel
  have q1 : (1 : Int32).toInt = 1 := by decide +kernel
  have zq0 := qg_spec k0.toInt (-1 : Int32).toInt
  first | assumption | omega | (subst_vars; omega) | trivial
-- growm @70
theorem vX4_quoted_33 (ad : Nat → Nat) (κ : KS) (k0 : Int32) (x5 : Int32) (y6 : Int32) (P7 : PL) (r10 : Int32) (hpre_1 : 0 ≤ (κ.1 6).toInt) (hpre_2 : (κ.1 6).toInt ≤ 40) (hpre_5 : 0 ≤ k0.toInt) (hpre_6 : k0.toInt ≤ 40) (ex5 : x5 = k0 + (1 : Int32)) (tx5 : x5.toInt = k0.toInt + 1) (hi12_0 : k0.toInt < y6.toInt) (hi12_1 : y6.toInt ≤ 41) (hi12_2 : (oI P7 25 (ad 18)).toInt = y6.toInt - k0.toInt - 1) (c8 : (κ.1 6).toInt ≤ y6.toInt) (c9 : y6.toInt < (κ.1 6).toInt) (hr10 : r10.toInt = (oI P7 25 (ad 18)).toInt) (c11 : 8 < r10.toInt) : qg2 k0.toInt (-1 : Int32).toInt ≤ 2800 := by
  have qm1 : (-1 : Int32).toInt = (-1) := by decide +kernel
  have q1 : (1 : Int32).toInt = 1 := by decide +kernel
  have zq0 := qg_spec k0.toInt (-1 : Int32).toInt
  first | assumption | omega | (subst_vars; omega) | trivial
-- pre:X4_peek@22 @22
theorem vX4_quoted_34 (κ : KS) (hpre_0 : L9 (κ.2.2.1 9)) : L9 (κ.2.2.1 9) := by
  first | assumption | omega | (subst_vars; omega) | trivial
-- room @22
theorem vX4_quoted_35 (ad : Nat → Nat) (κ : KS) (k0 : Int32) (x5 : Int32) (y6 : Int32) (P7 : PL) (hpre_1 : 0 ≤ (κ.1 6).toInt) (hpre_2 : (κ.1 6).toInt ≤ 40) (hpre_5 : 0 ≤ k0.toInt) (hpre_6 : k0.toInt ≤ 40) (ex5 : x5 = k0 + (1 : Int32)) (tx5 : x5.toInt = k0.toInt + 1) (hi12_0 : k0.toInt < y6.toInt) (hi12_1 : y6.toInt ≤ 41) (hi12_2 : (oI P7 25 (ad 18)).toInt = y6.toInt - k0.toInt - 1) (c8 : y6.toInt < (κ.1 6).toInt) : (y6.toInt - k0.toInt - 17).toNat + 0 ≤ 40 := by
  have q1 : (1 : Int32).toInt = 1 := by decide +kernel
  first | assumption | omega | (subst_vars; omega) | trivial
-- room @22
theorem vX4_quoted_36 (ad : Nat → Nat) (κ : KS) (k0 : Int32) (x5 : Int32) (y6 : Int32) (P7 : PL) (hpre_1 : 0 ≤ (κ.1 6).toInt) (hpre_2 : (κ.1 6).toInt ≤ 40) (hpre_5 : 0 ≤ k0.toInt) (hpre_6 : k0.toInt ≤ 40) (ex5 : x5 = k0 + (1 : Int32)) (tx5 : x5.toInt = k0.toInt + 1) (hi12_0 : k0.toInt < y6.toInt) (hi12_1 : y6.toInt ≤ 41) (hi12_2 : (oI P7 25 (ad 18)).toInt = y6.toInt - k0.toInt - 1) (c8 : y6.toInt < (κ.1 6).toInt) : (70 * (y6.toInt - k0.toInt - 17)).toNat + 0 ≤ 2800 := by
  have q1 : (1 : Int32).toInt = 1 := by decide +kernel
  first | assumption | omega | (subst_vars; omega) | trivial
-- post @70
theorem vX4_quoted_37 (ad : Nat → Nat) (κ : KS) (k0 : Int32) (x5 : Int32) (y6 : Int32) (P7 : PL) (r29 : Int32) (hpre_1 : 0 ≤ (κ.1 6).toInt) (hpre_2 : (κ.1 6).toInt ≤ 40) (hpre_3 : 0 ≤ (κ.1 7).toInt) (hpre_4 : (κ.1 7).toInt ≤ 41) (hpre_5 : 0 ≤ k0.toInt) (hpre_6 : k0.toInt ≤ 40) (ex5 : x5 = k0 + (1 : Int32)) (tx5 : x5.toInt = k0.toInt + 1) (hi12_0 : k0.toInt < y6.toInt) (hi12_1 : y6.toInt ≤ 41) (hi12_2 : (oI P7 25 (ad 18)).toInt = y6.toInt - k0.toInt - 1) (c8 : y6.toInt < (κ.1 6).toInt) (hr29_0 : 0 ≤ r29.toInt) (hr29_1 : r29.toInt ≤ 126) (hr29_2 : ¬ r29.toInt = 0 → 0 ≤ y6.toInt ∧ y6.toInt < (κ.1 6).toInt) (c30 : r29.toInt = 39) (c31 : (κ.1 6).toInt ≤ y6.toInt) : 0 ≤ (κ.1 7).toInt ∧ (κ.1 7).toInt ≤ 41 ∧ (-1 : Int32).toInt ≤ 41 ∧ qg1 k0.toInt (-1 : Int32).toInt ≤ 40 ∧ qg2 k0.toInt (-1 : Int32).toInt ≤ 2800 := by
  have qm1 : (-1 : Int32).toInt = (-1) := by decide +kernel
  have q1 : (1 : Int32).toInt = 1 := by decide +kernel
  have zq0 := qg_spec k0.toInt (-1 : Int32).toInt
  refine ⟨?_, ?_, ?_, ?_, ?_⟩ <;> first | assumption | omega | (subst_vars; omega) | trivial
-- post2 @70
theorem vX4_quoted_38 (ad : Nat → Nat) (sa : Nat → Nat) (κ : KS) (k0 : Int32) (P2 : PL) (x5 : Int32) (y6 : Int32) (P7 : PL) (r29 : Int32) (hPV : PV sa κ.2.2.2.2) (hSV : SV ad κ.2.2.2.2 (κ.2.1 0) (κ.2.1 1) (κ.2.2.2.1 6) (κ.2.2.2.1 7) (κ.2.2.2.1 8) (κ.2.2.2.1 13) (κ.2.2.2.1 15) (κ.2.2.2.1 17) (κ.1 1).toInt) (hpre_0 : L9 (κ.2.2.1 9)) (hpre_1 : 0 ≤ (κ.1 6).toInt) (hpre_2 : (κ.1 6).toInt ≤ 40) (hpre_3 : 0 ≤ (κ.1 7).toInt) (hpre_4 : (κ.1 7).toInt ≤ 41) (hpre_5 : 0 ≤ k0.toInt) (hpre_6 : k0.toInt ≤ 40) (hr1_0 : EX κ.2.2.2.2 P2) (hr1_2 : KPx True κ.2.2.2.2 P2) (hr1y : SBX P2 (ad 18) []) (hr1_3 : (oI P2 25 (ad 18)).toInt = 0) (ex5 : x5 = k0 + (1 : Int32)) (tx5 : x5.toInt = k0.toInt + 1) (hi12_0 : k0.toInt < y6.toInt) (hi12_1 : y6.toInt ≤ 41) (hi12_2 : (oI P7 25 (ad 18)).toInt = y6.toInt - k0.toInt - 1) (hf12_0 : EX P2 P7) (hf12_2 : KPx True κ.2.2.2.2 P7) (hi12y_0 : RT qt (tx (κ.2.2.1 9) (κ.1 6)) (k0.toInt + 1) y6.toInt) (hi12y_1 : k0.toInt < (κ.1 6).toInt → y6.toInt ≤ (κ.1 6).toInt) (c8 : y6.toInt < (κ.1 6).toInt) (hr29y : (κ.1 6).toInt ≤ 40 → r29.toInt = tx (κ.2.2.1 9) (κ.1 6) y6.toInt) (hr29_0 : 0 ≤ r29.toInt) (hr29_1 : r29.toInt ≤ 126) (hr29_2 : ¬ r29.toInt = 0 → 0 ≤ y6.toInt ∧ y6.toInt < (κ.1 6).toInt) (c30 : r29.toInt = 39) (c31 : (κ.1 6).toInt ≤ y6.toInt) : (κ.1 7).toInt ≤ k0.toInt → k0.toInt < (κ.1 6).toInt → tx (κ.2.2.1 9) (κ.1 6) k0.toInt = 39 → ∃ t9, TokR (tx (κ.2.2.1 9) (κ.1 6)) (κ.1 6).toInt k0.toInt t9 ∧ LXc (κ.2.2.1 10) (κ.2.2.1 11) (κ.2.2.1 12) (κ.1 7) (κ.2.2.1 10) (κ.2.2.1 11) (κ.2.2.1 12) (κ.1 7) k0.toInt (-1 : Int32).toInt t9 := by
  have qm1 : (-1 : Int32).toInt = (-1) := by decide +kernel
  have q1 : (1 : Int32).toInt = 1 := by decide +kernel
  intro h1 h2 h3
  have pk0 := hr29y (by omega)
  first
  | (exfalso; omega)
  | exact ⟨none, quoX hi12y_0 rfl (by omega) (Or.inl (by omega)) (by omega) h3, by show (-1 : Int32).toInt ≤ _; omega⟩
  | exact ⟨none, quoX hi12y_0 rfl (by rw [tx_o (by omega)]; omega) (Or.inr (by have := hi12y_1 h2; omega)) (by have := hi12y_1 h2; omega) h3, by show (-1 : Int32).toInt ≤ _; omega⟩
-- grow @70
theorem vX4_quoted_39 (ad : Nat → Nat) (κ : KS) (k0 : Int32) (x5 : Int32) (y6 : Int32) (P7 : PL) (r29 : Int32) (hpre_1 : 0 ≤ (κ.1 6).toInt) (hpre_2 : (κ.1 6).toInt ≤ 40) (hpre_5 : 0 ≤ k0.toInt) (hpre_6 : k0.toInt ≤ 40) (ex5 : x5 = k0 + (1 : Int32)) (tx5 : x5.toInt = k0.toInt + 1) (hi12_0 : k0.toInt < y6.toInt) (hi12_1 : y6.toInt ≤ 41) (hi12_2 : (oI P7 25 (ad 18)).toInt = y6.toInt - k0.toInt - 1) (c8 : y6.toInt < (κ.1 6).toInt) (hr29_0 : 0 ≤ r29.toInt) (hr29_1 : r29.toInt ≤ 126) (hr29_2 : ¬ r29.toInt = 0 → 0 ≤ y6.toInt ∧ y6.toInt < (κ.1 6).toInt) (c30 : r29.toInt = 39) (c31 : (κ.1 6).toInt ≤ y6.toInt) : (y6.toInt - k0.toInt - 17).toNat + 0 ≤ qg1 k0.toInt (-1 : Int32).toInt := by
  have qm1 : (-1 : Int32).toInt = (-1) := by decide +kernel
  have q1 : (1 : Int32).toInt = 1 := by decide +kernel
  have zq0 := qg_spec k0.toInt (-1 : Int32).toInt
  first | assumption | omega | (subst_vars; omega) | trivial
-- grow @70
theorem vX4_quoted_40 (ad : Nat → Nat) (κ : KS) (k0 : Int32) (x5 : Int32) (y6 : Int32) (P7 : PL) (r29 : Int32) (hpre_1 : 0 ≤ (κ.1 6).toInt) (hpre_2 : (κ.1 6).toInt ≤ 40) (hpre_5 : 0 ≤ k0.toInt) (hpre_6 : k0.toInt ≤ 40) (ex5 : x5 = k0 + (1 : Int32)) (tx5 : x5.toInt = k0.toInt + 1) (hi12_0 : k0.toInt < y6.toInt) (hi12_1 : y6.toInt ≤ 41) (hi12_2 : (oI P7 25 (ad 18)).toInt = y6.toInt - k0.toInt - 1) (c8 : y6.toInt < (κ.1 6).toInt) (hr29_0 : 0 ≤ r29.toInt) (hr29_1 : r29.toInt ≤ 126) (hr29_2 : ¬ r29.toInt = 0 → 0 ≤ y6.toInt ∧ y6.toInt < (κ.1 6).toInt) (c30 : r29.toInt = 39) (c31 : (κ.1 6).toInt ≤ y6.toInt) : (70 * (y6.toInt - k0.toInt - 17)).toNat + 0 ≤ qg2 k0.toInt (-1 : Int32).toInt := by
  have qm1 : (-1 : Int32).toInt = (-1) := by decide +kernel
  have q1 : (1 : Int32).toInt = 1 := by decide +kernel
  have zq0 := qg_spec k0.toInt (-1 : Int32).toInt
  first | assumption | omega | (subst_vars; omega) | trivial
-- growm @70
theorem vX4_quoted_41 (ad : Nat → Nat) (κ : KS) (k0 : Int32) (x5 : Int32) (y6 : Int32) (P7 : PL) (r29 : Int32) (hpre_1 : 0 ≤ (κ.1 6).toInt) (hpre_2 : (κ.1 6).toInt ≤ 40) (hpre_5 : 0 ≤ k0.toInt) (hpre_6 : k0.toInt ≤ 40) (ex5 : x5 = k0 + (1 : Int32)) (tx5 : x5.toInt = k0.toInt + 1) (hi12_0 : k0.toInt < y6.toInt) (hi12_1 : y6.toInt ≤ 41) (hi12_2 : (oI P7 25 (ad 18)).toInt = y6.toInt - k0.toInt - 1) (c8 : y6.toInt < (κ.1 6).toInt) (hr29_0 : 0 ≤ r29.toInt) (hr29_1 : r29.toInt ≤ 126) (hr29_2 : ¬ r29.toInt = 0 → 0 ≤ y6.toInt ∧ y6.toInt < (κ.1 6).toInt) (c30 : r29.toInt = 39) (c31 : (κ.1 6).toInt ≤ y6.toInt) : qg1 k0.toInt (-1 : Int32).toInt ≤ 40 := by
  have qm1 : (-1 : Int32).toInt = (-1) := by decide +kernel
  have q1 : (1 : Int32).toInt = 1 := by decide +kernel
  have zq0 := qg_spec k0.toInt (-1 : Int32).toInt
  first | assumption | omega | (subst_vars; omega) | trivial
-- growm @70
theorem vX4_quoted_42 (ad : Nat → Nat) (κ : KS) (k0 : Int32) (x5 : Int32) (y6 : Int32) (P7 : PL) (r29 : Int32) (hpre_1 : 0 ≤ (κ.1 6).toInt) (hpre_2 : (κ.1 6).toInt ≤ 40) (hpre_5 : 0 ≤ k0.toInt) (hpre_6 : k0.toInt ≤ 40) (ex5 : x5 = k0 + (1 : Int32)) (tx5 : x5.toInt = k0.toInt + 1) (hi12_0 : k0.toInt < y6.toInt) (hi12_1 : y6.toInt ≤ 41) (hi12_2 : (oI P7 25 (ad 18)).toInt = y6.toInt - k0.toInt - 1) (c8 : y6.toInt < (κ.1 6).toInt) (hr29_0 : 0 ≤ r29.toInt) (hr29_1 : r29.toInt ≤ 126) (hr29_2 : ¬ r29.toInt = 0 → 0 ≤ y6.toInt ∧ y6.toInt < (κ.1 6).toInt) (c30 : r29.toInt = 39) (c31 : (κ.1 6).toInt ≤ y6.toInt) : qg2 k0.toInt (-1 : Int32).toInt ≤ 2800 := by
  have qm1 : (-1 : Int32).toInt = (-1) := by decide +kernel
  have q1 : (1 : Int32).toInt = 1 := by decide +kernel
  have zq0 := qg_spec k0.toInt (-1 : Int32).toInt
  first | assumption | omega | (subst_vars; omega) | trivial
-- room @61
theorem vX4_quoted_43 (ad : Nat → Nat) (κ : KS) (k0 : Int32) (x5 : Int32) (y6 : Int32) (P7 : PL) (r29 : Int32) (hpre_1 : 0 ≤ (κ.1 6).toInt) (hpre_2 : (κ.1 6).toInt ≤ 40) (hpre_5 : 0 ≤ k0.toInt) (hpre_6 : k0.toInt ≤ 40) (ex5 : x5 = k0 + (1 : Int32)) (tx5 : x5.toInt = k0.toInt + 1) (hi12_0 : k0.toInt < y6.toInt) (hi12_1 : y6.toInt ≤ 41) (hi12_2 : (oI P7 25 (ad 18)).toInt = y6.toInt - k0.toInt - 1) (c8 : y6.toInt < (κ.1 6).toInt) (hr29_0 : 0 ≤ r29.toInt) (hr29_1 : r29.toInt ≤ 126) (hr29_2 : ¬ r29.toInt = 0 → 0 ≤ y6.toInt ∧ y6.toInt < (κ.1 6).toInt) (c30 : r29.toInt = 39) (c31 : y6.toInt < (κ.1 6).toInt) : (y6.toInt - k0.toInt - 17).toNat + 0 + 0 ≤ 40 := by
  have q1 : (1 : Int32).toInt = 1 := by decide +kernel
  first | assumption | omega | (subst_vars; omega) | trivial
-- room @61
theorem vX4_quoted_44 (ad : Nat → Nat) (κ : KS) (k0 : Int32) (x5 : Int32) (y6 : Int32) (P7 : PL) (r29 : Int32) (hpre_1 : 0 ≤ (κ.1 6).toInt) (hpre_2 : (κ.1 6).toInt ≤ 40) (hpre_5 : 0 ≤ k0.toInt) (hpre_6 : k0.toInt ≤ 40) (ex5 : x5 = k0 + (1 : Int32)) (tx5 : x5.toInt = k0.toInt + 1) (hi12_0 : k0.toInt < y6.toInt) (hi12_1 : y6.toInt ≤ 41) (hi12_2 : (oI P7 25 (ad 18)).toInt = y6.toInt - k0.toInt - 1) (c8 : y6.toInt < (κ.1 6).toInt) (hr29_0 : 0 ≤ r29.toInt) (hr29_1 : r29.toInt ≤ 126) (hr29_2 : ¬ r29.toInt = 0 → 0 ≤ y6.toInt ∧ y6.toInt < (κ.1 6).toInt) (c30 : r29.toInt = 39) (c31 : y6.toInt < (κ.1 6).toInt) : (70 * (y6.toInt - k0.toInt - 17)).toNat + 0 + 0 ≤ 2800 := by
  have q1 : (1 : Int32).toInt = 1 := by decide +kernel
  first | assumption | omega | (subst_vars; omega) | trivial
-- pre:J4_toString_0e30d@79 @79
theorem vX4_quoted_45 (ad : Nat → Nat) (κ : KS) (k0 : Int32) (x5 : Int32) (y6 : Int32) (P7 : PL) (r29 : Int32) (r32 : Int32) (hpre_1 : 0 ≤ (κ.1 6).toInt) (hpre_2 : (κ.1 6).toInt ≤ 40) (hpre_5 : 0 ≤ k0.toInt) (hpre_6 : k0.toInt ≤ 40) (ex5 : x5 = k0 + (1 : Int32)) (tx5 : x5.toInt = k0.toInt + 1) (hi12_0 : k0.toInt < y6.toInt) (hi12_1 : y6.toInt ≤ 41) (hi12_2 : (oI P7 25 (ad 18)).toInt = y6.toInt - k0.toInt - 1) (c8 : y6.toInt < (κ.1 6).toInt) (hr29_0 : 0 ≤ r29.toInt) (hr29_1 : r29.toInt ≤ 126) (hr29_2 : ¬ r29.toInt = 0 → 0 ≤ y6.toInt ∧ y6.toInt < (κ.1 6).toInt) (c30 : r29.toInt = 39) (c31 : y6.toInt < (κ.1 6).toInt) (hr32 : r32.toInt = (oI P7 25 (ad 18)).toInt) (c33 : r32.toInt ≤ 8) : (oI P7 25 (ad 18)).toInt ≤ 40 := by
  have q1 : (1 : Int32).toInt = 1 := by decide +kernel
  first | assumption | omega | (subst_vars; omega) | trivial
-- room @79
theorem vX4_quoted_46 (ad : Nat → Nat) (κ : KS) (k0 : Int32) (x5 : Int32) (y6 : Int32) (P7 : PL) (r29 : Int32) (r32 : Int32) (hpre_1 : 0 ≤ (κ.1 6).toInt) (hpre_2 : (κ.1 6).toInt ≤ 40) (hpre_5 : 0 ≤ k0.toInt) (hpre_6 : k0.toInt ≤ 40) (ex5 : x5 = k0 + (1 : Int32)) (tx5 : x5.toInt = k0.toInt + 1) (hi12_0 : k0.toInt < y6.toInt) (hi12_1 : y6.toInt ≤ 41) (hi12_2 : (oI P7 25 (ad 18)).toInt = y6.toInt - k0.toInt - 1) (c8 : y6.toInt < (κ.1 6).toInt) (hr29_0 : 0 ≤ r29.toInt) (hr29_1 : r29.toInt ≤ 126) (hr29_2 : ¬ r29.toInt = 0 → 0 ≤ y6.toInt ∧ y6.toInt < (κ.1 6).toInt) (c30 : r29.toInt = 39) (c31 : y6.toInt < (κ.1 6).toInt) (hr32 : r32.toInt = (oI P7 25 (ad 18)).toInt) (c33 : r32.toInt ≤ 8) : (y6.toInt - k0.toInt - 17).toNat + 0 + 0 + 2 ≤ 40 := by
  have q1 : (1 : Int32).toInt = 1 := by decide +kernel
  first | assumption | omega | (subst_vars; omega) | trivial
-- room @79
theorem vX4_quoted_47 (ad : Nat → Nat) (κ : KS) (k0 : Int32) (x5 : Int32) (y6 : Int32) (P7 : PL) (r29 : Int32) (r32 : Int32) (hpre_1 : 0 ≤ (κ.1 6).toInt) (hpre_2 : (κ.1 6).toInt ≤ 40) (hpre_5 : 0 ≤ k0.toInt) (hpre_6 : k0.toInt ≤ 40) (ex5 : x5 = k0 + (1 : Int32)) (tx5 : x5.toInt = k0.toInt + 1) (hi12_0 : k0.toInt < y6.toInt) (hi12_1 : y6.toInt ≤ 41) (hi12_2 : (oI P7 25 (ad 18)).toInt = y6.toInt - k0.toInt - 1) (c8 : y6.toInt < (κ.1 6).toInt) (hr29_0 : 0 ≤ r29.toInt) (hr29_1 : r29.toInt ≤ 126) (hr29_2 : ¬ r29.toInt = 0 → 0 ≤ y6.toInt ∧ y6.toInt < (κ.1 6).toInt) (c30 : r29.toInt = 39) (c31 : y6.toInt < (κ.1 6).toInt) (hr32 : r32.toInt = (oI P7 25 (ad 18)).toInt) (c33 : r32.toInt ≤ 8) : (70 * (y6.toInt - k0.toInt - 17)).toNat + 0 + 0 + (4 + (oI P7 25 (ad 18)).toInt.toNat) ≤ 2800 := by
  have q1 : (1 : Int32).toInt = 1 := by decide +kernel
  first | assumption | omega | (subst_vars; omega) | trivial
-- room @82
theorem vX4_quoted_48 (ad : Nat → Nat) (κ : KS) (k0 : Int32) (x5 : Int32) (y6 : Int32) (P7 : PL) (r29 : Int32) (r32 : Int32) (nb37 : Nat) (hpre_1 : 0 ≤ (κ.1 6).toInt) (hpre_2 : (κ.1 6).toInt ≤ 40) (hpre_5 : 0 ≤ k0.toInt) (hpre_6 : k0.toInt ≤ 40) (ex5 : x5 = k0 + (1 : Int32)) (tx5 : x5.toInt = k0.toInt + 1) (hi12_0 : k0.toInt < y6.toInt) (hi12_1 : y6.toInt ≤ 41) (hi12_2 : (oI P7 25 (ad 18)).toInt = y6.toInt - k0.toInt - 1) (c8 : y6.toInt < (κ.1 6).toInt) (hr29_0 : 0 ≤ r29.toInt) (hr29_1 : r29.toInt ≤ 126) (hr29_2 : ¬ r29.toInt = 0 → 0 ≤ y6.toInt ∧ y6.toInt < (κ.1 6).toInt) (c30 : r29.toInt = 39) (c31 : y6.toInt < (κ.1 6).toInt) (hr32 : r32.toInt = (oI P7 25 (ad 18)).toInt) (c33 : r32.toInt ≤ 8) (leb37 : ((nb37 : Nat) : Int) = (oI P7 25 (ad 18)).toInt) : (y6.toInt - k0.toInt - 17).toNat + 0 + 0 + 2 + 1 ≤ 40 := by
  have q1 : (1 : Int32).toInt = 1 := by decide +kernel
  first | assumption | omega | (subst_vars; omega) | trivial
-- room @82
theorem vX4_quoted_49 (ad : Nat → Nat) (κ : KS) (k0 : Int32) (x5 : Int32) (y6 : Int32) (P7 : PL) (r29 : Int32) (r32 : Int32) (nb37 : Nat) (hpre_1 : 0 ≤ (κ.1 6).toInt) (hpre_2 : (κ.1 6).toInt ≤ 40) (hpre_5 : 0 ≤ k0.toInt) (hpre_6 : k0.toInt ≤ 40) (ex5 : x5 = k0 + (1 : Int32)) (tx5 : x5.toInt = k0.toInt + 1) (hi12_0 : k0.toInt < y6.toInt) (hi12_1 : y6.toInt ≤ 41) (hi12_2 : (oI P7 25 (ad 18)).toInt = y6.toInt - k0.toInt - 1) (c8 : y6.toInt < (κ.1 6).toInt) (hr29_0 : 0 ≤ r29.toInt) (hr29_1 : r29.toInt ≤ 126) (hr29_2 : ¬ r29.toInt = 0 → 0 ≤ y6.toInt ∧ y6.toInt < (κ.1 6).toInt) (c30 : r29.toInt = 39) (c31 : y6.toInt < (κ.1 6).toInt) (hr32 : r32.toInt = (oI P7 25 (ad 18)).toInt) (c33 : r32.toInt ≤ 8) (leb37 : ((nb37 : Nat) : Int) = (oI P7 25 (ad 18)).toInt) : (70 * (y6.toInt - k0.toInt - 17)).toNat + 0 + 0 + (4 + (oI P7 25 (ad 18)).toInt.toNat) + 5 ≤ 2800 := by
  have q1 : (1 : Int32).toInt = 1 := by decide +kernel
  first | assumption | omega | (subst_vars; omega) | trivial
-- room @85
theorem vX4_quoted_50 (ad : Nat → Nat) (κ : KS) (k0 : Int32) (x5 : Int32) (y6 : Int32) (P7 : PL) (r29 : Int32) (r32 : Int32) (nb37 : Nat) (hpre_1 : 0 ≤ (κ.1 6).toInt) (hpre_2 : (κ.1 6).toInt ≤ 40) (hpre_5 : 0 ≤ k0.toInt) (hpre_6 : k0.toInt ≤ 40) (ex5 : x5 = k0 + (1 : Int32)) (tx5 : x5.toInt = k0.toInt + 1) (hi12_0 : k0.toInt < y6.toInt) (hi12_1 : y6.toInt ≤ 41) (hi12_2 : (oI P7 25 (ad 18)).toInt = y6.toInt - k0.toInt - 1) (c8 : y6.toInt < (κ.1 6).toInt) (hr29_0 : 0 ≤ r29.toInt) (hr29_1 : r29.toInt ≤ 126) (hr29_2 : ¬ r29.toInt = 0 → 0 ≤ y6.toInt ∧ y6.toInt < (κ.1 6).toInt) (c30 : r29.toInt = 39) (c31 : y6.toInt < (κ.1 6).toInt) (hr32 : r32.toInt = (oI P7 25 (ad 18)).toInt) (c33 : r32.toInt ≤ 8) (leb37 : ((nb37 : Nat) : Int) = (oI P7 25 (ad 18)).toInt) : (y6.toInt - k0.toInt - 17).toNat + 0 + 0 + 2 + 1 + 0 ≤ 40 := by
  have q1 : (1 : Int32).toInt = 1 := by decide +kernel
  first | assumption | omega | (subst_vars; omega) | trivial
-- room @85
theorem vX4_quoted_51 (ad : Nat → Nat) (κ : KS) (k0 : Int32) (x5 : Int32) (y6 : Int32) (P7 : PL) (r29 : Int32) (r32 : Int32) (nb37 : Nat) (hpre_1 : 0 ≤ (κ.1 6).toInt) (hpre_2 : (κ.1 6).toInt ≤ 40) (hpre_5 : 0 ≤ k0.toInt) (hpre_6 : k0.toInt ≤ 40) (ex5 : x5 = k0 + (1 : Int32)) (tx5 : x5.toInt = k0.toInt + 1) (hi12_0 : k0.toInt < y6.toInt) (hi12_1 : y6.toInt ≤ 41) (hi12_2 : (oI P7 25 (ad 18)).toInt = y6.toInt - k0.toInt - 1) (c8 : y6.toInt < (κ.1 6).toInt) (hr29_0 : 0 ≤ r29.toInt) (hr29_1 : r29.toInt ≤ 126) (hr29_2 : ¬ r29.toInt = 0 → 0 ≤ y6.toInt ∧ y6.toInt < (κ.1 6).toInt) (c30 : r29.toInt = 39) (c31 : y6.toInt < (κ.1 6).toInt) (hr32 : r32.toInt = (oI P7 25 (ad 18)).toInt) (c33 : r32.toInt ≤ 8) (leb37 : ((nb37 : Nat) : Int) = (oI P7 25 (ad 18)).toInt) : (70 * (y6.toInt - k0.toInt - 17)).toNat + 0 + 0 + (4 + (oI P7 25 (ad 18)).toInt.toNat) + 5 + 0 ≤ 2800 := by
  have q1 : (1 : Int32).toInt = 1 := by decide +kernel
  first | assumption | omega | (subst_vars; omega) | trivial
-- nw@90 @90
theorem vX4_quoted_52 (ad : Nat → Nat) (κ : KS) (k0 : Int32) (x5 : Int32) (y6 : Int32) (P7 : PL) (r29 : Int32) (r32 : Int32) (nb37 : Nat) (x50 : Int32) (hpre_1 : 0 ≤ (κ.1 6).toInt) (hpre_2 : (κ.1 6).toInt ≤ 40) (hpre_5 : 0 ≤ k0.toInt) (hpre_6 : k0.toInt ≤ 40) (ex5 : x5 = k0 + (1 : Int32)) (tx5 : x5.toInt = k0.toInt + 1) (hi12_0 : k0.toInt < y6.toInt) (hi12_1 : y6.toInt ≤ 41) (hi12_2 : (oI P7 25 (ad 18)).toInt = y6.toInt - k0.toInt - 1) (c8 : y6.toInt < (κ.1 6).toInt) (hr29_0 : 0 ≤ r29.toInt) (hr29_1 : r29.toInt ≤ 126) (hr29_2 : ¬ r29.toInt = 0 → 0 ≤ y6.toInt ∧ y6.toInt < (κ.1 6).toInt) (c30 : r29.toInt = 39) (c31 : y6.toInt < (κ.1 6).toInt) (hr32 : r32.toInt = (oI P7 25 (ad 18)).toInt) (c33 : r32.toInt ≤ 8) (leb37 : ((nb37 : Nat) : Int) = (oI P7 25 (ad 18)).toInt) (ex50 : x50 = y6 + (1 : Int32)) : x50.toInt = y6.toInt + 1 := by
  have q1 : (1 : Int32).toInt = 1 := by decide +kernel
  have w1 : (1 : Int32).toInt = 1 := by decide +kernel
  rw [ex50, z_add (by omega) (by omega)]; first | done | omega
-- post @91
theorem vX4_quoted_53 (ad : Nat → Nat) (κ : KS) (k0 : Int32) (x5 : Int32) (y6 : Int32) (P7 : PL) (r29 : Int32) (r32 : Int32) (nb37 : Nat) (n45 : Int32) (x50 : Int32) (hpre_1 : 0 ≤ (κ.1 6).toInt) (hpre_2 : (κ.1 6).toInt ≤ 40) (hpre_5 : 0 ≤ k0.toInt) (hpre_6 : k0.toInt ≤ 40) (ex5 : x5 = k0 + (1 : Int32)) (tx5 : x5.toInt = k0.toInt + 1) (hi12_0 : k0.toInt < y6.toInt) (hi12_1 : y6.toInt ≤ 41) (hi12_2 : (oI P7 25 (ad 18)).toInt = y6.toInt - k0.toInt - 1) (c8 : y6.toInt < (κ.1 6).toInt) (hr29_0 : 0 ≤ r29.toInt) (hr29_1 : r29.toInt ≤ 126) (hr29_2 : ¬ r29.toInt = 0 → 0 ≤ y6.toInt ∧ y6.toInt < (κ.1 6).toInt) (c30 : r29.toInt = 39) (c31 : y6.toInt < (κ.1 6).toInt) (hr32 : r32.toInt = (oI P7 25 (ad 18)).toInt) (c33 : r32.toInt ≤ 8) (leb37 : ((nb37 : Nat) : Int) = (oI P7 25 (ad 18)).toInt) (hr44_1_0 : 0 ≤ n45.toInt) (hr44_1_1 : n45.toInt ≤ 41) (ex50 : x50 = y6 + (1 : Int32)) (tx50 : x50.toInt = y6.toInt + 1) : 0 ≤ n45.toInt ∧ n45.toInt ≤ 41 ∧ x50.toInt ≤ 41 ∧ qg1 k0.toInt x50.toInt ≤ 40 ∧ qg2 k0.toInt x50.toInt ≤ 2800 := by
  have q1 : (1 : Int32).toInt = 1 := by decide +kernel
  have zq0 := qg_spec k0.toInt x50.toInt
  refine ⟨?_, ?_, ?_, ?_, ?_⟩ <;> first | assumption | omega | (subst_vars; omega) | trivial
-- post2 @91
theorem vX4_quoted_54 (ad : Nat → Nat) (sa : Nat → Nat) (κ : KS) (k0 : Int32) (P2 : PL) (x5 : Int32) (y6 : Int32) (P7 : PL) (r29 : Int32) (r32 : Int32) (P35 : PL) (b37 : Nat) (nb37 : Nat) (P40 : PL) (b42 : Nat) (n45 : Int32) (F46 : (Nat → Int32)) (F47 : (Nat → Int32)) (F48 : (Nat → Int32)) (x50 : Int32) (hPV : PV sa κ.2.2.2.2) (hSV : SV ad κ.2.2.2.2 (κ.2.1 0) (κ.2.1 1) (κ.2.2.2.1 6) (κ.2.2.2.1 7) (κ.2.2.2.1 8) (κ.2.2.2.1 13) (κ.2.2.2.1 15) (κ.2.2.2.1 17) (κ.1 1).toInt) (hpre_0 : L9 (κ.2.2.1 9)) (hpre_1 : 0 ≤ (κ.1 6).toInt) (hpre_2 : (κ.1 6).toInt ≤ 40) (hpre_3 : 0 ≤ (κ.1 7).toInt) (hpre_4 : (κ.1 7).toInt ≤ 41) (hpre_5 : 0 ≤ k0.toInt) (hpre_6 : k0.toInt ≤ 40) (hr1_0 : EX κ.2.2.2.2 P2) (hr1_2 : KPx True κ.2.2.2.2 P2) (hr1y : SBX P2 (ad 18) []) (hr1_3 : (oI P2 25 (ad 18)).toInt = 0) (ex5 : x5 = k0 + (1 : Int32)) (tx5 : x5.toInt = k0.toInt + 1) (hi12_0 : k0.toInt < y6.toInt) (hi12_1 : y6.toInt ≤ 41) (hi12_2 : (oI P7 25 (ad 18)).toInt = y6.toInt - k0.toInt - 1) (hf12_0 : EX P2 P7) (hf12_2 : KPx True κ.2.2.2.2 P7) (hi12y_0 : RT qt (tx (κ.2.2.1 9) (κ.1 6)) (k0.toInt + 1) y6.toInt) (hi12y_1 : k0.toInt < (κ.1 6).toInt → y6.toInt ≤ (κ.1 6).toInt) (c8 : y6.toInt < (κ.1 6).toInt) (hr29y : (κ.1 6).toInt ≤ 40 → r29.toInt = tx (κ.2.2.1 9) (κ.1 6) y6.toInt) (hr29_0 : 0 ≤ r29.toInt) (hr29_1 : r29.toInt ≤ 126) (hr29_2 : ¬ r29.toInt = 0 → 0 ≤ y6.toInt ∧ y6.toInt < (κ.1 6).toInt) (c30 : r29.toInt = 39) (c31 : y6.toInt < (κ.1 6).toInt) (hr32 : r32.toInt = (oI P7 25 (ad 18)).toInt) (c33 : r32.toInt ≤ 8) (hr34_0 : EX P7 P35) (hr34_2 : KPx True P7 P35) (leb37 : ((nb37 : Nat) : Int) = (oI P7 25 (ad 18)).toInt) (hr34y : ∀ s9 : List Int, SBX P7 (ad 18) s9 → TXq P35 sa b37 s9) (hr39_0 : EX P35 P40) (hr39_2 : KPx True P35 P40) (hr39y : ∀ (q7 q8 : Nat → Option Nat) (s9 : List Int), TXq P35 sa b37 s9 → s9.length ≤ 16 → CHS s9 → VALq P40 sa q7 q8 b42 (qText s9)) (hr44y : (κ.1 7).toInt < 41 → ADc (κ.2.2.1 10) (κ.2.2.1 11) (κ.2.2.1 12) (κ.1 7) F46 F47 F48 n45 (1 : Int32) k0 (0 : Int32)) (hr44_1_0 : 0 ≤ n45.toInt) (hr44_1_1 : n45.toInt ≤ 41) (ex50 : x50 = y6 + (1 : Int32)) (tx50 : x50.toInt = y6.toInt + 1) : (κ.1 7).toInt ≤ k0.toInt → k0.toInt < (κ.1 6).toInt → tx (κ.2.2.1 9) (κ.1 6) k0.toInt = 39 → ∃ t9, TokR (tx (κ.2.2.1 9) (κ.1 6)) (κ.1 6).toInt k0.toInt t9 ∧ LXc (κ.2.2.1 10) (κ.2.2.1 11) (κ.2.2.1 12) (κ.1 7) F46 F47 F48 n45 k0.toInt x50.toInt t9 := by
  have q0 : (0 : Int32).toInt = 0 := by decide +kernel
  have q1 : (1 : Int32).toInt = 1 := by decide +kernel
  intro h1 h2 h3
  have pk0 := hr29y (by omega)
  first | (exfalso; omega) | exact ⟨_, quoN hi12y_0 rfl (by omega) (by omega) rfl (by omega) h3, LXc.add (hr44y (by omega)) (by omega) (by omega) (by omega) (by first | rfl | omega) rfl⟩
-- grow @91
theorem vX4_quoted_55 (ad : Nat → Nat) (κ : KS) (k0 : Int32) (x5 : Int32) (y6 : Int32) (P7 : PL) (r29 : Int32) (r32 : Int32) (nb37 : Nat) (x50 : Int32) (hpre_1 : 0 ≤ (κ.1 6).toInt) (hpre_2 : (κ.1 6).toInt ≤ 40) (hpre_5 : 0 ≤ k0.toInt) (hpre_6 : k0.toInt ≤ 40) (ex5 : x5 = k0 + (1 : Int32)) (tx5 : x5.toInt = k0.toInt + 1) (hi12_0 : k0.toInt < y6.toInt) (hi12_1 : y6.toInt ≤ 41) (hi12_2 : (oI P7 25 (ad 18)).toInt = y6.toInt - k0.toInt - 1) (c8 : y6.toInt < (κ.1 6).toInt) (hr29_0 : 0 ≤ r29.toInt) (hr29_1 : r29.toInt ≤ 126) (hr29_2 : ¬ r29.toInt = 0 → 0 ≤ y6.toInt ∧ y6.toInt < (κ.1 6).toInt) (c30 : r29.toInt = 39) (c31 : y6.toInt < (κ.1 6).toInt) (hr32 : r32.toInt = (oI P7 25 (ad 18)).toInt) (c33 : r32.toInt ≤ 8) (leb37 : ((nb37 : Nat) : Int) = (oI P7 25 (ad 18)).toInt) (ex50 : x50 = y6 + (1 : Int32)) (tx50 : x50.toInt = y6.toInt + 1) : (y6.toInt - k0.toInt - 17).toNat + 0 + 0 + 2 + 1 + 0 ≤ qg1 k0.toInt x50.toInt := by
  have q1 : (1 : Int32).toInt = 1 := by decide +kernel
  have zq0 := qg_spec k0.toInt x50.toInt
  first | assumption | omega | (subst_vars; omega) | trivial
-- grow @91
theorem vX4_quoted_56 (ad : Nat → Nat) (κ : KS) (k0 : Int32) (x5 : Int32) (y6 : Int32) (P7 : PL) (r29 : Int32) (r32 : Int32) (nb37 : Nat) (x50 : Int32) (hpre_1 : 0 ≤ (κ.1 6).toInt) (hpre_2 : (κ.1 6).toInt ≤ 40) (hpre_5 : 0 ≤ k0.toInt) (hpre_6 : k0.toInt ≤ 40) (ex5 : x5 = k0 + (1 : Int32)) (tx5 : x5.toInt = k0.toInt + 1) (hi12_0 : k0.toInt < y6.toInt) (hi12_1 : y6.toInt ≤ 41) (hi12_2 : (oI P7 25 (ad 18)).toInt = y6.toInt - k0.toInt - 1) (c8 : y6.toInt < (κ.1 6).toInt) (hr29_0 : 0 ≤ r29.toInt) (hr29_1 : r29.toInt ≤ 126) (hr29_2 : ¬ r29.toInt = 0 → 0 ≤ y6.toInt ∧ y6.toInt < (κ.1 6).toInt) (c30 : r29.toInt = 39) (c31 : y6.toInt < (κ.1 6).toInt) (hr32 : r32.toInt = (oI P7 25 (ad 18)).toInt) (c33 : r32.toInt ≤ 8) (leb37 : ((nb37 : Nat) : Int) = (oI P7 25 (ad 18)).toInt) (ex50 : x50 = y6 + (1 : Int32)) (tx50 : x50.toInt = y6.toInt + 1) : (70 * (y6.toInt - k0.toInt - 17)).toNat + 0 + 0 + (4 + (oI P7 25 (ad 18)).toInt.toNat) + 5 + 0 ≤ qg2 k0.toInt x50.toInt := by
  have q1 : (1 : Int32).toInt = 1 := by decide +kernel
  have zq0 := qg_spec k0.toInt x50.toInt
  first | assumption | omega | (subst_vars; omega) | trivial
-- growm @91
theorem vX4_quoted_57 (ad : Nat → Nat) (κ : KS) (k0 : Int32) (x5 : Int32) (y6 : Int32) (P7 : PL) (r29 : Int32) (r32 : Int32) (nb37 : Nat) (x50 : Int32) (hpre_1 : 0 ≤ (κ.1 6).toInt) (hpre_2 : (κ.1 6).toInt ≤ 40) (hpre_5 : 0 ≤ k0.toInt) (hpre_6 : k0.toInt ≤ 40) (ex5 : x5 = k0 + (1 : Int32)) (tx5 : x5.toInt = k0.toInt + 1) (hi12_0 : k0.toInt < y6.toInt) (hi12_1 : y6.toInt ≤ 41) (hi12_2 : (oI P7 25 (ad 18)).toInt = y6.toInt - k0.toInt - 1) (c8 : y6.toInt < (κ.1 6).toInt) (hr29_0 : 0 ≤ r29.toInt) (hr29_1 : r29.toInt ≤ 126) (hr29_2 : ¬ r29.toInt = 0 → 0 ≤ y6.toInt ∧ y6.toInt < (κ.1 6).toInt) (c30 : r29.toInt = 39) (c31 : y6.toInt < (κ.1 6).toInt) (hr32 : r32.toInt = (oI P7 25 (ad 18)).toInt) (c33 : r32.toInt ≤ 8) (leb37 : ((nb37 : Nat) : Int) = (oI P7 25 (ad 18)).toInt) (ex50 : x50 = y6 + (1 : Int32)) (tx50 : x50.toInt = y6.toInt + 1) : qg1 k0.toInt x50.toInt ≤ 40 := by
  have q1 : (1 : Int32).toInt = 1 := by decide +kernel
  have zq0 := qg_spec k0.toInt x50.toInt
  first | assumption | omega | (subst_vars; omega) | trivial
-- growm @91
theorem vX4_quoted_58 (ad : Nat → Nat) (κ : KS) (k0 : Int32) (x5 : Int32) (y6 : Int32) (P7 : PL) (r29 : Int32) (r32 : Int32) (nb37 : Nat) (x50 : Int32) (hpre_1 : 0 ≤ (κ.1 6).toInt) (hpre_2 : (κ.1 6).toInt ≤ 40) (hpre_5 : 0 ≤ k0.toInt) (hpre_6 : k0.toInt ≤ 40) (ex5 : x5 = k0 + (1 : Int32)) (tx5 : x5.toInt = k0.toInt + 1) (hi12_0 : k0.toInt < y6.toInt) (hi12_1 : y6.toInt ≤ 41) (hi12_2 : (oI P7 25 (ad 18)).toInt = y6.toInt - k0.toInt - 1) (c8 : y6.toInt < (κ.1 6).toInt) (hr29_0 : 0 ≤ r29.toInt) (hr29_1 : r29.toInt ≤ 126) (hr29_2 : ¬ r29.toInt = 0 → 0 ≤ y6.toInt ∧ y6.toInt < (κ.1 6).toInt) (c30 : r29.toInt = 39) (c31 : y6.toInt < (κ.1 6).toInt) (hr32 : r32.toInt = (oI P7 25 (ad 18)).toInt) (c33 : r32.toInt ≤ 8) (leb37 : ((nb37 : Nat) : Int) = (oI P7 25 (ad 18)).toInt) (ex50 : x50 = y6 + (1 : Int32)) (tx50 : x50.toInt = y6.toInt + 1) : qg2 k0.toInt x50.toInt ≤ 2800 := by
  have q1 : (1 : Int32).toInt = 1 := by decide +kernel
  have zq0 := qg_spec k0.toInt x50.toInt
  first | assumption | omega | (subst_vars; omega) | trivial
-- post @70
theorem vX4_quoted_59 (ad : Nat → Nat) (κ : KS) (k0 : Int32) (x5 : Int32) (y6 : Int32) (P7 : PL) (r29 : Int32) (r32 : Int32) (hpre_1 : 0 ≤ (κ.1 6).toInt) (hpre_2 : (κ.1 6).toInt ≤ 40) (hpre_3 : 0 ≤ (κ.1 7).toInt) (hpre_4 : (κ.1 7).toInt ≤ 41) (hpre_5 : 0 ≤ k0.toInt) (hpre_6 : k0.toInt ≤ 40) (ex5 : x5 = k0 + (1 : Int32)) (tx5 : x5.toInt = k0.toInt + 1) (hi12_0 : k0.toInt < y6.toInt) (hi12_1 : y6.toInt ≤ 41) (hi12_2 : (oI P7 25 (ad 18)).toInt = y6.toInt - k0.toInt - 1) (c8 : y6.toInt < (κ.1 6).toInt) (hr29_0 : 0 ≤ r29.toInt) (hr29_1 : r29.toInt ≤ 126) (hr29_2 : ¬ r29.toInt = 0 → 0 ≤ y6.toInt ∧ y6.toInt < (κ.1 6).toInt) (c30 : r29.toInt = 39) (c31 : y6.toInt < (κ.1 6).toInt) (hr32 : r32.toInt = (oI P7 25 (ad 18)).toInt) (c33 : 8 < r32.toInt) : 0 ≤ (κ.1 7).toInt ∧ (κ.1 7).toInt ≤ 41 ∧ (-1 : Int32).toInt ≤ 41 ∧ qg1 k0.toInt (-1 : Int32).toInt ≤ 40 ∧ qg2 k0.toInt (-1 : Int32).toInt ≤ 2800 := by
  have qm1 : (-1 : Int32).toInt = (-1) := by decide +kernel
  have q1 : (1 : Int32).toInt = 1 := by decide +kernel
  have zq0 := qg_spec k0.toInt (-1 : Int32).toInt
  refine ⟨?_, ?_, ?_, ?_, ?_⟩ <;> first | assumption | omega | (subst_vars; omega) | trivial
-- post2 @70
theorem vX4_quoted_60 (ad : Nat → Nat) (sa : Nat → Nat) (κ : KS) (k0 : Int32) (P2 : PL) (x5 : Int32) (y6 : Int32) (P7 : PL) (r29 : Int32) (r32 : Int32) (hPV : PV sa κ.2.2.2.2) (hSV : SV ad κ.2.2.2.2 (κ.2.1 0) (κ.2.1 1) (κ.2.2.2.1 6) (κ.2.2.2.1 7) (κ.2.2.2.1 8) (κ.2.2.2.1 13) (κ.2.2.2.1 15) (κ.2.2.2.1 17) (κ.1 1).toInt) (hpre_0 : L9 (κ.2.2.1 9)) (hpre_1 : 0 ≤ (κ.1 6).toInt) (hpre_2 : (κ.1 6).toInt ≤ 40) (hpre_3 : 0 ≤ (κ.1 7).toInt) (hpre_4 : (κ.1 7).toInt ≤ 41) (hpre_5 : 0 ≤ k0.toInt) (hpre_6 : k0.toInt ≤ 40) (hr1_0 : EX κ.2.2.2.2 P2) (hr1_2 : KPx True κ.2.2.2.2 P2) (hr1y : SBX P2 (ad 18) []) (hr1_3 : (oI P2 25 (ad 18)).toInt = 0) (ex5 : x5 = k0 + (1 : Int32)) (tx5 : x5.toInt = k0.toInt + 1) (hi12_0 : k0.toInt < y6.toInt) (hi12_1 : y6.toInt ≤ 41) (hi12_2 : (oI P7 25 (ad 18)).toInt = y6.toInt - k0.toInt - 1) (hf12_0 : EX P2 P7) (hf12_2 : KPx True κ.2.2.2.2 P7) (hi12y_0 : RT qt (tx (κ.2.2.1 9) (κ.1 6)) (k0.toInt + 1) y6.toInt) (hi12y_1 : k0.toInt < (κ.1 6).toInt → y6.toInt ≤ (κ.1 6).toInt) (c8 : y6.toInt < (κ.1 6).toInt) (hr29y : (κ.1 6).toInt ≤ 40 → r29.toInt = tx (κ.2.2.1 9) (κ.1 6) y6.toInt) (hr29_0 : 0 ≤ r29.toInt) (hr29_1 : r29.toInt ≤ 126) (hr29_2 : ¬ r29.toInt = 0 → 0 ≤ y6.toInt ∧ y6.toInt < (κ.1 6).toInt) (c30 : r29.toInt = 39) (c31 : y6.toInt < (κ.1 6).toInt) (hr32 : r32.toInt = (oI P7 25 (ad 18)).toInt) (c33 : 8 < r32.toInt) : (κ.1 7).toInt ≤ k0.toInt → k0.toInt < (κ.1 6).toInt → tx (κ.2.2.1 9) (κ.1 6) k0.toInt = 39 → ∃ t9, TokR (tx (κ.2.2.1 9) (κ.1 6)) (κ.1 6).toInt k0.toInt t9 ∧ LXc (κ.2.2.1 10) (κ.2.2.1 11) (κ.2.2.1 12) (κ.1 7) (κ.2.2.1 10) (κ.2.2.1 11) (κ.2.2.1 12) (κ.1 7) k0.toInt (-1 : Int32).toInt t9 := by
  have qm1 : (-1 : Int32).toInt = (-1) := by decide +kernel
  have q1 : (1 : Int32).toInt = 1 := by decide +kernel
  intro h1 h2 h3
  have pk0 := hr29y (by omega)
  first
  | (exfalso; omega)
  | exact ⟨none, quoX hi12y_0 rfl (by omega) (Or.inl (by omega)) (by omega) h3, by show (-1 : Int32).toInt ≤ _; omega⟩
  | exact ⟨none, quoX hi12y_0 rfl (by rw [tx_o (by omega)]; omega) (Or.inr (by have := hi12y_1 h2; omega)) (by have := hi12y_1 h2; omega) h3, by show (-1 : Int32).toInt ≤ _; omega⟩
-- grow @70
theorem vX4_quoted_61 (ad : Nat → Nat) (κ : KS) (k0 : Int32) (x5 : Int32) (y6 : Int32) (P7 : PL) (r29 : Int32) (r32 : Int32) (hpre_1 : 0 ≤ (κ.1 6).toInt) (hpre_2 : (κ.1 6).toInt ≤ 40) (hpre_5 : 0 ≤ k0.toInt) (hpre_6 : k0.toInt ≤ 40) (ex5 : x5 = k0 + (1 : Int32)) (tx5 : x5.toInt = k0.toInt + 1) (hi12_0 : k0.toInt < y6.toInt) (hi12_1 : y6.toInt ≤ 41) (hi12_2 : (oI P7 25 (ad 18)).toInt = y6.toInt - k0.toInt - 1) (c8 : y6.toInt < (κ.1 6).toInt) (hr29_0 : 0 ≤ r29.toInt) (hr29_1 : r29.toInt ≤ 126) (hr29_2 : ¬ r29.toInt = 0 → 0 ≤ y6.toInt ∧ y6.toInt < (κ.1 6).toInt) (c30 : r29.toInt = 39) (c31 : y6.toInt < (κ.1 6).toInt) (hr32 : r32.toInt = (oI P7 25 (ad 18)).toInt) (c33 : 8 < r32.toInt) : (y6.toInt - k0.toInt - 17).toNat + 0 + 0 ≤ qg1 k0.toInt (-1 : Int32).toInt := by
  have qm1 : (-1 : Int32).toInt = (-1) := by decide +kernel
  have q1 : (1 : Int32).toInt = 1 := by decide +kernel
  have zq0 := qg_spec k0.toInt (-1 : Int32).toInt
  first | assumption | omega | (subst_vars; omega) | trivial
-- grow @70
theorem vX4_quoted_62 (ad : Nat → Nat) (κ : KS) (k0 : Int32) (x5 : Int32) (y6 : Int32) (P7 : PL) (r29 : Int32) (r32 : Int32) (hpre_1 : 0 ≤ (κ.1 6).toInt) (hpre_2 : (κ.1 6).toInt ≤ 40) (hpre_5 : 0 ≤ k0.toInt) (hpre_6 : k0.toInt ≤ 40) (ex5 : x5 = k0 + (1 : Int32)) (tx5 : x5.toInt = k0.toInt + 1) (hi12_0 : k0.toInt < y6.toInt) (hi12_1 : y6.toInt ≤ 41) (hi12_2 : (oI P7 25 (ad 18)).toInt = y6.toInt - k0.toInt - 1) (c8 : y6.toInt < (κ.1 6).toInt) (hr29_0 : 0 ≤ r29.toInt) (hr29_1 : r29.toInt ≤ 126) (hr29_2 : ¬ r29.toInt = 0 → 0 ≤ y6.toInt ∧ y6.toInt < (κ.1 6).toInt) (c30 : r29.toInt = 39) (c31 : y6.toInt < (κ.1 6).toInt) (hr32 : r32.toInt = (oI P7 25 (ad 18)).toInt) (c33 : 8 < r32.toInt) : (70 * (y6.toInt - k0.toInt - 17)).toNat + 0 + 0 ≤ qg2 k0.toInt (-1 : Int32).toInt := by
  have qm1 : (-1 : Int32).toInt = (-1) := by decide +kernel
  have q1 : (1 : Int32).toInt = 1 := by decide +kernel
  have zq0 := qg_spec k0.toInt (-1 : Int32).toInt
  first | assumption | omega | (subst_vars; omega) | trivial
-- growm @70
theorem vX4_quoted_63 (ad : Nat → Nat) (κ : KS) (k0 : Int32) (x5 : Int32) (y6 : Int32) (P7 : PL) (r29 : Int32) (r32 : Int32) (hpre_1 : 0 ≤ (κ.1 6).toInt) (hpre_2 : (κ.1 6).toInt ≤ 40) (hpre_5 : 0 ≤ k0.toInt) (hpre_6 : k0.toInt ≤ 40) (ex5 : x5 = k0 + (1 : Int32)) (tx5 : x5.toInt = k0.toInt + 1) (hi12_0 : k0.toInt < y6.toInt) (hi12_1 : y6.toInt ≤ 41) (hi12_2 : (oI P7 25 (ad 18)).toInt = y6.toInt - k0.toInt - 1) (c8 : y6.toInt < (κ.1 6).toInt) (hr29_0 : 0 ≤ r29.toInt) (hr29_1 : r29.toInt ≤ 126) (hr29_2 : ¬ r29.toInt = 0 → 0 ≤ y6.toInt ∧ y6.toInt < (κ.1 6).toInt) (c30 : r29.toInt = 39) (c31 : y6.toInt < (κ.1 6).toInt) (hr32 : r32.toInt = (oI P7 25 (ad 18)).toInt) (c33 : 8 < r32.toInt) : qg1 k0.toInt (-1 : Int32).toInt ≤ 40 := by
  have qm1 : (-1 : Int32).toInt = (-1) := by decide +kernel
  have q1 : (1 : Int32).toInt = 1 := by decide +kernel
  have zq0 := qg_spec k0.toInt (-1 : Int32).toInt
  first | assumption | omega | (subst_vars; omega) | trivial
-- growm @70
theorem vX4_quoted_64 (ad : Nat → Nat) (κ : KS) (k0 : Int32) (x5 : Int32) (y6 : Int32) (P7 : PL) (r29 : Int32) (r32 : Int32) (hpre_1 : 0 ≤ (κ.1 6).toInt) (hpre_2 : (κ.1 6).toInt ≤ 40) (hpre_5 : 0 ≤ k0.toInt) (hpre_6 : k0.toInt ≤ 40) (ex5 : x5 = k0 + (1 : Int32)) (tx5 : x5.toInt = k0.toInt + 1) (hi12_0 : k0.toInt < y6.toInt) (hi12_1 : y6.toInt ≤ 41) (hi12_2 : (oI P7 25 (ad 18)).toInt = y6.toInt - k0.toInt - 1) (c8 : y6.toInt < (κ.1 6).toInt) (hr29_0 : 0 ≤ r29.toInt) (hr29_1 : r29.toInt ≤ 126) (hr29_2 : ¬ r29.toInt = 0 → 0 ≤ y6.toInt ∧ y6.toInt < (κ.1 6).toInt) (c30 : r29.toInt = 39) (c31 : y6.toInt < (κ.1 6).toInt) (hr32 : r32.toInt = (oI P7 25 (ad 18)).toInt) (c33 : 8 < r32.toInt) : qg2 k0.toInt (-1 : Int32).toInt ≤ 2800 := by
  have qm1 : (-1 : Int32).toInt = (-1) := by decide +kernel
  have q1 : (1 : Int32).toInt = 1 := by decide +kernel
  have zq0 := qg_spec k0.toInt (-1 : Int32).toInt
  first | assumption | omega | (subst_vars; omega) | trivial
-- room @36
theorem vX4_quoted_65 (ad : Nat → Nat) (κ : KS) (k0 : Int32) (x5 : Int32) (y6 : Int32) (P7 : PL) (r29 : Int32) (hpre_1 : 0 ≤ (κ.1 6).toInt) (hpre_2 : (κ.1 6).toInt ≤ 40) (hpre_5 : 0 ≤ k0.toInt) (hpre_6 : k0.toInt ≤ 40) (ex5 : x5 = k0 + (1 : Int32)) (tx5 : x5.toInt = k0.toInt + 1) (hi12_0 : k0.toInt < y6.toInt) (hi12_1 : y6.toInt ≤ 41) (hi12_2 : (oI P7 25 (ad 18)).toInt = y6.toInt - k0.toInt - 1) (c8 : y6.toInt < (κ.1 6).toInt) (hr29_0 : 0 ≤ r29.toInt) (hr29_1 : r29.toInt ≤ 126) (hr29_2 : ¬ r29.toInt = 0 → 0 ≤ y6.toInt ∧ y6.toInt < (κ.1 6).toInt) (c30 : ¬ r29.toInt = 39) : (y6.toInt - k0.toInt - 17).toNat + 0 + 0 ≤ 40 := by
  have q1 : (1 : Int32).toInt = 1 := by decide +kernel
  first | assumption | omega | (subst_vars; omega) | trivial
-- room @36
theorem vX4_quoted_66 (ad : Nat → Nat) (κ : KS) (k0 : Int32) (x5 : Int32) (y6 : Int32) (P7 : PL) (r29 : Int32) (hpre_1 : 0 ≤ (κ.1 6).toInt) (hpre_2 : (κ.1 6).toInt ≤ 40) (hpre_5 : 0 ≤ k0.toInt) (hpre_6 : k0.toInt ≤ 40) (ex5 : x5 = k0 + (1 : Int32)) (tx5 : x5.toInt = k0.toInt + 1) (hi12_0 : k0.toInt < y6.toInt) (hi12_1 : y6.toInt ≤ 41) (hi12_2 : (oI P7 25 (ad 18)).toInt = y6.toInt - k0.toInt - 1) (c8 : y6.toInt < (κ.1 6).toInt) (hr29_0 : 0 ≤ r29.toInt) (hr29_1 : r29.toInt ≤ 126) (hr29_2 : ¬ r29.toInt = 0 → 0 ≤ y6.toInt ∧ y6.toInt < (κ.1 6).toInt) (c30 : ¬ r29.toInt = 39) : (70 * (y6.toInt - k0.toInt - 17)).toNat + 0 + 0 ≤ 2800 := by
  have q1 : (1 : Int32).toInt = 1 := by decide +kernel
  first | assumption | omega | (subst_vars; omega) | trivial
-- pre:J4_append_cf468@39 @39
theorem vX4_quoted_67 (ad : Nat → Nat) (κ : KS) (k0 : Int32) (x5 : Int32) (y6 : Int32) (P7 : PL) (r29 : Int32) (r51 : Int32) (hpre_1 : 0 ≤ (κ.1 6).toInt) (hpre_2 : (κ.1 6).toInt ≤ 40) (hpre_5 : 0 ≤ k0.toInt) (hpre_6 : k0.toInt ≤ 40) (ex5 : x5 = k0 + (1 : Int32)) (tx5 : x5.toInt = k0.toInt + 1) (hi12_0 : k0.toInt < y6.toInt) (hi12_1 : y6.toInt ≤ 41) (hi12_2 : (oI P7 25 (ad 18)).toInt = y6.toInt - k0.toInt - 1) (c8 : y6.toInt < (κ.1 6).toInt) (hr29_0 : 0 ≤ r29.toInt) (hr29_1 : r29.toInt ≤ 126) (hr29_2 : ¬ r29.toInt = 0 → 0 ≤ y6.toInt ∧ y6.toInt < (κ.1 6).toInt) (c30 : ¬ r29.toInt = 39) (hr51_0 : 0 ≤ r51.toInt) (hr51_1 : r51.toInt ≤ 126) (hr51_2 : ¬ r51.toInt = 0 → 0 ≤ y6.toInt ∧ y6.toInt < (κ.1 6).toInt) : 0 ≤ r51.toInt ∧ r51.toInt ≤ 255 ∧ (oI P7 25 (ad 18)).toInt < 70 := by
  have q1 : (1 : Int32).toInt = 1 := by decide +kernel
  refine ⟨?_, ?_, ?_⟩ <;> first | assumption | omega | (subst_vars; omega) | trivial
-- room @39
theorem vX4_quoted_68 (ad : Nat → Nat) (κ : KS) (k0 : Int32) (x5 : Int32) (y6 : Int32) (P7 : PL) (r29 : Int32) (r51 : Int32) (hpre_1 : 0 ≤ (κ.1 6).toInt) (hpre_2 : (κ.1 6).toInt ≤ 40) (hpre_5 : 0 ≤ k0.toInt) (hpre_6 : k0.toInt ≤ 40) (ex5 : x5 = k0 + (1 : Int32)) (tx5 : x5.toInt = k0.toInt + 1) (hi12_0 : k0.toInt < y6.toInt) (hi12_1 : y6.toInt ≤ 41) (hi12_2 : (oI P7 25 (ad 18)).toInt = y6.toInt - k0.toInt - 1) (c8 : y6.toInt < (κ.1 6).toInt) (hr29_0 : 0 ≤ r29.toInt) (hr29_1 : r29.toInt ≤ 126) (hr29_2 : ¬ r29.toInt = 0 → 0 ≤ y6.toInt ∧ y6.toInt < (κ.1 6).toInt) (c30 : ¬ r29.toInt = 39) (hr51_0 : 0 ≤ r51.toInt) (hr51_1 : r51.toInt ≤ 126) (hr51_2 : ¬ r51.toInt = 0 → 0 ≤ y6.toInt ∧ y6.toInt < (κ.1 6).toInt) : (y6.toInt - k0.toInt - 17).toNat + 0 + 0 + (gr1 ((oI P7 25 (ad 18)).toInt + 1)) ≤ 40 := by
  have q1 : (1 : Int32).toInt = 1 := by decide +kernel
  have zg0 := gr_spec ((oI P7 25 (ad 18)).toInt + 1)
  first | assumption | omega | (subst_vars; omega) | trivial
-- room @39
theorem vX4_quoted_69 (ad : Nat → Nat) (κ : KS) (k0 : Int32) (x5 : Int32) (y6 : Int32) (P7 : PL) (r29 : Int32) (r51 : Int32) (hpre_1 : 0 ≤ (κ.1 6).toInt) (hpre_2 : (κ.1 6).toInt ≤ 40) (hpre_5 : 0 ≤ k0.toInt) (hpre_6 : k0.toInt ≤ 40) (ex5 : x5 = k0 + (1 : Int32)) (tx5 : x5.toInt = k0.toInt + 1) (hi12_0 : k0.toInt < y6.toInt) (hi12_1 : y6.toInt ≤ 41) (hi12_2 : (oI P7 25 (ad 18)).toInt = y6.toInt - k0.toInt - 1) (c8 : y6.toInt < (κ.1 6).toInt) (hr29_0 : 0 ≤ r29.toInt) (hr29_1 : r29.toInt ≤ 126) (hr29_2 : ¬ r29.toInt = 0 → 0 ≤ y6.toInt ∧ y6.toInt < (κ.1 6).toInt) (c30 : ¬ r29.toInt = 39) (hr51_0 : 0 ≤ r51.toInt) (hr51_1 : r51.toInt ≤ 126) (hr51_2 : ¬ r51.toInt = 0 → 0 ≤ y6.toInt ∧ y6.toInt < (κ.1 6).toInt) : (70 * (y6.toInt - k0.toInt - 17)).toNat + 0 + 0 + (gr70 ((oI P7 25 (ad 18)).toInt + 1)) ≤ 2800 := by
  have q1 : (1 : Int32).toInt = 1 := by decide +kernel
  have zg0 := gr_spec ((oI P7 25 (ad 18)).toInt + 1)
  first | assumption | omega | (subst_vars; omega) | trivial
-- nw@43 @43
theorem vX4_quoted_70 (ad : Nat → Nat) (κ : KS) (k0 : Int32) (x5 : Int32) (y6 : Int32) (P7 : PL) (r29 : Int32) (r51 : Int32) (P53 : PL) (x57 : Int32) (hpre_1 : 0 ≤ (κ.1 6).toInt) (hpre_2 : (κ.1 6).toInt ≤ 40) (hpre_5 : 0 ≤ k0.toInt) (hpre_6 : k0.toInt ≤ 40) (ex5 : x5 = k0 + (1 : Int32)) (tx5 : x5.toInt = k0.toInt + 1) (hi12_0 : k0.toInt < y6.toInt) (hi12_1 : y6.toInt ≤ 41) (hi12_2 : (oI P7 25 (ad 18)).toInt = y6.toInt - k0.toInt - 1) (c8 : y6.toInt < (κ.1 6).toInt) (hr29_0 : 0 ≤ r29.toInt) (hr29_1 : r29.toInt ≤ 126) (hr29_2 : ¬ r29.toInt = 0 → 0 ≤ y6.toInt ∧ y6.toInt < (κ.1 6).toInt) (c30 : ¬ r29.toInt = 39) (hr51_0 : 0 ≤ r51.toInt) (hr51_1 : r51.toInt ≤ 126) (hr51_2 : ¬ r51.toInt = 0 → 0 ≤ y6.toInt ∧ y6.toInt < (κ.1 6).toInt) (hr52_4_0 : (oI P53 25 (ad 18)).toInt = (oI P7 25 (ad 18)).toInt + 1) (hr52_4_1 : gr1 ((oI P7 25 (ad 18)).toInt + 1) ≤ 1) (hr52_4_2 : gr70 ((oI P7 25 (ad 18)).toInt + 1) ≤ 70) (hr52_4_3 : (oI P7 25 (ad 18)).toInt + 1 ≤ 16 → gr1 ((oI P7 25 (ad 18)).toInt + 1) = 0 ∧ gr70 ((oI P7 25 (ad 18)).toInt + 1) = 0) (hr52_4_4 : 16 < (oI P7 25 (ad 18)).toInt + 1 → gr1 ((oI P7 25 (ad 18)).toInt + 1) = 1 ∧ gr70 ((oI P7 25 (ad 18)).toInt + 1) = 70) (ex57 : x57 = y6 + (1 : Int32)) : x57.toInt = y6.toInt + 1 := by
  have q1 : (1 : Int32).toInt = 1 := by decide +kernel
  have z9 : (1 : Int32).toInt = 1 := by decide +kernel
  rw [ex57, z_add (by omega) (by omega)]; first | done | omega
-- inv@12 @12
theorem vX4_quoted_71 (ad : Nat → Nat) (κ : KS) (k0 : Int32) (x5 : Int32) (y6 : Int32) (P7 : PL) (r29 : Int32) (r51 : Int32) (P53 : PL) (x57 : Int32) (hpre_1 : 0 ≤ (κ.1 6).toInt) (hpre_2 : (κ.1 6).toInt ≤ 40) (hpre_5 : 0 ≤ k0.toInt) (hpre_6 : k0.toInt ≤ 40) (ex5 : x5 = k0 + (1 : Int32)) (tx5 : x5.toInt = k0.toInt + 1) (hi12_0 : k0.toInt < y6.toInt) (hi12_1 : y6.toInt ≤ 41) (hi12_2 : (oI P7 25 (ad 18)).toInt = y6.toInt - k0.toInt - 1) (c8 : y6.toInt < (κ.1 6).toInt) (hr29_0 : 0 ≤ r29.toInt) (hr29_1 : r29.toInt ≤ 126) (hr29_2 : ¬ r29.toInt = 0 → 0 ≤ y6.toInt ∧ y6.toInt < (κ.1 6).toInt) (c30 : ¬ r29.toInt = 39) (hr51_0 : 0 ≤ r51.toInt) (hr51_1 : r51.toInt ≤ 126) (hr51_2 : ¬ r51.toInt = 0 → 0 ≤ y6.toInt ∧ y6.toInt < (κ.1 6).toInt) (hr52_4_0 : (oI P53 25 (ad 18)).toInt = (oI P7 25 (ad 18)).toInt + 1) (hr52_4_1 : gr1 ((oI P7 25 (ad 18)).toInt + 1) ≤ 1) (hr52_4_2 : gr70 ((oI P7 25 (ad 18)).toInt + 1) ≤ 70) (hr52_4_3 : (oI P7 25 (ad 18)).toInt + 1 ≤ 16 → gr1 ((oI P7 25 (ad 18)).toInt + 1) = 0 ∧ gr70 ((oI P7 25 (ad 18)).toInt + 1) = 0) (hr52_4_4 : 16 < (oI P7 25 (ad 18)).toInt + 1 → gr1 ((oI P7 25 (ad 18)).toInt + 1) = 1 ∧ gr70 ((oI P7 25 (ad 18)).toInt + 1) = 70) (ex57 : x57 = y6 + (1 : Int32)) (tx57 : x57.toInt = y6.toInt + 1) : k0.toInt < x57.toInt ∧ x57.toInt ≤ 41 ∧ (oI P53 25 (ad 18)).toInt = x57.toInt - k0.toInt - 1 := by
  have q1 : (1 : Int32).toInt = 1 := by decide +kernel
  refine ⟨?_, ?_, ?_⟩ <;> first | assumption | omega | (subst_vars; omega) | trivial
-- inv2@12 @12
theorem vX4_quoted_72 (ad : Nat → Nat) (sa : Nat → Nat) (κ : KS) (k0 : Int32) (P2 : PL) (x5 : Int32) (y6 : Int32) (P7 : PL) (r29 : Int32) (r51 : Int32) (P53 : PL) (x57 : Int32) (hPV : PV sa κ.2.2.2.2) (hSV : SV ad κ.2.2.2.2 (κ.2.1 0) (κ.2.1 1) (κ.2.2.2.1 6) (κ.2.2.2.1 7) (κ.2.2.2.1 8) (κ.2.2.2.1 13) (κ.2.2.2.1 15) (κ.2.2.2.1 17) (κ.1 1).toInt) (hpre_0 : L9 (κ.2.2.1 9)) (hpre_1 : 0 ≤ (κ.1 6).toInt) (hpre_2 : (κ.1 6).toInt ≤ 40) (hpre_3 : 0 ≤ (κ.1 7).toInt) (hpre_4 : (κ.1 7).toInt ≤ 41) (hpre_5 : 0 ≤ k0.toInt) (hpre_6 : k0.toInt ≤ 40) (hr1_0 : EX κ.2.2.2.2 P2) (hr1_2 : KPx True κ.2.2.2.2 P2) (hr1y : SBX P2 (ad 18) []) (hr1_3 : (oI P2 25 (ad 18)).toInt = 0) (ex5 : x5 = k0 + (1 : Int32)) (tx5 : x5.toInt = k0.toInt + 1) (hi12_0 : k0.toInt < y6.toInt) (hi12_1 : y6.toInt ≤ 41) (hi12_2 : (oI P7 25 (ad 18)).toInt = y6.toInt - k0.toInt - 1) (hf12_0 : EX P2 P7) (hf12_2 : KPx True κ.2.2.2.2 P7) (hi12y_0 : RT qt (tx (κ.2.2.1 9) (κ.1 6)) (k0.toInt + 1) y6.toInt) (hi12y_1 : k0.toInt < (κ.1 6).toInt → y6.toInt ≤ (κ.1 6).toInt) (c8 : y6.toInt < (κ.1 6).toInt) (hr29y : (κ.1 6).toInt ≤ 40 → r29.toInt = tx (κ.2.2.1 9) (κ.1 6) y6.toInt) (hr29_0 : 0 ≤ r29.toInt) (hr29_1 : r29.toInt ≤ 126) (hr29_2 : ¬ r29.toInt = 0 → 0 ≤ y6.toInt ∧ y6.toInt < (κ.1 6).toInt) (c30 : ¬ r29.toInt = 39) (hr51y : (κ.1 6).toInt ≤ 40 → r51.toInt = tx (κ.2.2.1 9) (κ.1 6) y6.toInt) (hr51_0 : 0 ≤ r51.toInt) (hr51_1 : r51.toInt ≤ 126) (hr51_2 : ¬ r51.toInt = 0 → 0 ≤ y6.toInt ∧ y6.toInt < (κ.1 6).toInt) (hr52_0 : EX P7 P53) (hr52_2 : KPx True P7 P53) (hr52y : ∀ s9 : List Int, SBX P7 (ad 18) s9 → r51.toInt < 128 → SBX P53 (ad 18) (s9 ++ [r51.toInt])) (hr52_4_0 : (oI P53 25 (ad 18)).toInt = (oI P7 25 (ad 18)).toInt + 1) (hr52_4_1 : gr1 ((oI P7 25 (ad 18)).toInt + 1) ≤ 1) (hr52_4_2 : gr70 ((oI P7 25 (ad 18)).toInt + 1) ≤ 70) (hr52_4_3 : (oI P7 25 (ad 18)).toInt + 1 ≤ 16 → gr1 ((oI P7 25 (ad 18)).toInt + 1) = 0 ∧ gr70 ((oI P7 25 (ad 18)).toInt + 1) = 0) (hr52_4_4 : 16 < (oI P7 25 (ad 18)).toInt + 1 → gr1 ((oI P7 25 (ad 18)).toInt + 1) = 1 ∧ gr70 ((oI P7 25 (ad 18)).toInt + 1) = 70) (ex57 : x57 = y6 + (1 : Int32)) (tx57 : x57.toInt = y6.toInt + 1) : RT qt (tx (κ.2.2.1 9) (κ.1 6)) (k0.toInt + 1) x57.toInt ∧ (k0.toInt < (κ.1 6).toInt → x57.toInt ≤ (κ.1 6).toInt) := by
  have q1 : (1 : Int32).toInt = 1 := by decide +kernel
  have pk0 := hr29y (by omega)
  have pk1 := hr51y (by omega)
  exact ⟨RT.up hi12y_0 (by omega) (by omega), fun _ => by omega⟩
-- meas@12 @12
theorem vX4_quoted_73 (ad : Nat → Nat) (κ : KS) (k0 : Int32) (x5 : Int32) (y6 : Int32) (P7 : PL) (r29 : Int32) (r51 : Int32) (P53 : PL) (x57 : Int32) (hpre_1 : 0 ≤ (κ.1 6).toInt) (hpre_2 : (κ.1 6).toInt ≤ 40) (hpre_5 : 0 ≤ k0.toInt) (hpre_6 : k0.toInt ≤ 40) (ex5 : x5 = k0 + (1 : Int32)) (tx5 : x5.toInt = k0.toInt + 1) (hi12_0 : k0.toInt < y6.toInt) (hi12_1 : y6.toInt ≤ 41) (hi12_2 : (oI P7 25 (ad 18)).toInt = y6.toInt - k0.toInt - 1) (c8 : y6.toInt < (κ.1 6).toInt) (hr29_0 : 0 ≤ r29.toInt) (hr29_1 : r29.toInt ≤ 126) (hr29_2 : ¬ r29.toInt = 0 → 0 ≤ y6.toInt ∧ y6.toInt < (κ.1 6).toInt) (c30 : ¬ r29.toInt = 39) (hr51_0 : 0 ≤ r51.toInt) (hr51_1 : r51.toInt ≤ 126) (hr51_2 : ¬ r51.toInt = 0 → 0 ≤ y6.toInt ∧ y6.toInt < (κ.1 6).toInt) (hr52_4_0 : (oI P53 25 (ad 18)).toInt = (oI P7 25 (ad 18)).toInt + 1) (hr52_4_1 : gr1 ((oI P7 25 (ad 18)).toInt + 1) ≤ 1) (hr52_4_2 : gr70 ((oI P7 25 (ad 18)).toInt + 1) ≤ 70) (hr52_4_3 : (oI P7 25 (ad 18)).toInt + 1 ≤ 16 → gr1 ((oI P7 25 (ad 18)).toInt + 1) = 0 ∧ gr70 ((oI P7 25 (ad 18)).toInt + 1) = 0) (hr52_4_4 : 16 < (oI P7 25 (ad 18)).toInt + 1 → gr1 ((oI P7 25 (ad 18)).toInt + 1) = 1 ∧ gr70 ((oI P7 25 (ad 18)).toInt + 1) = 70) (ex57 : x57 = y6 + (1 : Int32)) (tx57 : x57.toInt = y6.toInt + 1) : (41 - x57.toInt).toNat < (41 - y6.toInt).toNat := by
  have q1 : (1 : Int32).toInt = 1 := by decide +kernel
  first | assumption | omega | (subst_vars; omega) | trivial
-- lc@12 @12
theorem vX4_quoted_74 (ad : Nat → Nat) (κ : KS) (k0 : Int32) (x5 : Int32) (y6 : Int32) (P7 : PL) (r29 : Int32) (r51 : Int32) (P53 : PL) (x57 : Int32) (hpre_1 : 0 ≤ (κ.1 6).toInt) (hpre_2 : (κ.1 6).toInt ≤ 40) (hpre_5 : 0 ≤ k0.toInt) (hpre_6 : k0.toInt ≤ 40) (ex5 : x5 = k0 + (1 : Int32)) (tx5 : x5.toInt = k0.toInt + 1) (hi12_0 : k0.toInt < y6.toInt) (hi12_1 : y6.toInt ≤ 41) (hi12_2 : (oI P7 25 (ad 18)).toInt = y6.toInt - k0.toInt - 1) (c8 : y6.toInt < (κ.1 6).toInt) (hr29_0 : 0 ≤ r29.toInt) (hr29_1 : r29.toInt ≤ 126) (hr29_2 : ¬ r29.toInt = 0 → 0 ≤ y6.toInt ∧ y6.toInt < (κ.1 6).toInt) (c30 : ¬ r29.toInt = 39) (hr51_0 : 0 ≤ r51.toInt) (hr51_1 : r51.toInt ≤ 126) (hr51_2 : ¬ r51.toInt = 0 → 0 ≤ y6.toInt ∧ y6.toInt < (κ.1 6).toInt) (hr52_4_0 : (oI P53 25 (ad 18)).toInt = (oI P7 25 (ad 18)).toInt + 1) (hr52_4_1 : gr1 ((oI P7 25 (ad 18)).toInt + 1) ≤ 1) (hr52_4_2 : gr70 ((oI P7 25 (ad 18)).toInt + 1) ≤ 70) (hr52_4_3 : (oI P7 25 (ad 18)).toInt + 1 ≤ 16 → gr1 ((oI P7 25 (ad 18)).toInt + 1) = 0 ∧ gr70 ((oI P7 25 (ad 18)).toInt + 1) = 0) (hr52_4_4 : 16 < (oI P7 25 (ad 18)).toInt + 1 → gr1 ((oI P7 25 (ad 18)).toInt + 1) = 1 ∧ gr70 ((oI P7 25 (ad 18)).toInt + 1) = 70) (ex57 : x57 = y6 + (1 : Int32)) (tx57 : x57.toInt = y6.toInt + 1) : (y6.toInt - k0.toInt - 17).toNat + 0 + 0 + (gr1 ((oI P7 25 (ad 18)).toInt + 1)) ≤ (x57.toInt - k0.toInt - 17).toNat := by
  have q1 : (1 : Int32).toInt = 1 := by decide +kernel
  have zg0 := gr_spec ((oI P7 25 (ad 18)).toInt + 1)
  first | assumption | omega | (subst_vars; omega) | trivial
-- ls@12 @12
theorem vX4_quoted_75 (ad : Nat → Nat) (κ : KS) (k0 : Int32) (x5 : Int32) (y6 : Int32) (P7 : PL) (r29 : Int32) (r51 : Int32) (P53 : PL) (x57 : Int32) (hpre_1 : 0 ≤ (κ.1 6).toInt) (hpre_2 : (κ.1 6).toInt ≤ 40) (hpre_5 : 0 ≤ k0.toInt) (hpre_6 : k0.toInt ≤ 40) (ex5 : x5 = k0 + (1 : Int32)) (tx5 : x5.toInt = k0.toInt + 1) (hi12_0 : k0.toInt < y6.toInt) (hi12_1 : y6.toInt ≤ 41) (hi12_2 : (oI P7 25 (ad 18)).toInt = y6.toInt - k0.toInt - 1) (c8 : y6.toInt < (κ.1 6).toInt) (hr29_0 : 0 ≤ r29.toInt) (hr29_1 : r29.toInt ≤ 126) (hr29_2 : ¬ r29.toInt = 0 → 0 ≤ y6.toInt ∧ y6.toInt < (κ.1 6).toInt) (c30 : ¬ r29.toInt = 39) (hr51_0 : 0 ≤ r51.toInt) (hr51_1 : r51.toInt ≤ 126) (hr51_2 : ¬ r51.toInt = 0 → 0 ≤ y6.toInt ∧ y6.toInt < (κ.1 6).toInt) (hr52_4_0 : (oI P53 25 (ad 18)).toInt = (oI P7 25 (ad 18)).toInt + 1) (hr52_4_1 : gr1 ((oI P7 25 (ad 18)).toInt + 1) ≤ 1) (hr52_4_2 : gr70 ((oI P7 25 (ad 18)).toInt + 1) ≤ 70) (hr52_4_3 : (oI P7 25 (ad 18)).toInt + 1 ≤ 16 → gr1 ((oI P7 25 (ad 18)).toInt + 1) = 0 ∧ gr70 ((oI P7 25 (ad 18)).toInt + 1) = 0) (hr52_4_4 : 16 < (oI P7 25 (ad 18)).toInt + 1 → gr1 ((oI P7 25 (ad 18)).toInt + 1) = 1 ∧ gr70 ((oI P7 25 (ad 18)).toInt + 1) = 70) (ex57 : x57 = y6 + (1 : Int32)) (tx57 : x57.toInt = y6.toInt + 1) : (70 * (y6.toInt - k0.toInt - 17)).toNat + 0 + 0 + (gr70 ((oI P7 25 (ad 18)).toInt + 1)) ≤ (70 * (x57.toInt - k0.toInt - 17)).toNat := by
  have q1 : (1 : Int32).toInt = 1 := by decide +kernel
  have zg0 := gr_spec ((oI P7 25 (ad 18)).toInt + 1)
  first | assumption | omega | (subst_vars; omega) | trivial
-- lc0@12 @12
theorem vX4_quoted_76 (k0 : Int32) (x5 : Int32) (hpre_5 : 0 ≤ k0.toInt) (hpre_6 : k0.toInt ≤ 40) (ex5 : x5 = k0 + (1 : Int32)) (tx5 : x5.toInt = k0.toInt + 1) : 0 + 0 ≤ (x5.toInt - k0.toInt - 17).toNat := by
  have q1 : (1 : Int32).toInt = 1 := by decide +kernel
  first | assumption | omega | (subst_vars; omega) | trivial
-- ls0@12 @12
theorem vX4_quoted_77 (k0 : Int32) (x5 : Int32) (hpre_5 : 0 ≤ k0.toInt) (hpre_6 : k0.toInt ≤ 40) (ex5 : x5 = k0 + (1 : Int32)) (tx5 : x5.toInt = k0.toInt + 1) : 0 + 0 ≤ (70 * (x5.toInt - k0.toInt - 17)).toNat := by
  have q1 : (1 : Int32).toInt = 1 := by decide +kernel
  first | assumption | omega | (subst_vars; omega) | trivial
set_option maxHeartbeats 4000000 in
set_option maxRecDepth 100000 in
theorem NX4_quoted (l : Launch) (D : va_G) (cy : Nat → ClassId) (ad : Nat → Nat) (A : Nat → Prop) (sz0 : Nat) (sa : Nat → Nat)  (κ : KS) (sz sl : Nat) (hAF : ∀ q, A q → Fr sz0 q) (hAn : ∀ q : Nat, sz ≤ q → A q) (k0 : Int32) (hPV : PV sa κ.2.2.2.2) (hSV : SV ad κ.2.2.2.2 (κ.2.1 0) (κ.2.1 1) (κ.2.2.2.1 6) (κ.2.2.2.1 7) (κ.2.2.2.1 8) (κ.2.2.2.1 13) (κ.2.2.2.1 15) (κ.2.2.2.1 17) (κ.1 1).toInt) (hpre : L9 (κ.2.2.1 9) ∧ 0 ≤ (κ.1 6).toInt ∧ (κ.1 6).toInt ≤ 40 ∧ 0 ≤ (κ.1 7).toInt ∧ (κ.1 7).toInt ≤ 41 ∧ 0 ≤ k0.toInt ∧ k0.toInt ≤ 40) : Met l yX4_quoted (Cond.code yX4_quoted cX4_quoted 3 (some .int) :: GWc) ({ frames := 6, cells := 40, slots := 2800, locals := 151 }) (PcC D cy ad A sz0 sa [.ref (ad 2), .int k0] κ sz sl) (va_Qi (fun (r : Int32) (u : PL × Int32 × (Nat → Int32) × (Nat → Int32) × (Nat → Int32) × (Nat → Option Nat) × Int32) => ((EX κ.2.2.2.2 u.1) ∧ (PV sa u.1) ∧ (KPx True κ.2.2.2.2 u.1) ∧ (SV ad u.1 (κ.2.1 0) (κ.2.1 1) (κ.2.2.2.1 6) (κ.2.2.2.1 7) (κ.2.2.2.1 8) u.2.2.2.2.2.1 (κ.2.2.2.1 15) (κ.2.2.2.1 17) (κ.1 1).toInt) ∧ (r = u.2.2.2.2.2.2) ∧ (0 ≤ u.2.1.toInt ∧ u.2.1.toInt ≤ 41 ∧ r.toInt ≤ 41 ∧ qg1 k0.toInt r.toInt ≤ 40 ∧ qg2 k0.toInt r.toInt ≤ 2800)) ∧ ((κ.1 7).toInt ≤ k0.toInt → k0.toInt < (κ.1 6).toInt → tx (κ.2.2.1 9) (κ.1 6) k0.toInt = 39 → ∃ t9, TokR (tx (κ.2.2.1 9) (κ.1 6)) (κ.1 6).toInt k0.toInt t9 ∧ LXc (κ.2.2.1 10) (κ.2.2.1 11) (κ.2.2.1 12) (κ.1 7) u.2.2.1 u.2.2.2.1 u.2.2.2.2.1 u.2.1 k0.toInt r.toInt t9)) (fun (u : PL × Int32 × (Nat → Int32) × (Nat → Int32) × (Nat → Int32) × (Nat → Option Nat) × Int32) (t : State) => Bx D cy ad A sz sl (tQ (tA (tA (tA (tI (tP κ u.1) 7 u.2.1) 10 u.2.2.1) 11 u.2.2.2.1) 12 u.2.2.2.2.1) 13 u.2.2.2.2.2.1) (qg1 k0.toInt u.2.2.2.2.2.2.toInt) (qg2 k0.toInt u.2.2.2.2.2.2.toInt) t) A) (40) (2800) A := by
  refine CM_of (loc0 := [(0, .ref (ad 2)), (1, .int k0)]) (own := RX4) (nm := "quoted") (by decide) rfl rfl rfl (Nat.le_of_ble_eq_true rfl) hAF hAn ?_
  intro p e s m below meth c ls hsz hsl C hP hS hl
  obtain ⟨hpre_0, hpre_1, hpre_2, hpre_3, hpre_4, hpre_5, hpre_6⟩ := hpre
  refine lv_aload_n C.x C.b dX4_quoted_0 rfl (lv_at hl 0 rfl) ?_
  refine cg_X4_7 C hP cw_471 dX4_quoted_1 ?_
  refine lv_iconst (v := 0) C.x C.b dX4_quoted_4 (by decide +kernel) ?_
  refine c_callVv (n := 1) (As := [.int 0]) (rest := []) C hP hS hl.1 (NJ4_setLength_d00df l D cy ad A sz0 sa κ s.heap.size (SLT s.heap) C.f (fun q h => C.a q (Nat.le_trans hS.1 h)) (ad 18) (0 : Int32) hSV.a18 hPV (vX4_quoted_1  )) ⟨cw_525, cw_151, by decide +kernel⟩ ⟨cw_149, cw_150, cw_8⟩ rfl (hP.recvP (t := 12) (ci := 1) C.K (t20 (a := (ad 18)) (t := 12) hSV.a18) (by decide) rfl rfl) rfl rfl (lv_room (Nat.le_of_ble_eq_true rfl)) ⟨Nat.le_of_ble_eq_true rfl, Nat.le_of_ble_eq_true rfl⟩ ⟨(Nat.le_of_ble_eq_true rfl), (Nat.le_of_ble_eq_true rfl)⟩ dX4_quoted_5 (fun u H locs hr1 hP hS => ?_)
  obtain ⟨P2, rfl⟩ : ∃ z, z = u := ⟨_, rfl⟩
  have hP : CH D cy ad A (tP κ P2) H := hP
  obtain ⟨hr1, hr1y⟩ := hr1
  have hr1y : SBX P2 (ad 18) [] := hr1y
  have hr1 : (EX κ.2.2.2.2 P2) ∧ (PV sa P2) ∧ (KPx True κ.2.2.2.2 P2) ∧ ((oI P2 25 (ad 18)).toInt = 0) := hr1
  obtain ⟨hr1_0, hr1_1, hr1_2, hr1_3⟩ := hr1
  have kpz3 : KPx True κ.2.2.2.2 P2 := KPx.rf.trans hr1_2
  have svz4 : SV ad P2 (κ.2.1 0) (κ.2.1 1) (κ.2.2.2.1 6) (κ.2.2.2.1 7) (κ.2.2.2.1 8) (κ.2.2.2.1 13) (κ.2.2.2.1 15) (κ.2.2.2.1 17) (κ.1 1).toInt := hSV.ex hr1_0
  refine lv_iload_n C.x C.b dX4_quoted_8 rfl (lv_at hl 1 rfl) ?_
  refine lv_iconst (v := 1) C.x C.b dX4_quoted_9 (by decide +kernel) ?_
  refine lv_iadd C.x C.b dX4_quoted_10 ?_
  refine lv_topi (fun x5 ex5 => ?_)
  have tx5 : x5.toInt = k0.toInt + 1 := (vX4_quoted_2 k0 x5 hpre_5 hpre_6 ex5)
  refine lv_istore_n (lv' := [(2, .int x5), (0, .ref (ad 2)), (1, .int k0)]) C.x C.b dX4_quoted_11 rfl hl (by decide) rfl (fun ls hl => ?_)
  have lp12 : ∀ (n : Nat) (y6 : Int32) (P7 : PL) (H : Heap) (locs : List Loc) (ls : Array Slot), (41 - y6.toInt).toNat < n → (EX P2 P7) → (PV sa P7) → (KPx True κ.2.2.2.2 P7) → (SV ad P7 (κ.2.1 0) (κ.2.1 1) (κ.2.2.2.1 6) (κ.2.2.2.1 7) (κ.2.2.2.1 8) (κ.2.2.2.1 13) (κ.2.2.2.1 15) (κ.2.2.2.1 17) (κ.1 1).toInt) → ((k0.toInt < y6.toInt ∧ y6.toInt ≤ 41 ∧ (oI P7 25 (ad 18)).toInt = y6.toInt - k0.toInt - 1) ∧ (RT qt (tx (κ.2.2.1 9) (κ.1 6)) (k0.toInt + 1) y6.toInt ∧ (k0.toInt < (κ.1 6).toInt → y6.toInt ≤ (κ.1 6).toInt))) → CH D cy ad A (tP (tP κ P2) P7) H → va_S A s.heap H locs → lv_has ls 3 [(2, .int y6), (0, .ref (ad 2)), (1, .int k0)] → W p l e (headSpec (Cond.code yX4_quoted cX4_quoted 3 (some .int) :: GWc) ({ frames := 6, cells := 40, slots := 2800, locals := 151 })).room s m #[.ref (ad 2), .int k0] below meth c H locs ((y6.toInt - k0.toInt - 17).toNat) ((70 * (y6.toInt - k0.toInt - 17)).toNat) (MQ below (va_Qi (fun (r : Int32) (u : PL × Int32 × (Nat → Int32) × (Nat → Int32) × (Nat → Int32) × (Nat → Option Nat) × Int32) => ((EX κ.2.2.2.2 u.1) ∧ (PV sa u.1) ∧ (KPx True κ.2.2.2.2 u.1) ∧ (SV ad u.1 (κ.2.1 0) (κ.2.1 1) (κ.2.2.2.1 6) (κ.2.2.2.1 7) (κ.2.2.2.1 8) u.2.2.2.2.2.1 (κ.2.2.2.1 15) (κ.2.2.2.1 17) (κ.1 1).toInt) ∧ (r = u.2.2.2.2.2.2) ∧ (0 ≤ u.2.1.toInt ∧ u.2.1.toInt ≤ 41 ∧ r.toInt ≤ 41 ∧ qg1 k0.toInt r.toInt ≤ 40 ∧ qg2 k0.toInt r.toInt ≤ 2800)) ∧ ((κ.1 7).toInt ≤ k0.toInt → k0.toInt < (κ.1 6).toInt → tx (κ.2.2.1 9) (κ.1 6) k0.toInt = 39 → ∃ t9, TokR (tx (κ.2.2.1 9) (κ.1 6)) (κ.1 6).toInt k0.toInt t9 ∧ LXc (κ.2.2.1 10) (κ.2.2.1 11) (κ.2.2.1 12) (κ.1 7) u.2.2.1 u.2.2.2.1 u.2.2.2.2.1 u.2.1 k0.toInt r.toInt t9)) (fun (u : PL × Int32 × (Nat → Int32) × (Nat → Int32) × (Nat → Int32) × (Nat → Option Nat) × Int32) (t : State) => Bx D cy ad A sz sl (tQ (tA (tA (tA (tI (tP κ u.1) 7 u.2.1) 10 u.2.2.1) 11 u.2.2.2.1) 12 u.2.2.2.2.1) 13 u.2.2.2.2.2.1) (qg1 k0.toInt u.2.2.2.2.2.2.toInt) (qg2 k0.toInt u.2.2.2.2.2.2.toInt) t) A) #[.ref (ad 2), .int k0] s (40) (2800) A) (F0 m 12 ls []) := by
    intro n
    induction n with
    | zero => intro y6 P7 H locs ls hn; exact absurd hn (Nat.not_lt_zero _)
    | succ n12 ih12 =>
      intro y6 P7 H locs ls hn12 hf12_0 hf12_1 hf12_2 hf12_3 hi12 hP hS hl
      obtain ⟨hi12, hi12y⟩ := hi12
      obtain ⟨hi12_0, hi12_1, hi12_2⟩ := hi12
      obtain ⟨hi12y_0, hi12y_1⟩ := hi12y
      refine lv_iload_n C.x C.b dX4_quoted_12 rfl (lv_at hl 0 rfl) ?_
      refine lv_aload_n C.x C.b dX4_quoted_13 rfl (lv_at hl 1 rfl) ?_
      refine cg_X4_1 (v := (κ.1 6)) C hP rfl cw_474 dX4_quoted_14 ?_
      refine lv_icmp_ge (tgt := 49) C.x C.b dX4_quoted_17 (by decide) (fun c8 => ?_) (fun c8 => ?_)
      · have c8 : (κ.1 6).toInt ≤ y6.toInt := by have h := z_le c8; exact h
        refine lv_iload_n C.x C.b dX4_quoted_49 rfl (lv_at hl 0 rfl) ?_
        refine lv_aload_n C.x C.b dX4_quoted_50 rfl (lv_at hl 1 rfl) ?_
        refine cg_X4_1 (v := (κ.1 6)) C hP rfl cw_474 dX4_quoted_51 ?_
        refine lv_icmp_ge (tgt := 69) C.x C.b dX4_quoted_54 (by decide) (fun c9 => ?_) (fun c9 => ?_)
        · have c9 : (κ.1 6).toInt ≤ y6.toInt := by have h := z_le c9; exact h
          refine lv_iconst (v := (-1)) C.x C.b dX4_quoted_69 (by decide +kernel) ?_
          have hP : CH D cy ad A (tQ (tA (tA (tA (tI (tP κ P7) 7 (κ.1 7)) 10 (κ.2.2.1 10)) 11 (κ.2.2.1 11)) 12 (κ.2.2.1 12)) 13 (κ.2.2.2.1 13)) H := CH.cong hP rfl rfl rfl rfl rfl rfl rfl rfl rfl rfl rfl rfl rfl rfl rfl rfl rfl rfl rfl rfl rfl rfl rfl rfl rfl rfl rfl
          exact c_reti C hsz hsl ⟨P7, (κ.1 7), (κ.2.2.1 10), (κ.2.2.1 11), (κ.2.2.1 12), (κ.2.2.2.1 13), (-1)⟩ ⟨⟨(hr1_0.trans hf12_0), hf12_1, hf12_2, hf12_3, rfl, (vX4_quoted_5 ad κ k0 x5 y6 P7 hpre_1 hpre_2 hpre_3 hpre_4 hpre_5 hpre_6 ex5 tx5 hi12_0 hi12_1 hi12_2 c8 c9)⟩, (vX4_quoted_6 ad sa κ k0 P2 x5 y6 P7 hPV hSV hpre_0 hpre_1 hpre_2 hpre_3 hpre_4 hpre_5 hpre_6 hr1_0 hr1_2 hr1y hr1_3 ex5 tx5 hi12_0 hi12_1 hi12_2 hf12_0 hf12_2 hi12y_0 hi12y_1 c8 c9)⟩ hP hS ⟨(vX4_quoted_7 ad κ k0 x5 y6 P7 hpre_1 hpre_2 hpre_5 hpre_6 ex5 tx5 hi12_0 hi12_1 hi12_2 c8 c9), (vX4_quoted_8 ad κ k0 x5 y6 P7 hpre_1 hpre_2 hpre_5 hpre_6 ex5 tx5 hi12_0 hi12_1 hi12_2 c8 c9)⟩ ⟨(vX4_quoted_9 ad κ k0 x5 y6 P7 hpre_1 hpre_2 hpre_5 hpre_6 ex5 tx5 hi12_0 hi12_1 hi12_2 c8 c9), (vX4_quoted_10 ad κ k0 x5 y6 P7 hpre_1 hpre_2 hpre_5 hpre_6 ex5 tx5 hi12_0 hi12_1 hi12_2 c8 c9)⟩ dX4_quoted_70
        · have c9 : y6.toInt < (κ.1 6).toInt := by have h := z_nle c9; exact h
          refine lv_aload_n C.x C.b dX4_quoted_57 rfl (lv_at hl 1 rfl) ?_
          refine cg_X4_7 C hP cw_471 dX4_quoted_58 ?_
          refine c_callVi (n := 0) (As := []) (rest := []) C hP hS hl.1 (NJ4_length_8abf5 l D cy ad A sz0 sa (tP (tP κ P2) P7) H.size (SLT H) C.f (fun q h => C.a q (Nat.le_trans hS.1 h)) (ad 18) (hf12_0.T (hr1_0.T hSV.a18 (by decide)) (by decide)) hf12_1) ⟨cw_527, cw_313, by decide +kernel⟩ ⟨cw_312, cw_528, cw_8⟩ rfl (hP.recvP (t := 12) (ci := 1) C.K (t20 (a := (ad 18)) (t := 12) (hf12_0.T (hr1_0.T hSV.a18 (by decide)) (by decide))) (by decide) rfl rfl) rfl rfl (lv_room (Nat.le_of_ble_eq_true rfl)) ⟨Nat.le_of_ble_eq_true rfl, Nat.le_of_ble_eq_true rfl⟩ ⟨(vX4_quoted_11 ad κ k0 x5 y6 P7 hpre_1 hpre_2 hpre_5 hpre_6 ex5 tx5 hi12_0 hi12_1 hi12_2 c8 c9), (vX4_quoted_12 ad κ k0 x5 y6 P7 hpre_1 hpre_2 hpre_5 hpre_6 ex5 tx5 hi12_0 hi12_1 hi12_2 c8 c9)⟩ dX4_quoted_61 (fun r10 u H locs hr10 hP hS => ?_)
          have hr10 : (r10.toInt = (oI P7 25 (ad 18)).toInt) := hr10
          refine lv_bipush (v := 8) C.x C.b dX4_quoted_64 (by decide +kernel) ?_
          refine lv_icmp_le (tgt := 71) C.x C.b dX4_quoted_66 (by decide) (fun c11 => ?_) (fun c11 => ?_)
          · have c11 : r10.toInt ≤ 8 := by have h := z_le c11; rw [show (8 : Int32).toInt = 8 from by decide +kernel] at h; exact h
            refine lv_aload_n C.x C.b dX4_quoted_71 rfl (lv_at hl 1 rfl) ?_
            refine lv_iconst (v := 1) C.x C.b dX4_quoted_72 (by decide +kernel) ?_
            refine lv_iload_n C.x C.b dX4_quoted_73 rfl (lv_at hl 2 rfl) ?_
            refine lv_iconst (v := 0) C.x C.b dX4_quoted_74 (by decide +kernel) ?_
            refine lv_aload_n C.x C.b dX4_quoted_75 rfl (lv_at hl 1 rfl) ?_
            refine cg_X4_7 C hP cw_471 dX4_quoted_76 ?_
            refine c_callVq (n := 0) (As := []) (rest := [.int 0, .int k0, .int 1, .ref (ad 2)]) C hP hS hl.1 (NJ4_toString_0e30d l D cy ad A sz0 sa (tP (tP κ P2) P7) H.size (SLT H) C.f (fun q h => C.a q (Nat.le_trans hS.1 h)) (ad 18) (hf12_0.T (hr1_0.T hSV.a18 (by decide)) (by decide)) hf12_1 (vX4_quoted_13 ad κ k0 x5 y6 P7 r10 hpre_1 hpre_2 hpre_5 hpre_6 ex5 tx5 hi12_0 hi12_1 hi12_2 c8 c9 hr10 c11)) ⟨cw_529, cw_292, by decide +kernel⟩ ⟨cw_290, cw_291, cw_8⟩ rfl (hP.recvP (t := 12) (ci := 1) C.K (t20 (a := (ad 18)) (t := 12) (hf12_0.T (hr1_0.T hSV.a18 (by decide)) (by decide))) (by decide) rfl rfl) rfl rfl (lv_room (Nat.le_of_ble_eq_true rfl)) ⟨Nat.le_of_ble_eq_true rfl, Nat.le_of_ble_eq_true rfl⟩ ⟨(vX4_quoted_14 ad κ k0 x5 y6 P7 r10 hpre_1 hpre_2 hpre_5 hpre_6 ex5 tx5 hi12_0 hi12_1 hi12_2 c8 c9 hr10 c11), (vX4_quoted_15 ad κ k0 x5 y6 P7 r10 hpre_1 hpre_2 hpre_5 hpre_6 ex5 tx5 hi12_0 hi12_1 hi12_2 c8 c9 hr10 c11)⟩ dX4_quoted_79 (fun r12 u H locs hr12 hP hS => ?_)
            obtain ⟨P13, rfl⟩ : ∃ z, z = u := ⟨_, rfl⟩
            have hP : CH D cy ad A (tP (tP (tP κ P2) P7) P13) H := hP
            obtain ⟨hr12, hr12y⟩ := hr12
            have hr12y : ∀ s9 : List Int, SBX P7 (ad 18) s9 → TXq P13 sa (r12.getD 0) s9 := hr12y
            have hr12 : (EX P7 P13) ∧ (PV sa P13) ∧ (KPx True P7 P13) ∧ (∃ b n, r12 = some b ∧ SL P13 sa b n ∧ ((n : Nat) : Int) = (oI P7 25 (ad 18)).toInt) := hr12
            obtain ⟨hr12_0, hr12_1, hr12_2, hr12_3⟩ := hr12
            have kpz14 : KPx True κ.2.2.2.2 P13 := hf12_2.trans hr12_2
            obtain ⟨b15, nb15, rfl, tb15, leb15⟩ := hr12_3
            have svz16 : SV ad P13 (κ.2.1 0) (κ.2.1 1) (κ.2.2.2.1 6) (κ.2.2.2.1 7) (κ.2.2.2.1 8) (κ.2.2.2.1 13) (κ.2.2.2.1 15) (κ.2.2.2.1 17) (κ.1 1).toInt := hf12_3.ex hr12_0
            refine c_callSq (C2 := "") (b := 0) (n := 1) (As := [.ref b15]) (rest := [.int 0, .int k0, .int 1, .ref (ad 2)]) C hP hS hl.1 (NX10_ofText l D cy ad A sz0 sa (tP (tP (tP κ P2) P7) P13) H.size (SLT H) C.f (fun q h => C.a q (Nat.le_trans hS.1 h)) b15 tb15.sok hr12_1) ⟨cw_530, cw_339, by decide +kernel⟩ ⟨cw_338, cw_40⟩ rfl rfl (lv_room (Nat.le_of_ble_eq_true rfl)) ⟨Nat.le_of_ble_eq_true rfl, Nat.le_of_ble_eq_true rfl⟩ ⟨(vX4_quoted_16 ad κ k0 x5 y6 P7 r10 nb15 hpre_1 hpre_2 hpre_5 hpre_6 ex5 tx5 hi12_0 hi12_1 hi12_2 c8 c9 hr10 c11 leb15), (vX4_quoted_17 ad κ k0 x5 y6 P7 r10 nb15 hpre_1 hpre_2 hpre_5 hpre_6 ex5 tx5 hi12_0 hi12_1 hi12_2 c8 c9 hr10 c11 leb15)⟩ dX4_quoted_82 (fun r17 u H locs hr17 hP hS => ?_)
            obtain ⟨P18, rfl⟩ : ∃ z, z = u := ⟨_, rfl⟩
            have hP : CH D cy ad A (tP (tP (tP (tP κ P2) P7) P13) P18) H := hP
            obtain ⟨hr17, hr17y⟩ := hr17
            have hr17y : ∀ (q7 q8 : Nat → Option Nat) (s9 : List Int), TXq P13 sa b15 s9 → s9.length ≤ 16 → CHS s9 → VALq P18 sa q7 q8 (r17.getD 0) (qText s9) := hr17y
            have hr17 : (EX P13 P18) ∧ (PV sa P18) ∧ (KPx True P13 P18) ∧ (NN P18 1 r17) := hr17
            obtain ⟨hr17_0, hr17_1, hr17_2, hr17_3⟩ := hr17
            have kpz19 : KPx True κ.2.2.2.2 P18 := kpz14.trans hr17_2
            obtain ⟨b20, rfl, tb20⟩ := hr17_3
            have svz21 : SV ad P18 (κ.2.1 0) (κ.2.1 1) (κ.2.2.2.1 6) (κ.2.2.2.1 7) (κ.2.2.2.1 8) (κ.2.2.2.1 13) (κ.2.2.2.1 15) (κ.2.2.2.1 17) (κ.1 1).toInt := svz16.ex hr17_0
            refine c_callVv (n := 4) (As := [.int 1, .int k0, .int 0, .ref b20]) (rest := []) C hP hS hl.1 (NX4_add l D cy ad A sz0 sa (tP (tP (tP (tP κ P2) P7) P13) P18) H.size (SLT H) C.f (fun q h => C.a q (Nat.le_trans hS.1 h)) (1 : Int32) k0 (0 : Int32) (some b20) (nt_s tb20) svz21 (vX4_quoted_18 κ hpre_3 hpre_4)) ⟨cw_509, cw_512, by decide +kernel⟩ ⟨cw_510, cw_511, cw_484⟩ rfl (hP.recvS (k := 2) (ci := 6) C.K rfl rfl) rfl rfl (lv_room (Nat.le_of_ble_eq_true rfl)) ⟨Nat.le_of_ble_eq_true rfl, Nat.le_of_ble_eq_true rfl⟩ ⟨(vX4_quoted_19 ad κ k0 x5 y6 P7 r10 nb15 hpre_1 hpre_2 hpre_5 hpre_6 ex5 tx5 hi12_0 hi12_1 hi12_2 c8 c9 hr10 c11 leb15), (vX4_quoted_20 ad κ k0 x5 y6 P7 r10 nb15 hpre_1 hpre_2 hpre_5 hpre_6 ex5 tx5 hi12_0 hi12_1 hi12_2 c8 c9 hr10 c11 leb15)⟩ dX4_quoted_85 (fun u H locs hr22 hP hS => ?_)
            obtain ⟨n23, F24, F25, F26, Z27⟩ := u
            have hP : CH D cy ad A (tQ (tA (tA (tA (tI (tP (tP (tP (tP κ P2) P7) P13) P18) 7 n23) 10 F24) 11 F25) 12 F26) 13 Z27) H := hP
            obtain ⟨hr22, hr22y⟩ := hr22
            have hr22y : (κ.1 7).toInt < 41 → ADc (κ.2.2.1 10) (κ.2.2.1 11) (κ.2.2.1 12) (κ.1 7) F24 F25 F26 n23 (1 : Int32) k0 (0 : Int32) := hr22y
            have hr22 : (SV ad P18 (κ.2.1 0) (κ.2.1 1) (κ.2.2.2.1 6) (κ.2.2.2.1 7) (κ.2.2.2.1 8) Z27 (κ.2.2.2.1 15) (κ.2.2.2.1 17) (κ.1 1).toInt) ∧ (0 ≤ n23.toInt ∧ n23.toInt ≤ 41) := hr22
            obtain ⟨hr22_0, hr22_1⟩ := hr22
            obtain ⟨hr22_1_0, hr22_1_1⟩ := hr22_1
            refine lv_iload_n C.x C.b dX4_quoted_88 rfl (lv_at hl 0 rfl) ?_
            refine lv_iconst (v := 1) C.x C.b dX4_quoted_89 (by decide +kernel) ?_
            refine lv_iadd C.x C.b dX4_quoted_90 ?_
            refine lv_topi (fun x28 ex28 => ?_)
            have tx28 : x28.toInt = y6.toInt + 1 := (vX4_quoted_21 ad κ k0 x5 y6 P7 r10 nb15 x28 hpre_1 hpre_2 hpre_5 hpre_6 ex5 tx5 hi12_0 hi12_1 hi12_2 c8 c9 hr10 c11 leb15 ex28)
            have hP : CH D cy ad A (tQ (tA (tA (tA (tI (tP κ P18) 7 n23) 10 F24) 11 F25) 12 F26) 13 Z27) H := CH.cong hP rfl rfl rfl rfl rfl rfl rfl rfl rfl rfl rfl rfl rfl rfl rfl rfl rfl rfl rfl rfl rfl rfl rfl rfl rfl rfl rfl
            exact c_reti C hsz hsl ⟨P18, n23, F24, F25, F26, Z27, x28⟩ ⟨⟨(((hr1_0.trans hf12_0).trans hr12_0).trans hr17_0), hr17_1, kpz19, hr22_0, rfl, (vX4_quoted_22 ad κ k0 x5 y6 P7 r10 nb15 n23 x28 hpre_1 hpre_2 hpre_5 hpre_6 ex5 tx5 hi12_0 hi12_1 hi12_2 c8 c9 hr10 c11 leb15 hr22_1_0 hr22_1_1 ex28 tx28)⟩, (vX4_quoted_23 ad sa κ k0 P2 x5 y6 P7 r10 P13 b15 nb15 P18 b20 n23 F24 F25 F26 x28 hPV hSV hpre_0 hpre_1 hpre_2 hpre_3 hpre_4 hpre_5 hpre_6 hr1_0 hr1_2 hr1y hr1_3 ex5 tx5 hi12_0 hi12_1 hi12_2 hf12_0 hf12_2 hi12y_0 hi12y_1 c8 c9 hr10 c11 hr12_0 hr12_2 leb15 hr12y hr17_0 hr17_2 hr17y hr22y hr22_1_0 hr22_1_1 ex28 tx28)⟩ hP hS ⟨(vX4_quoted_24 ad κ k0 x5 y6 P7 r10 nb15 x28 hpre_1 hpre_2 hpre_5 hpre_6 ex5 tx5 hi12_0 hi12_1 hi12_2 c8 c9 hr10 c11 leb15 ex28 tx28), (vX4_quoted_25 ad κ k0 x5 y6 P7 r10 nb15 x28 hpre_1 hpre_2 hpre_5 hpre_6 ex5 tx5 hi12_0 hi12_1 hi12_2 c8 c9 hr10 c11 leb15 ex28 tx28)⟩ ⟨(vX4_quoted_26 ad κ k0 x5 y6 P7 r10 nb15 x28 hpre_1 hpre_2 hpre_5 hpre_6 ex5 tx5 hi12_0 hi12_1 hi12_2 c8 c9 hr10 c11 leb15 ex28 tx28), (vX4_quoted_27 ad κ k0 x5 y6 P7 r10 nb15 x28 hpre_1 hpre_2 hpre_5 hpre_6 ex5 tx5 hi12_0 hi12_1 hi12_2 c8 c9 hr10 c11 leb15 ex28 tx28)⟩ dX4_quoted_91
          · have c11 : 8 < r10.toInt := by have h := z_nle c11; rw [show (8 : Int32).toInt = 8 from by decide +kernel] at h; exact h
            refine lv_iconst (v := (-1)) C.x C.b dX4_quoted_69 (by decide +kernel) ?_
            have hP : CH D cy ad A (tQ (tA (tA (tA (tI (tP κ P7) 7 (κ.1 7)) 10 (κ.2.2.1 10)) 11 (κ.2.2.1 11)) 12 (κ.2.2.1 12)) 13 (κ.2.2.2.1 13)) H := CH.cong hP rfl rfl rfl rfl rfl rfl rfl rfl rfl rfl rfl rfl rfl rfl rfl rfl rfl rfl rfl rfl rfl rfl rfl rfl rfl rfl rfl
            exact c_reti C hsz hsl ⟨P7, (κ.1 7), (κ.2.2.1 10), (κ.2.2.1 11), (κ.2.2.1 12), (κ.2.2.2.1 13), (-1)⟩ ⟨⟨(hr1_0.trans hf12_0), hf12_1, hf12_2, hf12_3, rfl, (vX4_quoted_28 ad κ k0 x5 y6 P7 r10 hpre_1 hpre_2 hpre_3 hpre_4 hpre_5 hpre_6 ex5 tx5 hi12_0 hi12_1 hi12_2 c8 c9 hr10 c11)⟩, (vX4_quoted_29 ad sa κ k0 P2 x5 y6 P7 r10 hPV hSV hpre_0 hpre_1 hpre_2 hpre_3 hpre_4 hpre_5 hpre_6 hr1_0 hr1_2 hr1y hr1_3 ex5 tx5 hi12_0 hi12_1 hi12_2 hf12_0 hf12_2 hi12y_0 hi12y_1 c8 c9 hr10 c11)⟩ hP hS ⟨(vX4_quoted_30 ad κ k0 x5 y6 P7 r10 hpre_1 hpre_2 hpre_5 hpre_6 ex5 tx5 hi12_0 hi12_1 hi12_2 c8 c9 hr10 c11), (vX4_quoted_31 ad κ k0 x5 y6 P7 r10 hpre_1 hpre_2 hpre_5 hpre_6 ex5 tx5 hi12_0 hi12_1 hi12_2 c8 c9 hr10 c11)⟩ ⟨(vX4_quoted_32 ad κ k0 x5 y6 P7 r10 hpre_1 hpre_2 hpre_5 hpre_6 ex5 tx5 hi12_0 hi12_1 hi12_2 c8 c9 hr10 c11), (vX4_quoted_33 ad κ k0 x5 y6 P7 r10 hpre_1 hpre_2 hpre_5 hpre_6 ex5 tx5 hi12_0 hi12_1 hi12_2 c8 c9 hr10 c11)⟩ dX4_quoted_70
      · have c8 : y6.toInt < (κ.1 6).toInt := by have h := z_nle c8; exact h
        refine lv_aload_n C.x C.b dX4_quoted_20 rfl (lv_at hl 1 rfl) ?_
        refine lv_iload_n C.x C.b dX4_quoted_21 rfl (lv_at hl 0 rfl) ?_
        refine c_callVi (n := 1) (As := [.int y6]) (rest := []) C hP hS hl.1 (NX4_peek l D cy ad A sz0 sa (tP (tP κ P2) P7) H.size (SLT H) C.f (fun q h => C.a q (Nat.le_trans hS.1 h)) y6 (vX4_quoted_34 κ hpre_0)) ⟨cw_481, cw_485, by decide +kernel⟩ ⟨cw_482, cw_483, cw_484⟩ rfl (hP.recvS (k := 2) (ci := 6) C.K rfl rfl) rfl rfl (lv_room (Nat.le_of_ble_eq_true rfl)) ⟨Nat.le_of_ble_eq_true rfl, Nat.le_of_ble_eq_true rfl⟩ ⟨(vX4_quoted_35 ad κ k0 x5 y6 P7 hpre_1 hpre_2 hpre_5 hpre_6 ex5 tx5 hi12_0 hi12_1 hi12_2 c8), (vX4_quoted_36 ad κ k0 x5 y6 P7 hpre_1 hpre_2 hpre_5 hpre_6 ex5 tx5 hi12_0 hi12_1 hi12_2 c8)⟩ dX4_quoted_22 (fun r29 u H locs hr29 hP hS => ?_)
        obtain ⟨hr29, hr29y⟩ := hr29
        have hr29y : (κ.1 6).toInt ≤ 40 → r29.toInt = tx (κ.2.2.1 9) (κ.1 6) y6.toInt := hr29y
        have hr29 : (0 ≤ r29.toInt ∧ r29.toInt ≤ 126 ∧ (¬ r29.toInt = 0 → 0 ≤ y6.toInt ∧ y6.toInt < (κ.1 6).toInt)) := hr29
        obtain ⟨hr29_0, hr29_1, hr29_2⟩ := hr29
        refine lv_bipush (v := 39) C.x C.b dX4_quoted_25 (by decide +kernel) ?_
        refine lv_icmp_eq (tgt := 49) C.x C.b dX4_quoted_27 (by decide) (fun c30 => ?_) (fun c30 => ?_)
        · have c30 : r29.toInt = 39 := by have h := z_eq c30; rw [show (39 : Int32).toInt = 39 from by decide +kernel] at h; exact h
          refine lv_iload_n C.x C.b dX4_quoted_49 rfl (lv_at hl 0 rfl) ?_
          refine lv_aload_n C.x C.b dX4_quoted_50 rfl (lv_at hl 1 rfl) ?_
          refine cg_X4_1 (v := (κ.1 6)) C hP rfl cw_474 dX4_quoted_51 ?_
          refine lv_icmp_ge (tgt := 69) C.x C.b dX4_quoted_54 (by decide) (fun c31 => ?_) (fun c31 => ?_)
          · have c31 : (κ.1 6).toInt ≤ y6.toInt := by have h := z_le c31; exact h
            refine lv_iconst (v := (-1)) C.x C.b dX4_quoted_69 (by decide +kernel) ?_
            have hP : CH D cy ad A (tQ (tA (tA (tA (tI (tP κ P7) 7 (κ.1 7)) 10 (κ.2.2.1 10)) 11 (κ.2.2.1 11)) 12 (κ.2.2.1 12)) 13 (κ.2.2.2.1 13)) H := CH.cong hP rfl rfl rfl rfl rfl rfl rfl rfl rfl rfl rfl rfl rfl rfl rfl rfl rfl rfl rfl rfl rfl rfl rfl rfl rfl rfl rfl
            exact c_reti C hsz hsl ⟨P7, (κ.1 7), (κ.2.2.1 10), (κ.2.2.1 11), (κ.2.2.1 12), (κ.2.2.2.1 13), (-1)⟩ ⟨⟨(hr1_0.trans hf12_0), hf12_1, hf12_2, hf12_3, rfl, (vX4_quoted_37 ad κ k0 x5 y6 P7 r29 hpre_1 hpre_2 hpre_3 hpre_4 hpre_5 hpre_6 ex5 tx5 hi12_0 hi12_1 hi12_2 c8 hr29_0 hr29_1 hr29_2 c30 c31)⟩, (vX4_quoted_38 ad sa κ k0 P2 x5 y6 P7 r29 hPV hSV hpre_0 hpre_1 hpre_2 hpre_3 hpre_4 hpre_5 hpre_6 hr1_0 hr1_2 hr1y hr1_3 ex5 tx5 hi12_0 hi12_1 hi12_2 hf12_0 hf12_2 hi12y_0 hi12y_1 c8 hr29y hr29_0 hr29_1 hr29_2 c30 c31)⟩ hP hS ⟨(vX4_quoted_39 ad κ k0 x5 y6 P7 r29 hpre_1 hpre_2 hpre_5 hpre_6 ex5 tx5 hi12_0 hi12_1 hi12_2 c8 hr29_0 hr29_1 hr29_2 c30 c31), (vX4_quoted_40 ad κ k0 x5 y6 P7 r29 hpre_1 hpre_2 hpre_5 hpre_6 ex5 tx5 hi12_0 hi12_1 hi12_2 c8 hr29_0 hr29_1 hr29_2 c30 c31)⟩ ⟨(vX4_quoted_41 ad κ k0 x5 y6 P7 r29 hpre_1 hpre_2 hpre_5 hpre_6 ex5 tx5 hi12_0 hi12_1 hi12_2 c8 hr29_0 hr29_1 hr29_2 c30 c31), (vX4_quoted_42 ad κ k0 x5 y6 P7 r29 hpre_1 hpre_2 hpre_5 hpre_6 ex5 tx5 hi12_0 hi12_1 hi12_2 c8 hr29_0 hr29_1 hr29_2 c30 c31)⟩ dX4_quoted_70
          · have c31 : y6.toInt < (κ.1 6).toInt := by have h := z_nle c31; exact h
            refine lv_aload_n C.x C.b dX4_quoted_57 rfl (lv_at hl 1 rfl) ?_
            refine cg_X4_7 C hP cw_471 dX4_quoted_58 ?_
            refine c_callVi (n := 0) (As := []) (rest := []) C hP hS hl.1 (NJ4_length_8abf5 l D cy ad A sz0 sa (tP (tP κ P2) P7) H.size (SLT H) C.f (fun q h => C.a q (Nat.le_trans hS.1 h)) (ad 18) (hf12_0.T (hr1_0.T hSV.a18 (by decide)) (by decide)) hf12_1) ⟨cw_527, cw_313, by decide +kernel⟩ ⟨cw_312, cw_528, cw_8⟩ rfl (hP.recvP (t := 12) (ci := 1) C.K (t20 (a := (ad 18)) (t := 12) (hf12_0.T (hr1_0.T hSV.a18 (by decide)) (by decide))) (by decide) rfl rfl) rfl rfl (lv_room (Nat.le_of_ble_eq_true rfl)) ⟨Nat.le_of_ble_eq_true rfl, Nat.le_of_ble_eq_true rfl⟩ ⟨(vX4_quoted_43 ad κ k0 x5 y6 P7 r29 hpre_1 hpre_2 hpre_5 hpre_6 ex5 tx5 hi12_0 hi12_1 hi12_2 c8 hr29_0 hr29_1 hr29_2 c30 c31), (vX4_quoted_44 ad κ k0 x5 y6 P7 r29 hpre_1 hpre_2 hpre_5 hpre_6 ex5 tx5 hi12_0 hi12_1 hi12_2 c8 hr29_0 hr29_1 hr29_2 c30 c31)⟩ dX4_quoted_61 (fun r32 u H locs hr32 hP hS => ?_)
            have hr32 : (r32.toInt = (oI P7 25 (ad 18)).toInt) := hr32
            refine lv_bipush (v := 8) C.x C.b dX4_quoted_64 (by decide +kernel) ?_
            refine lv_icmp_le (tgt := 71) C.x C.b dX4_quoted_66 (by decide) (fun c33 => ?_) (fun c33 => ?_)
            · have c33 : r32.toInt ≤ 8 := by have h := z_le c33; rw [show (8 : Int32).toInt = 8 from by decide +kernel] at h; exact h
              refine lv_aload_n C.x C.b dX4_quoted_71 rfl (lv_at hl 1 rfl) ?_
              refine lv_iconst (v := 1) C.x C.b dX4_quoted_72 (by decide +kernel) ?_
              refine lv_iload_n C.x C.b dX4_quoted_73 rfl (lv_at hl 2 rfl) ?_
              refine lv_iconst (v := 0) C.x C.b dX4_quoted_74 (by decide +kernel) ?_
              refine lv_aload_n C.x C.b dX4_quoted_75 rfl (lv_at hl 1 rfl) ?_
              refine cg_X4_7 C hP cw_471 dX4_quoted_76 ?_
              refine c_callVq (n := 0) (As := []) (rest := [.int 0, .int k0, .int 1, .ref (ad 2)]) C hP hS hl.1 (NJ4_toString_0e30d l D cy ad A sz0 sa (tP (tP κ P2) P7) H.size (SLT H) C.f (fun q h => C.a q (Nat.le_trans hS.1 h)) (ad 18) (hf12_0.T (hr1_0.T hSV.a18 (by decide)) (by decide)) hf12_1 (vX4_quoted_45 ad κ k0 x5 y6 P7 r29 r32 hpre_1 hpre_2 hpre_5 hpre_6 ex5 tx5 hi12_0 hi12_1 hi12_2 c8 hr29_0 hr29_1 hr29_2 c30 c31 hr32 c33)) ⟨cw_529, cw_292, by decide +kernel⟩ ⟨cw_290, cw_291, cw_8⟩ rfl (hP.recvP (t := 12) (ci := 1) C.K (t20 (a := (ad 18)) (t := 12) (hf12_0.T (hr1_0.T hSV.a18 (by decide)) (by decide))) (by decide) rfl rfl) rfl rfl (lv_room (Nat.le_of_ble_eq_true rfl)) ⟨Nat.le_of_ble_eq_true rfl, Nat.le_of_ble_eq_true rfl⟩ ⟨(vX4_quoted_46 ad κ k0 x5 y6 P7 r29 r32 hpre_1 hpre_2 hpre_5 hpre_6 ex5 tx5 hi12_0 hi12_1 hi12_2 c8 hr29_0 hr29_1 hr29_2 c30 c31 hr32 c33), (vX4_quoted_47 ad κ k0 x5 y6 P7 r29 r32 hpre_1 hpre_2 hpre_5 hpre_6 ex5 tx5 hi12_0 hi12_1 hi12_2 c8 hr29_0 hr29_1 hr29_2 c30 c31 hr32 c33)⟩ dX4_quoted_79 (fun r34 u H locs hr34 hP hS => ?_)
              obtain ⟨P35, rfl⟩ : ∃ z, z = u := ⟨_, rfl⟩
              have hP : CH D cy ad A (tP (tP (tP κ P2) P7) P35) H := hP
              obtain ⟨hr34, hr34y⟩ := hr34
              have hr34y : ∀ s9 : List Int, SBX P7 (ad 18) s9 → TXq P35 sa (r34.getD 0) s9 := hr34y
              have hr34 : (EX P7 P35) ∧ (PV sa P35) ∧ (KPx True P7 P35) ∧ (∃ b n, r34 = some b ∧ SL P35 sa b n ∧ ((n : Nat) : Int) = (oI P7 25 (ad 18)).toInt) := hr34
              obtain ⟨hr34_0, hr34_1, hr34_2, hr34_3⟩ := hr34
              have kpz36 : KPx True κ.2.2.2.2 P35 := hf12_2.trans hr34_2
              obtain ⟨b37, nb37, rfl, tb37, leb37⟩ := hr34_3
              have svz38 : SV ad P35 (κ.2.1 0) (κ.2.1 1) (κ.2.2.2.1 6) (κ.2.2.2.1 7) (κ.2.2.2.1 8) (κ.2.2.2.1 13) (κ.2.2.2.1 15) (κ.2.2.2.1 17) (κ.1 1).toInt := hf12_3.ex hr34_0
              refine c_callSq (C2 := "") (b := 0) (n := 1) (As := [.ref b37]) (rest := [.int 0, .int k0, .int 1, .ref (ad 2)]) C hP hS hl.1 (NX10_ofText l D cy ad A sz0 sa (tP (tP (tP κ P2) P7) P35) H.size (SLT H) C.f (fun q h => C.a q (Nat.le_trans hS.1 h)) b37 tb37.sok hr34_1) ⟨cw_530, cw_339, by decide +kernel⟩ ⟨cw_338, cw_40⟩ rfl rfl (lv_room (Nat.le_of_ble_eq_true rfl)) ⟨Nat.le_of_ble_eq_true rfl, Nat.le_of_ble_eq_true rfl⟩ ⟨(vX4_quoted_48 ad κ k0 x5 y6 P7 r29 r32 nb37 hpre_1 hpre_2 hpre_5 hpre_6 ex5 tx5 hi12_0 hi12_1 hi12_2 c8 hr29_0 hr29_1 hr29_2 c30 c31 hr32 c33 leb37), (vX4_quoted_49 ad κ k0 x5 y6 P7 r29 r32 nb37 hpre_1 hpre_2 hpre_5 hpre_6 ex5 tx5 hi12_0 hi12_1 hi12_2 c8 hr29_0 hr29_1 hr29_2 c30 c31 hr32 c33 leb37)⟩ dX4_quoted_82 (fun r39 u H locs hr39 hP hS => ?_)
              obtain ⟨P40, rfl⟩ : ∃ z, z = u := ⟨_, rfl⟩
              have hP : CH D cy ad A (tP (tP (tP (tP κ P2) P7) P35) P40) H := hP
              obtain ⟨hr39, hr39y⟩ := hr39
              have hr39y : ∀ (q7 q8 : Nat → Option Nat) (s9 : List Int), TXq P35 sa b37 s9 → s9.length ≤ 16 → CHS s9 → VALq P40 sa q7 q8 (r39.getD 0) (qText s9) := hr39y
              have hr39 : (EX P35 P40) ∧ (PV sa P40) ∧ (KPx True P35 P40) ∧ (NN P40 1 r39) := hr39
              obtain ⟨hr39_0, hr39_1, hr39_2, hr39_3⟩ := hr39
              have kpz41 : KPx True κ.2.2.2.2 P40 := kpz36.trans hr39_2
              obtain ⟨b42, rfl, tb42⟩ := hr39_3
              have svz43 : SV ad P40 (κ.2.1 0) (κ.2.1 1) (κ.2.2.2.1 6) (κ.2.2.2.1 7) (κ.2.2.2.1 8) (κ.2.2.2.1 13) (κ.2.2.2.1 15) (κ.2.2.2.1 17) (κ.1 1).toInt := svz38.ex hr39_0
              refine c_callVv (n := 4) (As := [.int 1, .int k0, .int 0, .ref b42]) (rest := []) C hP hS hl.1 (NX4_add l D cy ad A sz0 sa (tP (tP (tP (tP κ P2) P7) P35) P40) H.size (SLT H) C.f (fun q h => C.a q (Nat.le_trans hS.1 h)) (1 : Int32) k0 (0 : Int32) (some b42) (nt_s tb42) svz43 (vX4_quoted_18 κ hpre_3 hpre_4)) ⟨cw_509, cw_512, by decide +kernel⟩ ⟨cw_510, cw_511, cw_484⟩ rfl (hP.recvS (k := 2) (ci := 6) C.K rfl rfl) rfl rfl (lv_room (Nat.le_of_ble_eq_true rfl)) ⟨Nat.le_of_ble_eq_true rfl, Nat.le_of_ble_eq_true rfl⟩ ⟨(vX4_quoted_50 ad κ k0 x5 y6 P7 r29 r32 nb37 hpre_1 hpre_2 hpre_5 hpre_6 ex5 tx5 hi12_0 hi12_1 hi12_2 c8 hr29_0 hr29_1 hr29_2 c30 c31 hr32 c33 leb37), (vX4_quoted_51 ad κ k0 x5 y6 P7 r29 r32 nb37 hpre_1 hpre_2 hpre_5 hpre_6 ex5 tx5 hi12_0 hi12_1 hi12_2 c8 hr29_0 hr29_1 hr29_2 c30 c31 hr32 c33 leb37)⟩ dX4_quoted_85 (fun u H locs hr44 hP hS => ?_)
              obtain ⟨n45, F46, F47, F48, Z49⟩ := u
              have hP : CH D cy ad A (tQ (tA (tA (tA (tI (tP (tP (tP (tP κ P2) P7) P35) P40) 7 n45) 10 F46) 11 F47) 12 F48) 13 Z49) H := hP
              obtain ⟨hr44, hr44y⟩ := hr44
              have hr44y : (κ.1 7).toInt < 41 → ADc (κ.2.2.1 10) (κ.2.2.1 11) (κ.2.2.1 12) (κ.1 7) F46 F47 F48 n45 (1 : Int32) k0 (0 : Int32) := hr44y
              have hr44 : (SV ad P40 (κ.2.1 0) (κ.2.1 1) (κ.2.2.2.1 6) (κ.2.2.2.1 7) (κ.2.2.2.1 8) Z49 (κ.2.2.2.1 15) (κ.2.2.2.1 17) (κ.1 1).toInt) ∧ (0 ≤ n45.toInt ∧ n45.toInt ≤ 41) := hr44
              obtain ⟨hr44_0, hr44_1⟩ := hr44
              obtain ⟨hr44_1_0, hr44_1_1⟩ := hr44_1
              refine lv_iload_n C.x C.b dX4_quoted_88 rfl (lv_at hl 0 rfl) ?_
              refine lv_iconst (v := 1) C.x C.b dX4_quoted_89 (by decide +kernel) ?_
              refine lv_iadd C.x C.b dX4_quoted_90 ?_
              refine lv_topi (fun x50 ex50 => ?_)
              have tx50 : x50.toInt = y6.toInt + 1 := (vX4_quoted_52 ad κ k0 x5 y6 P7 r29 r32 nb37 x50 hpre_1 hpre_2 hpre_5 hpre_6 ex5 tx5 hi12_0 hi12_1 hi12_2 c8 hr29_0 hr29_1 hr29_2 c30 c31 hr32 c33 leb37 ex50)
              have hP : CH D cy ad A (tQ (tA (tA (tA (tI (tP κ P40) 7 n45) 10 F46) 11 F47) 12 F48) 13 Z49) H := CH.cong hP rfl rfl rfl rfl rfl rfl rfl rfl rfl rfl rfl rfl rfl rfl rfl rfl rfl rfl rfl rfl rfl rfl rfl rfl rfl rfl rfl
              exact c_reti C hsz hsl ⟨P40, n45, F46, F47, F48, Z49, x50⟩ ⟨⟨(((hr1_0.trans hf12_0).trans hr34_0).trans hr39_0), hr39_1, kpz41, hr44_0, rfl, (vX4_quoted_53 ad κ k0 x5 y6 P7 r29 r32 nb37 n45 x50 hpre_1 hpre_2 hpre_5 hpre_6 ex5 tx5 hi12_0 hi12_1 hi12_2 c8 hr29_0 hr29_1 hr29_2 c30 c31 hr32 c33 leb37 hr44_1_0 hr44_1_1 ex50 tx50)⟩, (vX4_quoted_54 ad sa κ k0 P2 x5 y6 P7 r29 r32 P35 b37 nb37 P40 b42 n45 F46 F47 F48 x50 hPV hSV hpre_0 hpre_1 hpre_2 hpre_3 hpre_4 hpre_5 hpre_6 hr1_0 hr1_2 hr1y hr1_3 ex5 tx5 hi12_0 hi12_1 hi12_2 hf12_0 hf12_2 hi12y_0 hi12y_1 c8 hr29y hr29_0 hr29_1 hr29_2 c30 c31 hr32 c33 hr34_0 hr34_2 leb37 hr34y hr39_0 hr39_2 hr39y hr44y hr44_1_0 hr44_1_1 ex50 tx50)⟩ hP hS ⟨(vX4_quoted_55 ad κ k0 x5 y6 P7 r29 r32 nb37 x50 hpre_1 hpre_2 hpre_5 hpre_6 ex5 tx5 hi12_0 hi12_1 hi12_2 c8 hr29_0 hr29_1 hr29_2 c30 c31 hr32 c33 leb37 ex50 tx50), (vX4_quoted_56 ad κ k0 x5 y6 P7 r29 r32 nb37 x50 hpre_1 hpre_2 hpre_5 hpre_6 ex5 tx5 hi12_0 hi12_1 hi12_2 c8 hr29_0 hr29_1 hr29_2 c30 c31 hr32 c33 leb37 ex50 tx50)⟩ ⟨(vX4_quoted_57 ad κ k0 x5 y6 P7 r29 r32 nb37 x50 hpre_1 hpre_2 hpre_5 hpre_6 ex5 tx5 hi12_0 hi12_1 hi12_2 c8 hr29_0 hr29_1 hr29_2 c30 c31 hr32 c33 leb37 ex50 tx50), (vX4_quoted_58 ad κ k0 x5 y6 P7 r29 r32 nb37 x50 hpre_1 hpre_2 hpre_5 hpre_6 ex5 tx5 hi12_0 hi12_1 hi12_2 c8 hr29_0 hr29_1 hr29_2 c30 c31 hr32 c33 leb37 ex50 tx50)⟩ dX4_quoted_91
            · have c33 : 8 < r32.toInt := by have h := z_nle c33; rw [show (8 : Int32).toInt = 8 from by decide +kernel] at h; exact h
              refine lv_iconst (v := (-1)) C.x C.b dX4_quoted_69 (by decide +kernel) ?_
              have hP : CH D cy ad A (tQ (tA (tA (tA (tI (tP κ P7) 7 (κ.1 7)) 10 (κ.2.2.1 10)) 11 (κ.2.2.1 11)) 12 (κ.2.2.1 12)) 13 (κ.2.2.2.1 13)) H := CH.cong hP rfl rfl rfl rfl rfl rfl rfl rfl rfl rfl rfl rfl rfl rfl rfl rfl rfl rfl rfl rfl rfl rfl rfl rfl rfl rfl rfl
              exact c_reti C hsz hsl ⟨P7, (κ.1 7), (κ.2.2.1 10), (κ.2.2.1 11), (κ.2.2.1 12), (κ.2.2.2.1 13), (-1)⟩ ⟨⟨(hr1_0.trans hf12_0), hf12_1, hf12_2, hf12_3, rfl, (vX4_quoted_59 ad κ k0 x5 y6 P7 r29 r32 hpre_1 hpre_2 hpre_3 hpre_4 hpre_5 hpre_6 ex5 tx5 hi12_0 hi12_1 hi12_2 c8 hr29_0 hr29_1 hr29_2 c30 c31 hr32 c33)⟩, (vX4_quoted_60 ad sa κ k0 P2 x5 y6 P7 r29 r32 hPV hSV hpre_0 hpre_1 hpre_2 hpre_3 hpre_4 hpre_5 hpre_6 hr1_0 hr1_2 hr1y hr1_3 ex5 tx5 hi12_0 hi12_1 hi12_2 hf12_0 hf12_2 hi12y_0 hi12y_1 c8 hr29y hr29_0 hr29_1 hr29_2 c30 c31 hr32 c33)⟩ hP hS ⟨(vX4_quoted_61 ad κ k0 x5 y6 P7 r29 r32 hpre_1 hpre_2 hpre_5 hpre_6 ex5 tx5 hi12_0 hi12_1 hi12_2 c8 hr29_0 hr29_1 hr29_2 c30 c31 hr32 c33), (vX4_quoted_62 ad κ k0 x5 y6 P7 r29 r32 hpre_1 hpre_2 hpre_5 hpre_6 ex5 tx5 hi12_0 hi12_1 hi12_2 c8 hr29_0 hr29_1 hr29_2 c30 c31 hr32 c33)⟩ ⟨(vX4_quoted_63 ad κ k0 x5 y6 P7 r29 r32 hpre_1 hpre_2 hpre_5 hpre_6 ex5 tx5 hi12_0 hi12_1 hi12_2 c8 hr29_0 hr29_1 hr29_2 c30 c31 hr32 c33), (vX4_quoted_64 ad κ k0 x5 y6 P7 r29 r32 hpre_1 hpre_2 hpre_5 hpre_6 ex5 tx5 hi12_0 hi12_1 hi12_2 c8 hr29_0 hr29_1 hr29_2 c30 c31 hr32 c33)⟩ dX4_quoted_70
        · have c30 : ¬ r29.toInt = 39 := by have h := z_ne c30; rw [show (39 : Int32).toInt = 39 from by decide +kernel] at h; exact h
          refine lv_aload_n C.x C.b dX4_quoted_30 rfl (lv_at hl 1 rfl) ?_
          refine cg_X4_7 C hP cw_471 dX4_quoted_31 ?_
          refine lv_aload_n C.x C.b dX4_quoted_34 rfl (lv_at hl 1 rfl) ?_
          refine lv_iload_n C.x C.b dX4_quoted_35 rfl (lv_at hl 0 rfl) ?_
          refine c_callVi (n := 1) (As := [.int y6]) (rest := [.ref (ad 18)]) C hP hS hl.1 (NX4_peek l D cy ad A sz0 sa (tP (tP κ P2) P7) H.size (SLT H) C.f (fun q h => C.a q (Nat.le_trans hS.1 h)) y6 (vX4_quoted_34 κ hpre_0)) ⟨cw_481, cw_485, by decide +kernel⟩ ⟨cw_482, cw_483, cw_484⟩ rfl (hP.recvS (k := 2) (ci := 6) C.K rfl rfl) rfl rfl (lv_room (Nat.le_of_ble_eq_true rfl)) ⟨Nat.le_of_ble_eq_true rfl, Nat.le_of_ble_eq_true rfl⟩ ⟨(vX4_quoted_65 ad κ k0 x5 y6 P7 r29 hpre_1 hpre_2 hpre_5 hpre_6 ex5 tx5 hi12_0 hi12_1 hi12_2 c8 hr29_0 hr29_1 hr29_2 c30), (vX4_quoted_66 ad κ k0 x5 y6 P7 r29 hpre_1 hpre_2 hpre_5 hpre_6 ex5 tx5 hi12_0 hi12_1 hi12_2 c8 hr29_0 hr29_1 hr29_2 c30)⟩ dX4_quoted_36 (fun r51 u H locs hr51 hP hS => ?_)
          obtain ⟨hr51, hr51y⟩ := hr51
          have hr51y : (κ.1 6).toInt ≤ 40 → r51.toInt = tx (κ.2.2.1 9) (κ.1 6) y6.toInt := hr51y
          have hr51 : (0 ≤ r51.toInt ∧ r51.toInt ≤ 126 ∧ (¬ r51.toInt = 0 → 0 ≤ y6.toInt ∧ y6.toInt < (κ.1 6).toInt)) := hr51
          obtain ⟨hr51_0, hr51_1, hr51_2⟩ := hr51
          refine c_callVq (n := 1) (As := [.int r51]) (rest := []) C hP hS hl.1 (NJ4_append_cf468 l D cy ad A sz0 sa (tP (tP κ P2) P7) H.size (SLT H) C.f (fun q h => C.a q (Nat.le_trans hS.1 h)) (ad 18) r51 (hf12_0.T (hr1_0.T hSV.a18 (by decide)) (by decide)) hf12_1 (vX4_quoted_67 ad κ k0 x5 y6 P7 r29 r51 hpre_1 hpre_2 hpre_5 hpre_6 ex5 tx5 hi12_0 hi12_1 hi12_2 c8 hr29_0 hr29_1 hr29_2 c30 hr51_0 hr51_1 hr51_2)) ⟨cw_526, cw_221, by decide +kernel⟩ ⟨cw_219, cw_220, cw_8⟩ rfl (hP.recvP (t := 12) (ci := 1) C.K (t20 (a := (ad 18)) (t := 12) (hf12_0.T (hr1_0.T hSV.a18 (by decide)) (by decide))) (by decide) rfl rfl) rfl rfl (lv_room (Nat.le_of_ble_eq_true rfl)) ⟨Nat.le_of_ble_eq_true rfl, Nat.le_of_ble_eq_true rfl⟩ ⟨(vX4_quoted_68 ad κ k0 x5 y6 P7 r29 r51 hpre_1 hpre_2 hpre_5 hpre_6 ex5 tx5 hi12_0 hi12_1 hi12_2 c8 hr29_0 hr29_1 hr29_2 c30 hr51_0 hr51_1 hr51_2), (vX4_quoted_69 ad κ k0 x5 y6 P7 r29 r51 hpre_1 hpre_2 hpre_5 hpre_6 ex5 tx5 hi12_0 hi12_1 hi12_2 c8 hr29_0 hr29_1 hr29_2 c30 hr51_0 hr51_1 hr51_2)⟩ dX4_quoted_39 (fun r52 u H locs hr52 hP hS => ?_)
          obtain ⟨P53, rfl⟩ : ∃ z, z = u := ⟨_, rfl⟩
          have hP : CH D cy ad A (tP (tP (tP κ P2) P7) P53) H := hP
          obtain ⟨hr52, hr52y⟩ := hr52
          have hr52y : ∀ s9 : List Int, SBX P7 (ad 18) s9 → r51.toInt < 128 → SBX P53 (ad 18) (s9 ++ [r51.toInt]) := hr52y
          have hr52 : (EX P7 P53) ∧ (PV sa P53) ∧ (KPx True P7 P53) ∧ (NN P53 12 r52) ∧ ((oI P53 25 (ad 18)).toInt = (oI P7 25 (ad 18)).toInt + 1 ∧ (gr1 ((oI P7 25 (ad 18)).toInt + 1) ≤ 1 ∧ gr70 ((oI P7 25 (ad 18)).toInt + 1) ≤ 70 ∧ ((oI P7 25 (ad 18)).toInt + 1 ≤ 16 → gr1 ((oI P7 25 (ad 18)).toInt + 1) = 0 ∧ gr70 ((oI P7 25 (ad 18)).toInt + 1) = 0) ∧ (16 < (oI P7 25 (ad 18)).toInt + 1 → gr1 ((oI P7 25 (ad 18)).toInt + 1) = 1 ∧ gr70 ((oI P7 25 (ad 18)).toInt + 1) = 70))) := hr52
          obtain ⟨hr52_0, hr52_1, hr52_2, hr52_3, hr52_4⟩ := hr52
          have kpz54 : KPx True κ.2.2.2.2 P53 := hf12_2.trans hr52_2
          obtain ⟨b55, rfl, tb55⟩ := hr52_3
          obtain ⟨hr52_4_0, ⟨hr52_4_1, hr52_4_2, hr52_4_3, hr52_4_4⟩⟩ := hr52_4
          have svz56 : SV ad P53 (κ.2.1 0) (κ.2.1 1) (κ.2.2.2.1 6) (κ.2.2.2.1 7) (κ.2.2.2.1 8) (κ.2.2.2.1 13) (κ.2.2.2.1 15) (κ.2.2.2.1 17) (κ.1 1).toInt := hf12_3.ex hr52_0
          refine lv_pop C.x C.b dX4_quoted_42 rfl ?_
          obtain ⟨x57, ex57⟩ : ∃ y : Int32, y = y6 + (1 : Int32) := ⟨_, rfl⟩
          have tx57 : x57.toInt = y6.toInt + 1 := (vX4_quoted_70 ad κ k0 x5 y6 P7 r29 r51 P53 x57 hpre_1 hpre_2 hpre_5 hpre_6 ex5 tx5 hi12_0 hi12_1 hi12_2 c8 hr29_0 hr29_1 hr29_2 c30 hr51_0 hr51_1 hr51_2 hr52_4_0 hr52_4_1 hr52_4_2 hr52_4_3 hr52_4_4 ex57)
          refine lv_iinc (v := x57) (lv' := [(2, .int x57), (0, .ref (ad 2)), (1, .int k0)]) C.x C.b dX4_quoted_43 hl (k := 0) rfl (by rw [ex57]; rfl) (by decide) rfl (fun ls hl => ?_)
          refine lv_goto (tgt := 12) C.x C.b dX4_quoted_46 (by decide) ?_
          have hP : CH D cy ad A (tP (tP κ P2) P53) H := CH.cong hP rfl rfl rfl rfl rfl rfl rfl rfl rfl rfl rfl rfl rfl rfl rfl rfl rfl rfl rfl rfl rfl rfl rfl rfl rfl rfl rfl
          refine W.widen (k := (x57.toInt - k0.toInt - 17).toNat) (n := (70 * (x57.toInt - k0.toInt - 17)).toNat) (vX4_quoted_74 ad κ k0 x5 y6 P7 r29 r51 P53 x57 hpre_1 hpre_2 hpre_5 hpre_6 ex5 tx5 hi12_0 hi12_1 hi12_2 c8 hr29_0 hr29_1 hr29_2 c30 hr51_0 hr51_1 hr51_2 hr52_4_0 hr52_4_1 hr52_4_2 hr52_4_3 hr52_4_4 ex57 tx57) (vX4_quoted_75 ad κ k0 x5 y6 P7 r29 r51 P53 x57 hpre_1 hpre_2 hpre_5 hpre_6 ex5 tx5 hi12_0 hi12_1 hi12_2 c8 hr29_0 hr29_1 hr29_2 c30 hr51_0 hr51_1 hr51_2 hr52_4_0 hr52_4_1 hr52_4_2 hr52_4_3 hr52_4_4 ex57 tx57) ?_
          exact ih12 x57 P53 _ _ _ (Nat.lt_of_lt_of_le (vX4_quoted_73 ad κ k0 x5 y6 P7 r29 r51 P53 x57 hpre_1 hpre_2 hpre_5 hpre_6 ex5 tx5 hi12_0 hi12_1 hi12_2 c8 hr29_0 hr29_1 hr29_2 c30 hr51_0 hr51_1 hr51_2 hr52_4_0 hr52_4_1 hr52_4_2 hr52_4_3 hr52_4_4 ex57 tx57) (Nat.le_of_lt_succ hn12)) (hf12_0.trans hr52_0) hr52_1 kpz54 svz56 ⟨(vX4_quoted_71 ad κ k0 x5 y6 P7 r29 r51 P53 x57 hpre_1 hpre_2 hpre_5 hpre_6 ex5 tx5 hi12_0 hi12_1 hi12_2 c8 hr29_0 hr29_1 hr29_2 c30 hr51_0 hr51_1 hr51_2 hr52_4_0 hr52_4_1 hr52_4_2 hr52_4_3 hr52_4_4 ex57 tx57), (vX4_quoted_72 ad sa κ k0 P2 x5 y6 P7 r29 r51 P53 x57 hPV hSV hpre_0 hpre_1 hpre_2 hpre_3 hpre_4 hpre_5 hpre_6 hr1_0 hr1_2 hr1y hr1_3 ex5 tx5 hi12_0 hi12_1 hi12_2 hf12_0 hf12_2 hi12y_0 hi12y_1 c8 hr29y hr29_0 hr29_1 hr29_2 c30 hr51y hr51_0 hr51_1 hr51_2 hr52_0 hr52_2 hr52y hr52_4_0 hr52_4_1 hr52_4_2 hr52_4_3 hr52_4_4 ex57 tx57)⟩ hP hS (lv_sub hl [0, 1, 2] rfl)
  have hP : CH D cy ad A (tP (tP κ P2) P2) H := CH.cong hP rfl rfl rfl rfl rfl rfl rfl rfl rfl rfl rfl rfl rfl rfl rfl rfl rfl rfl rfl rfl rfl rfl rfl rfl rfl rfl rfl
  refine W.widen (k := (x5.toInt - k0.toInt - 17).toNat) (n := (70 * (x5.toInt - k0.toInt - 17)).toNat) (vX4_quoted_76 k0 x5 hpre_5 hpre_6 ex5 tx5) (vX4_quoted_77 k0 x5 hpre_5 hpre_6 ex5 tx5) ?_
  exact lp12 ((41 - x5.toInt).toNat + 1) x5 P2 _ _ _ (Nat.lt_succ_self _) EX.rf hr1_1 kpz3 svz4 ⟨(vX4_quoted_3 ad k0 P2 x5 hpre_5 hpre_6 hr1_3 ex5 tx5), (vX4_quoted_4 ad sa κ k0 P2 x5 hPV hSV hpre_0 hpre_1 hpre_2 hpre_3 hpre_4 hpre_5 hpre_6 hr1_0 hr1_2 hr1y hr1_3 ex5 tx5)⟩ hP hS (lv_sub hl [0, 1, 2] rfl)

-- pre:X4_peek@2 @2
theorem vX4_token_1 (κ : KS) (hpre_0 : L9 (κ.2.2.1 9)) : L9 (κ.2.2.1 9) := by
  first | assumption | omega | (subst_vars; omega) | trivial
-- pre:X4_sign@48 @48
theorem vX4_token_2 (κ : KS) (k0 : Int32) (r1 : Int32) (hpre_0 : L9 (κ.2.2.1 9)) (hpre_1 : 0 ≤ (κ.1 6).toInt) (hpre_2 : (κ.1 6).toInt ≤ 40) (hpre_3 : 0 ≤ (κ.1 7).toInt) (hpre_4 : (κ.1 7).toInt ≤ 41) (hpre_5 : 0 ≤ k0.toInt) (hpre_6 : k0.toInt ≤ 40) (hr1_0 : 0 ≤ r1.toInt) (hr1_1 : r1.toInt ≤ 126) (hr1_2 : ¬ r1.toInt = 0 → 0 ≤ k0.toInt ∧ k0.toInt < (κ.1 6).toInt) (c6 : ¬ r1.toInt = 39) : L9 (κ.2.2.1 9) ∧ 0 ≤ (κ.1 6).toInt ∧ (κ.1 6).toInt ≤ 40 ∧ 0 ≤ (κ.1 7).toInt ∧ (κ.1 7).toInt ≤ 41 ∧ 0 ≤ k0.toInt ∧ k0.toInt ≤ 40 := by
  refine ⟨?_, ?_, ?_, ?_, ?_, ?_, ?_⟩ <;> first | assumption | omega | (subst_vars; omega) | trivial
-- post @51
theorem vX4_token_3 (n8 : Int32) (r7 : Int32) (hr7_1_0 : 0 ≤ n8.toInt) (hr7_1_1 : n8.toInt ≤ 41) (hr7_1_2 : r7.toInt ≤ 42) : 0 ≤ n8.toInt ∧ n8.toInt ≤ 41 ∧ r7.toInt ≤ 42 := by
  refine ⟨?_, ?_, ?_⟩ <;> first | assumption | omega | (subst_vars; omega) | trivial
-- post2 @51
theorem vX4_token_4 (ad : Nat → Nat) (sa : Nat → Nat) (κ : KS) (k0 : Int32) (r1 : Int32) (r2 : Int32) (r4 : Int32) (n8 : Int32) (F9 : (Nat → Int32)) (F10 : (Nat → Int32)) (F11 : (Nat → Int32)) (r7 : Int32) (hPV : PV sa κ.2.2.2.2) (hSV : SV ad κ.2.2.2.2 (κ.2.1 0) (κ.2.1 1) (κ.2.2.2.1 6) (κ.2.2.2.1 7) (κ.2.2.2.1 8) (κ.2.2.2.1 13) (κ.2.2.2.1 15) (κ.2.2.2.1 17) (κ.1 1).toInt) (hpre_0 : L9 (κ.2.2.1 9)) (hpre_1 : 0 ≤ (κ.1 6).toInt) (hpre_2 : (κ.1 6).toInt ≤ 40) (hpre_3 : 0 ≤ (κ.1 7).toInt) (hpre_4 : (κ.1 7).toInt ≤ 41) (hpre_5 : 0 ≤ k0.toInt) (hpre_6 : k0.toInt ≤ 40) (hr1y : (κ.1 6).toInt ≤ 40 → r1.toInt = tx (κ.2.2.1 9) (κ.1 6) k0.toInt) (hr1_0 : 0 ≤ r1.toInt) (hr1_1 : r1.toInt ≤ 126) (hr1_2 : ¬ r1.toInt = 0 → 0 ≤ k0.toInt ∧ k0.toInt < (κ.1 6).toInt) (hr2y_0 : ¬ r2.toInt = 0 → dg r1.toInt) (hr2y_1 : r2.toInt = 0 → ¬ dg r1.toInt) (hr2_0 : 0 ≤ r2.toInt) (hr2_1 : r2.toInt ≤ 1) (c3 : r2.toInt = 0) (hr4y_0 : ¬ r4.toInt = 0 → lw r1.toInt) (hr4y_1 : r4.toInt = 0 → ¬ lw r1.toInt) (hr4_0 : 0 ≤ r4.toInt) (hr4_1 : r4.toInt ≤ 1) (c5 : r4.toInt = 0) (c6 : ¬ r1.toInt = 39) (hr7y : (κ.1 7).toInt ≤ k0.toInt → k0.toInt < (κ.1 6).toInt → ¬ dg (tx (κ.2.2.1 9) (κ.1 6) k0.toInt) → ¬ lw (tx (κ.2.2.1 9) (κ.1 6) k0.toInt) → ¬ tx (κ.2.2.1 9) (κ.1 6) k0.toInt = 39 → ∃ t9, TokR (tx (κ.2.2.1 9) (κ.1 6)) (κ.1 6).toInt k0.toInt t9 ∧ LXc (κ.2.2.1 10) (κ.2.2.1 11) (κ.2.2.1 12) (κ.1 7) F9 F10 F11 n8 k0.toInt r7.toInt t9) (hr7_1_0 : 0 ≤ n8.toInt) (hr7_1_1 : n8.toInt ≤ 41) (hr7_1_2 : r7.toInt ≤ 42) : (κ.1 7).toInt ≤ k0.toInt → k0.toInt < (κ.1 6).toInt → ∃ t9, TokR (tx (κ.2.2.1 9) (κ.1 6)) (κ.1 6).toInt k0.toInt t9 ∧ LXc (κ.2.2.1 10) (κ.2.2.1 11) (κ.2.2.1 12) (κ.1 7) F9 F10 F11 n8 k0.toInt r7.toInt t9 := by
  intro h1 h2
  have pk0 := hr1y (by omega)
  exact hr7y h1 h2 (by omega) (by omega) (by omega)
-- grow @51
theorem vX4_token_5 (κ : KS) (k0 : Int32) (r1 : Int32) (r7 : Int32) (hpre_1 : 0 ≤ (κ.1 6).toInt) (hpre_2 : (κ.1 6).toInt ≤ 40) (hpre_5 : 0 ≤ k0.toInt) (hpre_6 : k0.toInt ≤ 40) (hr1_0 : 0 ≤ r1.toInt) (hr1_1 : r1.toInt ≤ 126) (hr1_2 : ¬ r1.toInt = 0 → 0 ≤ k0.toInt ∧ k0.toInt < (κ.1 6).toInt) (c6 : ¬ r1.toInt = 39) (hr7_1_2 : r7.toInt ≤ 42) : 0 + 0 + 0 + 0 + 0 ≤ qg1 k0.toInt r7.toInt := by
  have zq0 := qg_spec k0.toInt r7.toInt
  first | assumption | omega | (subst_vars; omega) | trivial
-- grow @51
theorem vX4_token_6 (κ : KS) (k0 : Int32) (r1 : Int32) (r7 : Int32) (hpre_1 : 0 ≤ (κ.1 6).toInt) (hpre_2 : (κ.1 6).toInt ≤ 40) (hpre_5 : 0 ≤ k0.toInt) (hpre_6 : k0.toInt ≤ 40) (hr1_0 : 0 ≤ r1.toInt) (hr1_1 : r1.toInt ≤ 126) (hr1_2 : ¬ r1.toInt = 0 → 0 ≤ k0.toInt ∧ k0.toInt < (κ.1 6).toInt) (c6 : ¬ r1.toInt = 39) (hr7_1_2 : r7.toInt ≤ 42) : 0 + 0 + 0 + 0 + 0 ≤ qg2 k0.toInt r7.toInt := by
  have zq0 := qg_spec k0.toInt r7.toInt
  first | assumption | omega | (subst_vars; omega) | trivial
-- growm @51
theorem vX4_token_7 (κ : KS) (k0 : Int32) (r1 : Int32) (r7 : Int32) (hpre_1 : 0 ≤ (κ.1 6).toInt) (hpre_2 : (κ.1 6).toInt ≤ 40) (hpre_5 : 0 ≤ k0.toInt) (hpre_6 : k0.toInt ≤ 40) (hr1_0 : 0 ≤ r1.toInt) (hr1_1 : r1.toInt ≤ 126) (hr1_2 : ¬ r1.toInt = 0 → 0 ≤ k0.toInt ∧ k0.toInt < (κ.1 6).toInt) (c6 : ¬ r1.toInt = 39) (hr7_1_2 : r7.toInt ≤ 42) : qg1 k0.toInt r7.toInt ≤ 130 := by
  have zq0 := qg_spec k0.toInt r7.toInt
  first | assumption | omega | (subst_vars; omega) | trivial
-- growm @51
theorem vX4_token_8 (κ : KS) (k0 : Int32) (r1 : Int32) (r7 : Int32) (hpre_1 : 0 ≤ (κ.1 6).toInt) (hpre_2 : (κ.1 6).toInt ≤ 40) (hpre_5 : 0 ≤ k0.toInt) (hpre_6 : k0.toInt ≤ 40) (hr1_0 : 0 ≤ r1.toInt) (hr1_1 : r1.toInt ≤ 126) (hr1_2 : ¬ r1.toInt = 0 → 0 ≤ k0.toInt ∧ k0.toInt < (κ.1 6).toInt) (c6 : ¬ r1.toInt = 39) (hr7_1_2 : r7.toInt ≤ 42) : qg2 k0.toInt r7.toInt ≤ 2800 := by
  have zq0 := qg_spec k0.toInt r7.toInt
  first | assumption | omega | (subst_vars; omega) | trivial
-- pre:X4_quoted@40 @40
theorem vX4_token_9 (κ : KS) (k0 : Int32) (r1 : Int32) (hpre_0 : L9 (κ.2.2.1 9)) (hpre_1 : 0 ≤ (κ.1 6).toInt) (hpre_2 : (κ.1 6).toInt ≤ 40) (hpre_3 : 0 ≤ (κ.1 7).toInt) (hpre_4 : (κ.1 7).toInt ≤ 41) (hpre_5 : 0 ≤ k0.toInt) (hpre_6 : k0.toInt ≤ 40) (hr1_0 : 0 ≤ r1.toInt) (hr1_1 : r1.toInt ≤ 126) (hr1_2 : ¬ r1.toInt = 0 → 0 ≤ k0.toInt ∧ k0.toInt < (κ.1 6).toInt) (c6 : r1.toInt = 39) : L9 (κ.2.2.1 9) ∧ 0 ≤ (κ.1 6).toInt ∧ (κ.1 6).toInt ≤ 40 ∧ 0 ≤ (κ.1 7).toInt ∧ (κ.1 7).toInt ≤ 41 ∧ 0 ≤ k0.toInt ∧ k0.toInt ≤ 40 := by
  refine ⟨?_, ?_, ?_, ?_, ?_, ?_, ?_⟩ <;> first | assumption | omega | (subst_vars; omega) | trivial
-- post @51
theorem vX4_token_10 (κ : KS) (k0 : Int32) (r1 : Int32) (n15 : Int32) (r13 : Int32) (hpre_1 : 0 ≤ (κ.1 6).toInt) (hpre_2 : (κ.1 6).toInt ≤ 40) (hpre_5 : 0 ≤ k0.toInt) (hpre_6 : k0.toInt ≤ 40) (hr1_0 : 0 ≤ r1.toInt) (hr1_1 : r1.toInt ≤ 126) (hr1_2 : ¬ r1.toInt = 0 → 0 ≤ k0.toInt ∧ k0.toInt < (κ.1 6).toInt) (c6 : r1.toInt = 39) (hr13_5_0 : 0 ≤ n15.toInt) (hr13_5_1 : n15.toInt ≤ 41) (hr13_5_2 : r13.toInt ≤ 41) (hr13_5_3 : qg1 k0.toInt r13.toInt ≤ 40) (hr13_5_4 : qg2 k0.toInt r13.toInt ≤ 2800) : 0 ≤ n15.toInt ∧ n15.toInt ≤ 41 ∧ r13.toInt ≤ 42 := by
  have zq0 := qg_spec k0.toInt r13.toInt
  refine ⟨?_, ?_, ?_⟩ <;> first | assumption | omega | (subst_vars; omega) | trivial
-- post2 @51
theorem vX4_token_11 (ad : Nat → Nat) (sa : Nat → Nat) (κ : KS) (k0 : Int32) (r1 : Int32) (r2 : Int32) (r4 : Int32) (P14 : PL) (n15 : Int32) (F16 : (Nat → Int32)) (F17 : (Nat → Int32)) (F18 : (Nat → Int32)) (r13 : Int32) (hPV : PV sa κ.2.2.2.2) (hSV : SV ad κ.2.2.2.2 (κ.2.1 0) (κ.2.1 1) (κ.2.2.2.1 6) (κ.2.2.2.1 7) (κ.2.2.2.1 8) (κ.2.2.2.1 13) (κ.2.2.2.1 15) (κ.2.2.2.1 17) (κ.1 1).toInt) (hpre_0 : L9 (κ.2.2.1 9)) (hpre_1 : 0 ≤ (κ.1 6).toInt) (hpre_2 : (κ.1 6).toInt ≤ 40) (hpre_3 : 0 ≤ (κ.1 7).toInt) (hpre_4 : (κ.1 7).toInt ≤ 41) (hpre_5 : 0 ≤ k0.toInt) (hpre_6 : k0.toInt ≤ 40) (hr1y : (κ.1 6).toInt ≤ 40 → r1.toInt = tx (κ.2.2.1 9) (κ.1 6) k0.toInt) (hr1_0 : 0 ≤ r1.toInt) (hr1_1 : r1.toInt ≤ 126) (hr1_2 : ¬ r1.toInt = 0 → 0 ≤ k0.toInt ∧ k0.toInt < (κ.1 6).toInt) (hr2y_0 : ¬ r2.toInt = 0 → dg r1.toInt) (hr2y_1 : r2.toInt = 0 → ¬ dg r1.toInt) (hr2_0 : 0 ≤ r2.toInt) (hr2_1 : r2.toInt ≤ 1) (c3 : r2.toInt = 0) (hr4y_0 : ¬ r4.toInt = 0 → lw r1.toInt) (hr4y_1 : r4.toInt = 0 → ¬ lw r1.toInt) (hr4_0 : 0 ≤ r4.toInt) (hr4_1 : r4.toInt ≤ 1) (c5 : r4.toInt = 0) (c6 : r1.toInt = 39) (hr13_0 : EX κ.2.2.2.2 P14) (hr13_2 : KPx True κ.2.2.2.2 P14) (hr13y : (κ.1 7).toInt ≤ k0.toInt → k0.toInt < (κ.1 6).toInt → tx (κ.2.2.1 9) (κ.1 6) k0.toInt = 39 → ∃ t9, TokR (tx (κ.2.2.1 9) (κ.1 6)) (κ.1 6).toInt k0.toInt t9 ∧ LXc (κ.2.2.1 10) (κ.2.2.1 11) (κ.2.2.1 12) (κ.1 7) F16 F17 F18 n15 k0.toInt r13.toInt t9) (hr13_5_0 : 0 ≤ n15.toInt) (hr13_5_1 : n15.toInt ≤ 41) (hr13_5_2 : r13.toInt ≤ 41) (hr13_5_3 : qg1 k0.toInt r13.toInt ≤ 40) (hr13_5_4 : qg2 k0.toInt r13.toInt ≤ 2800) : (κ.1 7).toInt ≤ k0.toInt → k0.toInt < (κ.1 6).toInt → ∃ t9, TokR (tx (κ.2.2.1 9) (κ.1 6)) (κ.1 6).toInt k0.toInt t9 ∧ LXc (κ.2.2.1 10) (κ.2.2.1 11) (κ.2.2.1 12) (κ.1 7) F16 F17 F18 n15 k0.toInt r13.toInt t9 := by
  have zq0 := qg_spec k0.toInt r13.toInt
  intro h1 h2
  have pk0 := hr1y (by omega)
  exact hr13y h1 h2 (by omega)
-- grow @51
theorem vX4_token_12 (κ : KS) (k0 : Int32) (r1 : Int32) (r13 : Int32) (hpre_1 : 0 ≤ (κ.1 6).toInt) (hpre_2 : (κ.1 6).toInt ≤ 40) (hpre_5 : 0 ≤ k0.toInt) (hpre_6 : k0.toInt ≤ 40) (hr1_0 : 0 ≤ r1.toInt) (hr1_1 : r1.toInt ≤ 126) (hr1_2 : ¬ r1.toInt = 0 → 0 ≤ k0.toInt ∧ k0.toInt < (κ.1 6).toInt) (c6 : r1.toInt = 39) (hr13_5_2 : r13.toInt ≤ 41) (hr13_5_3 : qg1 k0.toInt r13.toInt ≤ 40) (hr13_5_4 : qg2 k0.toInt r13.toInt ≤ 2800) : 0 + 0 + 0 + 0 + (qg1 k0.toInt r13.toInt) ≤ qg1 k0.toInt r13.toInt := by
  have zq0 := qg_spec k0.toInt r13.toInt
  first | assumption | omega | (subst_vars; omega) | trivial
-- grow @51
theorem vX4_token_13 (κ : KS) (k0 : Int32) (r1 : Int32) (r13 : Int32) (hpre_1 : 0 ≤ (κ.1 6).toInt) (hpre_2 : (κ.1 6).toInt ≤ 40) (hpre_5 : 0 ≤ k0.toInt) (hpre_6 : k0.toInt ≤ 40) (hr1_0 : 0 ≤ r1.toInt) (hr1_1 : r1.toInt ≤ 126) (hr1_2 : ¬ r1.toInt = 0 → 0 ≤ k0.toInt ∧ k0.toInt < (κ.1 6).toInt) (c6 : r1.toInt = 39) (hr13_5_2 : r13.toInt ≤ 41) (hr13_5_3 : qg1 k0.toInt r13.toInt ≤ 40) (hr13_5_4 : qg2 k0.toInt r13.toInt ≤ 2800) : 0 + 0 + 0 + 0 + (qg2 k0.toInt r13.toInt) ≤ qg2 k0.toInt r13.toInt := by
  have zq0 := qg_spec k0.toInt r13.toInt
  first | assumption | omega | (subst_vars; omega) | trivial
-- growm @51
theorem vX4_token_14 (κ : KS) (k0 : Int32) (r1 : Int32) (r13 : Int32) (hpre_1 : 0 ≤ (κ.1 6).toInt) (hpre_2 : (κ.1 6).toInt ≤ 40) (hpre_5 : 0 ≤ k0.toInt) (hpre_6 : k0.toInt ≤ 40) (hr1_0 : 0 ≤ r1.toInt) (hr1_1 : r1.toInt ≤ 126) (hr1_2 : ¬ r1.toInt = 0 → 0 ≤ k0.toInt ∧ k0.toInt < (κ.1 6).toInt) (c6 : r1.toInt = 39) (hr13_5_2 : r13.toInt ≤ 41) (hr13_5_3 : qg1 k0.toInt r13.toInt ≤ 40) (hr13_5_4 : qg2 k0.toInt r13.toInt ≤ 2800) : qg1 k0.toInt r13.toInt ≤ 130 := by
  have zq0 := qg_spec k0.toInt r13.toInt
  first | assumption | omega | (subst_vars; omega) | trivial
-- growm @51
theorem vX4_token_15 (κ : KS) (k0 : Int32) (r1 : Int32) (r13 : Int32) (hpre_1 : 0 ≤ (κ.1 6).toInt) (hpre_2 : (κ.1 6).toInt ≤ 40) (hpre_5 : 0 ≤ k0.toInt) (hpre_6 : k0.toInt ≤ 40) (hr1_0 : 0 ≤ r1.toInt) (hr1_1 : r1.toInt ≤ 126) (hr1_2 : ¬ r1.toInt = 0 → 0 ≤ k0.toInt ∧ k0.toInt < (κ.1 6).toInt) (c6 : r1.toInt = 39) (hr13_5_2 : r13.toInt ≤ 41) (hr13_5_3 : qg1 k0.toInt r13.toInt ≤ 40) (hr13_5_4 : qg2 k0.toInt r13.toInt ≤ 2800) : qg2 k0.toInt r13.toInt ≤ 2800 := by
  have zq0 := qg_spec k0.toInt r13.toInt
  first | assumption | omega | (subst_vars; omega) | trivial
-- pre:X4_name@28 @28
theorem vX4_token_16 (κ : KS) (k0 : Int32) (r1 : Int32) (hpre_0 : L9 (κ.2.2.1 9)) (hpre_1 : 0 ≤ (κ.1 6).toInt) (hpre_2 : (κ.1 6).toInt ≤ 40) (hpre_3 : 0 ≤ (κ.1 7).toInt) (hpre_4 : (κ.1 7).toInt ≤ 41) (hpre_5 : 0 ≤ k0.toInt) (hpre_6 : k0.toInt ≤ 40) (hr1_0 : 0 ≤ r1.toInt) (hr1_1 : r1.toInt ≤ 126) (hr1_2 : ¬ r1.toInt = 0 → 0 ≤ k0.toInt ∧ k0.toInt < (κ.1 6).toInt) : L9 (κ.2.2.1 9) ∧ 0 ≤ (κ.1 6).toInt ∧ (κ.1 6).toInt ≤ 40 ∧ 0 ≤ (κ.1 7).toInt ∧ (κ.1 7).toInt ≤ 41 ∧ 0 ≤ k0.toInt ∧ k0.toInt ≤ 40 := by
  refine ⟨?_, ?_, ?_, ?_, ?_, ?_, ?_⟩ <;> first | assumption | omega | (subst_vars; omega) | trivial
-- post @31
theorem vX4_token_17 (n23 : Int32) (r22 : Int32) (hr22_1_0 : 0 ≤ n23.toInt) (hr22_1_1 : n23.toInt ≤ 41) (hr22_1_2 : r22.toInt ≤ 40) : 0 ≤ n23.toInt ∧ n23.toInt ≤ 41 ∧ r22.toInt ≤ 42 := by
  refine ⟨?_, ?_, ?_⟩ <;> first | assumption | omega | (subst_vars; omega) | trivial
-- post2 @31
theorem vX4_token_18 (ad : Nat → Nat) (sa : Nat → Nat) (κ : KS) (k0 : Int32) (r1 : Int32) (r2 : Int32) (r4 : Int32) (n23 : Int32) (F24 : (Nat → Int32)) (F25 : (Nat → Int32)) (F26 : (Nat → Int32)) (r22 : Int32) (hPV : PV sa κ.2.2.2.2) (hSV : SV ad κ.2.2.2.2 (κ.2.1 0) (κ.2.1 1) (κ.2.2.2.1 6) (κ.2.2.2.1 7) (κ.2.2.2.1 8) (κ.2.2.2.1 13) (κ.2.2.2.1 15) (κ.2.2.2.1 17) (κ.1 1).toInt) (hpre_0 : L9 (κ.2.2.1 9)) (hpre_1 : 0 ≤ (κ.1 6).toInt) (hpre_2 : (κ.1 6).toInt ≤ 40) (hpre_3 : 0 ≤ (κ.1 7).toInt) (hpre_4 : (κ.1 7).toInt ≤ 41) (hpre_5 : 0 ≤ k0.toInt) (hpre_6 : k0.toInt ≤ 40) (hr1y : (κ.1 6).toInt ≤ 40 → r1.toInt = tx (κ.2.2.1 9) (κ.1 6) k0.toInt) (hr1_0 : 0 ≤ r1.toInt) (hr1_1 : r1.toInt ≤ 126) (hr1_2 : ¬ r1.toInt = 0 → 0 ≤ k0.toInt ∧ k0.toInt < (κ.1 6).toInt) (hr2y_0 : ¬ r2.toInt = 0 → dg r1.toInt) (hr2y_1 : r2.toInt = 0 → ¬ dg r1.toInt) (hr2_0 : 0 ≤ r2.toInt) (hr2_1 : r2.toInt ≤ 1) (c3 : r2.toInt = 0) (hr4y_0 : ¬ r4.toInt = 0 → lw r1.toInt) (hr4y_1 : r4.toInt = 0 → ¬ lw r1.toInt) (hr4_0 : 0 ≤ r4.toInt) (hr4_1 : r4.toInt ≤ 1) (c5 : ¬ r4.toInt = 0) (hr22y : (κ.1 7).toInt ≤ k0.toInt → k0.toInt < (κ.1 6).toInt → lw (tx (κ.2.2.1 9) (κ.1 6) k0.toInt) → ∃ t9, TokR (tx (κ.2.2.1 9) (κ.1 6)) (κ.1 6).toInt k0.toInt t9 ∧ LXc (κ.2.2.1 10) (κ.2.2.1 11) (κ.2.2.1 12) (κ.1 7) F24 F25 F26 n23 k0.toInt r22.toInt t9) (hr22_1_0 : 0 ≤ n23.toInt) (hr22_1_1 : n23.toInt ≤ 41) (hr22_1_2 : r22.toInt ≤ 40) : (κ.1 7).toInt ≤ k0.toInt → k0.toInt < (κ.1 6).toInt → ∃ t9, TokR (tx (κ.2.2.1 9) (κ.1 6)) (κ.1 6).toInt k0.toInt t9 ∧ LXc (κ.2.2.1 10) (κ.2.2.1 11) (κ.2.2.1 12) (κ.1 7) F24 F25 F26 n23 k0.toInt r22.toInt t9 := by
  intro h1 h2
  have pk0 := hr1y (by omega)
  exact hr22y h1 h2 (by omega)
-- grow @31
theorem vX4_token_19 (κ : KS) (k0 : Int32) (r1 : Int32) (r22 : Int32) (hpre_1 : 0 ≤ (κ.1 6).toInt) (hpre_2 : (κ.1 6).toInt ≤ 40) (hpre_5 : 0 ≤ k0.toInt) (hpre_6 : k0.toInt ≤ 40) (hr1_0 : 0 ≤ r1.toInt) (hr1_1 : r1.toInt ≤ 126) (hr1_2 : ¬ r1.toInt = 0 → 0 ≤ k0.toInt ∧ k0.toInt < (κ.1 6).toInt) (hr22_1_2 : r22.toInt ≤ 40) : 0 + 0 + 0 + 0 + 0 ≤ qg1 k0.toInt r22.toInt := by
  have zq0 := qg_spec k0.toInt r22.toInt
  first | assumption | omega | (subst_vars; omega) | trivial
-- grow @31
theorem vX4_token_20 (κ : KS) (k0 : Int32) (r1 : Int32) (r22 : Int32) (hpre_1 : 0 ≤ (κ.1 6).toInt) (hpre_2 : (κ.1 6).toInt ≤ 40) (hpre_5 : 0 ≤ k0.toInt) (hpre_6 : k0.toInt ≤ 40) (hr1_0 : 0 ≤ r1.toInt) (hr1_1 : r1.toInt ≤ 126) (hr1_2 : ¬ r1.toInt = 0 → 0 ≤ k0.toInt ∧ k0.toInt < (κ.1 6).toInt) (hr22_1_2 : r22.toInt ≤ 40) : 0 + 0 + 0 + 0 + 0 ≤ qg2 k0.toInt r22.toInt := by
  have zq0 := qg_spec k0.toInt r22.toInt
  first | assumption | omega | (subst_vars; omega) | trivial
-- growm @31
theorem vX4_token_21 (κ : KS) (k0 : Int32) (r1 : Int32) (r22 : Int32) (hpre_1 : 0 ≤ (κ.1 6).toInt) (hpre_2 : (κ.1 6).toInt ≤ 40) (hpre_5 : 0 ≤ k0.toInt) (hpre_6 : k0.toInt ≤ 40) (hr1_0 : 0 ≤ r1.toInt) (hr1_1 : r1.toInt ≤ 126) (hr1_2 : ¬ r1.toInt = 0 → 0 ≤ k0.toInt ∧ k0.toInt < (κ.1 6).toInt) (hr22_1_2 : r22.toInt ≤ 40) : qg1 k0.toInt r22.toInt ≤ 130 := by
  have zq0 := qg_spec k0.toInt r22.toInt
  first | assumption | omega | (subst_vars; omega) | trivial
-- growm @31
theorem vX4_token_22 (κ : KS) (k0 : Int32) (r1 : Int32) (r22 : Int32) (hpre_1 : 0 ≤ (κ.1 6).toInt) (hpre_2 : (κ.1 6).toInt ≤ 40) (hpre_5 : 0 ≤ k0.toInt) (hpre_6 : k0.toInt ≤ 40) (hr1_0 : 0 ≤ r1.toInt) (hr1_1 : r1.toInt ≤ 126) (hr1_2 : ¬ r1.toInt = 0 → 0 ≤ k0.toInt ∧ k0.toInt < (κ.1 6).toInt) (hr22_1_2 : r22.toInt ≤ 40) : qg2 k0.toInt r22.toInt ≤ 2800 := by
  have zq0 := qg_spec k0.toInt r22.toInt
  first | assumption | omega | (subst_vars; omega) | trivial
-- post @18
theorem vX4_token_23 (n30 : Int32) (r28 : Int32) (hr28_4_0 : 0 ≤ n30.toInt) (hr28_4_1 : n30.toInt ≤ 41) (hr28_4_2 : r28.toInt ≤ 40) : 0 ≤ n30.toInt ∧ n30.toInt ≤ 41 ∧ r28.toInt ≤ 42 := by
  refine ⟨?_, ?_, ?_⟩ <;> first | assumption | omega | (subst_vars; omega) | trivial
-- post2 @18
theorem vX4_token_24 (ad : Nat → Nat) (sa : Nat → Nat) (κ : KS) (k0 : Int32) (r1 : Int32) (r2 : Int32) (P29 : PL) (n30 : Int32) (F31 : (Nat → Int32)) (F32 : (Nat → Int32)) (F33 : (Nat → Int32)) (r28 : Int32) (hPV : PV sa κ.2.2.2.2) (hSV : SV ad κ.2.2.2.2 (κ.2.1 0) (κ.2.1 1) (κ.2.2.2.1 6) (κ.2.2.2.1 7) (κ.2.2.2.1 8) (κ.2.2.2.1 13) (κ.2.2.2.1 15) (κ.2.2.2.1 17) (κ.1 1).toInt) (hpre_0 : L9 (κ.2.2.1 9)) (hpre_1 : 0 ≤ (κ.1 6).toInt) (hpre_2 : (κ.1 6).toInt ≤ 40) (hpre_3 : 0 ≤ (κ.1 7).toInt) (hpre_4 : (κ.1 7).toInt ≤ 41) (hpre_5 : 0 ≤ k0.toInt) (hpre_6 : k0.toInt ≤ 40) (hr1y : (κ.1 6).toInt ≤ 40 → r1.toInt = tx (κ.2.2.1 9) (κ.1 6) k0.toInt) (hr1_0 : 0 ≤ r1.toInt) (hr1_1 : r1.toInt ≤ 126) (hr1_2 : ¬ r1.toInt = 0 → 0 ≤ k0.toInt ∧ k0.toInt < (κ.1 6).toInt) (hr2y_0 : ¬ r2.toInt = 0 → dg r1.toInt) (hr2y_1 : r2.toInt = 0 → ¬ dg r1.toInt) (hr2_0 : 0 ≤ r2.toInt) (hr2_1 : r2.toInt ≤ 1) (c3 : ¬ r2.toInt = 0) (hr28_0 : EX κ.2.2.2.2 P29) (hr28_2 : KPx True κ.2.2.2.2 P29) (hr28y : (κ.1 7).toInt ≤ k0.toInt → k0.toInt < (κ.1 6).toInt → dg (tx (κ.2.2.1 9) (κ.1 6) k0.toInt) → ∃ t9, TokR (tx (κ.2.2.1 9) (κ.1 6)) (κ.1 6).toInt k0.toInt t9 ∧ LXc (κ.2.2.1 10) (κ.2.2.1 11) (κ.2.2.1 12) (κ.1 7) F31 F32 F33 n30 k0.toInt r28.toInt t9) (hr28_4_0 : 0 ≤ n30.toInt) (hr28_4_1 : n30.toInt ≤ 41) (hr28_4_2 : r28.toInt ≤ 40) : (κ.1 7).toInt ≤ k0.toInt → k0.toInt < (κ.1 6).toInt → ∃ t9, TokR (tx (κ.2.2.1 9) (κ.1 6)) (κ.1 6).toInt k0.toInt t9 ∧ LXc (κ.2.2.1 10) (κ.2.2.1 11) (κ.2.2.1 12) (κ.1 7) F31 F32 F33 n30 k0.toInt r28.toInt t9 := by
  intro h1 h2
  have pk0 := hr1y (by omega)
  exact hr28y h1 h2 (by omega)
-- grow @18
theorem vX4_token_25 (κ : KS) (k0 : Int32) (r1 : Int32) (r28 : Int32) (hpre_1 : 0 ≤ (κ.1 6).toInt) (hpre_2 : (κ.1 6).toInt ≤ 40) (hpre_5 : 0 ≤ k0.toInt) (hpre_6 : k0.toInt ≤ 40) (hr1_0 : 0 ≤ r1.toInt) (hr1_1 : r1.toInt ≤ 126) (hr1_2 : ¬ r1.toInt = 0 → 0 ≤ k0.toInt ∧ k0.toInt < (κ.1 6).toInt) (hr28_4_2 : r28.toInt ≤ 40) : 0 + 0 + 0 + 1 ≤ qg1 k0.toInt r28.toInt := by
  have zq0 := qg_spec k0.toInt r28.toInt
  first | assumption | omega | (subst_vars; omega) | trivial
-- grow @18
theorem vX4_token_26 (κ : KS) (k0 : Int32) (r1 : Int32) (r28 : Int32) (hpre_1 : 0 ≤ (κ.1 6).toInt) (hpre_2 : (κ.1 6).toInt ≤ 40) (hpre_5 : 0 ≤ k0.toInt) (hpre_6 : k0.toInt ≤ 40) (hr1_0 : 0 ≤ r1.toInt) (hr1_1 : r1.toInt ≤ 126) (hr1_2 : ¬ r1.toInt = 0 → 0 ≤ k0.toInt ∧ k0.toInt < (κ.1 6).toInt) (hr28_4_2 : r28.toInt ≤ 40) : 0 + 0 + 0 + 5 ≤ qg2 k0.toInt r28.toInt := by
  have zq0 := qg_spec k0.toInt r28.toInt
  first | assumption | omega | (subst_vars; omega) | trivial
-- growm @18
theorem vX4_token_27 (κ : KS) (k0 : Int32) (r1 : Int32) (r28 : Int32) (hpre_1 : 0 ≤ (κ.1 6).toInt) (hpre_2 : (κ.1 6).toInt ≤ 40) (hpre_5 : 0 ≤ k0.toInt) (hpre_6 : k0.toInt ≤ 40) (hr1_0 : 0 ≤ r1.toInt) (hr1_1 : r1.toInt ≤ 126) (hr1_2 : ¬ r1.toInt = 0 → 0 ≤ k0.toInt ∧ k0.toInt < (κ.1 6).toInt) (hr28_4_2 : r28.toInt ≤ 40) : qg1 k0.toInt r28.toInt ≤ 130 := by
  have zq0 := qg_spec k0.toInt r28.toInt
  first | assumption | omega | (subst_vars; omega) | trivial
-- growm @18
theorem vX4_token_28 (κ : KS) (k0 : Int32) (r1 : Int32) (r28 : Int32) (hpre_1 : 0 ≤ (κ.1 6).toInt) (hpre_2 : (κ.1 6).toInt ≤ 40) (hpre_5 : 0 ≤ k0.toInt) (hpre_6 : k0.toInt ≤ 40) (hr1_0 : 0 ≤ r1.toInt) (hr1_1 : r1.toInt ≤ 126) (hr1_2 : ¬ r1.toInt = 0 → 0 ≤ k0.toInt ∧ k0.toInt < (κ.1 6).toInt) (hr28_4_2 : r28.toInt ≤ 40) : qg2 k0.toInt r28.toInt ≤ 2800 := by
  have zq0 := qg_spec k0.toInt r28.toInt
  first | assumption | omega | (subst_vars; omega) | trivial
set_option maxHeartbeats 4000000 in
set_option maxRecDepth 100000 in
theorem NX4_token (l : Launch) (D : va_G) (cy : Nat → ClassId) (ad : Nat → Nat) (A : Nat → Prop) (sz0 : Nat) (sa : Nat → Nat)  (κ : KS) (sz sl : Nat) (hAF : ∀ q, A q → Fr sz0 q) (hAn : ∀ q : Nat, sz ≤ q → A q) (k0 : Int32) (hPV : PV sa κ.2.2.2.2) (hSV : SV ad κ.2.2.2.2 (κ.2.1 0) (κ.2.1 1) (κ.2.2.2.1 6) (κ.2.2.2.1 7) (κ.2.2.2.1 8) (κ.2.2.2.1 13) (κ.2.2.2.1 15) (κ.2.2.2.1 17) (κ.1 1).toInt) (hpre : L9 (κ.2.2.1 9) ∧ 0 ≤ (κ.1 6).toInt ∧ (κ.1 6).toInt ≤ 40 ∧ 0 ≤ (κ.1 7).toInt ∧ (κ.1 7).toInt ≤ 41 ∧ 0 ≤ k0.toInt ∧ k0.toInt ≤ 40) : Met l yX4_token (Cond.code yX4_token cX4_token 3 (some .int) :: GWc) ({ frames := 7, cells := 130, slots := 2800, locals := 173 }) (PcC D cy ad A sz0 sa [.ref (ad 2), .int k0] κ sz sl) (va_Qi (fun (r : Int32) (u : PL × Int32 × (Nat → Int32) × (Nat → Int32) × (Nat → Int32) × (Nat → Option Nat) × Int32) => ((EX κ.2.2.2.2 u.1) ∧ (PV sa u.1) ∧ (KPx True κ.2.2.2.2 u.1) ∧ (SV ad u.1 (κ.2.1 0) (κ.2.1 1) (κ.2.2.2.1 6) (κ.2.2.2.1 7) (κ.2.2.2.1 8) u.2.2.2.2.2.1 (κ.2.2.2.1 15) (κ.2.2.2.1 17) (κ.1 1).toInt) ∧ (r = u.2.2.2.2.2.2) ∧ (0 ≤ u.2.1.toInt ∧ u.2.1.toInt ≤ 41 ∧ r.toInt ≤ 42)) ∧ ((κ.1 7).toInt ≤ k0.toInt → k0.toInt < (κ.1 6).toInt → ∃ t9, TokR (tx (κ.2.2.1 9) (κ.1 6)) (κ.1 6).toInt k0.toInt t9 ∧ LXc (κ.2.2.1 10) (κ.2.2.1 11) (κ.2.2.1 12) (κ.1 7) u.2.2.1 u.2.2.2.1 u.2.2.2.2.1 u.2.1 k0.toInt r.toInt t9)) (fun (u : PL × Int32 × (Nat → Int32) × (Nat → Int32) × (Nat → Int32) × (Nat → Option Nat) × Int32) (t : State) => Bx D cy ad A sz sl (tQ (tA (tA (tA (tI (tP κ u.1) 7 u.2.1) 10 u.2.2.1) 11 u.2.2.2.1) 12 u.2.2.2.2.1) 13 u.2.2.2.2.2.1) (qg1 k0.toInt u.2.2.2.2.2.2.toInt) (qg2 k0.toInt u.2.2.2.2.2.2.toInt) t) A) (130) (2800) A := by
  refine CM_of (loc0 := [(0, .ref (ad 2)), (1, .int k0)]) (own := RX4) (nm := "token") (by decide) rfl rfl rfl (Nat.le_of_ble_eq_true rfl) hAF hAn ?_
  intro p e s m below meth c ls hsz hsl C hP hS hl
  obtain ⟨hpre_0, hpre_1, hpre_2, hpre_3, hpre_4, hpre_5, hpre_6⟩ := hpre
  refine lv_aload_n C.x C.b dX4_token_0 rfl (lv_at hl 0 rfl) ?_
  refine lv_iload_n C.x C.b dX4_token_1 rfl (lv_at hl 1 rfl) ?_
  refine c_callVi (n := 1) (As := [.int k0]) (rest := []) C hP hS hl.1 (NX4_peek l D cy ad A sz0 sa κ s.heap.size (SLT s.heap) C.f (fun q h => C.a q (Nat.le_trans hS.1 h)) k0 (vX4_token_1 κ hpre_0)) ⟨cw_481, cw_485, by decide +kernel⟩ ⟨cw_482, cw_483, cw_484⟩ rfl (hP.recvS (k := 2) (ci := 6) C.K rfl rfl) rfl rfl (lv_room (Nat.le_of_ble_eq_true rfl)) ⟨Nat.le_of_ble_eq_true rfl, Nat.le_of_ble_eq_true rfl⟩ ⟨(Nat.le_of_ble_eq_true rfl), (Nat.le_of_ble_eq_true rfl)⟩ dX4_token_2 (fun r1 u H locs hr1 hP hS => ?_)
  obtain ⟨hr1, hr1y⟩ := hr1
  have hr1y : (κ.1 6).toInt ≤ 40 → r1.toInt = tx (κ.2.2.1 9) (κ.1 6) k0.toInt := hr1y
  have hr1 : (0 ≤ r1.toInt ∧ r1.toInt ≤ 126 ∧ (¬ r1.toInt = 0 → 0 ≤ k0.toInt ∧ k0.toInt < (κ.1 6).toInt)) := hr1
  obtain ⟨hr1_0, hr1_1, hr1_2⟩ := hr1
  refine lv_istore_n (lv' := [(2, .int r1), (0, .ref (ad 2)), (1, .int k0)]) C.x C.b dX4_token_5 rfl hl (by decide) rfl (fun ls hl => ?_)
  refine lv_iload_n C.x C.b dX4_token_6 rfl (lv_at hl 0 rfl) ?_
  refine c_callSi (C2 := "") (b := 0) (n := 1) (As := [.int r1]) (rest := []) C hP hS hl.1 (NX4_isDigit l D cy ad A sz0 sa κ H.size (SLT H) C.f (fun q h => C.a q (Nat.le_trans hS.1 h)) r1 ) ⟨cw_490, cw_492, by decide +kernel⟩ ⟨cw_491, cw_484⟩ rfl rfl (lv_room (Nat.le_of_ble_eq_true rfl)) ⟨Nat.le_of_ble_eq_true rfl, Nat.le_of_ble_eq_true rfl⟩ ⟨(Nat.le_of_ble_eq_true rfl), (Nat.le_of_ble_eq_true rfl)⟩ dX4_token_7 (fun r2 u H locs hr2 hP hS => ?_)
  obtain ⟨hr2, hr2y⟩ := hr2
  have hr2y : (¬ r2.toInt = 0 → dg r1.toInt) ∧ (r2.toInt = 0 → ¬ dg r1.toInt) := hr2y
  have hr2 : (0 ≤ r2.toInt ∧ r2.toInt ≤ 1) := hr2
  obtain ⟨hr2y_0, hr2y_1⟩ := hr2y
  obtain ⟨hr2_0, hr2_1⟩ := hr2
  refine lv_if_eq (tgt := 19) C.x C.b dX4_token_10 (by decide) (fun c3 => ?_) (fun c3 => ?_)
  · have c3 : r2.toInt = 0 := by have h := z_eq c3; rw [show (0 : Int32).toInt = 0 from by decide +kernel] at h; exact h
    refine lv_iload_n C.x C.b dX4_token_19 rfl (lv_at hl 0 rfl) ?_
    refine c_callSi (C2 := "") (b := 0) (n := 1) (As := [.int r1]) (rest := []) C hP hS hl.1 (NX4_isLowerCase l D cy ad A sz0 sa κ H.size (SLT H) C.f (fun q h => C.a q (Nat.le_trans hS.1 h)) r1 ) ⟨cw_514, cw_516, by decide +kernel⟩ ⟨cw_515, cw_484⟩ rfl rfl (lv_room (Nat.le_of_ble_eq_true rfl)) ⟨Nat.le_of_ble_eq_true rfl, Nat.le_of_ble_eq_true rfl⟩ ⟨(Nat.le_of_ble_eq_true rfl), (Nat.le_of_ble_eq_true rfl)⟩ dX4_token_20 (fun r4 u H locs hr4 hP hS => ?_)
    obtain ⟨hr4, hr4y⟩ := hr4
    have hr4y : (¬ r4.toInt = 0 → lw r1.toInt) ∧ (r4.toInt = 0 → ¬ lw r1.toInt) := hr4y
    have hr4 : (0 ≤ r4.toInt ∧ r4.toInt ≤ 1) := hr4
    obtain ⟨hr4y_0, hr4y_1⟩ := hr4y
    obtain ⟨hr4_0, hr4_1⟩ := hr4
    refine lv_if_eq (tgt := 32) C.x C.b dX4_token_23 (by decide) (fun c5 => ?_) (fun c5 => ?_)
    · have c5 : r4.toInt = 0 := by have h := z_eq c5; rw [show (0 : Int32).toInt = 0 from by decide +kernel] at h; exact h
      refine lv_iload_n C.x C.b dX4_token_32 rfl (lv_at hl 0 rfl) ?_
      refine lv_bipush (v := 39) C.x C.b dX4_token_33 (by decide +kernel) ?_
      refine lv_icmp_ne (tgt := 46) C.x C.b dX4_token_35 (by decide) (fun c6 => ?_) (fun c6 => ?_)
      · have c6 : ¬ r1.toInt = 39 := by have h := z_ne c6; rw [show (39 : Int32).toInt = 39 from by decide +kernel] at h; exact h
        refine lv_aload_n C.x C.b dX4_token_46 rfl (lv_at hl 1 rfl) ?_
        refine lv_iload_n C.x C.b dX4_token_47 rfl (lv_at hl 2 rfl) ?_
        refine c_callVi (n := 1) (As := [.int k0]) (rest := []) C hP hS hl.1 (NX4_sign l D cy ad A sz0 sa κ H.size (SLT H) C.f (fun q h => C.a q (Nat.le_trans hS.1 h)) k0 hSV (vX4_token_2 κ k0 r1 hpre_0 hpre_1 hpre_2 hpre_3 hpre_4 hpre_5 hpre_6 hr1_0 hr1_1 hr1_2 c6)) ⟨cw_531, cw_534, by decide +kernel⟩ ⟨cw_532, cw_533, cw_484⟩ rfl (hP.recvS (k := 2) (ci := 6) C.K rfl rfl) rfl rfl (lv_room (Nat.le_of_ble_eq_true rfl)) ⟨Nat.le_of_ble_eq_true rfl, Nat.le_of_ble_eq_true rfl⟩ ⟨(Nat.le_of_ble_eq_true rfl), (Nat.le_of_ble_eq_true rfl)⟩ dX4_token_48 (fun r7 u H locs hr7 hP hS => ?_)
        obtain ⟨n8, F9, F10, F11, Z12⟩ := u
        have hP : CH D cy ad A (tQ (tA (tA (tA (tI κ 7 n8) 10 F9) 11 F10) 12 F11) 13 Z12) H := hP
        obtain ⟨hr7, hr7y⟩ := hr7
        have hr7y : (κ.1 7).toInt ≤ k0.toInt → k0.toInt < (κ.1 6).toInt → ¬ dg (tx (κ.2.2.1 9) (κ.1 6) k0.toInt) → ¬ lw (tx (κ.2.2.1 9) (κ.1 6) k0.toInt) → ¬ tx (κ.2.2.1 9) (κ.1 6) k0.toInt = 39 → ∃ t9, TokR (tx (κ.2.2.1 9) (κ.1 6)) (κ.1 6).toInt k0.toInt t9 ∧ LXc (κ.2.2.1 10) (κ.2.2.1 11) (κ.2.2.1 12) (κ.1 7) F9 F10 F11 n8 k0.toInt r7.toInt t9 := hr7y
        have hr7 : (SV ad κ.2.2.2.2 (κ.2.1 0) (κ.2.1 1) (κ.2.2.2.1 6) (κ.2.2.2.1 7) (κ.2.2.2.1 8) Z12 (κ.2.2.2.1 15) (κ.2.2.2.1 17) (κ.1 1).toInt) ∧ (0 ≤ n8.toInt ∧ n8.toInt ≤ 41 ∧ r7.toInt ≤ 42) := hr7
        obtain ⟨hr7_0, hr7_1⟩ := hr7
        obtain ⟨hr7_1_0, hr7_1_1, hr7_1_2⟩ := hr7_1
        have hP : CH D cy ad A (tQ (tA (tA (tA (tI (tP κ κ.2.2.2.2) 7 n8) 10 F9) 11 F10) 12 F11) 13 Z12) H := CH.cong hP rfl rfl rfl rfl rfl rfl rfl rfl rfl rfl rfl rfl rfl rfl rfl rfl rfl rfl rfl rfl rfl rfl rfl rfl rfl rfl rfl
        exact c_reti C hsz hsl ⟨κ.2.2.2.2, n8, F9, F10, F11, Z12, r7⟩ ⟨⟨EX.rf, hPV, KPx.rf, hr7_0, rfl, (vX4_token_3 n8 r7 hr7_1_0 hr7_1_1 hr7_1_2)⟩, (vX4_token_4 ad sa κ k0 r1 r2 r4 n8 F9 F10 F11 r7 hPV hSV hpre_0 hpre_1 hpre_2 hpre_3 hpre_4 hpre_5 hpre_6 hr1y hr1_0 hr1_1 hr1_2 hr2y_0 hr2y_1 hr2_0 hr2_1 c3 hr4y_0 hr4y_1 hr4_0 hr4_1 c5 c6 hr7y hr7_1_0 hr7_1_1 hr7_1_2)⟩ hP hS ⟨(vX4_token_5 κ k0 r1 r7 hpre_1 hpre_2 hpre_5 hpre_6 hr1_0 hr1_1 hr1_2 c6 hr7_1_2), (vX4_token_6 κ k0 r1 r7 hpre_1 hpre_2 hpre_5 hpre_6 hr1_0 hr1_1 hr1_2 c6 hr7_1_2)⟩ ⟨(vX4_token_7 κ k0 r1 r7 hpre_1 hpre_2 hpre_5 hpre_6 hr1_0 hr1_1 hr1_2 c6 hr7_1_2), (vX4_token_8 κ k0 r1 r7 hpre_1 hpre_2 hpre_5 hpre_6 hr1_0 hr1_1 hr1_2 c6 hr7_1_2)⟩ dX4_token_51
      · have c6 : r1.toInt = 39 := by have h := z_eq c6; rw [show (39 : Int32).toInt = 39 from by decide +kernel] at h; exact h
        refine lv_aload_n C.x C.b dX4_token_38 rfl (lv_at hl 1 rfl) ?_
        refine lv_iload_n C.x C.b dX4_token_39 rfl (lv_at hl 2 rfl) ?_
        refine c_callVi (n := 1) (As := [.int k0]) (rest := []) C hP hS hl.1 (NX4_quoted l D cy ad A sz0 sa κ H.size (SLT H) C.f (fun q h => C.a q (Nat.le_trans hS.1 h)) k0 hPV hSV (vX4_token_9 κ k0 r1 hpre_0 hpre_1 hpre_2 hpre_3 hpre_4 hpre_5 hpre_6 hr1_0 hr1_1 hr1_2 c6)) ⟨cw_521, cw_524, by decide +kernel⟩ ⟨cw_522, cw_523, cw_484⟩ rfl (hP.recvS (k := 2) (ci := 6) C.K rfl rfl) rfl rfl (lv_room (Nat.le_of_ble_eq_true rfl)) ⟨Nat.le_of_ble_eq_true rfl, Nat.le_of_ble_eq_true rfl⟩ ⟨(Nat.le_of_ble_eq_true rfl), (Nat.le_of_ble_eq_true rfl)⟩ dX4_token_40 (fun r13 u H locs hr13 hP hS => ?_)
        obtain ⟨P14, n15, F16, F17, F18, Z19, w20⟩ := u
        have hP : CH D cy ad A (tQ (tA (tA (tA (tI (tP κ P14) 7 n15) 10 F16) 11 F17) 12 F18) 13 Z19) H := hP
        obtain ⟨hr13, hr13y⟩ := hr13
        have hr13y : (κ.1 7).toInt ≤ k0.toInt → k0.toInt < (κ.1 6).toInt → tx (κ.2.2.1 9) (κ.1 6) k0.toInt = 39 → ∃ t9, TokR (tx (κ.2.2.1 9) (κ.1 6)) (κ.1 6).toInt k0.toInt t9 ∧ LXc (κ.2.2.1 10) (κ.2.2.1 11) (κ.2.2.1 12) (κ.1 7) F16 F17 F18 n15 k0.toInt r13.toInt t9 := hr13y
        have hr13 : (EX κ.2.2.2.2 P14) ∧ (PV sa P14) ∧ (KPx True κ.2.2.2.2 P14) ∧ (SV ad P14 (κ.2.1 0) (κ.2.1 1) (κ.2.2.2.1 6) (κ.2.2.2.1 7) (κ.2.2.2.1 8) Z19 (κ.2.2.2.1 15) (κ.2.2.2.1 17) (κ.1 1).toInt) ∧ (r13 = w20) ∧ (0 ≤ n15.toInt ∧ n15.toInt ≤ 41 ∧ r13.toInt ≤ 41 ∧ qg1 k0.toInt r13.toInt ≤ 40 ∧ qg2 k0.toInt r13.toInt ≤ 2800) := hr13
        obtain ⟨hr13_0, hr13_1, hr13_2, hr13_3, hr13_4, hr13_5⟩ := hr13
        have kpz21 : KPx True κ.2.2.2.2 P14 := KPx.rf.trans hr13_2
        obtain rfl := hr13_4
        obtain ⟨hr13_5_0, hr13_5_1, hr13_5_2, hr13_5_3, hr13_5_4⟩ := hr13_5
        refine lv_goto (tgt := 51) C.x C.b dX4_token_43 (by decide) ?_
        exact c_reti C hsz hsl ⟨P14, n15, F16, F17, F18, Z19, r13⟩ ⟨⟨hr13_0, hr13_1, kpz21, hr13_3, rfl, (vX4_token_10 κ k0 r1 n15 r13 hpre_1 hpre_2 hpre_5 hpre_6 hr1_0 hr1_1 hr1_2 c6 hr13_5_0 hr13_5_1 hr13_5_2 hr13_5_3 hr13_5_4)⟩, (vX4_token_11 ad sa κ k0 r1 r2 r4 P14 n15 F16 F17 F18 r13 hPV hSV hpre_0 hpre_1 hpre_2 hpre_3 hpre_4 hpre_5 hpre_6 hr1y hr1_0 hr1_1 hr1_2 hr2y_0 hr2y_1 hr2_0 hr2_1 c3 hr4y_0 hr4y_1 hr4_0 hr4_1 c5 c6 hr13_0 hr13_2 hr13y hr13_5_0 hr13_5_1 hr13_5_2 hr13_5_3 hr13_5_4)⟩ hP hS ⟨(vX4_token_12 κ k0 r1 r13 hpre_1 hpre_2 hpre_5 hpre_6 hr1_0 hr1_1 hr1_2 c6 hr13_5_2 hr13_5_3 hr13_5_4), (vX4_token_13 κ k0 r1 r13 hpre_1 hpre_2 hpre_5 hpre_6 hr1_0 hr1_1 hr1_2 c6 hr13_5_2 hr13_5_3 hr13_5_4)⟩ ⟨(vX4_token_14 κ k0 r1 r13 hpre_1 hpre_2 hpre_5 hpre_6 hr1_0 hr1_1 hr1_2 c6 hr13_5_2 hr13_5_3 hr13_5_4), (vX4_token_15 κ k0 r1 r13 hpre_1 hpre_2 hpre_5 hpre_6 hr1_0 hr1_1 hr1_2 c6 hr13_5_2 hr13_5_3 hr13_5_4)⟩ dX4_token_51
    · have c5 : ¬ r4.toInt = 0 := by have h := z_ne c5; rw [show (0 : Int32).toInt = 0 from by decide +kernel] at h; exact h
      refine lv_aload_n C.x C.b dX4_token_26 rfl (lv_at hl 1 rfl) ?_
      refine lv_iload_n C.x C.b dX4_token_27 rfl (lv_at hl 2 rfl) ?_
      refine c_callVi (n := 1) (As := [.int k0]) (rest := []) C hP hS hl.1 (NX4_name l D cy ad A sz0 sa κ H.size (SLT H) C.f (fun q h => C.a q (Nat.le_trans hS.1 h)) k0 hSV (vX4_token_16 κ k0 r1 hpre_0 hpre_1 hpre_2 hpre_3 hpre_4 hpre_5 hpre_6 hr1_0 hr1_1 hr1_2)) ⟨cw_517, cw_520, by decide +kernel⟩ ⟨cw_518, cw_519, cw_484⟩ rfl (hP.recvS (k := 2) (ci := 6) C.K rfl rfl) rfl rfl (lv_room (Nat.le_of_ble_eq_true rfl)) ⟨Nat.le_of_ble_eq_true rfl, Nat.le_of_ble_eq_true rfl⟩ ⟨(Nat.le_of_ble_eq_true rfl), (Nat.le_of_ble_eq_true rfl)⟩ dX4_token_28 (fun r22 u H locs hr22 hP hS => ?_)
      obtain ⟨n23, F24, F25, F26, Z27⟩ := u
      have hP : CH D cy ad A (tQ (tA (tA (tA (tI κ 7 n23) 10 F24) 11 F25) 12 F26) 13 Z27) H := hP
      obtain ⟨hr22, hr22y⟩ := hr22
      have hr22y : (κ.1 7).toInt ≤ k0.toInt → k0.toInt < (κ.1 6).toInt → lw (tx (κ.2.2.1 9) (κ.1 6) k0.toInt) → ∃ t9, TokR (tx (κ.2.2.1 9) (κ.1 6)) (κ.1 6).toInt k0.toInt t9 ∧ LXc (κ.2.2.1 10) (κ.2.2.1 11) (κ.2.2.1 12) (κ.1 7) F24 F25 F26 n23 k0.toInt r22.toInt t9 := hr22y
      have hr22 : (SV ad κ.2.2.2.2 (κ.2.1 0) (κ.2.1 1) (κ.2.2.2.1 6) (κ.2.2.2.1 7) (κ.2.2.2.1 8) Z27 (κ.2.2.2.1 15) (κ.2.2.2.1 17) (κ.1 1).toInt) ∧ (0 ≤ n23.toInt ∧ n23.toInt ≤ 41 ∧ r22.toInt ≤ 40) := hr22
      obtain ⟨hr22_0, hr22_1⟩ := hr22
      obtain ⟨hr22_1_0, hr22_1_1, hr22_1_2⟩ := hr22_1
      have hP : CH D cy ad A (tQ (tA (tA (tA (tI (tP κ κ.2.2.2.2) 7 n23) 10 F24) 11 F25) 12 F26) 13 Z27) H := CH.cong hP rfl rfl rfl rfl rfl rfl rfl rfl rfl rfl rfl rfl rfl rfl rfl rfl rfl rfl rfl rfl rfl rfl rfl rfl rfl rfl rfl
      exact c_reti C hsz hsl ⟨κ.2.2.2.2, n23, F24, F25, F26, Z27, r22⟩ ⟨⟨EX.rf, hPV, KPx.rf, hr22_0, rfl, (vX4_token_17 n23 r22 hr22_1_0 hr22_1_1 hr22_1_2)⟩, (vX4_token_18 ad sa κ k0 r1 r2 r4 n23 F24 F25 F26 r22 hPV hSV hpre_0 hpre_1 hpre_2 hpre_3 hpre_4 hpre_5 hpre_6 hr1y hr1_0 hr1_1 hr1_2 hr2y_0 hr2y_1 hr2_0 hr2_1 c3 hr4y_0 hr4y_1 hr4_0 hr4_1 c5 hr22y hr22_1_0 hr22_1_1 hr22_1_2)⟩ hP hS ⟨(vX4_token_19 κ k0 r1 r22 hpre_1 hpre_2 hpre_5 hpre_6 hr1_0 hr1_1 hr1_2 hr22_1_2), (vX4_token_20 κ k0 r1 r22 hpre_1 hpre_2 hpre_5 hpre_6 hr1_0 hr1_1 hr1_2 hr22_1_2)⟩ ⟨(vX4_token_21 κ k0 r1 r22 hpre_1 hpre_2 hpre_5 hpre_6 hr1_0 hr1_1 hr1_2 hr22_1_2), (vX4_token_22 κ k0 r1 r22 hpre_1 hpre_2 hpre_5 hpre_6 hr1_0 hr1_1 hr1_2 hr22_1_2)⟩ dX4_token_31
  · have c3 : ¬ r2.toInt = 0 := by have h := z_ne c3; rw [show (0 : Int32).toInt = 0 from by decide +kernel] at h; exact h
    refine lv_aload_n C.x C.b dX4_token_13 rfl (lv_at hl 1 rfl) ?_
    refine lv_iload_n C.x C.b dX4_token_14 rfl (lv_at hl 2 rfl) ?_
    refine c_callVi (n := 1) (As := [.int k0]) (rest := []) C hP hS hl.1 (NX4_number l D cy ad A sz0 sa κ H.size (SLT H) C.f (fun q h => C.a q (Nat.le_trans hS.1 h)) k0 hPV hSV (vX4_token_16 κ k0 r1 hpre_0 hpre_1 hpre_2 hpre_3 hpre_4 hpre_5 hpre_6 hr1_0 hr1_1 hr1_2)) ⟨cw_493, cw_496, by decide +kernel⟩ ⟨cw_494, cw_495, cw_484⟩ rfl (hP.recvS (k := 2) (ci := 6) C.K rfl rfl) rfl rfl (lv_room (Nat.le_of_ble_eq_true rfl)) ⟨Nat.le_of_ble_eq_true rfl, Nat.le_of_ble_eq_true rfl⟩ ⟨(Nat.le_of_ble_eq_true rfl), (Nat.le_of_ble_eq_true rfl)⟩ dX4_token_15 (fun r28 u H locs hr28 hP hS => ?_)
    obtain ⟨P29, n30, F31, F32, F33, Z34⟩ := u
    have hP : CH D cy ad A (tQ (tA (tA (tA (tI (tP κ P29) 7 n30) 10 F31) 11 F32) 12 F33) 13 Z34) H := hP
    obtain ⟨hr28, hr28y⟩ := hr28
    have hr28y : (κ.1 7).toInt ≤ k0.toInt → k0.toInt < (κ.1 6).toInt → dg (tx (κ.2.2.1 9) (κ.1 6) k0.toInt) → ∃ t9, TokR (tx (κ.2.2.1 9) (κ.1 6)) (κ.1 6).toInt k0.toInt t9 ∧ LXc (κ.2.2.1 10) (κ.2.2.1 11) (κ.2.2.1 12) (κ.1 7) F31 F32 F33 n30 k0.toInt r28.toInt t9 := hr28y
    have hr28 : (EX κ.2.2.2.2 P29) ∧ (PV sa P29) ∧ (KPx True κ.2.2.2.2 P29) ∧ (SV ad P29 (κ.2.1 0) (κ.2.1 1) (κ.2.2.2.1 6) (κ.2.2.2.1 7) (κ.2.2.2.1 8) Z34 (κ.2.2.2.1 15) (κ.2.2.2.1 17) (κ.1 1).toInt) ∧ (0 ≤ n30.toInt ∧ n30.toInt ≤ 41 ∧ r28.toInt ≤ 40) := hr28
    obtain ⟨hr28_0, hr28_1, hr28_2, hr28_3, hr28_4⟩ := hr28
    have kpz35 : KPx True κ.2.2.2.2 P29 := KPx.rf.trans hr28_2
    obtain ⟨hr28_4_0, hr28_4_1, hr28_4_2⟩ := hr28_4
    exact c_reti C hsz hsl ⟨P29, n30, F31, F32, F33, Z34, r28⟩ ⟨⟨hr28_0, hr28_1, kpz35, hr28_3, rfl, (vX4_token_23 n30 r28 hr28_4_0 hr28_4_1 hr28_4_2)⟩, (vX4_token_24 ad sa κ k0 r1 r2 P29 n30 F31 F32 F33 r28 hPV hSV hpre_0 hpre_1 hpre_2 hpre_3 hpre_4 hpre_5 hpre_6 hr1y hr1_0 hr1_1 hr1_2 hr2y_0 hr2y_1 hr2_0 hr2_1 c3 hr28_0 hr28_2 hr28y hr28_4_0 hr28_4_1 hr28_4_2)⟩ hP hS ⟨(vX4_token_25 κ k0 r1 r28 hpre_1 hpre_2 hpre_5 hpre_6 hr1_0 hr1_1 hr1_2 hr28_4_2), (vX4_token_26 κ k0 r1 r28 hpre_1 hpre_2 hpre_5 hpre_6 hr1_0 hr1_1 hr1_2 hr28_4_2)⟩ ⟨(vX4_token_27 κ k0 r1 r28 hpre_1 hpre_2 hpre_5 hpre_6 hr1_0 hr1_1 hr1_2 hr28_4_2), (vX4_token_28 κ k0 r1 r28 hpre_1 hpre_2 hpre_5 hpre_6 hr1_0 hr1_1 hr1_2 hr28_4_2)⟩ dX4_token_18

-- init@7 @7
theorem vX4_cut_1   : 0 ≤ (0 : Int32).toInt ∧ (0 : Int32).toInt ≤ 42 ∧ 0 ≤ (0 : Int32).toInt ∧ (0 : Int32).toInt ≤ 41 := by
  have q0 : (0 : Int32).toInt = 0 := by decide +kernel
  refine ⟨?_, ?_, ?_, ?_⟩ <;> first | assumption | omega | (subst_vars; omega) | trivial
-- init2@7 @7
theorem vX4_cut_2 (ad : Nat → Nat) (sa : Nat → Nat) (κ : KS) (hPV : PV sa κ.2.2.2.2) (hSV : SV ad κ.2.2.2.2 (κ.2.1 0) (κ.2.1 1) (κ.2.2.2.1 6) (κ.2.2.2.1 7) (κ.2.2.2.1 8) (κ.2.2.2.1 13) (κ.2.2.2.1 15) (κ.2.2.2.1 17) (κ.1 1).toInt) (hpre_0 : L9 (κ.2.2.1 9)) (hpre_1 : 0 ≤ (κ.1 6).toInt) (hpre_2 : (κ.1 6).toInt ≤ 40) (hpre_3 : 0 ≤ (κ.1 7).toInt) (hpre_4 : (κ.1 7).toInt ≤ 41) : LIc (tx (κ.2.2.1 9) (κ.1 6)) (κ.1 6).toInt (κ.2.2.1 10) (κ.2.2.1 11) (κ.2.2.1 12) (0 : Int32) (0 : Int32).toInt ∧ (0 : Int32).toInt ≤ (κ.1 6).toInt := by
  have q0 : (0 : Int32).toInt = 0 := by decide +kernel
  refine ⟨⟨?_, by omega⟩, by omega⟩
  rw [show (0 : Int32).toInt.toNat = 0 by omega]
  exact RT.at (by omega)
-- pre:X4_add@57 @57
theorem vX4_cut_3 (n3 : Int32) (hi7_2 : 0 ≤ n3.toInt) (hi7_3 : n3.toInt ≤ 41) : 0 ≤ n3.toInt ∧ n3.toInt ≤ 41 := by
  refine ⟨?_, ?_⟩ <;> first | assumption | omega | (subst_vars; omega) | trivial
-- room @57
theorem vX4_cut_4 (κ : KS) (y1 : Int32) (hpre_1 : 0 ≤ (κ.1 6).toInt) (hpre_2 : (κ.1 6).toInt ≤ 40) (hi7_0 : 0 ≤ y1.toInt) (hi7_1 : y1.toInt ≤ 42) (c8 : (κ.1 6).toInt ≤ y1.toInt) : (3 * y1.toInt).toNat + 0 ≤ 260 := by
  first | assumption | omega | (subst_vars; omega) | trivial
-- room @57
theorem vX4_cut_5 (κ : KS) (y1 : Int32) (hpre_1 : 0 ≤ (κ.1 6).toInt) (hpre_2 : (κ.1 6).toInt ≤ 40) (hi7_0 : 0 ≤ y1.toInt) (hi7_1 : y1.toInt ≤ 42) (c8 : (κ.1 6).toInt ≤ y1.toInt) : (17 * y1.toInt).toNat + 0 ≤ 4000 := by
  first | assumption | omega | (subst_vars; omega) | trivial
-- post @61
theorem vX4_cut_6 (n10 : Int32) (hr9_1_0 : 0 ≤ n10.toInt) (hr9_1_1 : n10.toInt ≤ 41) : 0 ≤ n10.toInt ∧ n10.toInt ≤ 41 := by
  refine ⟨?_, ?_⟩ <;> first | assumption | omega | (subst_vars; omega) | trivial
-- post2 @61
theorem vX4_cut_7 (ad : Nat → Nat) (sa : Nat → Nat) (κ : KS) (y1 : Int32) (P2 : PL) (n3 : Int32) (F4 : (Nat → Int32)) (F5 : (Nat → Int32)) (F6 : (Nat → Int32)) (n10 : Int32) (F11 : (Nat → Int32)) (F12 : (Nat → Int32)) (F13 : (Nat → Int32)) (hPV : PV sa κ.2.2.2.2) (hSV : SV ad κ.2.2.2.2 (κ.2.1 0) (κ.2.1 1) (κ.2.2.2.1 6) (κ.2.2.2.1 7) (κ.2.2.2.1 8) (κ.2.2.2.1 13) (κ.2.2.2.1 15) (κ.2.2.2.1 17) (κ.1 1).toInt) (hpre_0 : L9 (κ.2.2.1 9)) (hpre_1 : 0 ≤ (κ.1 6).toInt) (hpre_2 : (κ.1 6).toInt ≤ 40) (hpre_3 : 0 ≤ (κ.1 7).toInt) (hpre_4 : (κ.1 7).toInt ≤ 41) (hi7_0 : 0 ≤ y1.toInt) (hi7_1 : y1.toInt ≤ 42) (hi7_2 : 0 ≤ n3.toInt) (hi7_3 : n3.toInt ≤ 41) (hf7_0 : EX κ.2.2.2.2 P2) (hf7_2 : KPx True κ.2.2.2.2 P2) (hi7y_0 : LIc (tx (κ.2.2.1 9) (κ.1 6)) (κ.1 6).toInt F4 F5 F6 n3 y1.toInt) (hi7y_1 : y1.toInt ≤ (κ.1 6).toInt) (c8 : (κ.1 6).toInt ≤ y1.toInt) (hr9y : n3.toInt < 41 → ADc F4 F5 F6 n3 F11 F12 F13 n10 (0 : Int32) (κ.1 6) (0 : Int32)) (hr9_1_0 : 0 ≤ n10.toInt) (hr9_1_1 : n10.toInt ≤ 41) : ((-1 : Int32).toInt = -1 ∧ LexOK (tx (κ.2.2.1 9) (κ.1 6)) (κ.1 6).toInt (cT F11 n10) (cT F13 n10) (cT F12 n10) (n10.toInt - 1).toNat ∧ 1 ≤ n10.toInt) ∨ (0 ≤ (-1 : Int32).toInt ∧ LexErr (tx (κ.2.2.1 9) (κ.1 6)) (κ.1 6).toInt (-1 : Int32).toInt) := by
  have qm1 : (-1 : Int32).toInt = (-1) := by decide +kernel
  have q0 : (0 : Int32).toInt = 0 := by decide +kernel
  have h2 := hi7y_0.2
  have hk := hr9y (by omega)
  exact Or.inl ⟨by omega, hi7y_0.fin hi7_2 (by omega) hk (by omega) rfl⟩
-- pre:X4_peek@17 @17
theorem vX4_cut_8 (κ : KS) (hpre_0 : L9 (κ.2.2.1 9)) : L9 (κ.2.2.1 9) := by
  first | assumption | omega | (subst_vars; omega) | trivial
-- room @17
theorem vX4_cut_9 (κ : KS) (y1 : Int32) (hpre_1 : 0 ≤ (κ.1 6).toInt) (hpre_2 : (κ.1 6).toInt ≤ 40) (hi7_0 : 0 ≤ y1.toInt) (hi7_1 : y1.toInt ≤ 42) (c8 : y1.toInt < (κ.1 6).toInt) : (3 * y1.toInt).toNat + 0 ≤ 260 := by
  first | assumption | omega | (subst_vars; omega) | trivial
-- room @17
theorem vX4_cut_10 (κ : KS) (y1 : Int32) (hpre_1 : 0 ≤ (κ.1 6).toInt) (hpre_2 : (κ.1 6).toInt ≤ 40) (hi7_0 : 0 ≤ y1.toInt) (hi7_1 : y1.toInt ≤ 42) (c8 : y1.toInt < (κ.1 6).toInt) : (17 * y1.toInt).toNat + 0 ≤ 4000 := by
  first | assumption | omega | (subst_vars; omega) | trivial
-- pre:X4_token@33 @33
theorem vX4_cut_11 (κ : KS) (y1 : Int32) (n3 : Int32) (r15 : Int32) (hpre_0 : L9 (κ.2.2.1 9)) (hpre_1 : 0 ≤ (κ.1 6).toInt) (hpre_2 : (κ.1 6).toInt ≤ 40) (hi7_0 : 0 ≤ y1.toInt) (hi7_1 : y1.toInt ≤ 42) (hi7_2 : 0 ≤ n3.toInt) (hi7_3 : n3.toInt ≤ 41) (c8 : y1.toInt < (κ.1 6).toInt) (hr15_0 : 0 ≤ r15.toInt) (hr15_1 : r15.toInt ≤ 126) (hr15_2 : ¬ r15.toInt = 0 → 0 ≤ y1.toInt ∧ y1.toInt < (κ.1 6).toInt) (c16 : ¬ r15.toInt = 32) : L9 (κ.2.2.1 9) ∧ 0 ≤ (κ.1 6).toInt ∧ (κ.1 6).toInt ≤ 40 ∧ 0 ≤ n3.toInt ∧ n3.toInt ≤ 41 ∧ 0 ≤ y1.toInt ∧ y1.toInt ≤ 40 := by
  refine ⟨?_, ?_, ?_, ?_, ?_, ?_, ?_⟩ <;> first | assumption | omega | (subst_vars; omega) | trivial
-- room @33
theorem vX4_cut_12 (κ : KS) (y1 : Int32) (r15 : Int32) (hpre_1 : 0 ≤ (κ.1 6).toInt) (hpre_2 : (κ.1 6).toInt ≤ 40) (hi7_0 : 0 ≤ y1.toInt) (hi7_1 : y1.toInt ≤ 42) (c8 : y1.toInt < (κ.1 6).toInt) (hr15_0 : 0 ≤ r15.toInt) (hr15_1 : r15.toInt ≤ 126) (hr15_2 : ¬ r15.toInt = 0 → 0 ≤ y1.toInt ∧ y1.toInt < (κ.1 6).toInt) (c16 : ¬ r15.toInt = 32) : (3 * y1.toInt).toNat + 0 + 130 ≤ 260 := by
  first | assumption | omega | (subst_vars; omega) | trivial
-- room @33
theorem vX4_cut_13 (κ : KS) (y1 : Int32) (r15 : Int32) (hpre_1 : 0 ≤ (κ.1 6).toInt) (hpre_2 : (κ.1 6).toInt ≤ 40) (hi7_0 : 0 ≤ y1.toInt) (hi7_1 : y1.toInt ≤ 42) (c8 : y1.toInt < (κ.1 6).toInt) (hr15_0 : 0 ≤ r15.toInt) (hr15_1 : r15.toInt ≤ 126) (hr15_2 : ¬ r15.toInt = 0 → 0 ≤ y1.toInt ∧ y1.toInt < (κ.1 6).toInt) (c16 : ¬ r15.toInt = 32) : (17 * y1.toInt).toNat + 0 + 2800 ≤ 4000 := by
  first | assumption | omega | (subst_vars; omega) | trivial
-- inv@7 @7
theorem vX4_cut_14 (κ : KS) (y1 : Int32) (r15 : Int32) (n19 : Int32) (r17 : Int32) (hpre_1 : 0 ≤ (κ.1 6).toInt) (hpre_2 : (κ.1 6).toInt ≤ 40) (hi7_0 : 0 ≤ y1.toInt) (hi7_1 : y1.toInt ≤ 42) (c8 : y1.toInt < (κ.1 6).toInt) (hr15_0 : 0 ≤ r15.toInt) (hr15_1 : r15.toInt ≤ 126) (hr15_2 : ¬ r15.toInt = 0 → 0 ≤ y1.toInt ∧ y1.toInt < (κ.1 6).toInt) (c16 : ¬ r15.toInt = 32) (hr17_5_0 : 0 ≤ n19.toInt) (hr17_5_1 : n19.toInt ≤ 41) (hr17_5_2 : r17.toInt ≤ 42) (c26 : y1.toInt < r17.toInt) : 0 ≤ r17.toInt ∧ r17.toInt ≤ 42 ∧ 0 ≤ n19.toInt ∧ n19.toInt ≤ 41 := by
  refine ⟨?_, ?_, ?_, ?_⟩ <;> first | assumption | omega | (subst_vars; omega) | trivial
-- inv2@7 @7
theorem vX4_cut_15 (ad : Nat → Nat) (sa : Nat → Nat) (κ : KS) (y1 : Int32) (P2 : PL) (n3 : Int32) (F4 : (Nat → Int32)) (F5 : (Nat → Int32)) (F6 : (Nat → Int32)) (r15 : Int32) (P18 : PL) (n19 : Int32) (F20 : (Nat → Int32)) (F21 : (Nat → Int32)) (F22 : (Nat → Int32)) (r17 : Int32) (hPV : PV sa κ.2.2.2.2) (hSV : SV ad κ.2.2.2.2 (κ.2.1 0) (κ.2.1 1) (κ.2.2.2.1 6) (κ.2.2.2.1 7) (κ.2.2.2.1 8) (κ.2.2.2.1 13) (κ.2.2.2.1 15) (κ.2.2.2.1 17) (κ.1 1).toInt) (hpre_0 : L9 (κ.2.2.1 9)) (hpre_1 : 0 ≤ (κ.1 6).toInt) (hpre_2 : (κ.1 6).toInt ≤ 40) (hpre_3 : 0 ≤ (κ.1 7).toInt) (hpre_4 : (κ.1 7).toInt ≤ 41) (hi7_0 : 0 ≤ y1.toInt) (hi7_1 : y1.toInt ≤ 42) (hi7_2 : 0 ≤ n3.toInt) (hi7_3 : n3.toInt ≤ 41) (hf7_0 : EX κ.2.2.2.2 P2) (hf7_2 : KPx True κ.2.2.2.2 P2) (hi7y_0 : LIc (tx (κ.2.2.1 9) (κ.1 6)) (κ.1 6).toInt F4 F5 F6 n3 y1.toInt) (hi7y_1 : y1.toInt ≤ (κ.1 6).toInt) (c8 : y1.toInt < (κ.1 6).toInt) (hr15y : (κ.1 6).toInt ≤ 40 → r15.toInt = tx (κ.2.2.1 9) (κ.1 6) y1.toInt) (hr15_0 : 0 ≤ r15.toInt) (hr15_1 : r15.toInt ≤ 126) (hr15_2 : ¬ r15.toInt = 0 → 0 ≤ y1.toInt ∧ y1.toInt < (κ.1 6).toInt) (c16 : ¬ r15.toInt = 32) (hr17_0 : EX P2 P18) (hr17_2 : KPx True P2 P18) (hr17y : n3.toInt ≤ y1.toInt → y1.toInt < (κ.1 6).toInt → ∃ t9, TokR (tx (κ.2.2.1 9) (κ.1 6)) (κ.1 6).toInt y1.toInt t9 ∧ LXc F4 F5 F6 n3 F20 F21 F22 n19 y1.toInt r17.toInt t9) (hr17_5_0 : 0 ≤ n19.toInt) (hr17_5_1 : n19.toInt ≤ 41) (hr17_5_2 : r17.toInt ≤ 42) (c26 : y1.toInt < r17.toInt) : LIc (tx (κ.2.2.1 9) (κ.1 6)) (κ.1 6).toInt F20 F21 F22 n19 r17.toInt ∧ r17.toInt ≤ (κ.1 6).toInt := by
  have pk0 := hr15y (by omega)
  have h2 := hi7y_0.2
  obtain ⟨t9, h8, h9⟩ := hr17y h2 (by omega)
  exact ⟨((h9.step h8 hi7_2 hi7y_0 (by omega) (by omega)).resolve_left (fun z => by have := z.1; omega)).2, h9.le h8 (fun z hz => tx_o hz) (by omega) (by omega)⟩
-- meas@7 @7
theorem vX4_cut_16 (κ : KS) (y1 : Int32) (r15 : Int32) (r17 : Int32) (hpre_1 : 0 ≤ (κ.1 6).toInt) (hpre_2 : (κ.1 6).toInt ≤ 40) (hi7_0 : 0 ≤ y1.toInt) (hi7_1 : y1.toInt ≤ 42) (c8 : y1.toInt < (κ.1 6).toInt) (hr15_0 : 0 ≤ r15.toInt) (hr15_1 : r15.toInt ≤ 126) (hr15_2 : ¬ r15.toInt = 0 → 0 ≤ y1.toInt ∧ y1.toInt < (κ.1 6).toInt) (c16 : ¬ r15.toInt = 32) (hr17_5_2 : r17.toInt ≤ 42) (c26 : y1.toInt < r17.toInt) : (42 - r17.toInt).toNat < (42 - y1.toInt).toNat := by
  first | assumption | omega | (subst_vars; omega) | trivial
-- lc@7 @7
theorem vX4_cut_17 (κ : KS) (y1 : Int32) (r15 : Int32) (r17 : Int32) (hpre_1 : 0 ≤ (κ.1 6).toInt) (hpre_2 : (κ.1 6).toInt ≤ 40) (hi7_0 : 0 ≤ y1.toInt) (hi7_1 : y1.toInt ≤ 42) (c8 : y1.toInt < (κ.1 6).toInt) (hr15_0 : 0 ≤ r15.toInt) (hr15_1 : r15.toInt ≤ 126) (hr15_2 : ¬ r15.toInt = 0 → 0 ≤ y1.toInt ∧ y1.toInt < (κ.1 6).toInt) (c16 : ¬ r15.toInt = 32) (hr17_5_2 : r17.toInt ≤ 42) (c26 : y1.toInt < r17.toInt) : (3 * y1.toInt).toNat + 0 + (qg1 y1.toInt r17.toInt) ≤ (3 * r17.toInt).toNat := by
  have zq0 := qg_spec y1.toInt r17.toInt
  first | assumption | omega | (subst_vars; omega) | trivial
-- ls@7 @7
theorem vX4_cut_18 (κ : KS) (y1 : Int32) (r15 : Int32) (r17 : Int32) (hpre_1 : 0 ≤ (κ.1 6).toInt) (hpre_2 : (κ.1 6).toInt ≤ 40) (hi7_0 : 0 ≤ y1.toInt) (hi7_1 : y1.toInt ≤ 42) (c8 : y1.toInt < (κ.1 6).toInt) (hr15_0 : 0 ≤ r15.toInt) (hr15_1 : r15.toInt ≤ 126) (hr15_2 : ¬ r15.toInt = 0 → 0 ≤ y1.toInt ∧ y1.toInt < (κ.1 6).toInt) (c16 : ¬ r15.toInt = 32) (hr17_5_2 : r17.toInt ≤ 42) (c26 : y1.toInt < r17.toInt) : (17 * y1.toInt).toNat + 0 + (qg2 y1.toInt r17.toInt) ≤ (17 * r17.toInt).toNat := by
  have zq0 := qg_spec y1.toInt r17.toInt
  first | assumption | omega | (subst_vars; omega) | trivial
-- post @43
theorem vX4_cut_19 (n19 : Int32) (hr17_5_0 : 0 ≤ n19.toInt) (hr17_5_1 : n19.toInt ≤ 41) : 0 ≤ n19.toInt ∧ n19.toInt ≤ 41 := by
  refine ⟨?_, ?_⟩ <;> first | assumption | omega | (subst_vars; omega) | trivial
-- post2 @43
theorem vX4_cut_20 (ad : Nat → Nat) (sa : Nat → Nat) (κ : KS) (y1 : Int32) (P2 : PL) (n3 : Int32) (F4 : (Nat → Int32)) (F5 : (Nat → Int32)) (F6 : (Nat → Int32)) (r15 : Int32) (P18 : PL) (n19 : Int32) (F20 : (Nat → Int32)) (F21 : (Nat → Int32)) (F22 : (Nat → Int32)) (r17 : Int32) (hPV : PV sa κ.2.2.2.2) (hSV : SV ad κ.2.2.2.2 (κ.2.1 0) (κ.2.1 1) (κ.2.2.2.1 6) (κ.2.2.2.1 7) (κ.2.2.2.1 8) (κ.2.2.2.1 13) (κ.2.2.2.1 15) (κ.2.2.2.1 17) (κ.1 1).toInt) (hpre_0 : L9 (κ.2.2.1 9)) (hpre_1 : 0 ≤ (κ.1 6).toInt) (hpre_2 : (κ.1 6).toInt ≤ 40) (hpre_3 : 0 ≤ (κ.1 7).toInt) (hpre_4 : (κ.1 7).toInt ≤ 41) (hi7_0 : 0 ≤ y1.toInt) (hi7_1 : y1.toInt ≤ 42) (hi7_2 : 0 ≤ n3.toInt) (hi7_3 : n3.toInt ≤ 41) (hf7_0 : EX κ.2.2.2.2 P2) (hf7_2 : KPx True κ.2.2.2.2 P2) (hi7y_0 : LIc (tx (κ.2.2.1 9) (κ.1 6)) (κ.1 6).toInt F4 F5 F6 n3 y1.toInt) (hi7y_1 : y1.toInt ≤ (κ.1 6).toInt) (c8 : y1.toInt < (κ.1 6).toInt) (hr15y : (κ.1 6).toInt ≤ 40 → r15.toInt = tx (κ.2.2.1 9) (κ.1 6) y1.toInt) (hr15_0 : 0 ≤ r15.toInt) (hr15_1 : r15.toInt ≤ 126) (hr15_2 : ¬ r15.toInt = 0 → 0 ≤ y1.toInt ∧ y1.toInt < (κ.1 6).toInt) (c16 : ¬ r15.toInt = 32) (hr17_0 : EX P2 P18) (hr17_2 : KPx True P2 P18) (hr17y : n3.toInt ≤ y1.toInt → y1.toInt < (κ.1 6).toInt → ∃ t9, TokR (tx (κ.2.2.1 9) (κ.1 6)) (κ.1 6).toInt y1.toInt t9 ∧ LXc F4 F5 F6 n3 F20 F21 F22 n19 y1.toInt r17.toInt t9) (hr17_5_0 : 0 ≤ n19.toInt) (hr17_5_1 : n19.toInt ≤ 41) (hr17_5_2 : r17.toInt ≤ 42) (c26 : r17.toInt ≤ y1.toInt) : (y1.toInt = -1 ∧ LexOK (tx (κ.2.2.1 9) (κ.1 6)) (κ.1 6).toInt (cT F20 n19) (cT F22 n19) (cT F21 n19) (n19.toInt - 1).toNat ∧ 1 ≤ n19.toInt) ∨ (0 ≤ y1.toInt ∧ LexErr (tx (κ.2.2.1 9) (κ.1 6)) (κ.1 6).toInt y1.toInt) := by
  have pk0 := hr15y (by omega)
  have h2 := hi7y_0.2
  obtain ⟨t9, h8, h9⟩ := hr17y h2 (by omega)
  exact Or.inr ⟨by omega, ((h9.step h8 hi7_2 hi7y_0 (by omega) (by omega)).resolve_right (fun z => by have := z.1; omega)).2⟩
-- grow @43
theorem vX4_cut_21 (κ : KS) (y1 : Int32) (r15 : Int32) (r17 : Int32) (hpre_1 : 0 ≤ (κ.1 6).toInt) (hpre_2 : (κ.1 6).toInt ≤ 40) (hi7_0 : 0 ≤ y1.toInt) (hi7_1 : y1.toInt ≤ 42) (c8 : y1.toInt < (κ.1 6).toInt) (hr15_0 : 0 ≤ r15.toInt) (hr15_1 : r15.toInt ≤ 126) (hr15_2 : ¬ r15.toInt = 0 → 0 ≤ y1.toInt ∧ y1.toInt < (κ.1 6).toInt) (c16 : ¬ r15.toInt = 32) (hr17_5_2 : r17.toInt ≤ 42) (c26 : r17.toInt ≤ y1.toInt) : (3 * y1.toInt).toNat + 0 + (qg1 y1.toInt r17.toInt) ≤ 260 := by
  have zq0 := qg_spec y1.toInt r17.toInt
  first | assumption | omega | (subst_vars; omega) | trivial
-- grow @43
theorem vX4_cut_22 (κ : KS) (y1 : Int32) (r15 : Int32) (r17 : Int32) (hpre_1 : 0 ≤ (κ.1 6).toInt) (hpre_2 : (κ.1 6).toInt ≤ 40) (hi7_0 : 0 ≤ y1.toInt) (hi7_1 : y1.toInt ≤ 42) (c8 : y1.toInt < (κ.1 6).toInt) (hr15_0 : 0 ≤ r15.toInt) (hr15_1 : r15.toInt ≤ 126) (hr15_2 : ¬ r15.toInt = 0 → 0 ≤ y1.toInt ∧ y1.toInt < (κ.1 6).toInt) (c16 : ¬ r15.toInt = 32) (hr17_5_2 : r17.toInt ≤ 42) (c26 : r17.toInt ≤ y1.toInt) : (17 * y1.toInt).toNat + 0 + (qg2 y1.toInt r17.toInt) ≤ 4000 := by
  have zq0 := qg_spec y1.toInt r17.toInt
  first | assumption | omega | (subst_vars; omega) | trivial
-- nw@27 @27
theorem vX4_cut_23 (κ : KS) (y1 : Int32) (r15 : Int32) (x27 : Int32) (hpre_1 : 0 ≤ (κ.1 6).toInt) (hpre_2 : (κ.1 6).toInt ≤ 40) (hi7_0 : 0 ≤ y1.toInt) (hi7_1 : y1.toInt ≤ 42) (c8 : y1.toInt < (κ.1 6).toInt) (hr15_0 : 0 ≤ r15.toInt) (hr15_1 : r15.toInt ≤ 126) (hr15_2 : ¬ r15.toInt = 0 → 0 ≤ y1.toInt ∧ y1.toInt < (κ.1 6).toInt) (c16 : r15.toInt = 32) (ex27 : x27 = y1 + (1 : Int32)) : x27.toInt = y1.toInt + 1 := by
  have q1 : (1 : Int32).toInt = 1 := by decide +kernel
  have w1 : (1 : Int32).toInt = 1 := by decide +kernel
  rw [ex27, z_add (by omega) (by omega)]; first | done | omega
-- inv@7 @7
theorem vX4_cut_24 (κ : KS) (y1 : Int32) (n3 : Int32) (r15 : Int32) (x27 : Int32) (hpre_1 : 0 ≤ (κ.1 6).toInt) (hpre_2 : (κ.1 6).toInt ≤ 40) (hi7_0 : 0 ≤ y1.toInt) (hi7_1 : y1.toInt ≤ 42) (hi7_2 : 0 ≤ n3.toInt) (hi7_3 : n3.toInt ≤ 41) (c8 : y1.toInt < (κ.1 6).toInt) (hr15_0 : 0 ≤ r15.toInt) (hr15_1 : r15.toInt ≤ 126) (hr15_2 : ¬ r15.toInt = 0 → 0 ≤ y1.toInt ∧ y1.toInt < (κ.1 6).toInt) (c16 : r15.toInt = 32) (ex27 : x27 = y1 + (1 : Int32)) (tx27 : x27.toInt = y1.toInt + 1) (c28 : y1.toInt < x27.toInt) : 0 ≤ x27.toInt ∧ x27.toInt ≤ 42 ∧ 0 ≤ n3.toInt ∧ n3.toInt ≤ 41 := by
  have q1 : (1 : Int32).toInt = 1 := by decide +kernel
  refine ⟨?_, ?_, ?_, ?_⟩ <;> first | assumption | omega | (subst_vars; omega) | trivial
-- inv2@7 @7
theorem vX4_cut_25 (ad : Nat → Nat) (sa : Nat → Nat) (κ : KS) (y1 : Int32) (P2 : PL) (n3 : Int32) (F4 : (Nat → Int32)) (F5 : (Nat → Int32)) (F6 : (Nat → Int32)) (r15 : Int32) (x27 : Int32) (hPV : PV sa κ.2.2.2.2) (hSV : SV ad κ.2.2.2.2 (κ.2.1 0) (κ.2.1 1) (κ.2.2.2.1 6) (κ.2.2.2.1 7) (κ.2.2.2.1 8) (κ.2.2.2.1 13) (κ.2.2.2.1 15) (κ.2.2.2.1 17) (κ.1 1).toInt) (hpre_0 : L9 (κ.2.2.1 9)) (hpre_1 : 0 ≤ (κ.1 6).toInt) (hpre_2 : (κ.1 6).toInt ≤ 40) (hpre_3 : 0 ≤ (κ.1 7).toInt) (hpre_4 : (κ.1 7).toInt ≤ 41) (hi7_0 : 0 ≤ y1.toInt) (hi7_1 : y1.toInt ≤ 42) (hi7_2 : 0 ≤ n3.toInt) (hi7_3 : n3.toInt ≤ 41) (hf7_0 : EX κ.2.2.2.2 P2) (hf7_2 : KPx True κ.2.2.2.2 P2) (hi7y_0 : LIc (tx (κ.2.2.1 9) (κ.1 6)) (κ.1 6).toInt F4 F5 F6 n3 y1.toInt) (hi7y_1 : y1.toInt ≤ (κ.1 6).toInt) (c8 : y1.toInt < (κ.1 6).toInt) (hr15y : (κ.1 6).toInt ≤ 40 → r15.toInt = tx (κ.2.2.1 9) (κ.1 6) y1.toInt) (hr15_0 : 0 ≤ r15.toInt) (hr15_1 : r15.toInt ≤ 126) (hr15_2 : ¬ r15.toInt = 0 → 0 ≤ y1.toInt ∧ y1.toInt < (κ.1 6).toInt) (c16 : r15.toInt = 32) (ex27 : x27 = y1 + (1 : Int32)) (tx27 : x27.toInt = y1.toInt + 1) (c28 : y1.toInt < x27.toInt) : LIc (tx (κ.2.2.1 9) (κ.1 6)) (κ.1 6).toInt F4 F5 F6 n3 x27.toInt ∧ x27.toInt ≤ (κ.1 6).toInt := by
  have q1 : (1 : Int32).toInt = 1 := by decide +kernel
  have pk0 := hr15y (by omega)
  exact ⟨⟨hi7y_0.1.sp (by omega) (by omega), by have := hi7y_0.2; omega⟩, by omega⟩
-- meas@7 @7
theorem vX4_cut_26 (κ : KS) (y1 : Int32) (r15 : Int32) (x27 : Int32) (hpre_1 : 0 ≤ (κ.1 6).toInt) (hpre_2 : (κ.1 6).toInt ≤ 40) (hi7_0 : 0 ≤ y1.toInt) (hi7_1 : y1.toInt ≤ 42) (c8 : y1.toInt < (κ.1 6).toInt) (hr15_0 : 0 ≤ r15.toInt) (hr15_1 : r15.toInt ≤ 126) (hr15_2 : ¬ r15.toInt = 0 → 0 ≤ y1.toInt ∧ y1.toInt < (κ.1 6).toInt) (c16 : r15.toInt = 32) (ex27 : x27 = y1 + (1 : Int32)) (tx27 : x27.toInt = y1.toInt + 1) (c28 : y1.toInt < x27.toInt) : (42 - x27.toInt).toNat < (42 - y1.toInt).toNat := by
  have q1 : (1 : Int32).toInt = 1 := by decide +kernel
  first | assumption | omega | (subst_vars; omega) | trivial
-- lc@7 @7
theorem vX4_cut_27 (κ : KS) (y1 : Int32) (r15 : Int32) (x27 : Int32) (hpre_1 : 0 ≤ (κ.1 6).toInt) (hpre_2 : (κ.1 6).toInt ≤ 40) (hi7_0 : 0 ≤ y1.toInt) (hi7_1 : y1.toInt ≤ 42) (c8 : y1.toInt < (κ.1 6).toInt) (hr15_0 : 0 ≤ r15.toInt) (hr15_1 : r15.toInt ≤ 126) (hr15_2 : ¬ r15.toInt = 0 → 0 ≤ y1.toInt ∧ y1.toInt < (κ.1 6).toInt) (c16 : r15.toInt = 32) (ex27 : x27 = y1 + (1 : Int32)) (tx27 : x27.toInt = y1.toInt + 1) (c28 : y1.toInt < x27.toInt) : (3 * y1.toInt).toNat + 0 ≤ (3 * x27.toInt).toNat := by
  have q1 : (1 : Int32).toInt = 1 := by decide +kernel
  first | assumption | omega | (subst_vars; omega) | trivial
-- ls@7 @7
theorem vX4_cut_28 (κ : KS) (y1 : Int32) (r15 : Int32) (x27 : Int32) (hpre_1 : 0 ≤ (κ.1 6).toInt) (hpre_2 : (κ.1 6).toInt ≤ 40) (hi7_0 : 0 ≤ y1.toInt) (hi7_1 : y1.toInt ≤ 42) (c8 : y1.toInt < (κ.1 6).toInt) (hr15_0 : 0 ≤ r15.toInt) (hr15_1 : r15.toInt ≤ 126) (hr15_2 : ¬ r15.toInt = 0 → 0 ≤ y1.toInt ∧ y1.toInt < (κ.1 6).toInt) (c16 : r15.toInt = 32) (ex27 : x27 = y1 + (1 : Int32)) (tx27 : x27.toInt = y1.toInt + 1) (c28 : y1.toInt < x27.toInt) : (17 * y1.toInt).toNat + 0 ≤ (17 * x27.toInt).toNat := by
  have q1 : (1 : Int32).toInt = 1 := by decide +kernel
  first | assumption | omega | (subst_vars; omega) | trivial
-- post2 @43
theorem vX4_cut_29 (ad : Nat → Nat) (sa : Nat → Nat) (κ : KS) (y1 : Int32) (P2 : PL) (n3 : Int32) (F4 : (Nat → Int32)) (F5 : (Nat → Int32)) (F6 : (Nat → Int32)) (r15 : Int32) (x27 : Int32) (hPV : PV sa κ.2.2.2.2) (hSV : SV ad κ.2.2.2.2 (κ.2.1 0) (κ.2.1 1) (κ.2.2.2.1 6) (κ.2.2.2.1 7) (κ.2.2.2.1 8) (κ.2.2.2.1 13) (κ.2.2.2.1 15) (κ.2.2.2.1 17) (κ.1 1).toInt) (hpre_0 : L9 (κ.2.2.1 9)) (hpre_1 : 0 ≤ (κ.1 6).toInt) (hpre_2 : (κ.1 6).toInt ≤ 40) (hpre_3 : 0 ≤ (κ.1 7).toInt) (hpre_4 : (κ.1 7).toInt ≤ 41) (hi7_0 : 0 ≤ y1.toInt) (hi7_1 : y1.toInt ≤ 42) (hi7_2 : 0 ≤ n3.toInt) (hi7_3 : n3.toInt ≤ 41) (hf7_0 : EX κ.2.2.2.2 P2) (hf7_2 : KPx True κ.2.2.2.2 P2) (hi7y_0 : LIc (tx (κ.2.2.1 9) (κ.1 6)) (κ.1 6).toInt F4 F5 F6 n3 y1.toInt) (hi7y_1 : y1.toInt ≤ (κ.1 6).toInt) (c8 : y1.toInt < (κ.1 6).toInt) (hr15y : (κ.1 6).toInt ≤ 40 → r15.toInt = tx (κ.2.2.1 9) (κ.1 6) y1.toInt) (hr15_0 : 0 ≤ r15.toInt) (hr15_1 : r15.toInt ≤ 126) (hr15_2 : ¬ r15.toInt = 0 → 0 ≤ y1.toInt ∧ y1.toInt < (κ.1 6).toInt) (c16 : r15.toInt = 32) (ex27 : x27 = y1 + (1 : Int32)) (tx27 : x27.toInt = y1.toInt + 1) (c28 : x27.toInt ≤ y1.toInt) : (y1.toInt = -1 ∧ LexOK (tx (κ.2.2.1 9) (κ.1 6)) (κ.1 6).toInt (cT F4 n3) (cT F6 n3) (cT F5 n3) (n3.toInt - 1).toNat ∧ 1 ≤ n3.toInt) ∨ (0 ≤ y1.toInt ∧ LexErr (tx (κ.2.2.1 9) (κ.1 6)) (κ.1 6).toInt y1.toInt) := by
  have q1 : (1 : Int32).toInt = 1 := by decide +kernel
  exfalso; omega
-- grow @43
theorem vX4_cut_30 (κ : KS) (y1 : Int32) (r15 : Int32) (x27 : Int32) (hpre_1 : 0 ≤ (κ.1 6).toInt) (hpre_2 : (κ.1 6).toInt ≤ 40) (hi7_0 : 0 ≤ y1.toInt) (hi7_1 : y1.toInt ≤ 42) (c8 : y1.toInt < (κ.1 6).toInt) (hr15_0 : 0 ≤ r15.toInt) (hr15_1 : r15.toInt ≤ 126) (hr15_2 : ¬ r15.toInt = 0 → 0 ≤ y1.toInt ∧ y1.toInt < (κ.1 6).toInt) (c16 : r15.toInt = 32) (ex27 : x27 = y1 + (1 : Int32)) (tx27 : x27.toInt = y1.toInt + 1) (c28 : x27.toInt ≤ y1.toInt) : (3 * y1.toInt).toNat + 0 ≤ 260 := by
  have q1 : (1 : Int32).toInt = 1 := by decide +kernel
  first | assumption | omega | (subst_vars; omega) | trivial
-- grow @43
theorem vX4_cut_31 (κ : KS) (y1 : Int32) (r15 : Int32) (x27 : Int32) (hpre_1 : 0 ≤ (κ.1 6).toInt) (hpre_2 : (κ.1 6).toInt ≤ 40) (hi7_0 : 0 ≤ y1.toInt) (hi7_1 : y1.toInt ≤ 42) (c8 : y1.toInt < (κ.1 6).toInt) (hr15_0 : 0 ≤ r15.toInt) (hr15_1 : r15.toInt ≤ 126) (hr15_2 : ¬ r15.toInt = 0 → 0 ≤ y1.toInt ∧ y1.toInt < (κ.1 6).toInt) (c16 : r15.toInt = 32) (ex27 : x27 = y1 + (1 : Int32)) (tx27 : x27.toInt = y1.toInt + 1) (c28 : x27.toInt ≤ y1.toInt) : (17 * y1.toInt).toNat + 0 ≤ 4000 := by
  have q1 : (1 : Int32).toInt = 1 := by decide +kernel
  first | assumption | omega | (subst_vars; omega) | trivial
-- lc0@7 @7
theorem vX4_cut_32   : 0 ≤ (3 * (0 : Int32).toInt).toNat := by
  have q0 : (0 : Int32).toInt = 0 := by decide +kernel
  first | assumption | omega | (subst_vars; omega) | trivial
-- ls0@7 @7
theorem vX4_cut_33   : 0 ≤ (17 * (0 : Int32).toInt).toNat := by
  have q0 : (0 : Int32).toInt = 0 := by decide +kernel
  first | assumption | omega | (subst_vars; omega) | trivial
set_option maxHeartbeats 4000000 in
set_option maxRecDepth 100000 in
theorem NX4_cut (l : Launch) (D : va_G) (cy : Nat → ClassId) (ad : Nat → Nat) (A : Nat → Prop) (sz0 : Nat) (sa : Nat → Nat)  (κ : KS) (sz sl : Nat) (hAF : ∀ q, A q → Fr sz0 q) (hAn : ∀ q : Nat, sz ≤ q → A q)  (hPV : PV sa κ.2.2.2.2) (hSV : SV ad κ.2.2.2.2 (κ.2.1 0) (κ.2.1 1) (κ.2.2.2.1 6) (κ.2.2.2.1 7) (κ.2.2.2.1 8) (κ.2.2.2.1 13) (κ.2.2.2.1 15) (κ.2.2.2.1 17) (κ.1 1).toInt) (hpre : L9 (κ.2.2.1 9) ∧ 0 ≤ (κ.1 6).toInt ∧ (κ.1 6).toInt ≤ 40 ∧ 0 ≤ (κ.1 7).toInt ∧ (κ.1 7).toInt ≤ 41) : Met l yX4_cut (Cond.code yX4_cut cX4_cut 3 (some .int) :: GWc) ({ frames := 8, cells := 260, slots := 4000, locals := 195 }) (PcC D cy ad A sz0 sa [.ref (ad 2)] κ sz sl) (va_Qi (fun (r : Int32) (u : PL × Int32 × (Nat → Int32) × (Nat → Int32) × (Nat → Int32) × (Nat → Option Nat)) => ((EX κ.2.2.2.2 u.1) ∧ (PV sa u.1) ∧ (KPx True κ.2.2.2.2 u.1) ∧ (SV ad u.1 (κ.2.1 0) (κ.2.1 1) (κ.2.2.2.1 6) (κ.2.2.2.1 7) (κ.2.2.2.1 8) u.2.2.2.2.2 (κ.2.2.2.1 15) (κ.2.2.2.1 17) (κ.1 1).toInt) ∧ (0 ≤ u.2.1.toInt ∧ u.2.1.toInt ≤ 41)) ∧ ((r.toInt = -1 ∧ LexOK (tx (κ.2.2.1 9) (κ.1 6)) (κ.1 6).toInt (cT u.2.2.1 u.2.1) (cT u.2.2.2.2.1 u.2.1) (cT u.2.2.2.1 u.2.1) (u.2.1.toInt - 1).toNat ∧ 1 ≤ u.2.1.toInt) ∨ (0 ≤ r.toInt ∧ LexErr (tx (κ.2.2.1 9) (κ.1 6)) (κ.1 6).toInt r.toInt))) (fun (u : PL × Int32 × (Nat → Int32) × (Nat → Int32) × (Nat → Int32) × (Nat → Option Nat)) (t : State) => Bx D cy ad A sz sl (tQ (tA (tA (tA (tI (tP κ u.1) 7 u.2.1) 10 u.2.2.1) 11 u.2.2.2.1) 12 u.2.2.2.2.1) 13 u.2.2.2.2.2) (260) (4000) t) A) (260) (4000) A := by
  refine CM_of (loc0 := [(0, .ref (ad 2))]) (own := RX4) (nm := "cut") (by decide) rfl rfl rfl (Nat.le_of_ble_eq_true rfl) hAF hAn ?_
  intro p e s m below meth c ls hsz hsl C hP hS hl
  obtain ⟨hpre_0, hpre_1, hpre_2, hpre_3, hpre_4⟩ := hpre
  refine lv_aload_n C.x C.b dX4_cut_0 rfl (lv_at hl 0 rfl) ?_
  refine lv_iconst (v := 0) C.x C.b dX4_cut_1 (by decide +kernel) ?_
  refine cp_X4_6 (v := 0) C hP hS cw_476 dX4_cut_2 (fun H locs hP hS => ?_)
  refine lv_iconst (v := 0) C.x C.b dX4_cut_5 (by decide +kernel) ?_
  refine lv_istore_n (lv' := [(1, .int 0), (0, .ref (ad 2))]) C.x C.b dX4_cut_6 rfl hl (by decide) rfl (fun ls hl => ?_)
  have lp7 : ∀ (n : Nat) (y1 : Int32) (P2 : PL) (n3 : Int32) (F4 : (Nat → Int32)) (F5 : (Nat → Int32)) (F6 : (Nat → Int32)) (Z7 : (Nat → Option Nat)) (H : Heap) (locs : List Loc) (ls : Array Slot), (42 - y1.toInt).toNat < n → (EX κ.2.2.2.2 P2) → (PV sa P2) → (KPx True κ.2.2.2.2 P2) → (SV ad P2 (κ.2.1 0) (κ.2.1 1) (κ.2.2.2.1 6) (κ.2.2.2.1 7) (κ.2.2.2.1 8) Z7 (κ.2.2.2.1 15) (κ.2.2.2.1 17) (κ.1 1).toInt) → ((0 ≤ y1.toInt ∧ y1.toInt ≤ 42 ∧ 0 ≤ n3.toInt ∧ n3.toInt ≤ 41) ∧ (LIc (tx (κ.2.2.1 9) (κ.1 6)) (κ.1 6).toInt F4 F5 F6 n3 y1.toInt ∧ y1.toInt ≤ (κ.1 6).toInt)) → CH D cy ad A (tQ (tA (tA (tA (tI (tP (tI κ 7 (0 : Int32)) P2) 7 n3) 10 F4) 11 F5) 12 F6) 13 Z7) H → va_S A s.heap H locs → lv_has ls 3 [(1, .int y1), (0, .ref (ad 2))] → W p l e (headSpec (Cond.code yX4_cut cX4_cut 3 (some .int) :: GWc) ({ frames := 8, cells := 260, slots := 4000, locals := 195 })).room s m #[.ref (ad 2)] below meth c H locs ((3 * y1.toInt).toNat) ((17 * y1.toInt).toNat) (MQ below (va_Qi (fun (r : Int32) (u : PL × Int32 × (Nat → Int32) × (Nat → Int32) × (Nat → Int32) × (Nat → Option Nat)) => ((EX κ.2.2.2.2 u.1) ∧ (PV sa u.1) ∧ (KPx True κ.2.2.2.2 u.1) ∧ (SV ad u.1 (κ.2.1 0) (κ.2.1 1) (κ.2.2.2.1 6) (κ.2.2.2.1 7) (κ.2.2.2.1 8) u.2.2.2.2.2 (κ.2.2.2.1 15) (κ.2.2.2.1 17) (κ.1 1).toInt) ∧ (0 ≤ u.2.1.toInt ∧ u.2.1.toInt ≤ 41)) ∧ ((r.toInt = -1 ∧ LexOK (tx (κ.2.2.1 9) (κ.1 6)) (κ.1 6).toInt (cT u.2.2.1 u.2.1) (cT u.2.2.2.2.1 u.2.1) (cT u.2.2.2.1 u.2.1) (u.2.1.toInt - 1).toNat ∧ 1 ≤ u.2.1.toInt) ∨ (0 ≤ r.toInt ∧ LexErr (tx (κ.2.2.1 9) (κ.1 6)) (κ.1 6).toInt r.toInt))) (fun (u : PL × Int32 × (Nat → Int32) × (Nat → Int32) × (Nat → Int32) × (Nat → Option Nat)) (t : State) => Bx D cy ad A sz sl (tQ (tA (tA (tA (tI (tP κ u.1) 7 u.2.1) 10 u.2.2.1) 11 u.2.2.2.1) 12 u.2.2.2.2.1) 13 u.2.2.2.2.2) (260) (4000) t) A) #[.ref (ad 2)] s (260) (4000) A) (F0 m 7 ls []) := by
    intro n
    induction n with
    | zero => intro y1 P2 n3 F4 F5 F6 Z7 H locs ls hn; exact absurd hn (Nat.not_lt_zero _)
    | succ n7 ih7 =>
      intro y1 P2 n3 F4 F5 F6 Z7 H locs ls hn7 hf7_0 hf7_1 hf7_2 hf7_3 hi7 hP hS hl
      obtain ⟨hi7, hi7y⟩ := hi7
      obtain ⟨hi7_0, hi7_1, hi7_2, hi7_3⟩ := hi7
      obtain ⟨hi7y_0, hi7y_1⟩ := hi7y
      refine lv_iload_n C.x C.b dX4_cut_7 rfl (lv_at hl 0 rfl) ?_
      refine lv_aload_n C.x C.b dX4_cut_8 rfl (lv_at hl 1 rfl) ?_
      refine cg_X4_1 (v := (κ.1 6)) C hP rfl cw_474 dX4_cut_9 ?_
      refine lv_icmp_ge (tgt := 49) C.x C.b dX4_cut_12 (by decide) (fun c8 => ?_) (fun c8 => ?_)
      · have c8 : (κ.1 6).toInt ≤ y1.toInt := by have h := z_le c8; exact h
        refine lv_aload_n C.x C.b dX4_cut_49 rfl (lv_at hl 1 rfl) ?_
        refine lv_iconst (v := 0) C.x C.b dX4_cut_50 (by decide +kernel) ?_
        refine lv_aload_n C.x C.b dX4_cut_51 rfl (lv_at hl 1 rfl) ?_
        refine cg_X4_1 (v := (κ.1 6)) C hP rfl cw_474 dX4_cut_52 ?_
        refine lv_iconst (v := 0) C.x C.b dX4_cut_55 (by decide +kernel) ?_
        refine lv_null C.x C.b dX4_cut_56 ?_
        refine c_callVv (n := 4) (As := [.int 0, .int (κ.1 6), .int 0, .null]) (rest := []) C hP hS hl.1 (NX4_add l D cy ad A sz0 sa (tQ (tA (tA (tA (tI (tP (tI κ 7 (0 : Int32)) P2) 7 n3) 10 F4) 11 F5) 12 F6) 13 Z7) H.size (SLT H) C.f (fun q h => C.a q (Nat.le_trans hS.1 h)) (0 : Int32) (κ.1 6) (0 : Int32) none nt_n hf7_3 (vX4_cut_3 n3 hi7_2 hi7_3)) ⟨cw_509, cw_512, by decide +kernel⟩ ⟨cw_510, cw_511, cw_484⟩ rfl (hP.recvS (k := 2) (ci := 6) C.K rfl rfl) rfl rfl (lv_room (Nat.le_of_ble_eq_true rfl)) ⟨Nat.le_of_ble_eq_true rfl, Nat.le_of_ble_eq_true rfl⟩ ⟨(vX4_cut_4 κ y1 hpre_1 hpre_2 hi7_0 hi7_1 c8), (vX4_cut_5 κ y1 hpre_1 hpre_2 hi7_0 hi7_1 c8)⟩ dX4_cut_57 (fun u H locs hr9 hP hS => ?_)
        obtain ⟨n10, F11, F12, F13, Z14⟩ := u
        have hP : CH D cy ad A (tQ (tA (tA (tA (tI (tQ (tA (tA (tA (tI (tP (tI κ 7 (0 : Int32)) P2) 7 n3) 10 F4) 11 F5) 12 F6) 13 Z7) 7 n10) 10 F11) 11 F12) 12 F13) 13 Z14) H := hP
        obtain ⟨hr9, hr9y⟩ := hr9
        have hr9y : n3.toInt < 41 → ADc F4 F5 F6 n3 F11 F12 F13 n10 (0 : Int32) (κ.1 6) (0 : Int32) := hr9y
        have hr9 : (SV ad P2 (κ.2.1 0) (κ.2.1 1) (κ.2.2.2.1 6) (κ.2.2.2.1 7) (κ.2.2.2.1 8) Z14 (κ.2.2.2.1 15) (κ.2.2.2.1 17) (κ.1 1).toInt) ∧ (0 ≤ n10.toInt ∧ n10.toInt ≤ 41) := hr9
        obtain ⟨hr9_0, hr9_1⟩ := hr9
        obtain ⟨hr9_1_0, hr9_1_1⟩ := hr9_1
        refine lv_iconst (v := (-1)) C.x C.b dX4_cut_60 (by decide +kernel) ?_
        have hP : CH D cy ad A (tQ (tA (tA (tA (tI (tP κ P2) 7 n10) 10 F11) 11 F12) 12 F13) 13 Z14) H := CH.cong hP rfl rfl rfl rfl rfl rfl rfl rfl rfl rfl rfl rfl rfl rfl rfl rfl rfl rfl rfl rfl rfl rfl rfl rfl rfl rfl rfl
        exact c_reti C hsz hsl ⟨P2, n10, F11, F12, F13, Z14⟩ ⟨⟨hf7_0, hf7_1, hf7_2, hr9_0, (vX4_cut_6 n10 hr9_1_0 hr9_1_1)⟩, (vX4_cut_7 ad sa κ y1 P2 n3 F4 F5 F6 n10 F11 F12 F13 hPV hSV hpre_0 hpre_1 hpre_2 hpre_3 hpre_4 hi7_0 hi7_1 hi7_2 hi7_3 hf7_0 hf7_2 hi7y_0 hi7y_1 c8 hr9y hr9_1_0 hr9_1_1)⟩ hP hS ⟨(vX4_cut_4 κ y1 hpre_1 hpre_2 hi7_0 hi7_1 c8), (vX4_cut_5 κ y1 hpre_1 hpre_2 hi7_0 hi7_1 c8)⟩ ⟨(Nat.le_of_ble_eq_true rfl), (Nat.le_of_ble_eq_true rfl)⟩ dX4_cut_61
      · have c8 : y1.toInt < (κ.1 6).toInt := by have h := z_nle c8; exact h
        refine lv_aload_n C.x C.b dX4_cut_15 rfl (lv_at hl 1 rfl) ?_
        refine lv_iload_n C.x C.b dX4_cut_16 rfl (lv_at hl 0 rfl) ?_
        refine c_callVi (n := 1) (As := [.int y1]) (rest := []) C hP hS hl.1 (NX4_peek l D cy ad A sz0 sa (tQ (tA (tA (tA (tI (tP (tI κ 7 (0 : Int32)) P2) 7 n3) 10 F4) 11 F5) 12 F6) 13 Z7) H.size (SLT H) C.f (fun q h => C.a q (Nat.le_trans hS.1 h)) y1 (vX4_cut_8 κ hpre_0)) ⟨cw_481, cw_485, by decide +kernel⟩ ⟨cw_482, cw_483, cw_484⟩ rfl (hP.recvS (k := 2) (ci := 6) C.K rfl rfl) rfl rfl (lv_room (Nat.le_of_ble_eq_true rfl)) ⟨Nat.le_of_ble_eq_true rfl, Nat.le_of_ble_eq_true rfl⟩ ⟨(vX4_cut_9 κ y1 hpre_1 hpre_2 hi7_0 hi7_1 c8), (vX4_cut_10 κ y1 hpre_1 hpre_2 hi7_0 hi7_1 c8)⟩ dX4_cut_17 (fun r15 u H locs hr15 hP hS => ?_)
        obtain ⟨hr15, hr15y⟩ := hr15
        have hr15y : (κ.1 6).toInt ≤ 40 → r15.toInt = tx (κ.2.2.1 9) (κ.1 6) y1.toInt := hr15y
        have hr15 : (0 ≤ r15.toInt ∧ r15.toInt ≤ 126 ∧ (¬ r15.toInt = 0 → 0 ≤ y1.toInt ∧ y1.toInt < (κ.1 6).toInt)) := hr15
        obtain ⟨hr15_0, hr15_1, hr15_2⟩ := hr15
        refine lv_bipush (v := 32) C.x C.b dX4_cut_20 (by decide +kernel) ?_
        refine lv_icmp_ne (tgt := 31) C.x C.b dX4_cut_22 (by decide) (fun c16 => ?_) (fun c16 => ?_)
        · have c16 : ¬ r15.toInt = 32 := by have h := z_ne c16; rw [show (32 : Int32).toInt = 32 from by decide +kernel] at h; exact h
          refine lv_aload_n C.x C.b dX4_cut_31 rfl (lv_at hl 1 rfl) ?_
          refine lv_iload_n C.x C.b dX4_cut_32 rfl (lv_at hl 0 rfl) ?_
          refine c_callVi (n := 1) (As := [.int y1]) (rest := []) C hP hS hl.1 (NX4_token l D cy ad A sz0 sa (tQ (tA (tA (tA (tI (tP (tI κ 7 (0 : Int32)) P2) 7 n3) 10 F4) 11 F5) 12 F6) 13 Z7) H.size (SLT H) C.f (fun q h => C.a q (Nat.le_trans hS.1 h)) y1 hf7_1 hf7_3 (vX4_cut_11 κ y1 n3 r15 hpre_0 hpre_1 hpre_2 hi7_0 hi7_1 hi7_2 hi7_3 c8 hr15_0 hr15_1 hr15_2 c16)) ⟨cw_486, cw_489, by decide +kernel⟩ ⟨cw_487, cw_488, cw_484⟩ rfl (hP.recvS (k := 2) (ci := 6) C.K rfl rfl) rfl rfl (lv_room (Nat.le_of_ble_eq_true rfl)) ⟨Nat.le_of_ble_eq_true rfl, Nat.le_of_ble_eq_true rfl⟩ ⟨(vX4_cut_12 κ y1 r15 hpre_1 hpre_2 hi7_0 hi7_1 c8 hr15_0 hr15_1 hr15_2 c16), (vX4_cut_13 κ y1 r15 hpre_1 hpre_2 hi7_0 hi7_1 c8 hr15_0 hr15_1 hr15_2 c16)⟩ dX4_cut_33 (fun r17 u H locs hr17 hP hS => ?_)
          obtain ⟨P18, n19, F20, F21, F22, Z23, w24⟩ := u
          have hP : CH D cy ad A (tQ (tA (tA (tA (tI (tP (tQ (tA (tA (tA (tI (tP (tI κ 7 (0 : Int32)) P2) 7 n3) 10 F4) 11 F5) 12 F6) 13 Z7) P18) 7 n19) 10 F20) 11 F21) 12 F22) 13 Z23) H := hP
          obtain ⟨hr17, hr17y⟩ := hr17
          have hr17y : n3.toInt ≤ y1.toInt → y1.toInt < (κ.1 6).toInt → ∃ t9, TokR (tx (κ.2.2.1 9) (κ.1 6)) (κ.1 6).toInt y1.toInt t9 ∧ LXc F4 F5 F6 n3 F20 F21 F22 n19 y1.toInt r17.toInt t9 := hr17y
          have hr17 : (EX P2 P18) ∧ (PV sa P18) ∧ (KPx True P2 P18) ∧ (SV ad P18 (κ.2.1 0) (κ.2.1 1) (κ.2.2.2.1 6) (κ.2.2.2.1 7) (κ.2.2.2.1 8) Z23 (κ.2.2.2.1 15) (κ.2.2.2.1 17) (κ.1 1).toInt) ∧ (r17 = w24) ∧ (0 ≤ n19.toInt ∧ n19.toInt ≤ 41 ∧ r17.toInt ≤ 42) := hr17
          obtain ⟨hr17_0, hr17_1, hr17_2, hr17_3, hr17_4, hr17_5⟩ := hr17
          have kpz25 : KPx True κ.2.2.2.2 P18 := hf7_2.trans hr17_2
          obtain rfl := hr17_4
          obtain ⟨hr17_5_0, hr17_5_1, hr17_5_2⟩ := hr17_5
          refine lv_istore_n (lv' := [(2, .int r17), (1, .int y1), (0, .ref (ad 2))]) C.x C.b dX4_cut_36 rfl hl (by decide) rfl (fun ls hl => ?_)
          refine lv_iload_n C.x C.b dX4_cut_37 rfl (lv_at hl 0 rfl) ?_
          refine lv_iload_n C.x C.b dX4_cut_38 rfl (lv_at hl 1 rfl) ?_
          refine lv_icmp_gt (tgt := 44) C.x C.b dX4_cut_39 (by decide) (fun c26 => ?_) (fun c26 => ?_)
          · have c26 : y1.toInt < r17.toInt := by have h := z_lt c26; exact h
            refine lv_iload_n C.x C.b dX4_cut_44 rfl (lv_at hl 0 rfl) ?_
            refine lv_istore_n (lv' := [(1, .int r17), (2, .int r17), (0, .ref (ad 2))]) C.x C.b dX4_cut_45 rfl hl (by decide) rfl (fun ls hl => ?_)
            refine lv_goto (tgt := 7) C.x C.b dX4_cut_46 (by decide) ?_
            have hP : CH D cy ad A (tQ (tA (tA (tA (tI (tP (tI κ 7 (0 : Int32)) P18) 7 n19) 10 F20) 11 F21) 12 F22) 13 Z23) H := CH.cong hP rfl rfl rfl rfl rfl rfl rfl rfl rfl rfl rfl rfl rfl rfl rfl rfl rfl rfl rfl rfl rfl rfl rfl rfl rfl rfl rfl
            refine W.widen (k := (3 * r17.toInt).toNat) (n := (17 * r17.toInt).toNat) (vX4_cut_17 κ y1 r15 r17 hpre_1 hpre_2 hi7_0 hi7_1 c8 hr15_0 hr15_1 hr15_2 c16 hr17_5_2 c26) (vX4_cut_18 κ y1 r15 r17 hpre_1 hpre_2 hi7_0 hi7_1 c8 hr15_0 hr15_1 hr15_2 c16 hr17_5_2 c26) ?_
            exact ih7 r17 P18 n19 F20 F21 F22 Z23 _ _ _ (Nat.lt_of_lt_of_le (vX4_cut_16 κ y1 r15 r17 hpre_1 hpre_2 hi7_0 hi7_1 c8 hr15_0 hr15_1 hr15_2 c16 hr17_5_2 c26) (Nat.le_of_lt_succ hn7)) (hf7_0.trans hr17_0) hr17_1 kpz25 hr17_3 ⟨(vX4_cut_14 κ y1 r15 n19 r17 hpre_1 hpre_2 hi7_0 hi7_1 c8 hr15_0 hr15_1 hr15_2 c16 hr17_5_0 hr17_5_1 hr17_5_2 c26), (vX4_cut_15 ad sa κ y1 P2 n3 F4 F5 F6 r15 P18 n19 F20 F21 F22 r17 hPV hSV hpre_0 hpre_1 hpre_2 hpre_3 hpre_4 hi7_0 hi7_1 hi7_2 hi7_3 hf7_0 hf7_2 hi7y_0 hi7y_1 c8 hr15y hr15_0 hr15_1 hr15_2 c16 hr17_0 hr17_2 hr17y hr17_5_0 hr17_5_1 hr17_5_2 c26)⟩ hP hS (lv_sub hl [0, 2] rfl)
          · have c26 : r17.toInt ≤ y1.toInt := by have h := z_nlt c26; exact h
            refine lv_iload_n C.x C.b dX4_cut_42 rfl (lv_at hl 1 rfl) ?_
            have hP : CH D cy ad A (tQ (tA (tA (tA (tI (tP κ P18) 7 n19) 10 F20) 11 F21) 12 F22) 13 Z23) H := CH.cong hP rfl rfl rfl rfl rfl rfl rfl rfl rfl rfl rfl rfl rfl rfl rfl rfl rfl rfl rfl rfl rfl rfl rfl rfl rfl rfl rfl
            exact c_reti C hsz hsl ⟨P18, n19, F20, F21, F22, Z23⟩ ⟨⟨(hf7_0.trans hr17_0), hr17_1, kpz25, hr17_3, (vX4_cut_19 n19 hr17_5_0 hr17_5_1)⟩, (vX4_cut_20 ad sa κ y1 P2 n3 F4 F5 F6 r15 P18 n19 F20 F21 F22 r17 hPV hSV hpre_0 hpre_1 hpre_2 hpre_3 hpre_4 hi7_0 hi7_1 hi7_2 hi7_3 hf7_0 hf7_2 hi7y_0 hi7y_1 c8 hr15y hr15_0 hr15_1 hr15_2 c16 hr17_0 hr17_2 hr17y hr17_5_0 hr17_5_1 hr17_5_2 c26)⟩ hP hS ⟨(vX4_cut_21 κ y1 r15 r17 hpre_1 hpre_2 hi7_0 hi7_1 c8 hr15_0 hr15_1 hr15_2 c16 hr17_5_2 c26), (vX4_cut_22 κ y1 r15 r17 hpre_1 hpre_2 hi7_0 hi7_1 c8 hr15_0 hr15_1 hr15_2 c16 hr17_5_2 c26)⟩ ⟨(Nat.le_of_ble_eq_true rfl), (Nat.le_of_ble_eq_true rfl)⟩ dX4_cut_43
        · have c16 : r15.toInt = 32 := by have h := z_eq c16; rw [show (32 : Int32).toInt = 32 from by decide +kernel] at h; exact h
          refine lv_iload_n C.x C.b dX4_cut_25 rfl (lv_at hl 0 rfl) ?_
          refine lv_iconst (v := 1) C.x C.b dX4_cut_26 (by decide +kernel) ?_
          refine lv_iadd C.x C.b dX4_cut_27 ?_
          refine lv_topi (fun x27 ex27 => ?_)
          have tx27 : x27.toInt = y1.toInt + 1 := (vX4_cut_23 κ y1 r15 x27 hpre_1 hpre_2 hi7_0 hi7_1 c8 hr15_0 hr15_1 hr15_2 c16 ex27)
          refine lv_goto (tgt := 36) C.x C.b dX4_cut_28 (by decide) ?_
          refine lv_istore_n (lv' := [(2, .int x27), (1, .int y1), (0, .ref (ad 2))]) C.x C.b dX4_cut_36 rfl hl (by decide) rfl (fun ls hl => ?_)
          refine lv_iload_n C.x C.b dX4_cut_37 rfl (lv_at hl 0 rfl) ?_
          refine lv_iload_n C.x C.b dX4_cut_38 rfl (lv_at hl 1 rfl) ?_
          refine lv_icmp_gt (tgt := 44) C.x C.b dX4_cut_39 (by decide) (fun c28 => ?_) (fun c28 => ?_)
          · have c28 : y1.toInt < x27.toInt := by have h := z_lt c28; exact h
            refine lv_iload_n C.x C.b dX4_cut_44 rfl (lv_at hl 0 rfl) ?_
            refine lv_istore_n (lv' := [(1, .int x27), (2, .int x27), (0, .ref (ad 2))]) C.x C.b dX4_cut_45 rfl hl (by decide) rfl (fun ls hl => ?_)
            refine lv_goto (tgt := 7) C.x C.b dX4_cut_46 (by decide) ?_
            refine W.widen (k := (3 * x27.toInt).toNat) (n := (17 * x27.toInt).toNat) (vX4_cut_27 κ y1 r15 x27 hpre_1 hpre_2 hi7_0 hi7_1 c8 hr15_0 hr15_1 hr15_2 c16 ex27 tx27 c28) (vX4_cut_28 κ y1 r15 x27 hpre_1 hpre_2 hi7_0 hi7_1 c8 hr15_0 hr15_1 hr15_2 c16 ex27 tx27 c28) ?_
            exact ih7 x27 P2 n3 F4 F5 F6 Z7 _ _ _ (Nat.lt_of_lt_of_le (vX4_cut_26 κ y1 r15 x27 hpre_1 hpre_2 hi7_0 hi7_1 c8 hr15_0 hr15_1 hr15_2 c16 ex27 tx27 c28) (Nat.le_of_lt_succ hn7)) hf7_0 hf7_1 hf7_2 hf7_3 ⟨(vX4_cut_24 κ y1 n3 r15 x27 hpre_1 hpre_2 hi7_0 hi7_1 hi7_2 hi7_3 c8 hr15_0 hr15_1 hr15_2 c16 ex27 tx27 c28), (vX4_cut_25 ad sa κ y1 P2 n3 F4 F5 F6 r15 x27 hPV hSV hpre_0 hpre_1 hpre_2 hpre_3 hpre_4 hi7_0 hi7_1 hi7_2 hi7_3 hf7_0 hf7_2 hi7y_0 hi7y_1 c8 hr15y hr15_0 hr15_1 hr15_2 c16 ex27 tx27 c28)⟩ hP hS (lv_sub hl [0, 2] rfl)
          · have c28 : x27.toInt ≤ y1.toInt := by have h := z_nlt c28; exact h
            refine lv_iload_n C.x C.b dX4_cut_42 rfl (lv_at hl 1 rfl) ?_
            have hP : CH D cy ad A (tQ (tA (tA (tA (tI (tP κ P2) 7 n3) 10 F4) 11 F5) 12 F6) 13 Z7) H := CH.cong hP rfl rfl rfl rfl rfl rfl rfl rfl rfl rfl rfl rfl rfl rfl rfl rfl rfl rfl rfl rfl rfl rfl rfl rfl rfl rfl rfl
            exact c_reti C hsz hsl ⟨P2, n3, F4, F5, F6, Z7⟩ ⟨⟨hf7_0, hf7_1, hf7_2, hf7_3, (vX4_cut_3 n3 hi7_2 hi7_3)⟩, (vX4_cut_29 ad sa κ y1 P2 n3 F4 F5 F6 r15 x27 hPV hSV hpre_0 hpre_1 hpre_2 hpre_3 hpre_4 hi7_0 hi7_1 hi7_2 hi7_3 hf7_0 hf7_2 hi7y_0 hi7y_1 c8 hr15y hr15_0 hr15_1 hr15_2 c16 ex27 tx27 c28)⟩ hP hS ⟨(vX4_cut_30 κ y1 r15 x27 hpre_1 hpre_2 hi7_0 hi7_1 c8 hr15_0 hr15_1 hr15_2 c16 ex27 tx27 c28), (vX4_cut_31 κ y1 r15 x27 hpre_1 hpre_2 hi7_0 hi7_1 c8 hr15_0 hr15_1 hr15_2 c16 ex27 tx27 c28)⟩ ⟨(Nat.le_of_ble_eq_true rfl), (Nat.le_of_ble_eq_true rfl)⟩ dX4_cut_43
  have hP : CH D cy ad A (tQ (tA (tA (tA (tI (tP (tI κ 7 (0 : Int32)) κ.2.2.2.2) 7 (0 : Int32)) 10 (κ.2.2.1 10)) 11 (κ.2.2.1 11)) 12 (κ.2.2.1 12)) 13 (κ.2.2.2.1 13)) H := CH.cong hP rfl rfl rfl rfl rfl rfl rfl rfl rfl rfl rfl rfl rfl rfl rfl rfl rfl rfl rfl rfl rfl rfl rfl rfl rfl rfl rfl
  refine W.widen (k := (3 * (0 : Int32).toInt).toNat) (n := (17 * (0 : Int32).toInt).toNat) (vX4_cut_32  ) (vX4_cut_33  ) ?_
  exact lp7 ((42 - (0 : Int32).toInt).toNat + 1) (0 : Int32) κ.2.2.2.2 (0 : Int32) (κ.2.2.1 10) (κ.2.2.1 11) (κ.2.2.1 12) (κ.2.2.2.1 13) _ _ _ (Nat.lt_succ_self _) EX.rf hPV KPx.rf hSV ⟨(vX4_cut_1  ), (vX4_cut_2 ad sa κ hPV hSV hpre_0 hpre_1 hpre_2 hpre_3 hpre_4)⟩ hP hS (lv_sub hl [0, 1] rfl)
