-- frames @12
theorem vX8_eval_vS_1 (d : Nat)  : 0 + 1 ≤ 4 * (d + 1) + 30 := by
  first | assumption | omega | (subst_vars; omega) | trivial
-- locals @12
theorem vX8_eval_vS_2 (d : Nat)  : 8 + (2 + 11) + 0 ≤ 200 * (d + 1) + 700 := by
  first | assumption | omega | (subst_vars; omega) | trivial
-- room @12
theorem vX8_eval_vS_3 (κ : KS)  : 0 + 0 ≤ 13 * cto κ.2.2.2.2 none := by
  have zc0 : cto κ.2.2.2.2 none = 0 := rfl
  first | assumption | omega | (subst_vars; omega) | trivial
-- room @12
theorem vX8_eval_vS_4 (κ : KS)  : 0 + 0 ≤ 120 * cto κ.2.2.2.2 none := by
  have zc0 : cto κ.2.2.2.2 none = 0 := rfl
  first | assumption | omega | (subst_vars; omega) | trivial
-- post @15
theorem vX8_eval_vS_5 (κ : KS) (hpre_0 : 0 ≤ (κ.1 8).toInt) (hpre_1 : (κ.1 8).toInt ≤ 12) : 0 ≤ (κ.1 8).toInt ∧ (κ.1 8).toInt ≤ 12 := by
  refine ⟨?_, ?_⟩ <;> first | assumption | omega | (subst_vars; omega) | trivial
-- growm @15
theorem vX8_eval_vS_6 (κ : KS)  : 13 * cto κ.2.2.2.2 none ≤ 13 * cto κ.2.2.2.2 none := by
  have zc0 : cto κ.2.2.2.2 none = 0 := rfl
  first | assumption | omega | (subst_vars; omega) | trivial
-- growm @15
theorem vX8_eval_vS_7 (κ : KS)  : 120 * cto κ.2.2.2.2 none ≤ 120 * cto κ.2.2.2.2 none := by
  have zc0 : cto κ.2.2.2.2 none = 0 := rfl
  first | assumption | omega | (subst_vars; omega) | trivial
-- grow @132
theorem vX8_eval_vS_8 (κ : KS) (b1 : Nat) (x5 : Int32) (ex5 : oI κ.2.2.2.2 2 b1 = x5) (c6_0 : x5.toInt = 1) : 0 ≤ 13 * cto κ.2.2.2.2 (some b1) := by
  first | assumption | omega | (subst_vars; omega) | trivial
-- grow @132
theorem vX8_eval_vS_9 (κ : KS) (b1 : Nat) (x5 : Int32) (ex5 : oI κ.2.2.2.2 2 b1 = x5) (c6_0 : x5.toInt = 1) : 0 ≤ 120 * cto κ.2.2.2.2 (some b1) := by
  first | assumption | omega | (subst_vars; omega) | trivial
-- growm @132
theorem vX8_eval_vS_10 (κ : KS) (b1 : Nat) (x5 : Int32) (ex5 : oI κ.2.2.2.2 2 b1 = x5) (c6_0 : x5.toInt = 1) : 13 * cto κ.2.2.2.2 (some b1) ≤ 13 * cto κ.2.2.2.2 (some b1) := by
  first | assumption | omega | (subst_vars; omega) | trivial
-- growm @132
theorem vX8_eval_vS_11 (κ : KS) (b1 : Nat) (x5 : Int32) (ex5 : oI κ.2.2.2.2 2 b1 = x5) (c6_0 : x5.toInt = 1) : 120 * cto κ.2.2.2.2 (some b1) ≤ 120 * cto κ.2.2.2.2 (some b1) := by
  first | assumption | omega | (subst_vars; omega) | trivial
-- grow @137
theorem vX8_eval_vS_12 (κ : KS) (b1 : Nat) (x5 : Int32) (ex5 : oI κ.2.2.2.2 2 b1 = x5) (c6_0 : ¬ x5.toInt = 1) (c6_1 : x5.toInt = 2) : 0 ≤ 13 * cto κ.2.2.2.2 (some b1) := by
  first | assumption | omega | (subst_vars; omega) | trivial
-- grow @137
theorem vX8_eval_vS_13 (κ : KS) (b1 : Nat) (x5 : Int32) (ex5 : oI κ.2.2.2.2 2 b1 = x5) (c6_0 : ¬ x5.toInt = 1) (c6_1 : x5.toInt = 2) : 0 ≤ 120 * cto κ.2.2.2.2 (some b1) := by
  first | assumption | omega | (subst_vars; omega) | trivial
-- growm @137
theorem vX8_eval_vS_14 (κ : KS) (b1 : Nat) (x5 : Int32) (ex5 : oI κ.2.2.2.2 2 b1 = x5) (c6_0 : ¬ x5.toInt = 1) (c6_1 : x5.toInt = 2) : 13 * cto κ.2.2.2.2 (some b1) ≤ 13 * cto κ.2.2.2.2 (some b1) := by
  first | assumption | omega | (subst_vars; omega) | trivial
-- growm @137
theorem vX8_eval_vS_15 (κ : KS) (b1 : Nat) (x5 : Int32) (ex5 : oI κ.2.2.2.2 2 b1 = x5) (c6_0 : ¬ x5.toInt = 1) (c6_1 : x5.toInt = 2) : 120 * cto κ.2.2.2.2 (some b1) ≤ 120 * cto κ.2.2.2.2 (some b1) := by
  first | assumption | omega | (subst_vars; omega) | trivial
-- locals @143
theorem vX8_eval_vS_16 (d : Nat)  : 8 + (3 + 11) + 0 ≤ 200 * (d + 1) + 700 := by
  first | assumption | omega | (subst_vars; omega) | trivial
-- room @143
theorem vX8_eval_vS_17 (κ : KS) (b1 : Nat) (x5 : Int32) (x9 : Int32) (ex5 : oI κ.2.2.2.2 2 b1 = x5) (c6_0 : ¬ x5.toInt = 1) (c6_1 : ¬ x5.toInt = 2) (c6_2 : x5.toInt = 3) (ex9 : oI κ.2.2.2.2 3 b1 = x9) : 0 + 0 ≤ 13 * cto κ.2.2.2.2 (some b1) := by
  first | assumption | omega | (subst_vars; omega) | trivial
-- room @143
theorem vX8_eval_vS_18 (κ : KS) (b1 : Nat) (x5 : Int32) (x9 : Int32) (ex5 : oI κ.2.2.2.2 2 b1 = x5) (c6_0 : ¬ x5.toInt = 1) (c6_1 : ¬ x5.toInt = 2) (c6_2 : x5.toInt = 3) (ex9 : oI κ.2.2.2.2 3 b1 = x9) : 0 + 0 ≤ 120 * cto κ.2.2.2.2 (some b1) := by
  first | assumption | omega | (subst_vars; omega) | trivial
-- growm @146
theorem vX8_eval_vS_19 (κ : KS) (b1 : Nat) (x5 : Int32) (x9 : Int32) (ex5 : oI κ.2.2.2.2 2 b1 = x5) (c6_0 : ¬ x5.toInt = 1) (c6_1 : ¬ x5.toInt = 2) (c6_2 : x5.toInt = 3) (ex9 : oI κ.2.2.2.2 3 b1 = x9) : 13 * cto κ.2.2.2.2 (some b1) ≤ 13 * cto κ.2.2.2.2 (some b1) := by
  first | assumption | omega | (subst_vars; omega) | trivial
-- growm @146
theorem vX8_eval_vS_20 (κ : KS) (b1 : Nat) (x5 : Int32) (x9 : Int32) (ex5 : oI κ.2.2.2.2 2 b1 = x5) (c6_0 : ¬ x5.toInt = 1) (c6_1 : ¬ x5.toInt = 2) (c6_2 : x5.toInt = 3) (ex9 : oI κ.2.2.2.2 3 b1 = x9) : 120 * cto κ.2.2.2.2 (some b1) ≤ 120 * cto κ.2.2.2.2 (some b1) := by
  first | assumption | omega | (subst_vars; omega) | trivial
-- nw@155 @155
theorem vX8_eval_vS_21 (k1 : Int32) (d : Nat) (x14 : Int32) (hpre_2 : 0 ≤ k1.toInt) (hpre_3 : k1.toInt ≤ 41) (hpre_4 : 41 ≤ k1.toInt + (((d + 1) : Nat) : Int)) (c4 : k1.toInt ≤ 40) (ex14 : x14 = k1 + (1 : Int32)) : x14.toInt = k1.toInt + 1 := by
  have q1 : (1 : Int32).toInt = 1 := by decide +kernel
  have w1 : (1 : Int32).toInt = 1 := by decide +kernel
  rw [ex14, z_add (by omega) (by omega)]; first | done | omega
-- pre:X8_eval@156 @156
theorem vX8_eval_vS_22 (κ : KS) (k1 : Int32) (d : Nat) (x14 : Int32) (hpre_0 : 0 ≤ (κ.1 8).toInt) (hpre_1 : (κ.1 8).toInt ≤ 12) (hpre_2 : 0 ≤ k1.toInt) (hpre_3 : k1.toInt ≤ 41) (hpre_4 : 41 ≤ k1.toInt + (((d + 1) : Nat) : Int)) (c4 : k1.toInt ≤ 40) (ex14 : x14 = k1 + (1 : Int32)) (tx14 : x14.toInt = k1.toInt + 1) : 0 ≤ (κ.1 8).toInt ∧ (κ.1 8).toInt ≤ 12 ∧ 0 ≤ x14.toInt ∧ x14.toInt ≤ 41 ∧ 41 ≤ x14.toInt + ((d : Nat) : Int) := by
  have q1 : (1 : Int32).toInt = 1 := by decide +kernel
  refine ⟨?_, ?_, ?_, ?_, ?_⟩ <;> first | assumption | omega | (subst_vars; omega) | trivial
-- frames @156
theorem vX8_eval_vS_23 (d : Nat)  : 4 * d + 30 + 1 ≤ 4 * (d + 1) + 30 := by
  first | assumption | omega | (subst_vars; omega) | trivial
-- locals @156
theorem vX8_eval_vS_24 (d : Nat)  : 8 + (3 + 11) + (200 * d + 700) ≤ 200 * (d + 1) + 700 := by
  first | assumption | omega | (subst_vars; omega) | trivial
-- room @156
theorem vX8_eval_vS_25 (κ : KS) (b1 : Nat) (x5 : Int32) (y11 : Option Nat) (y12 : Option Nat) (y13 : Option Nat) (ex5 : oI κ.2.2.2.2 2 b1 = x5) (c6_0 : ¬ x5.toInt = 1) (c6_1 : ¬ x5.toInt = 2) (c6_2 : ¬ x5.toInt = 3) (c6_3 : x5.toInt = 4) (kdy11 : 1 + cto κ.2.2.2.2 y11 + cto κ.2.2.2.2 y12 + cto κ.2.2.2.2 y13 ≤ cto κ.2.2.2.2 (some b1)) : 0 + (13 * cto κ.2.2.2.2 y11) ≤ 13 * cto κ.2.2.2.2 (some b1) := by
  first | assumption | omega | (subst_vars; omega) | trivial
-- room @156
theorem vX8_eval_vS_26 (κ : KS) (b1 : Nat) (x5 : Int32) (y11 : Option Nat) (y12 : Option Nat) (y13 : Option Nat) (ex5 : oI κ.2.2.2.2 2 b1 = x5) (c6_0 : ¬ x5.toInt = 1) (c6_1 : ¬ x5.toInt = 2) (c6_2 : ¬ x5.toInt = 3) (c6_3 : x5.toInt = 4) (kdy11 : 1 + cto κ.2.2.2.2 y11 + cto κ.2.2.2.2 y12 + cto κ.2.2.2.2 y13 ≤ cto κ.2.2.2.2 (some b1)) : 0 + (120 * cto κ.2.2.2.2 y11) ≤ 120 * cto κ.2.2.2.2 (some b1) := by
  first | assumption | omega | (subst_vars; omega) | trivial
-- frames @167
theorem vX8_eval_vS_27 (d : Nat)  : 3 + 1 ≤ 4 * (d + 1) + 30 := by
  first | assumption | omega | (subst_vars; omega) | trivial
-- locals @167
theorem vX8_eval_vS_28 (d : Nat)  : 8 + (5 + 11) + 68 ≤ 200 * (d + 1) + 700 := by
  first | assumption | omega | (subst_vars; omega) | trivial
-- room @167
theorem vX8_eval_vS_29 (κ : KS) (b1 : Nat) (x5 : Int32) (y11 : Option Nat) (y12 : Option Nat) (y13 : Option Nat) (P23 : PL) (x28 : Int32) (x29 : Int32) (ex5 : oI κ.2.2.2.2 2 b1 = x5) (c6_0 : ¬ x5.toInt = 1) (c6_1 : ¬ x5.toInt = 2) (c6_2 : ¬ x5.toInt = 3) (c6_3 : x5.toInt = 4) (kdy11 : 1 + cto κ.2.2.2.2 y11 + cto κ.2.2.2.2 y12 + cto κ.2.2.2.2 y13 ≤ cto κ.2.2.2.2 (some b1)) (kc24 : cto P23 y11 = cto κ.2.2.2.2 y11) (kc25 : cto P23 y12 = cto κ.2.2.2.2 y12) (kc26 : cto P23 y13 = cto κ.2.2.2.2 y13) (kc27 : cto P23 (some b1) = cto κ.2.2.2.2 (some b1)) (ex28 : oI P23 3 b1 = x28) (ex29 : oI P23 4 b1 = x29) : 0 + (13 * cto κ.2.2.2.2 y11) + 1 ≤ 13 * cto κ.2.2.2.2 (some b1) := by
  first | assumption | omega | (subst_vars; omega) | trivial
-- room @167
theorem vX8_eval_vS_30 (κ : KS) (b1 : Nat) (x5 : Int32) (y11 : Option Nat) (y12 : Option Nat) (y13 : Option Nat) (P23 : PL) (x28 : Int32) (x29 : Int32) (ex5 : oI κ.2.2.2.2 2 b1 = x5) (c6_0 : ¬ x5.toInt = 1) (c6_1 : ¬ x5.toInt = 2) (c6_2 : ¬ x5.toInt = 3) (c6_3 : x5.toInt = 4) (kdy11 : 1 + cto κ.2.2.2.2 y11 + cto κ.2.2.2.2 y12 + cto κ.2.2.2.2 y13 ≤ cto κ.2.2.2.2 (some b1)) (kc24 : cto P23 y11 = cto κ.2.2.2.2 y11) (kc25 : cto P23 y12 = cto κ.2.2.2.2 y12) (kc26 : cto P23 y13 = cto κ.2.2.2.2 y13) (kc27 : cto P23 (some b1) = cto κ.2.2.2.2 (some b1)) (ex28 : oI P23 3 b1 = x28) (ex29 : oI P23 4 b1 = x29) : 0 + (120 * cto κ.2.2.2.2 y11) + 5 ≤ 120 * cto κ.2.2.2.2 (some b1) := by
  first | assumption | omega | (subst_vars; omega) | trivial
-- post @170
theorem vX8_eval_vS_31 (n16 : Int32) (hr15_4_0 : 0 ≤ n16.toInt) (hr15_4_1 : n16.toInt ≤ 12) : 0 ≤ n16.toInt ∧ n16.toInt ≤ 12 := by
  refine ⟨?_, ?_⟩ <;> first | assumption | omega | (subst_vars; omega) | trivial
-- grow @170
theorem vX8_eval_vS_32 (κ : KS) (b1 : Nat) (x5 : Int32) (y11 : Option Nat) (y12 : Option Nat) (y13 : Option Nat) (P23 : PL) (x28 : Int32) (x29 : Int32) (P32 : PL) (ex5 : oI κ.2.2.2.2 2 b1 = x5) (c6_0 : ¬ x5.toInt = 1) (c6_1 : ¬ x5.toInt = 2) (c6_2 : ¬ x5.toInt = 3) (c6_3 : x5.toInt = 4) (kdy11 : 1 + cto κ.2.2.2.2 y11 + cto κ.2.2.2.2 y12 + cto κ.2.2.2.2 y13 ≤ cto κ.2.2.2.2 (some b1)) (kc24 : cto P23 y11 = cto κ.2.2.2.2 y11) (kc25 : cto P23 y12 = cto κ.2.2.2.2 y12) (kc26 : cto P23 y13 = cto κ.2.2.2.2 y13) (kc27 : cto P23 (some b1) = cto κ.2.2.2.2 (some b1)) (ex28 : oI P23 3 b1 = x28) (ex29 : oI P23 4 b1 = x29) (kc33 : cto P32 y11 = cto P23 y11) (kc34 : cto P32 y12 = cto P23 y12) (kc35 : cto P32 y13 = cto P23 y13) (kc36 : cto P32 (some b1) = cto P23 (some b1)) : 0 + (13 * cto κ.2.2.2.2 y11) + 1 ≤ 13 * cto κ.2.2.2.2 (some b1) := by
  first | assumption | omega | (subst_vars; omega) | trivial
-- grow @170
theorem vX8_eval_vS_33 (κ : KS) (b1 : Nat) (x5 : Int32) (y11 : Option Nat) (y12 : Option Nat) (y13 : Option Nat) (P23 : PL) (x28 : Int32) (x29 : Int32) (P32 : PL) (ex5 : oI κ.2.2.2.2 2 b1 = x5) (c6_0 : ¬ x5.toInt = 1) (c6_1 : ¬ x5.toInt = 2) (c6_2 : ¬ x5.toInt = 3) (c6_3 : x5.toInt = 4) (kdy11 : 1 + cto κ.2.2.2.2 y11 + cto κ.2.2.2.2 y12 + cto κ.2.2.2.2 y13 ≤ cto κ.2.2.2.2 (some b1)) (kc24 : cto P23 y11 = cto κ.2.2.2.2 y11) (kc25 : cto P23 y12 = cto κ.2.2.2.2 y12) (kc26 : cto P23 y13 = cto κ.2.2.2.2 y13) (kc27 : cto P23 (some b1) = cto κ.2.2.2.2 (some b1)) (ex28 : oI P23 3 b1 = x28) (ex29 : oI P23 4 b1 = x29) (kc33 : cto P32 y11 = cto P23 y11) (kc34 : cto P32 y12 = cto P23 y12) (kc35 : cto P32 y13 = cto P23 y13) (kc36 : cto P32 (some b1) = cto P23 (some b1)) : 0 + (120 * cto κ.2.2.2.2 y11) + 5 ≤ 120 * cto κ.2.2.2.2 (some b1) := by
  first | assumption | omega | (subst_vars; omega) | trivial
-- growm @170
theorem vX8_eval_vS_34 (κ : KS) (b1 : Nat) (x5 : Int32) (y11 : Option Nat) (y12 : Option Nat) (y13 : Option Nat) (P23 : PL) (x28 : Int32) (x29 : Int32) (P32 : PL) (ex5 : oI κ.2.2.2.2 2 b1 = x5) (c6_0 : ¬ x5.toInt = 1) (c6_1 : ¬ x5.toInt = 2) (c6_2 : ¬ x5.toInt = 3) (c6_3 : x5.toInt = 4) (kdy11 : 1 + cto κ.2.2.2.2 y11 + cto κ.2.2.2.2 y12 + cto κ.2.2.2.2 y13 ≤ cto κ.2.2.2.2 (some b1)) (kc24 : cto P23 y11 = cto κ.2.2.2.2 y11) (kc25 : cto P23 y12 = cto κ.2.2.2.2 y12) (kc26 : cto P23 y13 = cto κ.2.2.2.2 y13) (kc27 : cto P23 (some b1) = cto κ.2.2.2.2 (some b1)) (ex28 : oI P23 3 b1 = x28) (ex29 : oI P23 4 b1 = x29) (kc33 : cto P32 y11 = cto P23 y11) (kc34 : cto P32 y12 = cto P23 y12) (kc35 : cto P32 y13 = cto P23 y13) (kc36 : cto P32 (some b1) = cto P23 (some b1)) : 13 * cto κ.2.2.2.2 (some b1) ≤ 13 * cto κ.2.2.2.2 (some b1) := by
  first | assumption | omega | (subst_vars; omega) | trivial
-- growm @170
theorem vX8_eval_vS_35 (κ : KS) (b1 : Nat) (x5 : Int32) (y11 : Option Nat) (y12 : Option Nat) (y13 : Option Nat) (P23 : PL) (x28 : Int32) (x29 : Int32) (P32 : PL) (ex5 : oI κ.2.2.2.2 2 b1 = x5) (c6_0 : ¬ x5.toInt = 1) (c6_1 : ¬ x5.toInt = 2) (c6_2 : ¬ x5.toInt = 3) (c6_3 : x5.toInt = 4) (kdy11 : 1 + cto κ.2.2.2.2 y11 + cto κ.2.2.2.2 y12 + cto κ.2.2.2.2 y13 ≤ cto κ.2.2.2.2 (some b1)) (kc24 : cto P23 y11 = cto κ.2.2.2.2 y11) (kc25 : cto P23 y12 = cto κ.2.2.2.2 y12) (kc26 : cto P23 y13 = cto κ.2.2.2.2 y13) (kc27 : cto P23 (some b1) = cto κ.2.2.2.2 (some b1)) (ex28 : oI P23 3 b1 = x28) (ex29 : oI P23 4 b1 = x29) (kc33 : cto P32 y11 = cto P23 y11) (kc34 : cto P32 y12 = cto P23 y12) (kc35 : cto P32 y13 = cto P23 y13) (kc36 : cto P32 (some b1) = cto P23 (some b1)) : 120 * cto κ.2.2.2.2 (some b1) ≤ 120 * cto κ.2.2.2.2 (some b1) := by
  first | assumption | omega | (subst_vars; omega) | trivial
-- pre:X8_call@174 @174
theorem vX8_eval_vS_36 (κ : KS) (k1 : Int32) (d : Nat) (hpre_0 : 0 ≤ (κ.1 8).toInt) (hpre_1 : (κ.1 8).toInt ≤ 12) (hpre_2 : 0 ≤ k1.toInt) (hpre_3 : k1.toInt ≤ 41) (hpre_4 : 41 ≤ k1.toInt + (((d + 1) : Nat) : Int)) (c4 : k1.toInt ≤ 40) : 0 ≤ (κ.1 8).toInt ∧ (κ.1 8).toInt ≤ 12 ∧ 0 ≤ k1.toInt ∧ k1.toInt ≤ 40 ∧ 40 ≤ k1.toInt + ((d : Nat) : Int) := by
  refine ⟨?_, ?_, ?_, ?_, ?_⟩ <;> first | assumption | omega | (subst_vars; omega) | trivial
-- frames @174
theorem vX8_eval_vS_37 (d : Nat)  : 4 * d + 33 + 1 ≤ 4 * (d + 1) + 30 := by
  first | assumption | omega | (subst_vars; omega) | trivial
-- locals @174
theorem vX8_eval_vS_38 (d : Nat)  : 8 + (9 + 11) + (200 * d + 860) ≤ 200 * (d + 1) + 700 := by
  first | assumption | omega | (subst_vars; omega) | trivial
-- room @174
theorem vX8_eval_vS_39 (κ : KS) (b1 : Nat) (x5 : Int32) (ex5 : oI κ.2.2.2.2 2 b1 = x5) (c6_0 : ¬ x5.toInt = 1) (c6_1 : ¬ x5.toInt = 2) (c6_2 : ¬ x5.toInt = 3) (c6_3 : ¬ x5.toInt = 4) (c6_4 : x5.toInt = 5) : 0 + (13 * cto κ.2.2.2.2 (some b1)) ≤ 13 * cto κ.2.2.2.2 (some b1) := by
  first | assumption | omega | (subst_vars; omega) | trivial
-- room @174
theorem vX8_eval_vS_40 (κ : KS) (b1 : Nat) (x5 : Int32) (ex5 : oI κ.2.2.2.2 2 b1 = x5) (c6_0 : ¬ x5.toInt = 1) (c6_1 : ¬ x5.toInt = 2) (c6_2 : ¬ x5.toInt = 3) (c6_3 : ¬ x5.toInt = 4) (c6_4 : x5.toInt = 5) : 0 + (120 * cto κ.2.2.2.2 (some b1)) ≤ 120 * cto κ.2.2.2.2 (some b1) := by
  first | assumption | omega | (subst_vars; omega) | trivial
-- post @177
theorem vX8_eval_vS_41 (n38 : Int32) (hr37_4_0 : 0 ≤ n38.toInt) (hr37_4_1 : n38.toInt ≤ 12) : 0 ≤ n38.toInt ∧ n38.toInt ≤ 12 := by
  refine ⟨?_, ?_⟩ <;> first | assumption | omega | (subst_vars; omega) | trivial
-- grow @177
theorem vX8_eval_vS_42 (κ : KS) (b1 : Nat) (x5 : Int32) (P45 : PL) (ex5 : oI κ.2.2.2.2 2 b1 = x5) (c6_0 : ¬ x5.toInt = 1) (c6_1 : ¬ x5.toInt = 2) (c6_2 : ¬ x5.toInt = 3) (c6_3 : ¬ x5.toInt = 4) (c6_4 : x5.toInt = 5) (kc46 : cto P45 (some b1) = cto κ.2.2.2.2 (some b1)) : 0 + (13 * cto κ.2.2.2.2 (some b1)) ≤ 13 * cto κ.2.2.2.2 (some b1) := by
  first | assumption | omega | (subst_vars; omega) | trivial
-- grow @177
theorem vX8_eval_vS_43 (κ : KS) (b1 : Nat) (x5 : Int32) (P45 : PL) (ex5 : oI κ.2.2.2.2 2 b1 = x5) (c6_0 : ¬ x5.toInt = 1) (c6_1 : ¬ x5.toInt = 2) (c6_2 : ¬ x5.toInt = 3) (c6_3 : ¬ x5.toInt = 4) (c6_4 : x5.toInt = 5) (kc46 : cto P45 (some b1) = cto κ.2.2.2.2 (some b1)) : 0 + (120 * cto κ.2.2.2.2 (some b1)) ≤ 120 * cto κ.2.2.2.2 (some b1) := by
  first | assumption | omega | (subst_vars; omega) | trivial
-- growm @177
theorem vX8_eval_vS_44 (κ : KS) (b1 : Nat) (x5 : Int32) (P45 : PL) (ex5 : oI κ.2.2.2.2 2 b1 = x5) (c6_0 : ¬ x5.toInt = 1) (c6_1 : ¬ x5.toInt = 2) (c6_2 : ¬ x5.toInt = 3) (c6_3 : ¬ x5.toInt = 4) (c6_4 : x5.toInt = 5) (kc46 : cto P45 (some b1) = cto κ.2.2.2.2 (some b1)) : 13 * cto κ.2.2.2.2 (some b1) ≤ 13 * cto κ.2.2.2.2 (some b1) := by
  first | assumption | omega | (subst_vars; omega) | trivial
-- growm @177
theorem vX8_eval_vS_45 (κ : KS) (b1 : Nat) (x5 : Int32) (P45 : PL) (ex5 : oI κ.2.2.2.2 2 b1 = x5) (c6_0 : ¬ x5.toInt = 1) (c6_1 : ¬ x5.toInt = 2) (c6_2 : ¬ x5.toInt = 3) (c6_3 : ¬ x5.toInt = 4) (c6_4 : x5.toInt = 5) (kc46 : cto P45 (some b1) = cto κ.2.2.2.2 (some b1)) : 120 * cto κ.2.2.2.2 (some b1) ≤ 120 * cto κ.2.2.2.2 (some b1) := by
  first | assumption | omega | (subst_vars; omega) | trivial
-- nw@186 @186
theorem vX8_eval_vS_46 (k1 : Int32) (d : Nat) (x50 : Int32) (hpre_2 : 0 ≤ k1.toInt) (hpre_3 : k1.toInt ≤ 41) (hpre_4 : 41 ≤ k1.toInt + (((d + 1) : Nat) : Int)) (c4 : k1.toInt ≤ 40) (ex50 : x50 = k1 + (1 : Int32)) : x50.toInt = k1.toInt + 1 := by
  have q1 : (1 : Int32).toInt = 1 := by decide +kernel
  have w1 : (1 : Int32).toInt = 1 := by decide +kernel
  rw [ex50, z_add (by omega) (by omega)]; first | done | omega
-- pre:X8_eval@187 @187
theorem vX8_eval_vS_47 (κ : KS) (k1 : Int32) (d : Nat) (x50 : Int32) (hpre_0 : 0 ≤ (κ.1 8).toInt) (hpre_1 : (κ.1 8).toInt ≤ 12) (hpre_2 : 0 ≤ k1.toInt) (hpre_3 : k1.toInt ≤ 41) (hpre_4 : 41 ≤ k1.toInt + (((d + 1) : Nat) : Int)) (c4 : k1.toInt ≤ 40) (ex50 : x50 = k1 + (1 : Int32)) (tx50 : x50.toInt = k1.toInt + 1) : 0 ≤ (κ.1 8).toInt ∧ (κ.1 8).toInt ≤ 12 ∧ 0 ≤ x50.toInt ∧ x50.toInt ≤ 41 ∧ 41 ≤ x50.toInt + ((d : Nat) : Int) := by
  have q1 : (1 : Int32).toInt = 1 := by decide +kernel
  refine ⟨?_, ?_, ?_, ?_, ?_⟩ <;> first | assumption | omega | (subst_vars; omega) | trivial
-- room @187
theorem vX8_eval_vS_48 (κ : KS) (b1 : Nat) (x5 : Int32) (y47 : Option Nat) (y48 : Option Nat) (y49 : Option Nat) (ex5 : oI κ.2.2.2.2 2 b1 = x5) (c6_0 : ¬ x5.toInt = 1) (c6_1 : ¬ x5.toInt = 2) (c6_2 : ¬ x5.toInt = 3) (c6_3 : ¬ x5.toInt = 4) (c6_4 : ¬ x5.toInt = 5) (c6_5 : x5.toInt = 6) (kdy47 : 1 + cto κ.2.2.2.2 y47 + cto κ.2.2.2.2 y48 + cto κ.2.2.2.2 y49 ≤ cto κ.2.2.2.2 (some b1)) : 0 + (13 * cto κ.2.2.2.2 y47) ≤ 13 * cto κ.2.2.2.2 (some b1) := by
  first | assumption | omega | (subst_vars; omega) | trivial
-- room @187
theorem vX8_eval_vS_49 (κ : KS) (b1 : Nat) (x5 : Int32) (y47 : Option Nat) (y48 : Option Nat) (y49 : Option Nat) (ex5 : oI κ.2.2.2.2 2 b1 = x5) (c6_0 : ¬ x5.toInt = 1) (c6_1 : ¬ x5.toInt = 2) (c6_2 : ¬ x5.toInt = 3) (c6_3 : ¬ x5.toInt = 4) (c6_4 : ¬ x5.toInt = 5) (c6_5 : x5.toInt = 6) (kdy47 : 1 + cto κ.2.2.2.2 y47 + cto κ.2.2.2.2 y48 + cto κ.2.2.2.2 y49 ≤ cto κ.2.2.2.2 (some b1)) : 0 + (120 * cto κ.2.2.2.2 y47) ≤ 120 * cto κ.2.2.2.2 (some b1) := by
  first | assumption | omega | (subst_vars; omega) | trivial
-- locals @190
theorem vX8_eval_vS_50 (d : Nat)  : 8 + (2 + 11) + 67 ≤ 200 * (d + 1) + 700 := by
  first | assumption | omega | (subst_vars; omega) | trivial
-- room @190
theorem vX8_eval_vS_51 (κ : KS) (b1 : Nat) (x5 : Int32) (y47 : Option Nat) (y48 : Option Nat) (y49 : Option Nat) (P59 : PL) (ex5 : oI κ.2.2.2.2 2 b1 = x5) (c6_0 : ¬ x5.toInt = 1) (c6_1 : ¬ x5.toInt = 2) (c6_2 : ¬ x5.toInt = 3) (c6_3 : ¬ x5.toInt = 4) (c6_4 : ¬ x5.toInt = 5) (c6_5 : x5.toInt = 6) (kdy47 : 1 + cto κ.2.2.2.2 y47 + cto κ.2.2.2.2 y48 + cto κ.2.2.2.2 y49 ≤ cto κ.2.2.2.2 (some b1)) (kc60 : cto P59 y47 = cto κ.2.2.2.2 y47) (kc61 : cto P59 y48 = cto κ.2.2.2.2 y48) (kc62 : cto P59 y49 = cto κ.2.2.2.2 y49) (kc63 : cto P59 (some b1) = cto κ.2.2.2.2 (some b1)) : 0 + (13 * cto κ.2.2.2.2 y47) + 1 ≤ 13 * cto κ.2.2.2.2 (some b1) := by
  first | assumption | omega | (subst_vars; omega) | trivial
-- room @190
theorem vX8_eval_vS_52 (κ : KS) (b1 : Nat) (x5 : Int32) (y47 : Option Nat) (y48 : Option Nat) (y49 : Option Nat) (P59 : PL) (ex5 : oI κ.2.2.2.2 2 b1 = x5) (c6_0 : ¬ x5.toInt = 1) (c6_1 : ¬ x5.toInt = 2) (c6_2 : ¬ x5.toInt = 3) (c6_3 : ¬ x5.toInt = 4) (c6_4 : ¬ x5.toInt = 5) (c6_5 : x5.toInt = 6) (kdy47 : 1 + cto κ.2.2.2.2 y47 + cto κ.2.2.2.2 y48 + cto κ.2.2.2.2 y49 ≤ cto κ.2.2.2.2 (some b1)) (kc60 : cto P59 y47 = cto κ.2.2.2.2 y47) (kc61 : cto P59 y48 = cto κ.2.2.2.2 y48) (kc62 : cto P59 y49 = cto κ.2.2.2.2 y49) (kc63 : cto P59 (some b1) = cto κ.2.2.2.2 (some b1)) : 0 + (120 * cto κ.2.2.2.2 y47) + 5 ≤ 120 * cto κ.2.2.2.2 (some b1) := by
  first | assumption | omega | (subst_vars; omega) | trivial
-- post @193
theorem vX8_eval_vS_53 (n52 : Int32) (hr51_4_0 : 0 ≤ n52.toInt) (hr51_4_1 : n52.toInt ≤ 12) : 0 ≤ n52.toInt ∧ n52.toInt ≤ 12 := by
  refine ⟨?_, ?_⟩ <;> first | assumption | omega | (subst_vars; omega) | trivial
-- grow @193
theorem vX8_eval_vS_54 (κ : KS) (b1 : Nat) (x5 : Int32) (y47 : Option Nat) (y48 : Option Nat) (y49 : Option Nat) (P59 : PL) (P66 : PL) (ex5 : oI κ.2.2.2.2 2 b1 = x5) (c6_0 : ¬ x5.toInt = 1) (c6_1 : ¬ x5.toInt = 2) (c6_2 : ¬ x5.toInt = 3) (c6_3 : ¬ x5.toInt = 4) (c6_4 : ¬ x5.toInt = 5) (c6_5 : x5.toInt = 6) (kdy47 : 1 + cto κ.2.2.2.2 y47 + cto κ.2.2.2.2 y48 + cto κ.2.2.2.2 y49 ≤ cto κ.2.2.2.2 (some b1)) (kc60 : cto P59 y47 = cto κ.2.2.2.2 y47) (kc61 : cto P59 y48 = cto κ.2.2.2.2 y48) (kc62 : cto P59 y49 = cto κ.2.2.2.2 y49) (kc63 : cto P59 (some b1) = cto κ.2.2.2.2 (some b1)) (kc67 : cto P66 y47 = cto P59 y47) (kc68 : cto P66 y48 = cto P59 y48) (kc69 : cto P66 y49 = cto P59 y49) (kc70 : cto P66 (some b1) = cto P59 (some b1)) : 0 + (13 * cto κ.2.2.2.2 y47) + 1 ≤ 13 * cto κ.2.2.2.2 (some b1) := by
  first | assumption | omega | (subst_vars; omega) | trivial
-- grow @193
theorem vX8_eval_vS_55 (κ : KS) (b1 : Nat) (x5 : Int32) (y47 : Option Nat) (y48 : Option Nat) (y49 : Option Nat) (P59 : PL) (P66 : PL) (ex5 : oI κ.2.2.2.2 2 b1 = x5) (c6_0 : ¬ x5.toInt = 1) (c6_1 : ¬ x5.toInt = 2) (c6_2 : ¬ x5.toInt = 3) (c6_3 : ¬ x5.toInt = 4) (c6_4 : ¬ x5.toInt = 5) (c6_5 : x5.toInt = 6) (kdy47 : 1 + cto κ.2.2.2.2 y47 + cto κ.2.2.2.2 y48 + cto κ.2.2.2.2 y49 ≤ cto κ.2.2.2.2 (some b1)) (kc60 : cto P59 y47 = cto κ.2.2.2.2 y47) (kc61 : cto P59 y48 = cto κ.2.2.2.2 y48) (kc62 : cto P59 y49 = cto κ.2.2.2.2 y49) (kc63 : cto P59 (some b1) = cto κ.2.2.2.2 (some b1)) (kc67 : cto P66 y47 = cto P59 y47) (kc68 : cto P66 y48 = cto P59 y48) (kc69 : cto P66 y49 = cto P59 y49) (kc70 : cto P66 (some b1) = cto P59 (some b1)) : 0 + (120 * cto κ.2.2.2.2 y47) + 5 ≤ 120 * cto κ.2.2.2.2 (some b1) := by
  first | assumption | omega | (subst_vars; omega) | trivial
-- growm @193
theorem vX8_eval_vS_56 (κ : KS) (b1 : Nat) (x5 : Int32) (y47 : Option Nat) (y48 : Option Nat) (y49 : Option Nat) (P59 : PL) (P66 : PL) (ex5 : oI κ.2.2.2.2 2 b1 = x5) (c6_0 : ¬ x5.toInt = 1) (c6_1 : ¬ x5.toInt = 2) (c6_2 : ¬ x5.toInt = 3) (c6_3 : ¬ x5.toInt = 4) (c6_4 : ¬ x5.toInt = 5) (c6_5 : x5.toInt = 6) (kdy47 : 1 + cto κ.2.2.2.2 y47 + cto κ.2.2.2.2 y48 + cto κ.2.2.2.2 y49 ≤ cto κ.2.2.2.2 (some b1)) (kc60 : cto P59 y47 = cto κ.2.2.2.2 y47) (kc61 : cto P59 y48 = cto κ.2.2.2.2 y48) (kc62 : cto P59 y49 = cto κ.2.2.2.2 y49) (kc63 : cto P59 (some b1) = cto κ.2.2.2.2 (some b1)) (kc67 : cto P66 y47 = cto P59 y47) (kc68 : cto P66 y48 = cto P59 y48) (kc69 : cto P66 y49 = cto P59 y49) (kc70 : cto P66 (some b1) = cto P59 (some b1)) : 13 * cto κ.2.2.2.2 (some b1) ≤ 13 * cto κ.2.2.2.2 (some b1) := by
  first | assumption | omega | (subst_vars; omega) | trivial
-- growm @193
theorem vX8_eval_vS_57 (κ : KS) (b1 : Nat) (x5 : Int32) (y47 : Option Nat) (y48 : Option Nat) (y49 : Option Nat) (P59 : PL) (P66 : PL) (ex5 : oI κ.2.2.2.2 2 b1 = x5) (c6_0 : ¬ x5.toInt = 1) (c6_1 : ¬ x5.toInt = 2) (c6_2 : ¬ x5.toInt = 3) (c6_3 : ¬ x5.toInt = 4) (c6_4 : ¬ x5.toInt = 5) (c6_5 : x5.toInt = 6) (kdy47 : 1 + cto κ.2.2.2.2 y47 + cto κ.2.2.2.2 y48 + cto κ.2.2.2.2 y49 ≤ cto κ.2.2.2.2 (some b1)) (kc60 : cto P59 y47 = cto κ.2.2.2.2 y47) (kc61 : cto P59 y48 = cto κ.2.2.2.2 y48) (kc62 : cto P59 y49 = cto κ.2.2.2.2 y49) (kc63 : cto P59 (some b1) = cto κ.2.2.2.2 (some b1)) (kc67 : cto P66 y47 = cto P59 y47) (kc68 : cto P66 y48 = cto P59 y48) (kc69 : cto P66 y49 = cto P59 y49) (kc70 : cto P66 (some b1) = cto P59 (some b1)) : 120 * cto κ.2.2.2.2 (some b1) ≤ 120 * cto κ.2.2.2.2 (some b1) := by
  first | assumption | omega | (subst_vars; omega) | trivial
-- nw@202 @202
theorem vX8_eval_vS_58 (k1 : Int32) (d : Nat) (x74 : Int32) (hpre_2 : 0 ≤ k1.toInt) (hpre_3 : k1.toInt ≤ 41) (hpre_4 : 41 ≤ k1.toInt + (((d + 1) : Nat) : Int)) (c4 : k1.toInt ≤ 40) (ex74 : x74 = k1 + (1 : Int32)) : x74.toInt = k1.toInt + 1 := by
  have q1 : (1 : Int32).toInt = 1 := by decide +kernel
  have w1 : (1 : Int32).toInt = 1 := by decide +kernel
  rw [ex74, z_add (by omega) (by omega)]; first | done | omega
-- pre:X8_eval@203 @203
theorem vX8_eval_vS_59 (κ : KS) (k1 : Int32) (d : Nat) (x74 : Int32) (hpre_0 : 0 ≤ (κ.1 8).toInt) (hpre_1 : (κ.1 8).toInt ≤ 12) (hpre_2 : 0 ≤ k1.toInt) (hpre_3 : k1.toInt ≤ 41) (hpre_4 : 41 ≤ k1.toInt + (((d + 1) : Nat) : Int)) (c4 : k1.toInt ≤ 40) (ex74 : x74 = k1 + (1 : Int32)) (tx74 : x74.toInt = k1.toInt + 1) : 0 ≤ (κ.1 8).toInt ∧ (κ.1 8).toInt ≤ 12 ∧ 0 ≤ x74.toInt ∧ x74.toInt ≤ 41 ∧ 41 ≤ x74.toInt + ((d : Nat) : Int) := by
  have q1 : (1 : Int32).toInt = 1 := by decide +kernel
  refine ⟨?_, ?_, ?_, ?_, ?_⟩ <;> first | assumption | omega | (subst_vars; omega) | trivial
-- room @203
theorem vX8_eval_vS_60 (κ : KS) (b1 : Nat) (x5 : Int32) (y71 : Option Nat) (y72 : Option Nat) (y73 : Option Nat) (ex5 : oI κ.2.2.2.2 2 b1 = x5) (c6_0 : ¬ x5.toInt = 1) (c6_1 : ¬ x5.toInt = 2) (c6_2 : ¬ x5.toInt = 3) (c6_3 : ¬ x5.toInt = 4) (c6_4 : ¬ x5.toInt = 5) (c6_5 : ¬ x5.toInt = 6) (c6_6 : x5.toInt = 33) (kdy71 : 1 + cto κ.2.2.2.2 y71 + cto κ.2.2.2.2 y72 + cto κ.2.2.2.2 y73 ≤ cto κ.2.2.2.2 (some b1)) : 0 + (13 * cto κ.2.2.2.2 y71) ≤ 13 * cto κ.2.2.2.2 (some b1) := by
  first | assumption | omega | (subst_vars; omega) | trivial
-- room @203
theorem vX8_eval_vS_61 (κ : KS) (b1 : Nat) (x5 : Int32) (y71 : Option Nat) (y72 : Option Nat) (y73 : Option Nat) (ex5 : oI κ.2.2.2.2 2 b1 = x5) (c6_0 : ¬ x5.toInt = 1) (c6_1 : ¬ x5.toInt = 2) (c6_2 : ¬ x5.toInt = 3) (c6_3 : ¬ x5.toInt = 4) (c6_4 : ¬ x5.toInt = 5) (c6_5 : ¬ x5.toInt = 6) (c6_6 : x5.toInt = 33) (kdy71 : 1 + cto κ.2.2.2.2 y71 + cto κ.2.2.2.2 y72 + cto κ.2.2.2.2 y73 ≤ cto κ.2.2.2.2 (some b1)) : 0 + (120 * cto κ.2.2.2.2 y71) ≤ 120 * cto κ.2.2.2.2 (some b1) := by
  first | assumption | omega | (subst_vars; omega) | trivial
-- locals @206
theorem vX8_eval_vS_62 (d : Nat)  : 8 + (2 + 11) + 66 ≤ 200 * (d + 1) + 700 := by
  first | assumption | omega | (subst_vars; omega) | trivial
-- room @206
theorem vX8_eval_vS_63 (κ : KS) (b1 : Nat) (x5 : Int32) (y71 : Option Nat) (y72 : Option Nat) (y73 : Option Nat) (P83 : PL) (ex5 : oI κ.2.2.2.2 2 b1 = x5) (c6_0 : ¬ x5.toInt = 1) (c6_1 : ¬ x5.toInt = 2) (c6_2 : ¬ x5.toInt = 3) (c6_3 : ¬ x5.toInt = 4) (c6_4 : ¬ x5.toInt = 5) (c6_5 : ¬ x5.toInt = 6) (c6_6 : x5.toInt = 33) (kdy71 : 1 + cto κ.2.2.2.2 y71 + cto κ.2.2.2.2 y72 + cto κ.2.2.2.2 y73 ≤ cto κ.2.2.2.2 (some b1)) (kc84 : cto P83 y71 = cto κ.2.2.2.2 y71) (kc85 : cto P83 y72 = cto κ.2.2.2.2 y72) (kc86 : cto P83 y73 = cto κ.2.2.2.2 y73) (kc87 : cto P83 (some b1) = cto κ.2.2.2.2 (some b1)) : 0 + (13 * cto κ.2.2.2.2 y71) + 1 ≤ 13 * cto κ.2.2.2.2 (some b1) := by
  first | assumption | omega | (subst_vars; omega) | trivial
-- room @206
theorem vX8_eval_vS_64 (κ : KS) (b1 : Nat) (x5 : Int32) (y71 : Option Nat) (y72 : Option Nat) (y73 : Option Nat) (P83 : PL) (ex5 : oI κ.2.2.2.2 2 b1 = x5) (c6_0 : ¬ x5.toInt = 1) (c6_1 : ¬ x5.toInt = 2) (c6_2 : ¬ x5.toInt = 3) (c6_3 : ¬ x5.toInt = 4) (c6_4 : ¬ x5.toInt = 5) (c6_5 : ¬ x5.toInt = 6) (c6_6 : x5.toInt = 33) (kdy71 : 1 + cto κ.2.2.2.2 y71 + cto κ.2.2.2.2 y72 + cto κ.2.2.2.2 y73 ≤ cto κ.2.2.2.2 (some b1)) (kc84 : cto P83 y71 = cto κ.2.2.2.2 y71) (kc85 : cto P83 y72 = cto κ.2.2.2.2 y72) (kc86 : cto P83 y73 = cto κ.2.2.2.2 y73) (kc87 : cto P83 (some b1) = cto κ.2.2.2.2 (some b1)) : 0 + (120 * cto κ.2.2.2.2 y71) + 5 ≤ 120 * cto κ.2.2.2.2 (some b1) := by
  first | assumption | omega | (subst_vars; omega) | trivial
-- post @209
theorem vX8_eval_vS_65 (n76 : Int32) (hr75_4_0 : 0 ≤ n76.toInt) (hr75_4_1 : n76.toInt ≤ 12) : 0 ≤ n76.toInt ∧ n76.toInt ≤ 12 := by
  refine ⟨?_, ?_⟩ <;> first | assumption | omega | (subst_vars; omega) | trivial
-- grow @209
theorem vX8_eval_vS_66 (κ : KS) (b1 : Nat) (x5 : Int32) (y71 : Option Nat) (y72 : Option Nat) (y73 : Option Nat) (P83 : PL) (P90 : PL) (ex5 : oI κ.2.2.2.2 2 b1 = x5) (c6_0 : ¬ x5.toInt = 1) (c6_1 : ¬ x5.toInt = 2) (c6_2 : ¬ x5.toInt = 3) (c6_3 : ¬ x5.toInt = 4) (c6_4 : ¬ x5.toInt = 5) (c6_5 : ¬ x5.toInt = 6) (c6_6 : x5.toInt = 33) (kdy71 : 1 + cto κ.2.2.2.2 y71 + cto κ.2.2.2.2 y72 + cto κ.2.2.2.2 y73 ≤ cto κ.2.2.2.2 (some b1)) (kc84 : cto P83 y71 = cto κ.2.2.2.2 y71) (kc85 : cto P83 y72 = cto κ.2.2.2.2 y72) (kc86 : cto P83 y73 = cto κ.2.2.2.2 y73) (kc87 : cto P83 (some b1) = cto κ.2.2.2.2 (some b1)) (kc91 : cto P90 y71 = cto P83 y71) (kc92 : cto P90 y72 = cto P83 y72) (kc93 : cto P90 y73 = cto P83 y73) (kc94 : cto P90 (some b1) = cto P83 (some b1)) : 0 + (13 * cto κ.2.2.2.2 y71) + 1 ≤ 13 * cto κ.2.2.2.2 (some b1) := by
  first | assumption | omega | (subst_vars; omega) | trivial
-- grow @209
theorem vX8_eval_vS_67 (κ : KS) (b1 : Nat) (x5 : Int32) (y71 : Option Nat) (y72 : Option Nat) (y73 : Option Nat) (P83 : PL) (P90 : PL) (ex5 : oI κ.2.2.2.2 2 b1 = x5) (c6_0 : ¬ x5.toInt = 1) (c6_1 : ¬ x5.toInt = 2) (c6_2 : ¬ x5.toInt = 3) (c6_3 : ¬ x5.toInt = 4) (c6_4 : ¬ x5.toInt = 5) (c6_5 : ¬ x5.toInt = 6) (c6_6 : x5.toInt = 33) (kdy71 : 1 + cto κ.2.2.2.2 y71 + cto κ.2.2.2.2 y72 + cto κ.2.2.2.2 y73 ≤ cto κ.2.2.2.2 (some b1)) (kc84 : cto P83 y71 = cto κ.2.2.2.2 y71) (kc85 : cto P83 y72 = cto κ.2.2.2.2 y72) (kc86 : cto P83 y73 = cto κ.2.2.2.2 y73) (kc87 : cto P83 (some b1) = cto κ.2.2.2.2 (some b1)) (kc91 : cto P90 y71 = cto P83 y71) (kc92 : cto P90 y72 = cto P83 y72) (kc93 : cto P90 y73 = cto P83 y73) (kc94 : cto P90 (some b1) = cto P83 (some b1)) : 0 + (120 * cto κ.2.2.2.2 y71) + 5 ≤ 120 * cto κ.2.2.2.2 (some b1) := by
  first | assumption | omega | (subst_vars; omega) | trivial
-- growm @209
theorem vX8_eval_vS_68 (κ : KS) (b1 : Nat) (x5 : Int32) (y71 : Option Nat) (y72 : Option Nat) (y73 : Option Nat) (P83 : PL) (P90 : PL) (ex5 : oI κ.2.2.2.2 2 b1 = x5) (c6_0 : ¬ x5.toInt = 1) (c6_1 : ¬ x5.toInt = 2) (c6_2 : ¬ x5.toInt = 3) (c6_3 : ¬ x5.toInt = 4) (c6_4 : ¬ x5.toInt = 5) (c6_5 : ¬ x5.toInt = 6) (c6_6 : x5.toInt = 33) (kdy71 : 1 + cto κ.2.2.2.2 y71 + cto κ.2.2.2.2 y72 + cto κ.2.2.2.2 y73 ≤ cto κ.2.2.2.2 (some b1)) (kc84 : cto P83 y71 = cto κ.2.2.2.2 y71) (kc85 : cto P83 y72 = cto κ.2.2.2.2 y72) (kc86 : cto P83 y73 = cto κ.2.2.2.2 y73) (kc87 : cto P83 (some b1) = cto κ.2.2.2.2 (some b1)) (kc91 : cto P90 y71 = cto P83 y71) (kc92 : cto P90 y72 = cto P83 y72) (kc93 : cto P90 y73 = cto P83 y73) (kc94 : cto P90 (some b1) = cto P83 (some b1)) : 13 * cto κ.2.2.2.2 (some b1) ≤ 13 * cto κ.2.2.2.2 (some b1) := by
  first | assumption | omega | (subst_vars; omega) | trivial
-- growm @209
theorem vX8_eval_vS_69 (κ : KS) (b1 : Nat) (x5 : Int32) (y71 : Option Nat) (y72 : Option Nat) (y73 : Option Nat) (P83 : PL) (P90 : PL) (ex5 : oI κ.2.2.2.2 2 b1 = x5) (c6_0 : ¬ x5.toInt = 1) (c6_1 : ¬ x5.toInt = 2) (c6_2 : ¬ x5.toInt = 3) (c6_3 : ¬ x5.toInt = 4) (c6_4 : ¬ x5.toInt = 5) (c6_5 : ¬ x5.toInt = 6) (c6_6 : x5.toInt = 33) (kdy71 : 1 + cto κ.2.2.2.2 y71 + cto κ.2.2.2.2 y72 + cto κ.2.2.2.2 y73 ≤ cto κ.2.2.2.2 (some b1)) (kc84 : cto P83 y71 = cto κ.2.2.2.2 y71) (kc85 : cto P83 y72 = cto κ.2.2.2.2 y72) (kc86 : cto P83 y73 = cto κ.2.2.2.2 y73) (kc87 : cto P83 (some b1) = cto κ.2.2.2.2 (some b1)) (kc91 : cto P90 y71 = cto P83 y71) (kc92 : cto P90 y72 = cto P83 y72) (kc93 : cto P90 y73 = cto P83 y73) (kc94 : cto P90 (some b1) = cto P83 (some b1)) : 120 * cto κ.2.2.2.2 (some b1) ≤ 120 * cto κ.2.2.2.2 (some b1) := by
  first | assumption | omega | (subst_vars; omega) | trivial
-- locals @234
theorem vX8_eval_vS_70 (d : Nat)  : 8 + (5 + 11) + (200 * d + 860) ≤ 200 * (d + 1) + 700 := by
  first | assumption | omega | (subst_vars; omega) | trivial
-- room @234
theorem vX8_eval_vS_71 (κ : KS) (b1 : Nat) (x5 : Int32) (ex5 : oI κ.2.2.2.2 2 b1 = x5) (c6_0 : ¬ x5.toInt = 1) (c6_1 : ¬ x5.toInt = 2) (c6_2 : ¬ x5.toInt = 3) (c6_3 : ¬ x5.toInt = 4) (c6_4 : ¬ x5.toInt = 5) (c6_5 : ¬ x5.toInt = 6) (c6_6 : ¬ x5.toInt = 33) (c6_7 : x5.toInt = 61) : 0 + (13 * cto κ.2.2.2.2 (some b1)) ≤ 13 * cto κ.2.2.2.2 (some b1) := by
  first | assumption | omega | (subst_vars; omega) | trivial
-- room @234
theorem vX8_eval_vS_72 (κ : KS) (b1 : Nat) (x5 : Int32) (ex5 : oI κ.2.2.2.2 2 b1 = x5) (c6_0 : ¬ x5.toInt = 1) (c6_1 : ¬ x5.toInt = 2) (c6_2 : ¬ x5.toInt = 3) (c6_3 : ¬ x5.toInt = 4) (c6_4 : ¬ x5.toInt = 5) (c6_5 : ¬ x5.toInt = 6) (c6_6 : ¬ x5.toInt = 33) (c6_7 : x5.toInt = 61) : 0 + (120 * cto κ.2.2.2.2 (some b1)) ≤ 120 * cto κ.2.2.2.2 (some b1) := by
  first | assumption | omega | (subst_vars; omega) | trivial
-- post @237
theorem vX8_eval_vS_73 (n96 : Int32) (hr95_4_0 : 0 ≤ n96.toInt) (hr95_4_1 : n96.toInt ≤ 12) : 0 ≤ n96.toInt ∧ n96.toInt ≤ 12 := by
  refine ⟨?_, ?_⟩ <;> first | assumption | omega | (subst_vars; omega) | trivial
-- grow @237
theorem vX8_eval_vS_74 (κ : KS) (b1 : Nat) (x5 : Int32) (P103 : PL) (ex5 : oI κ.2.2.2.2 2 b1 = x5) (c6_0 : ¬ x5.toInt = 1) (c6_1 : ¬ x5.toInt = 2) (c6_2 : ¬ x5.toInt = 3) (c6_3 : ¬ x5.toInt = 4) (c6_4 : ¬ x5.toInt = 5) (c6_5 : ¬ x5.toInt = 6) (c6_6 : ¬ x5.toInt = 33) (c6_7 : x5.toInt = 61) (kc104 : cto P103 (some b1) = cto κ.2.2.2.2 (some b1)) : 0 + (13 * cto κ.2.2.2.2 (some b1)) ≤ 13 * cto κ.2.2.2.2 (some b1) := by
  first | assumption | omega | (subst_vars; omega) | trivial
-- grow @237
theorem vX8_eval_vS_75 (κ : KS) (b1 : Nat) (x5 : Int32) (P103 : PL) (ex5 : oI κ.2.2.2.2 2 b1 = x5) (c6_0 : ¬ x5.toInt = 1) (c6_1 : ¬ x5.toInt = 2) (c6_2 : ¬ x5.toInt = 3) (c6_3 : ¬ x5.toInt = 4) (c6_4 : ¬ x5.toInt = 5) (c6_5 : ¬ x5.toInt = 6) (c6_6 : ¬ x5.toInt = 33) (c6_7 : x5.toInt = 61) (kc104 : cto P103 (some b1) = cto κ.2.2.2.2 (some b1)) : 0 + (120 * cto κ.2.2.2.2 (some b1)) ≤ 120 * cto κ.2.2.2.2 (some b1) := by
  first | assumption | omega | (subst_vars; omega) | trivial
-- growm @237
theorem vX8_eval_vS_76 (κ : KS) (b1 : Nat) (x5 : Int32) (P103 : PL) (ex5 : oI κ.2.2.2.2 2 b1 = x5) (c6_0 : ¬ x5.toInt = 1) (c6_1 : ¬ x5.toInt = 2) (c6_2 : ¬ x5.toInt = 3) (c6_3 : ¬ x5.toInt = 4) (c6_4 : ¬ x5.toInt = 5) (c6_5 : ¬ x5.toInt = 6) (c6_6 : ¬ x5.toInt = 33) (c6_7 : x5.toInt = 61) (kc104 : cto P103 (some b1) = cto κ.2.2.2.2 (some b1)) : 13 * cto κ.2.2.2.2 (some b1) ≤ 13 * cto κ.2.2.2.2 (some b1) := by
  first | assumption | omega | (subst_vars; omega) | trivial
-- growm @237
theorem vX8_eval_vS_77 (κ : KS) (b1 : Nat) (x5 : Int32) (P103 : PL) (ex5 : oI κ.2.2.2.2 2 b1 = x5) (c6_0 : ¬ x5.toInt = 1) (c6_1 : ¬ x5.toInt = 2) (c6_2 : ¬ x5.toInt = 3) (c6_3 : ¬ x5.toInt = 4) (c6_4 : ¬ x5.toInt = 5) (c6_5 : ¬ x5.toInt = 6) (c6_6 : ¬ x5.toInt = 33) (c6_7 : x5.toInt = 61) (kc104 : cto P103 (some b1) = cto κ.2.2.2.2 (some b1)) : 120 * cto κ.2.2.2.2 (some b1) ≤ 120 * cto κ.2.2.2.2 (some b1) := by
  first | assumption | omega | (subst_vars; omega) | trivial
-- locals @220
theorem vX8_eval_vS_78 (d : Nat)  : 8 + (4 + 11) + (200 * d + 860) ≤ 200 * (d + 1) + 700 := by
  first | assumption | omega | (subst_vars; omega) | trivial
-- room @220
theorem vX8_eval_vS_79 (κ : KS) (b1 : Nat) (x5 : Int32) (ex5 : oI κ.2.2.2.2 2 b1 = x5) (c6_0 : ¬ x5.toInt = 1) (c6_1 : ¬ x5.toInt = 2) (c6_2 : ¬ x5.toInt = 3) (c6_3 : ¬ x5.toInt = 4) (c6_4 : ¬ x5.toInt = 5) (c6_5 : ¬ x5.toInt = 6) (c6_6 : ¬ x5.toInt = 33) (c6_7 : ¬ x5.toInt = 61) (c6_8 : x5.toInt = 63) : 0 + (13 * cto κ.2.2.2.2 (some b1)) ≤ 13 * cto κ.2.2.2.2 (some b1) := by
  first | assumption | omega | (subst_vars; omega) | trivial
-- room @220
theorem vX8_eval_vS_80 (κ : KS) (b1 : Nat) (x5 : Int32) (ex5 : oI κ.2.2.2.2 2 b1 = x5) (c6_0 : ¬ x5.toInt = 1) (c6_1 : ¬ x5.toInt = 2) (c6_2 : ¬ x5.toInt = 3) (c6_3 : ¬ x5.toInt = 4) (c6_4 : ¬ x5.toInt = 5) (c6_5 : ¬ x5.toInt = 6) (c6_6 : ¬ x5.toInt = 33) (c6_7 : ¬ x5.toInt = 61) (c6_8 : x5.toInt = 63) : 0 + (120 * cto κ.2.2.2.2 (some b1)) ≤ 120 * cto κ.2.2.2.2 (some b1) := by
  first | assumption | omega | (subst_vars; omega) | trivial
-- post @223
theorem vX8_eval_vS_81 (n106 : Int32) (hr105_4_0 : 0 ≤ n106.toInt) (hr105_4_1 : n106.toInt ≤ 12) : 0 ≤ n106.toInt ∧ n106.toInt ≤ 12 := by
  refine ⟨?_, ?_⟩ <;> first | assumption | omega | (subst_vars; omega) | trivial
-- grow @223
theorem vX8_eval_vS_82 (κ : KS) (b1 : Nat) (x5 : Int32) (P113 : PL) (ex5 : oI κ.2.2.2.2 2 b1 = x5) (c6_0 : ¬ x5.toInt = 1) (c6_1 : ¬ x5.toInt = 2) (c6_2 : ¬ x5.toInt = 3) (c6_3 : ¬ x5.toInt = 4) (c6_4 : ¬ x5.toInt = 5) (c6_5 : ¬ x5.toInt = 6) (c6_6 : ¬ x5.toInt = 33) (c6_7 : ¬ x5.toInt = 61) (c6_8 : x5.toInt = 63) (kc114 : cto P113 (some b1) = cto κ.2.2.2.2 (some b1)) : 0 + (13 * cto κ.2.2.2.2 (some b1)) ≤ 13 * cto κ.2.2.2.2 (some b1) := by
  first | assumption | omega | (subst_vars; omega) | trivial
-- grow @223
theorem vX8_eval_vS_83 (κ : KS) (b1 : Nat) (x5 : Int32) (P113 : PL) (ex5 : oI κ.2.2.2.2 2 b1 = x5) (c6_0 : ¬ x5.toInt = 1) (c6_1 : ¬ x5.toInt = 2) (c6_2 : ¬ x5.toInt = 3) (c6_3 : ¬ x5.toInt = 4) (c6_4 : ¬ x5.toInt = 5) (c6_5 : ¬ x5.toInt = 6) (c6_6 : ¬ x5.toInt = 33) (c6_7 : ¬ x5.toInt = 61) (c6_8 : x5.toInt = 63) (kc114 : cto P113 (some b1) = cto κ.2.2.2.2 (some b1)) : 0 + (120 * cto κ.2.2.2.2 (some b1)) ≤ 120 * cto κ.2.2.2.2 (some b1) := by
  first | assumption | omega | (subst_vars; omega) | trivial
-- growm @223
theorem vX8_eval_vS_84 (κ : KS) (b1 : Nat) (x5 : Int32) (P113 : PL) (ex5 : oI κ.2.2.2.2 2 b1 = x5) (c6_0 : ¬ x5.toInt = 1) (c6_1 : ¬ x5.toInt = 2) (c6_2 : ¬ x5.toInt = 3) (c6_3 : ¬ x5.toInt = 4) (c6_4 : ¬ x5.toInt = 5) (c6_5 : ¬ x5.toInt = 6) (c6_6 : ¬ x5.toInt = 33) (c6_7 : ¬ x5.toInt = 61) (c6_8 : x5.toInt = 63) (kc114 : cto P113 (some b1) = cto κ.2.2.2.2 (some b1)) : 13 * cto κ.2.2.2.2 (some b1) ≤ 13 * cto κ.2.2.2.2 (some b1) := by
  first | assumption | omega | (subst_vars; omega) | trivial
-- growm @223
theorem vX8_eval_vS_85 (κ : KS) (b1 : Nat) (x5 : Int32) (P113 : PL) (ex5 : oI κ.2.2.2.2 2 b1 = x5) (c6_0 : ¬ x5.toInt = 1) (c6_1 : ¬ x5.toInt = 2) (c6_2 : ¬ x5.toInt = 3) (c6_3 : ¬ x5.toInt = 4) (c6_4 : ¬ x5.toInt = 5) (c6_5 : ¬ x5.toInt = 6) (c6_6 : ¬ x5.toInt = 33) (c6_7 : ¬ x5.toInt = 61) (c6_8 : x5.toInt = 63) (kc114 : cto P113 (some b1) = cto κ.2.2.2.2 (some b1)) : 120 * cto κ.2.2.2.2 (some b1) ≤ 120 * cto κ.2.2.2.2 (some b1) := by
  first | assumption | omega | (subst_vars; omega) | trivial
-- room @213
theorem vX8_eval_vS_86 (κ : KS) (b1 : Nat) (x5 : Int32) (ex5 : oI κ.2.2.2.2 2 b1 = x5) (c6_0 : ¬ x5.toInt = 1) (c6_1 : ¬ x5.toInt = 2) (c6_2 : ¬ x5.toInt = 3) (c6_3 : ¬ x5.toInt = 4) (c6_4 : ¬ x5.toInt = 5) (c6_5 : ¬ x5.toInt = 6) (c6_6 : ¬ x5.toInt = 33) (c6_7 : ¬ x5.toInt = 61) (c6_8 : ¬ x5.toInt = 63) (c6_9 : x5.toInt = 9766) : 0 + (13 * cto κ.2.2.2.2 (some b1)) ≤ 13 * cto κ.2.2.2.2 (some b1) := by
  first | assumption | omega | (subst_vars; omega) | trivial
-- room @213
theorem vX8_eval_vS_87 (κ : KS) (b1 : Nat) (x5 : Int32) (ex5 : oI κ.2.2.2.2 2 b1 = x5) (c6_0 : ¬ x5.toInt = 1) (c6_1 : ¬ x5.toInt = 2) (c6_2 : ¬ x5.toInt = 3) (c6_3 : ¬ x5.toInt = 4) (c6_4 : ¬ x5.toInt = 5) (c6_5 : ¬ x5.toInt = 6) (c6_6 : ¬ x5.toInt = 33) (c6_7 : ¬ x5.toInt = 61) (c6_8 : ¬ x5.toInt = 63) (c6_9 : x5.toInt = 9766) : 0 + (120 * cto κ.2.2.2.2 (some b1)) ≤ 120 * cto κ.2.2.2.2 (some b1) := by
  first | assumption | omega | (subst_vars; omega) | trivial
-- post @216
theorem vX8_eval_vS_88 (n116 : Int32) (hr115_4_0 : 0 ≤ n116.toInt) (hr115_4_1 : n116.toInt ≤ 12) : 0 ≤ n116.toInt ∧ n116.toInt ≤ 12 := by
  refine ⟨?_, ?_⟩ <;> first | assumption | omega | (subst_vars; omega) | trivial
-- grow @216
theorem vX8_eval_vS_89 (κ : KS) (b1 : Nat) (x5 : Int32) (P123 : PL) (ex5 : oI κ.2.2.2.2 2 b1 = x5) (c6_0 : ¬ x5.toInt = 1) (c6_1 : ¬ x5.toInt = 2) (c6_2 : ¬ x5.toInt = 3) (c6_3 : ¬ x5.toInt = 4) (c6_4 : ¬ x5.toInt = 5) (c6_5 : ¬ x5.toInt = 6) (c6_6 : ¬ x5.toInt = 33) (c6_7 : ¬ x5.toInt = 61) (c6_8 : ¬ x5.toInt = 63) (c6_9 : x5.toInt = 9766) (kc124 : cto P123 (some b1) = cto κ.2.2.2.2 (some b1)) : 0 + (13 * cto κ.2.2.2.2 (some b1)) ≤ 13 * cto κ.2.2.2.2 (some b1) := by
  first | assumption | omega | (subst_vars; omega) | trivial
-- grow @216
theorem vX8_eval_vS_90 (κ : KS) (b1 : Nat) (x5 : Int32) (P123 : PL) (ex5 : oI κ.2.2.2.2 2 b1 = x5) (c6_0 : ¬ x5.toInt = 1) (c6_1 : ¬ x5.toInt = 2) (c6_2 : ¬ x5.toInt = 3) (c6_3 : ¬ x5.toInt = 4) (c6_4 : ¬ x5.toInt = 5) (c6_5 : ¬ x5.toInt = 6) (c6_6 : ¬ x5.toInt = 33) (c6_7 : ¬ x5.toInt = 61) (c6_8 : ¬ x5.toInt = 63) (c6_9 : x5.toInt = 9766) (kc124 : cto P123 (some b1) = cto κ.2.2.2.2 (some b1)) : 0 + (120 * cto κ.2.2.2.2 (some b1)) ≤ 120 * cto κ.2.2.2.2 (some b1) := by
  first | assumption | omega | (subst_vars; omega) | trivial
-- growm @216
theorem vX8_eval_vS_91 (κ : KS) (b1 : Nat) (x5 : Int32) (P123 : PL) (ex5 : oI κ.2.2.2.2 2 b1 = x5) (c6_0 : ¬ x5.toInt = 1) (c6_1 : ¬ x5.toInt = 2) (c6_2 : ¬ x5.toInt = 3) (c6_3 : ¬ x5.toInt = 4) (c6_4 : ¬ x5.toInt = 5) (c6_5 : ¬ x5.toInt = 6) (c6_6 : ¬ x5.toInt = 33) (c6_7 : ¬ x5.toInt = 61) (c6_8 : ¬ x5.toInt = 63) (c6_9 : x5.toInt = 9766) (kc124 : cto P123 (some b1) = cto κ.2.2.2.2 (some b1)) : 13 * cto κ.2.2.2.2 (some b1) ≤ 13 * cto κ.2.2.2.2 (some b1) := by
  first | assumption | omega | (subst_vars; omega) | trivial
-- growm @216
theorem vX8_eval_vS_92 (κ : KS) (b1 : Nat) (x5 : Int32) (P123 : PL) (ex5 : oI κ.2.2.2.2 2 b1 = x5) (c6_0 : ¬ x5.toInt = 1) (c6_1 : ¬ x5.toInt = 2) (c6_2 : ¬ x5.toInt = 3) (c6_3 : ¬ x5.toInt = 4) (c6_4 : ¬ x5.toInt = 5) (c6_5 : ¬ x5.toInt = 6) (c6_6 : ¬ x5.toInt = 33) (c6_7 : ¬ x5.toInt = 61) (c6_8 : ¬ x5.toInt = 63) (c6_9 : x5.toInt = 9766) (kc124 : cto P123 (some b1) = cto κ.2.2.2.2 (some b1)) : 120 * cto κ.2.2.2.2 (some b1) ≤ 120 * cto κ.2.2.2.2 (some b1) := by
  first | assumption | omega | (subst_vars; omega) | trivial
-- room @227
theorem vX8_eval_vS_93 (κ : KS) (b1 : Nat) (x5 : Int32) (ex5 : oI κ.2.2.2.2 2 b1 = x5) (c6_0 : ¬ x5.toInt = 1) (c6_1 : ¬ x5.toInt = 2) (c6_2 : ¬ x5.toInt = 3) (c6_3 : ¬ x5.toInt = 4) (c6_4 : ¬ x5.toInt = 5) (c6_5 : ¬ x5.toInt = 6) (c6_6 : ¬ x5.toInt = 33) (c6_7 : ¬ x5.toInt = 61) (c6_8 : ¬ x5.toInt = 63) (c6_9 : ¬ x5.toInt = 9766) (c6_10 : x5.toInt = 16186) : 0 + (13 * cto κ.2.2.2.2 (some b1)) ≤ 13 * cto κ.2.2.2.2 (some b1) := by
  first | assumption | omega | (subst_vars; omega) | trivial
-- room @227
theorem vX8_eval_vS_94 (κ : KS) (b1 : Nat) (x5 : Int32) (ex5 : oI κ.2.2.2.2 2 b1 = x5) (c6_0 : ¬ x5.toInt = 1) (c6_1 : ¬ x5.toInt = 2) (c6_2 : ¬ x5.toInt = 3) (c6_3 : ¬ x5.toInt = 4) (c6_4 : ¬ x5.toInt = 5) (c6_5 : ¬ x5.toInt = 6) (c6_6 : ¬ x5.toInt = 33) (c6_7 : ¬ x5.toInt = 61) (c6_8 : ¬ x5.toInt = 63) (c6_9 : ¬ x5.toInt = 9766) (c6_10 : x5.toInt = 16186) : 0 + (120 * cto κ.2.2.2.2 (some b1)) ≤ 120 * cto κ.2.2.2.2 (some b1) := by
  first | assumption | omega | (subst_vars; omega) | trivial
-- post @230
theorem vX8_eval_vS_95 (n126 : Int32) (hr125_4_0 : 0 ≤ n126.toInt) (hr125_4_1 : n126.toInt ≤ 12) : 0 ≤ n126.toInt ∧ n126.toInt ≤ 12 := by
  refine ⟨?_, ?_⟩ <;> first | assumption | omega | (subst_vars; omega) | trivial
-- grow @230
theorem vX8_eval_vS_96 (κ : KS) (b1 : Nat) (x5 : Int32) (P133 : PL) (ex5 : oI κ.2.2.2.2 2 b1 = x5) (c6_0 : ¬ x5.toInt = 1) (c6_1 : ¬ x5.toInt = 2) (c6_2 : ¬ x5.toInt = 3) (c6_3 : ¬ x5.toInt = 4) (c6_4 : ¬ x5.toInt = 5) (c6_5 : ¬ x5.toInt = 6) (c6_6 : ¬ x5.toInt = 33) (c6_7 : ¬ x5.toInt = 61) (c6_8 : ¬ x5.toInt = 63) (c6_9 : ¬ x5.toInt = 9766) (c6_10 : x5.toInt = 16186) (kc134 : cto P133 (some b1) = cto κ.2.2.2.2 (some b1)) : 0 + (13 * cto κ.2.2.2.2 (some b1)) ≤ 13 * cto κ.2.2.2.2 (some b1) := by
  first | assumption | omega | (subst_vars; omega) | trivial
-- grow @230
theorem vX8_eval_vS_97 (κ : KS) (b1 : Nat) (x5 : Int32) (P133 : PL) (ex5 : oI κ.2.2.2.2 2 b1 = x5) (c6_0 : ¬ x5.toInt = 1) (c6_1 : ¬ x5.toInt = 2) (c6_2 : ¬ x5.toInt = 3) (c6_3 : ¬ x5.toInt = 4) (c6_4 : ¬ x5.toInt = 5) (c6_5 : ¬ x5.toInt = 6) (c6_6 : ¬ x5.toInt = 33) (c6_7 : ¬ x5.toInt = 61) (c6_8 : ¬ x5.toInt = 63) (c6_9 : ¬ x5.toInt = 9766) (c6_10 : x5.toInt = 16186) (kc134 : cto P133 (some b1) = cto κ.2.2.2.2 (some b1)) : 0 + (120 * cto κ.2.2.2.2 (some b1)) ≤ 120 * cto κ.2.2.2.2 (some b1) := by
  first | assumption | omega | (subst_vars; omega) | trivial
-- growm @230
theorem vX8_eval_vS_98 (κ : KS) (b1 : Nat) (x5 : Int32) (P133 : PL) (ex5 : oI κ.2.2.2.2 2 b1 = x5) (c6_0 : ¬ x5.toInt = 1) (c6_1 : ¬ x5.toInt = 2) (c6_2 : ¬ x5.toInt = 3) (c6_3 : ¬ x5.toInt = 4) (c6_4 : ¬ x5.toInt = 5) (c6_5 : ¬ x5.toInt = 6) (c6_6 : ¬ x5.toInt = 33) (c6_7 : ¬ x5.toInt = 61) (c6_8 : ¬ x5.toInt = 63) (c6_9 : ¬ x5.toInt = 9766) (c6_10 : x5.toInt = 16186) (kc134 : cto P133 (some b1) = cto κ.2.2.2.2 (some b1)) : 13 * cto κ.2.2.2.2 (some b1) ≤ 13 * cto κ.2.2.2.2 (some b1) := by
  first | assumption | omega | (subst_vars; omega) | trivial
-- growm @230
theorem vX8_eval_vS_99 (κ : KS) (b1 : Nat) (x5 : Int32) (P133 : PL) (ex5 : oI κ.2.2.2.2 2 b1 = x5) (c6_0 : ¬ x5.toInt = 1) (c6_1 : ¬ x5.toInt = 2) (c6_2 : ¬ x5.toInt = 3) (c6_3 : ¬ x5.toInt = 4) (c6_4 : ¬ x5.toInt = 5) (c6_5 : ¬ x5.toInt = 6) (c6_6 : ¬ x5.toInt = 33) (c6_7 : ¬ x5.toInt = 61) (c6_8 : ¬ x5.toInt = 63) (c6_9 : ¬ x5.toInt = 9766) (c6_10 : x5.toInt = 16186) (kc134 : cto P133 (some b1) = cto κ.2.2.2.2 (some b1)) : 120 * cto κ.2.2.2.2 (some b1) ≤ 120 * cto κ.2.2.2.2 (some b1) := by
  first | assumption | omega | (subst_vars; omega) | trivial
-- room @213
theorem vX8_eval_vS_100 (κ : KS) (b1 : Nat) (x5 : Int32) (ex5 : oI κ.2.2.2.2 2 b1 = x5) (c6_0 : ¬ x5.toInt = 1) (c6_1 : ¬ x5.toInt = 2) (c6_2 : ¬ x5.toInt = 3) (c6_3 : ¬ x5.toInt = 4) (c6_4 : ¬ x5.toInt = 5) (c6_5 : ¬ x5.toInt = 6) (c6_6 : ¬ x5.toInt = 33) (c6_7 : ¬ x5.toInt = 61) (c6_8 : ¬ x5.toInt = 63) (c6_9 : ¬ x5.toInt = 9766) (c6_10 : ¬ x5.toInt = 16186) (c6_11 : x5.toInt = 31868) : 0 + (13 * cto κ.2.2.2.2 (some b1)) ≤ 13 * cto κ.2.2.2.2 (some b1) := by
  first | assumption | omega | (subst_vars; omega) | trivial
-- room @213
theorem vX8_eval_vS_101 (κ : KS) (b1 : Nat) (x5 : Int32) (ex5 : oI κ.2.2.2.2 2 b1 = x5) (c6_0 : ¬ x5.toInt = 1) (c6_1 : ¬ x5.toInt = 2) (c6_2 : ¬ x5.toInt = 3) (c6_3 : ¬ x5.toInt = 4) (c6_4 : ¬ x5.toInt = 5) (c6_5 : ¬ x5.toInt = 6) (c6_6 : ¬ x5.toInt = 33) (c6_7 : ¬ x5.toInt = 61) (c6_8 : ¬ x5.toInt = 63) (c6_9 : ¬ x5.toInt = 9766) (c6_10 : ¬ x5.toInt = 16186) (c6_11 : x5.toInt = 31868) : 0 + (120 * cto κ.2.2.2.2 (some b1)) ≤ 120 * cto κ.2.2.2.2 (some b1) := by
  first | assumption | omega | (subst_vars; omega) | trivial
-- post @216
theorem vX8_eval_vS_102 (n136 : Int32) (hr135_4_0 : 0 ≤ n136.toInt) (hr135_4_1 : n136.toInt ≤ 12) : 0 ≤ n136.toInt ∧ n136.toInt ≤ 12 := by
  refine ⟨?_, ?_⟩ <;> first | assumption | omega | (subst_vars; omega) | trivial
-- grow @216
theorem vX8_eval_vS_103 (κ : KS) (b1 : Nat) (x5 : Int32) (P143 : PL) (ex5 : oI κ.2.2.2.2 2 b1 = x5) (c6_0 : ¬ x5.toInt = 1) (c6_1 : ¬ x5.toInt = 2) (c6_2 : ¬ x5.toInt = 3) (c6_3 : ¬ x5.toInt = 4) (c6_4 : ¬ x5.toInt = 5) (c6_5 : ¬ x5.toInt = 6) (c6_6 : ¬ x5.toInt = 33) (c6_7 : ¬ x5.toInt = 61) (c6_8 : ¬ x5.toInt = 63) (c6_9 : ¬ x5.toInt = 9766) (c6_10 : ¬ x5.toInt = 16186) (c6_11 : x5.toInt = 31868) (kc144 : cto P143 (some b1) = cto κ.2.2.2.2 (some b1)) : 0 + (13 * cto κ.2.2.2.2 (some b1)) ≤ 13 * cto κ.2.2.2.2 (some b1) := by
  first | assumption | omega | (subst_vars; omega) | trivial
-- grow @216
theorem vX8_eval_vS_104 (κ : KS) (b1 : Nat) (x5 : Int32) (P143 : PL) (ex5 : oI κ.2.2.2.2 2 b1 = x5) (c6_0 : ¬ x5.toInt = 1) (c6_1 : ¬ x5.toInt = 2) (c6_2 : ¬ x5.toInt = 3) (c6_3 : ¬ x5.toInt = 4) (c6_4 : ¬ x5.toInt = 5) (c6_5 : ¬ x5.toInt = 6) (c6_6 : ¬ x5.toInt = 33) (c6_7 : ¬ x5.toInt = 61) (c6_8 : ¬ x5.toInt = 63) (c6_9 : ¬ x5.toInt = 9766) (c6_10 : ¬ x5.toInt = 16186) (c6_11 : x5.toInt = 31868) (kc144 : cto P143 (some b1) = cto κ.2.2.2.2 (some b1)) : 0 + (120 * cto κ.2.2.2.2 (some b1)) ≤ 120 * cto κ.2.2.2.2 (some b1) := by
  first | assumption | omega | (subst_vars; omega) | trivial
-- growm @216
theorem vX8_eval_vS_105 (κ : KS) (b1 : Nat) (x5 : Int32) (P143 : PL) (ex5 : oI κ.2.2.2.2 2 b1 = x5) (c6_0 : ¬ x5.toInt = 1) (c6_1 : ¬ x5.toInt = 2) (c6_2 : ¬ x5.toInt = 3) (c6_3 : ¬ x5.toInt = 4) (c6_4 : ¬ x5.toInt = 5) (c6_5 : ¬ x5.toInt = 6) (c6_6 : ¬ x5.toInt = 33) (c6_7 : ¬ x5.toInt = 61) (c6_8 : ¬ x5.toInt = 63) (c6_9 : ¬ x5.toInt = 9766) (c6_10 : ¬ x5.toInt = 16186) (c6_11 : x5.toInt = 31868) (kc144 : cto P143 (some b1) = cto κ.2.2.2.2 (some b1)) : 13 * cto κ.2.2.2.2 (some b1) ≤ 13 * cto κ.2.2.2.2 (some b1) := by
  first | assumption | omega | (subst_vars; omega) | trivial
-- growm @216
theorem vX8_eval_vS_106 (κ : KS) (b1 : Nat) (x5 : Int32) (P143 : PL) (ex5 : oI κ.2.2.2.2 2 b1 = x5) (c6_0 : ¬ x5.toInt = 1) (c6_1 : ¬ x5.toInt = 2) (c6_2 : ¬ x5.toInt = 3) (c6_3 : ¬ x5.toInt = 4) (c6_4 : ¬ x5.toInt = 5) (c6_5 : ¬ x5.toInt = 6) (c6_6 : ¬ x5.toInt = 33) (c6_7 : ¬ x5.toInt = 61) (c6_8 : ¬ x5.toInt = 63) (c6_9 : ¬ x5.toInt = 9766) (c6_10 : ¬ x5.toInt = 16186) (c6_11 : x5.toInt = 31868) (kc144 : cto P143 (some b1) = cto κ.2.2.2.2 (some b1)) : 120 * cto κ.2.2.2.2 (some b1) ≤ 120 * cto κ.2.2.2.2 (some b1) := by
  first | assumption | omega | (subst_vars; omega) | trivial
-- room @241
theorem vX8_eval_vS_107 (κ : KS) (b1 : Nat) (x5 : Int32) (ex5 : oI κ.2.2.2.2 2 b1 = x5) (c6_0 : ¬ x5.toInt = 1) (c6_1 : ¬ x5.toInt = 2) (c6_2 : ¬ x5.toInt = 3) (c6_3 : ¬ x5.toInt = 4) (c6_4 : ¬ x5.toInt = 5) (c6_5 : ¬ x5.toInt = 6) (c6_6 : ¬ x5.toInt = 33) (c6_7 : ¬ x5.toInt = 61) (c6_8 : ¬ x5.toInt = 63) (c6_9 : ¬ x5.toInt = 9766) (c6_10 : ¬ x5.toInt = 16186) (c6_11 : ¬ x5.toInt = 31868) : 0 + (13 * cto κ.2.2.2.2 (some b1)) ≤ 13 * cto κ.2.2.2.2 (some b1) := by
  first | assumption | omega | (subst_vars; omega) | trivial
-- room @241
theorem vX8_eval_vS_108 (κ : KS) (b1 : Nat) (x5 : Int32) (ex5 : oI κ.2.2.2.2 2 b1 = x5) (c6_0 : ¬ x5.toInt = 1) (c6_1 : ¬ x5.toInt = 2) (c6_2 : ¬ x5.toInt = 3) (c6_3 : ¬ x5.toInt = 4) (c6_4 : ¬ x5.toInt = 5) (c6_5 : ¬ x5.toInt = 6) (c6_6 : ¬ x5.toInt = 33) (c6_7 : ¬ x5.toInt = 61) (c6_8 : ¬ x5.toInt = 63) (c6_9 : ¬ x5.toInt = 9766) (c6_10 : ¬ x5.toInt = 16186) (c6_11 : ¬ x5.toInt = 31868) : 0 + (120 * cto κ.2.2.2.2 (some b1)) ≤ 120 * cto κ.2.2.2.2 (some b1) := by
  first | assumption | omega | (subst_vars; omega) | trivial
-- post @244
theorem vX8_eval_vS_109 (n146 : Int32) (hr145_4_0 : 0 ≤ n146.toInt) (hr145_4_1 : n146.toInt ≤ 12) : 0 ≤ n146.toInt ∧ n146.toInt ≤ 12 := by
  refine ⟨?_, ?_⟩ <;> first | assumption | omega | (subst_vars; omega) | trivial
-- grow @244
theorem vX8_eval_vS_110 (κ : KS) (b1 : Nat) (x5 : Int32) (P153 : PL) (ex5 : oI κ.2.2.2.2 2 b1 = x5) (c6_0 : ¬ x5.toInt = 1) (c6_1 : ¬ x5.toInt = 2) (c6_2 : ¬ x5.toInt = 3) (c6_3 : ¬ x5.toInt = 4) (c6_4 : ¬ x5.toInt = 5) (c6_5 : ¬ x5.toInt = 6) (c6_6 : ¬ x5.toInt = 33) (c6_7 : ¬ x5.toInt = 61) (c6_8 : ¬ x5.toInt = 63) (c6_9 : ¬ x5.toInt = 9766) (c6_10 : ¬ x5.toInt = 16186) (c6_11 : ¬ x5.toInt = 31868) (kc154 : cto P153 (some b1) = cto κ.2.2.2.2 (some b1)) : 0 + (13 * cto κ.2.2.2.2 (some b1)) ≤ 13 * cto κ.2.2.2.2 (some b1) := by
  first | assumption | omega | (subst_vars; omega) | trivial
-- grow @244
theorem vX8_eval_vS_111 (κ : KS) (b1 : Nat) (x5 : Int32) (P153 : PL) (ex5 : oI κ.2.2.2.2 2 b1 = x5) (c6_0 : ¬ x5.toInt = 1) (c6_1 : ¬ x5.toInt = 2) (c6_2 : ¬ x5.toInt = 3) (c6_3 : ¬ x5.toInt = 4) (c6_4 : ¬ x5.toInt = 5) (c6_5 : ¬ x5.toInt = 6) (c6_6 : ¬ x5.toInt = 33) (c6_7 : ¬ x5.toInt = 61) (c6_8 : ¬ x5.toInt = 63) (c6_9 : ¬ x5.toInt = 9766) (c6_10 : ¬ x5.toInt = 16186) (c6_11 : ¬ x5.toInt = 31868) (kc154 : cto P153 (some b1) = cto κ.2.2.2.2 (some b1)) : 0 + (120 * cto κ.2.2.2.2 (some b1)) ≤ 120 * cto κ.2.2.2.2 (some b1) := by
  first | assumption | omega | (subst_vars; omega) | trivial
-- growm @244
theorem vX8_eval_vS_112 (κ : KS) (b1 : Nat) (x5 : Int32) (P153 : PL) (ex5 : oI κ.2.2.2.2 2 b1 = x5) (c6_0 : ¬ x5.toInt = 1) (c6_1 : ¬ x5.toInt = 2) (c6_2 : ¬ x5.toInt = 3) (c6_3 : ¬ x5.toInt = 4) (c6_4 : ¬ x5.toInt = 5) (c6_5 : ¬ x5.toInt = 6) (c6_6 : ¬ x5.toInt = 33) (c6_7 : ¬ x5.toInt = 61) (c6_8 : ¬ x5.toInt = 63) (c6_9 : ¬ x5.toInt = 9766) (c6_10 : ¬ x5.toInt = 16186) (c6_11 : ¬ x5.toInt = 31868) (kc154 : cto P153 (some b1) = cto κ.2.2.2.2 (some b1)) : 13 * cto κ.2.2.2.2 (some b1) ≤ 13 * cto κ.2.2.2.2 (some b1) := by
  first | assumption | omega | (subst_vars; omega) | trivial
-- growm @244
theorem vX8_eval_vS_113 (κ : KS) (b1 : Nat) (x5 : Int32) (P153 : PL) (ex5 : oI κ.2.2.2.2 2 b1 = x5) (c6_0 : ¬ x5.toInt = 1) (c6_1 : ¬ x5.toInt = 2) (c6_2 : ¬ x5.toInt = 3) (c6_3 : ¬ x5.toInt = 4) (c6_4 : ¬ x5.toInt = 5) (c6_5 : ¬ x5.toInt = 6) (c6_6 : ¬ x5.toInt = 33) (c6_7 : ¬ x5.toInt = 61) (c6_8 : ¬ x5.toInt = 63) (c6_9 : ¬ x5.toInt = 9766) (c6_10 : ¬ x5.toInt = 16186) (c6_11 : ¬ x5.toInt = 31868) (kc154 : cto P153 (some b1) = cto κ.2.2.2.2 (some b1)) : 120 * cto κ.2.2.2.2 (some b1) ≤ 120 * cto κ.2.2.2.2 (some b1) := by
  first | assumption | omega | (subst_vars; omega) | trivial
-- room @12
theorem vX8_eval_vS_114 (κ : KS) (b1 : Nat)  : 0 + 0 ≤ 13 * cto κ.2.2.2.2 (some b1) := by
  first | assumption | omega | (subst_vars; omega) | trivial
-- room @12
theorem vX8_eval_vS_115 (κ : KS) (b1 : Nat)  : 0 + 0 ≤ 120 * cto κ.2.2.2.2 (some b1) := by
  first | assumption | omega | (subst_vars; omega) | trivial
-- growm @15
theorem vX8_eval_vS_116 (κ : KS) (b1 : Nat)  : 13 * cto κ.2.2.2.2 (some b1) ≤ 13 * cto κ.2.2.2.2 (some b1) := by
  first | assumption | omega | (subst_vars; omega) | trivial
-- growm @15
theorem vX8_eval_vS_117 (κ : KS) (b1 : Nat)  : 120 * cto κ.2.2.2.2 (some b1) ≤ 120 * cto κ.2.2.2.2 (some b1) := by
  first | assumption | omega | (subst_vars; omega) | trivial
set_option maxHeartbeats 4000000 in
set_option maxRecDepth 100000 in
theorem NX8_eval_vS (l : Launch) (D : va_G) (cy : Nat → ClassId) (ad : Nat → Nat) (A : Nat → Prop) (sz0 : Nat) (sa : Nat → Nat) (d : Nat) (IH : KX8_eval l D cy ad A sz0 sa d) : KX8_eval l D cy ad A sz0 sa (d + 1) := by
  intro κ sz sl hAF hAn k0 k1 ht0 hPV hSV hpre
  refine CM_of (loc0 := [(0, .ref (ad 3)), (1, va_rf k0), (2, .int k1)]) (own := RX8) (nm := "eval") (by decide) rfl rfl (by cases k0 <;> rfl) (by cases k0 <;> exact Nat.le_of_ble_eq_true rfl) hAF hAn ?_
  intro p e s m below meth c ls hsz hsl C hP hS hl
  obtain ⟨hpre_0, hpre_1, hpre_2, hpre_3, hpre_4⟩ := hpre
  refine lq_aload_n C.x C.b dX8_eval_0 rfl (lv_at hl 1 rfl) ?_
  cases k0 with
  | none =>
    refine lv_ifnullN (tgt := 10) C.x C.b dX8_eval_1 (by decide) ?_
    refine lv_aload_n C.x C.b dX8_eval_10 rfl (lv_at hl 0 rfl) ?_
    refine lv_iconst (v := 1) C.x C.b dX8_eval_11 (by decide +kernel) ?_
    refine c_callVq (n := 1) (As := [.int 1]) (rest := []) C hP hS hl.1 (NX8_fail l D cy ad A sz0 sa κ s.heap.size (SLT s.heap) C.f (fun q h => C.a q (Nat.le_trans hS.1 h)) (1 : Int32) ) ⟨cw_702, cw_695, by decide +kernel⟩ ⟨cw_703, cw_704, cw_705⟩ rfl (hP.recvS (k := 3) (ci := 10) C.K rfl rfl) rfl rfl (lv_room (Nat.le_of_ble_eq_true rfl)) ⟨(vX8_eval_vS_1 d ), (vX8_eval_vS_2 d )⟩ ⟨(vX8_eval_vS_3 κ ), (vX8_eval_vS_4 κ )⟩ dX8_eval_12 (fun r2 u H locs hr2 hP hS => ?_)
    obtain ⟨n3, rfl⟩ : ∃ z, z = u := ⟨_, rfl⟩
    have hP : CH D cy ad A (tI κ 9 n3) H := hP
    have hr2 : (NT κ.2.2.2.2 1 r2) := hr2
    have hP : CH D cy ad A (tP (tQ (tQ (tA (tI (tI (tI (tI κ 8 (κ.1 8)) 9 n3) 10 (κ.1 10)) 11 (κ.1 11)) 16 (κ.2.2.1 16)) 15 (κ.2.2.2.1 15)) 17 (κ.2.2.2.1 17)) κ.2.2.2.2) H := CH.cong hP rfl rfl rfl rfl rfl rfl rfl rfl rfl rfl rfl rfl rfl rfl rfl rfl rfl rfl rfl rfl rfl rfl rfl rfl rfl rfl rfl
    exact c_retq (v := r2) (Or.inl ⟨_, rfl⟩) C hsz hsl ⟨(κ.1 8), n3, (κ.1 10), (κ.1 11), (κ.2.2.1 16), (κ.2.2.2.1 15), (κ.2.2.2.1 17), κ.2.2.2.2⟩ ⟨EX.rf, hPV, hSV, hr2, (vX8_eval_vS_5 κ hpre_0 hpre_1)⟩ hP hS ⟨(vX8_eval_vS_3 κ ), (vX8_eval_vS_4 κ )⟩ ⟨(vX8_eval_vS_6 κ ), (vX8_eval_vS_7 κ )⟩ dX8_eval_15
  | some b1 =>
    have hb1 : oT κ.2.2.2.2 b1 = 2 := ht0 b1 rfl
    refine lv_ifnull C.x C.b dX8_eval_1 ?_
    refine lv_iload_n C.x C.b dX8_eval_4 rfl (lv_at hl 2 rfl) ?_
    refine lv_bipush (v := 40) C.x C.b dX8_eval_5 (by decide +kernel) ?_
    refine lv_icmp_le (tgt := 16) C.x C.b dX8_eval_7 (by decide) (fun c4 => ?_) (fun c4 => ?_)
    · have c4 : k1.toInt ≤ 40 := by have h := z_le c4; rw [show (40 : Int32).toInt = 40 from by decide +kernel] at h; exact h
      refine lv_aload_n C.x C.b dX8_eval_16 rfl (lv_at hl 1 rfl) ?_
      obtain ⟨x5, ex5⟩ : ∃ z, oI κ.2.2.2.2 2 b1 = z := ⟨_, rfl⟩
      refine pg_X5_0 (v := x5) C hP (t20 (a := b1) (t := 2) hb1) ex5 cw_697 dX8_eval_17 ?_
      by_cases c6_0 : x5.toInt = 1
      · refine lv_lookup (off := 108) (tgt := 128) C.x C.b dX8_eval_20 (by decide) (by rw [c6_0]; decide) (by decide) ?_
        refine lv_aload_n C.x C.b dX8_eval_128 rfl (lv_at hl 1 rfl) ?_
        obtain ⟨x7, ex7⟩ : ∃ z, oR κ.2.2.2.2 2 b1 = z := ⟨_, rfl⟩
        refine pg_X5_2 (v := x7) C hP (t20 (a := b1) (t := 2) hb1) ex7 cw_698 dX8_eval_129 ?_
        have tx7 : NT κ.2.2.2.2 1 x7 := by rw [← ex7]; exact (hPV.t2 hb1).1
        have hP : CH D cy ad A (tP (tQ (tQ (tA (tI (tI (tI (tI κ 8 (κ.1 8)) 9 (κ.1 9)) 10 (κ.1 10)) 11 (κ.1 11)) 16 (κ.2.2.1 16)) 15 (κ.2.2.2.1 15)) 17 (κ.2.2.2.1 17)) κ.2.2.2.2) s.heap := CH.cong hP rfl rfl rfl rfl rfl rfl rfl rfl rfl rfl rfl rfl rfl rfl rfl rfl rfl rfl rfl rfl rfl rfl rfl rfl rfl rfl rfl
        exact c_retq (v := x7) (Or.inl ⟨_, rfl⟩) C hsz hsl ⟨(κ.1 8), (κ.1 9), (κ.1 10), (κ.1 11), (κ.2.2.1 16), (κ.2.2.2.1 15), (κ.2.2.2.1 17), κ.2.2.2.2⟩ ⟨EX.rf, hPV, hSV, tx7, (vX8_eval_vS_5 κ hpre_0 hpre_1)⟩ hP hS ⟨(vX8_eval_vS_8 κ b1 x5 ex5 c6_0), (vX8_eval_vS_9 κ b1 x5 ex5 c6_0)⟩ ⟨(vX8_eval_vS_10 κ b1 x5 ex5 c6_0), (vX8_eval_vS_11 κ b1 x5 ex5 c6_0)⟩ dX8_eval_132
      · by_cases c6_1 : x5.toInt = 2
        · refine lv_lookup (off := 113) (tgt := 133) C.x C.b dX8_eval_20 (by decide) (by rw [c6_1]; decide) (by decide) ?_
          refine lv_aload_n C.x C.b dX8_eval_133 rfl (lv_at hl 0 rfl) ?_
          obtain ⟨o8, eo8⟩ : ∃ z, (κ.2.1 1) = z := ⟨_, rfl⟩
          refine cg_X8_6 (v := o8) C hP eo8 cw_687 dX8_eval_134 ?_
          have to8 : NT κ.2.2.2.2 1 o8 := by rw [← eo8]; exact hSV.n1
          have hP : CH D cy ad A (tP (tQ (tQ (tA (tI (tI (tI (tI κ 8 (κ.1 8)) 9 (κ.1 9)) 10 (κ.1 10)) 11 (κ.1 11)) 16 (κ.2.2.1 16)) 15 (κ.2.2.2.1 15)) 17 (κ.2.2.2.1 17)) κ.2.2.2.2) s.heap := CH.cong hP rfl rfl rfl rfl rfl rfl rfl rfl rfl rfl rfl rfl rfl rfl rfl rfl rfl rfl rfl rfl rfl rfl rfl rfl rfl rfl rfl
          exact c_retq (v := o8) (Or.inl ⟨_, rfl⟩) C hsz hsl ⟨(κ.1 8), (κ.1 9), (κ.1 10), (κ.1 11), (κ.2.2.1 16), (κ.2.2.2.1 15), (κ.2.2.2.1 17), κ.2.2.2.2⟩ ⟨EX.rf, hPV, hSV, to8, (vX8_eval_vS_5 κ hpre_0 hpre_1)⟩ hP hS ⟨(vX8_eval_vS_12 κ b1 x5 ex5 c6_0 c6_1), (vX8_eval_vS_13 κ b1 x5 ex5 c6_0 c6_1)⟩ ⟨(vX8_eval_vS_14 κ b1 x5 ex5 c6_0 c6_1), (vX8_eval_vS_15 κ b1 x5 ex5 c6_0 c6_1)⟩ dX8_eval_137
        · by_cases c6_2 : x5.toInt = 3
          · refine lv_lookup (off := 118) (tgt := 138) C.x C.b dX8_eval_20 (by decide) (by rw [c6_2]; decide) (by decide) ?_
            refine lv_aload_n C.x C.b dX8_eval_138 rfl (lv_at hl 0 rfl) ?_
            refine lv_aload_n C.x C.b dX8_eval_139 rfl (lv_at hl 1 rfl) ?_
            obtain ⟨x9, ex9⟩ : ∃ z, oI κ.2.2.2.2 3 b1 = z := ⟨_, rfl⟩
            refine pg_X5_1 (v := x9) C hP (t20 (a := b1) (t := 2) hb1) ex9 cw_699 dX8_eval_140 ?_
            refine c_callVq (n := 1) (As := [.int x9]) (rest := []) C hP hS hl.1 (NX8_variable l D cy ad A sz0 sa κ s.heap.size (SLT s.heap) C.f (fun q h => C.a q (Nat.le_trans hS.1 h)) x9 hPV hSV (vX8_eval_vS_5 κ hpre_0 hpre_1)) ⟨cw_706, cw_709, by decide +kernel⟩ ⟨cw_707, cw_708, cw_705⟩ rfl (hP.recvS (k := 3) (ci := 10) C.K rfl rfl) rfl rfl (lv_room (Nat.le_of_ble_eq_true rfl)) ⟨(vX8_eval_vS_1 d ), (vX8_eval_vS_16 d )⟩ ⟨(vX8_eval_vS_17 κ b1 x5 x9 ex5 c6_0 c6_1 c6_2 ex9), (vX8_eval_vS_18 κ b1 x5 x9 ex5 c6_0 c6_1 c6_2 ex9)⟩ dX8_eval_143 (fun r10 u H locs hr10 hP hS => ?_)
            have hr10 : (NT κ.2.2.2.2 1 r10) := hr10
            have hP : CH D cy ad A (tP (tQ (tQ (tA (tI (tI (tI (tI κ 8 (κ.1 8)) 9 (κ.1 9)) 10 (κ.1 10)) 11 (κ.1 11)) 16 (κ.2.2.1 16)) 15 (κ.2.2.2.1 15)) 17 (κ.2.2.2.1 17)) κ.2.2.2.2) H := CH.cong hP rfl rfl rfl rfl rfl rfl rfl rfl rfl rfl rfl rfl rfl rfl rfl rfl rfl rfl rfl rfl rfl rfl rfl rfl rfl rfl rfl
            exact c_retq (v := r10) (Or.inl ⟨_, rfl⟩) C hsz hsl ⟨(κ.1 8), (κ.1 9), (κ.1 10), (κ.1 11), (κ.2.2.1 16), (κ.2.2.2.1 15), (κ.2.2.2.1 17), κ.2.2.2.2⟩ ⟨EX.rf, hPV, hSV, hr10, (vX8_eval_vS_5 κ hpre_0 hpre_1)⟩ hP hS ⟨(vX8_eval_vS_17 κ b1 x5 x9 ex5 c6_0 c6_1 c6_2 ex9), (vX8_eval_vS_18 κ b1 x5 x9 ex5 c6_0 c6_1 c6_2 ex9)⟩ ⟨(vX8_eval_vS_19 κ b1 x5 x9 ex5 c6_0 c6_1 c6_2 ex9), (vX8_eval_vS_20 κ b1 x5 x9 ex5 c6_0 c6_1 c6_2 ex9)⟩ dX8_eval_146
          · by_cases c6_3 : x5.toInt = 4
            · refine lv_lookup (off := 127) (tgt := 147) C.x C.b dX8_eval_20 (by decide) (by rw [c6_3]; decide) (by decide) ?_
              refine lv_aload_n C.x C.b dX8_eval_147 rfl (lv_at hl 0 rfl) ?_
              refine lv_aload_n C.x C.b dX8_eval_148 rfl (lv_at hl 0 rfl) ?_
              refine lv_aload_n C.x C.b dX8_eval_149 rfl (lv_at hl 1 rfl) ?_
              obtain ⟨y11, ey11⟩ : ∃ z, oR κ.2.2.2.2 3 b1 = z := ⟨_, rfl⟩
              have ty11 : NT κ.2.2.2.2 2 y11 := by rw [← ey11]; exact (hPV.t2 hb1).2.1
              obtain ⟨y12, ey12⟩ : ∃ z, oR κ.2.2.2.2 4 b1 = z := ⟨_, rfl⟩
              have ty12 : NT κ.2.2.2.2 2 y12 := by rw [← ey12]; exact (hPV.t2 hb1).2.2.1
              obtain ⟨y13, ey13⟩ : ∃ z, oR κ.2.2.2.2 5 b1 = z := ⟨_, rfl⟩
              have ty13 : NT κ.2.2.2.2 2 y13 := by rw [← ey13]; exact (hPV.t2 hb1).2.2.2.1
              have kdy11 : 1 + cto κ.2.2.2.2 y11 + cto κ.2.2.2.2 y12 + cto κ.2.2.2.2 y13 ≤ cto κ.2.2.2.2 (some b1) := by rw [← ey11, ← ey12, ← ey13]; exact (hPV.t2 hb1).2.2.2.2
              refine pg_X5_3 (v := y11) C hP (t20 (a := b1) (t := 2) hb1) ey11 cw_700 dX8_eval_150 ?_
              refine lv_iload_n C.x C.b dX8_eval_153 rfl (lv_at hl 2 rfl) ?_
              refine lv_iconst (v := 1) C.x C.b dX8_eval_154 (by decide +kernel) ?_
              refine lv_iadd C.x C.b dX8_eval_155 ?_
              refine lv_topi (fun x14 ex14 => ?_)
              have tx14 : x14.toInt = k1.toInt + 1 := (vX8_eval_vS_21 k1 d x14 hpre_2 hpre_3 hpre_4 c4 ex14)
              refine c_callVq (n := 2) (As := [va_rf y11, .int x14]) (rest := [.ref (ad 3)]) C hP hS hl.1 (IH κ s.heap.size (SLT s.heap) C.f (fun q h => C.a q (Nat.le_trans hS.1 h)) y11 x14 ty11 hPV hSV (vX8_eval_vS_22 κ k1 d x14 hpre_0 hpre_1 hpre_2 hpre_3 hpre_4 c4 ex14 tx14)) ⟨cw_711, cw_696, by decide +kernel⟩ ⟨cw_712, cw_713, cw_705⟩ rfl (hP.recvS (k := 3) (ci := 10) C.K rfl rfl) rfl rfl (lv_room (Nat.le_of_ble_eq_true rfl)) ⟨(vX8_eval_vS_23 d ), (vX8_eval_vS_24 d )⟩ ⟨(vX8_eval_vS_25 κ b1 x5 y11 y12 y13 ex5 c6_0 c6_1 c6_2 c6_3 kdy11), (vX8_eval_vS_26 κ b1 x5 y11 y12 y13 ex5 c6_0 c6_1 c6_2 c6_3 kdy11)⟩ dX8_eval_156 (fun r15 u H locs hr15 hP hS => ?_)
              obtain ⟨n16, n17, n18, n19, F20, Z21, Z22, P23⟩ := u
              have hP : CH D cy ad A (tP (tQ (tQ (tA (tI (tI (tI (tI κ 8 n16) 9 n17) 10 n18) 11 n19) 16 F20) 15 Z21) 17 Z22) P23) H := hP
              have hr15 : (EX κ.2.2.2.2 P23) ∧ (PV sa P23) ∧ (SV ad P23 (κ.2.1 0) (κ.2.1 1) (κ.2.2.2.1 6) (κ.2.2.2.1 7) (κ.2.2.2.1 8) (κ.2.2.2.1 13) Z21 Z22 (κ.1 1).toInt) ∧ (NT P23 1 r15) ∧ (0 ≤ n16.toInt ∧ n16.toInt ≤ 12) := hr15
              obtain ⟨hr15_0, hr15_1, hr15_2, hr15_3, hr15_4⟩ := hr15
              have kc24 : cto P23 y11 = cto κ.2.2.2.2 y11 := hr15_0.ct ty11 (by decide)
              have kc25 : cto P23 y12 = cto κ.2.2.2.2 y12 := hr15_0.ct ty12 (by decide)
              have kc26 : cto P23 y13 = cto κ.2.2.2.2 y13 := hr15_0.ct ty13 (by decide)
              have kc27 : cto P23 (some b1) = cto κ.2.2.2.2 (some b1) := hr15_0.ct (nt_s hb1) (by decide)
              obtain ⟨hr15_4_0, hr15_4_1⟩ := hr15_4
              refine lv_aload_n C.x C.b dX8_eval_159 rfl (lv_at hl 1 rfl) ?_
              obtain ⟨x28, ex28⟩ : ∃ z, oI P23 3 b1 = z := ⟨_, rfl⟩
              refine pg_X5_1 (v := x28) C hP (t20 (a := b1) (t := 2) (hr15_0.T hb1 (by decide))) ex28 cw_699 dX8_eval_160 ?_
              refine lv_aload_n C.x C.b dX8_eval_163 rfl (lv_at hl 1 rfl) ?_
              obtain ⟨x29, ex29⟩ : ∃ z, oI P23 4 b1 = z := ⟨_, rfl⟩
              refine pg_X5_6 (v := x29) C hP (t20 (a := b1) (t := 2) (hr15_0.T hb1 (by decide))) ex29 cw_701 dX8_eval_164 ?_
              refine c_callVq (n := 3) (As := [va_rf r15, .int x28, .int x29]) (rest := []) C hP hS hl.1 (NX8_property l D cy ad A sz0 sa (tP (tQ (tQ (tA (tI (tI (tI (tI κ 8 n16) 9 n17) 10 n18) 11 n19) 16 F20) 15 Z21) 17 Z22) P23) H.size (SLT H) C.f (fun q h => C.a q (Nat.le_trans hS.1 h)) r15 x28 x29 hr15_3 hr15_1 hr15_2) ⟨cw_714, cw_717, by decide +kernel⟩ ⟨cw_715, cw_716, cw_705⟩ rfl (hP.recvS (k := 3) (ci := 10) C.K rfl rfl) rfl rfl (lv_room (Nat.le_of_ble_eq_true rfl)) ⟨(vX8_eval_vS_27 d ), (vX8_eval_vS_28 d )⟩ ⟨(vX8_eval_vS_29 κ b1 x5 y11 y12 y13 P23 x28 x29 ex5 c6_0 c6_1 c6_2 c6_3 kdy11 kc24 kc25 kc26 kc27 ex28 ex29), (vX8_eval_vS_30 κ b1 x5 y11 y12 y13 P23 x28 x29 ex5 c6_0 c6_1 c6_2 c6_3 kdy11 kc24 kc25 kc26 kc27 ex28 ex29)⟩ dX8_eval_167 (fun r30 u H locs hr30 hP hS => ?_)
              obtain ⟨n31, P32⟩ := u
              have hP : CH D cy ad A (tP (tI (tP (tQ (tQ (tA (tI (tI (tI (tI κ 8 n16) 9 n17) 10 n18) 11 n19) 16 F20) 15 Z21) 17 Z22) P23) 9 n31) P32) H := hP
              have hr30 : (EX P23 P32) ∧ (PV sa P32) ∧ (SV ad P32 (κ.2.1 0) (κ.2.1 1) (κ.2.2.2.1 6) (κ.2.2.2.1 7) (κ.2.2.2.1 8) (κ.2.2.2.1 13) Z21 Z22 (κ.1 1).toInt) ∧ (NT P32 1 r30) := hr30
              obtain ⟨hr30_0, hr30_1, hr30_2, hr30_3⟩ := hr30
              have kc33 : cto P32 y11 = cto P23 y11 := hr30_0.ct (hr15_0.nt ty11 (by decide)) (by decide)
              have kc34 : cto P32 y12 = cto P23 y12 := hr30_0.ct (hr15_0.nt ty12 (by decide)) (by decide)
              have kc35 : cto P32 y13 = cto P23 y13 := hr30_0.ct (hr15_0.nt ty13 (by decide)) (by decide)
              have kc36 : cto P32 (some b1) = cto P23 (some b1) := hr30_0.ct (nt_s (hr15_0.T hb1 (by decide))) (by decide)
              have hP : CH D cy ad A (tP (tQ (tQ (tA (tI (tI (tI (tI κ 8 n16) 9 n31) 10 n18) 11 n19) 16 F20) 15 Z21) 17 Z22) P32) H := CH.cong hP rfl rfl rfl rfl rfl rfl rfl rfl rfl rfl rfl rfl rfl rfl rfl rfl rfl rfl rfl rfl rfl rfl rfl rfl rfl rfl rfl
              exact c_retq (v := r30) (Or.inl ⟨_, rfl⟩) C hsz hsl ⟨n16, n31, n18, n19, F20, Z21, Z22, P32⟩ ⟨(hr15_0.trans hr30_0), hr30_1, hr30_2, hr30_3, (vX8_eval_vS_31 n16 hr15_4_0 hr15_4_1)⟩ hP hS ⟨(vX8_eval_vS_32 κ b1 x5 y11 y12 y13 P23 x28 x29 P32 ex5 c6_0 c6_1 c6_2 c6_3 kdy11 kc24 kc25 kc26 kc27 ex28 ex29 kc33 kc34 kc35 kc36), (vX8_eval_vS_33 κ b1 x5 y11 y12 y13 P23 x28 x29 P32 ex5 c6_0 c6_1 c6_2 c6_3 kdy11 kc24 kc25 kc26 kc27 ex28 ex29 kc33 kc34 kc35 kc36)⟩ ⟨(vX8_eval_vS_34 κ b1 x5 y11 y12 y13 P23 x28 x29 P32 ex5 c6_0 c6_1 c6_2 c6_3 kdy11 kc24 kc25 kc26 kc27 ex28 ex29 kc33 kc34 kc35 kc36), (vX8_eval_vS_35 κ b1 x5 y11 y12 y13 P23 x28 x29 P32 ex5 c6_0 c6_1 c6_2 c6_3 kdy11 kc24 kc25 kc26 kc27 ex28 ex29 kc33 kc34 kc35 kc36)⟩ dX8_eval_170
            · by_cases c6_4 : x5.toInt = 5
              · refine lv_lookup (off := 151) (tgt := 171) C.x C.b dX8_eval_20 (by decide) (by rw [c6_4]; decide) (by decide) ?_
                refine lv_aload_n C.x C.b dX8_eval_171 rfl (lv_at hl 0 rfl) ?_
                refine lv_aload_n C.x C.b dX8_eval_172 rfl (lv_at hl 1 rfl) ?_
                refine lv_iload_n C.x C.b dX8_eval_173 rfl (lv_at hl 2 rfl) ?_
                refine c_callVq (n := 2) (As := [.ref b1, .int k1]) (rest := []) C hP hS hl.1 (NX8_call l D cy ad A sz0 sa d IH κ s.heap.size (SLT s.heap) C.f (fun q h => C.a q (Nat.le_trans hS.1 h)) b1 k1 hb1 hPV hSV (vX8_eval_vS_36 κ k1 d hpre_0 hpre_1 hpre_2 hpre_3 hpre_4 c4)) ⟨cw_734, cw_768, by decide +kernel⟩ ⟨cw_735, cw_736, cw_705⟩ rfl (hP.recvS (k := 3) (ci := 10) C.K rfl rfl) rfl rfl (lv_room (Nat.le_of_ble_eq_true rfl)) ⟨(vX8_eval_vS_37 d ), (vX8_eval_vS_38 d )⟩ ⟨(vX8_eval_vS_39 κ b1 x5 ex5 c6_0 c6_1 c6_2 c6_3 c6_4), (vX8_eval_vS_40 κ b1 x5 ex5 c6_0 c6_1 c6_2 c6_3 c6_4)⟩ dX8_eval_174 (fun r37 u H locs hr37 hP hS => ?_)
                obtain ⟨n38, n39, n40, n41, F42, Z43, Z44, P45⟩ := u
                have hP : CH D cy ad A (tP (tQ (tQ (tA (tI (tI (tI (tI κ 8 n38) 9 n39) 10 n40) 11 n41) 16 F42) 15 Z43) 17 Z44) P45) H := hP
                have hr37 : (EX κ.2.2.2.2 P45) ∧ (PV sa P45) ∧ (SV ad P45 (κ.2.1 0) (κ.2.1 1) (κ.2.2.2.1 6) (κ.2.2.2.1 7) (κ.2.2.2.1 8) (κ.2.2.2.1 13) Z43 Z44 (κ.1 1).toInt) ∧ (NT P45 1 r37) ∧ (0 ≤ n38.toInt ∧ n38.toInt ≤ 12) := hr37
                obtain ⟨hr37_0, hr37_1, hr37_2, hr37_3, hr37_4⟩ := hr37
                have kc46 : cto P45 (some b1) = cto κ.2.2.2.2 (some b1) := hr37_0.ct (nt_s hb1) (by decide)
                obtain ⟨hr37_4_0, hr37_4_1⟩ := hr37_4
                exact c_retq (v := r37) (Or.inl ⟨_, rfl⟩) C hsz hsl ⟨n38, n39, n40, n41, F42, Z43, Z44, P45⟩ ⟨hr37_0, hr37_1, hr37_2, hr37_3, (vX8_eval_vS_41 n38 hr37_4_0 hr37_4_1)⟩ hP hS ⟨(vX8_eval_vS_42 κ b1 x5 P45 ex5 c6_0 c6_1 c6_2 c6_3 c6_4 kc46), (vX8_eval_vS_43 κ b1 x5 P45 ex5 c6_0 c6_1 c6_2 c6_3 c6_4 kc46)⟩ ⟨(vX8_eval_vS_44 κ b1 x5 P45 ex5 c6_0 c6_1 c6_2 c6_3 c6_4 kc46), (vX8_eval_vS_45 κ b1 x5 P45 ex5 c6_0 c6_1 c6_2 c6_3 c6_4 kc46)⟩ dX8_eval_177
              · by_cases c6_5 : x5.toInt = 6
                · refine lv_lookup (off := 158) (tgt := 178) C.x C.b dX8_eval_20 (by decide) (by rw [c6_5]; decide) (by decide) ?_
                  refine lv_aload_n C.x C.b dX8_eval_178 rfl (lv_at hl 0 rfl) ?_
                  refine lv_aload_n C.x C.b dX8_eval_179 rfl (lv_at hl 0 rfl) ?_
                  refine lv_aload_n C.x C.b dX8_eval_180 rfl (lv_at hl 1 rfl) ?_
                  obtain ⟨y47, ey47⟩ : ∃ z, oR κ.2.2.2.2 3 b1 = z := ⟨_, rfl⟩
                  have ty47 : NT κ.2.2.2.2 2 y47 := by rw [← ey47]; exact (hPV.t2 hb1).2.1
                  obtain ⟨y48, ey48⟩ : ∃ z, oR κ.2.2.2.2 4 b1 = z := ⟨_, rfl⟩
                  have ty48 : NT κ.2.2.2.2 2 y48 := by rw [← ey48]; exact (hPV.t2 hb1).2.2.1
                  obtain ⟨y49, ey49⟩ : ∃ z, oR κ.2.2.2.2 5 b1 = z := ⟨_, rfl⟩
                  have ty49 : NT κ.2.2.2.2 2 y49 := by rw [← ey49]; exact (hPV.t2 hb1).2.2.2.1
                  have kdy47 : 1 + cto κ.2.2.2.2 y47 + cto κ.2.2.2.2 y48 + cto κ.2.2.2.2 y49 ≤ cto κ.2.2.2.2 (some b1) := by rw [← ey47, ← ey48, ← ey49]; exact (hPV.t2 hb1).2.2.2.2
                  refine pg_X5_3 (v := y47) C hP (t20 (a := b1) (t := 2) hb1) ey47 cw_700 dX8_eval_181 ?_
                  refine lv_iload_n C.x C.b dX8_eval_184 rfl (lv_at hl 2 rfl) ?_
                  refine lv_iconst (v := 1) C.x C.b dX8_eval_185 (by decide +kernel) ?_
                  refine lv_iadd C.x C.b dX8_eval_186 ?_
                  refine lv_topi (fun x50 ex50 => ?_)
                  have tx50 : x50.toInt = k1.toInt + 1 := (vX8_eval_vS_46 k1 d x50 hpre_2 hpre_3 hpre_4 c4 ex50)
                  refine c_callVq (n := 2) (As := [va_rf y47, .int x50]) (rest := [.ref (ad 3)]) C hP hS hl.1 (IH κ s.heap.size (SLT s.heap) C.f (fun q h => C.a q (Nat.le_trans hS.1 h)) y47 x50 ty47 hPV hSV (vX8_eval_vS_47 κ k1 d x50 hpre_0 hpre_1 hpre_2 hpre_3 hpre_4 c4 ex50 tx50)) ⟨cw_711, cw_696, by decide +kernel⟩ ⟨cw_712, cw_713, cw_705⟩ rfl (hP.recvS (k := 3) (ci := 10) C.K rfl rfl) rfl rfl (lv_room (Nat.le_of_ble_eq_true rfl)) ⟨(vX8_eval_vS_23 d ), (vX8_eval_vS_24 d )⟩ ⟨(vX8_eval_vS_48 κ b1 x5 y47 y48 y49 ex5 c6_0 c6_1 c6_2 c6_3 c6_4 c6_5 kdy47), (vX8_eval_vS_49 κ b1 x5 y47 y48 y49 ex5 c6_0 c6_1 c6_2 c6_3 c6_4 c6_5 kdy47)⟩ dX8_eval_187 (fun r51 u H locs hr51 hP hS => ?_)
                  obtain ⟨n52, n53, n54, n55, F56, Z57, Z58, P59⟩ := u
                  have hP : CH D cy ad A (tP (tQ (tQ (tA (tI (tI (tI (tI κ 8 n52) 9 n53) 10 n54) 11 n55) 16 F56) 15 Z57) 17 Z58) P59) H := hP
                  have hr51 : (EX κ.2.2.2.2 P59) ∧ (PV sa P59) ∧ (SV ad P59 (κ.2.1 0) (κ.2.1 1) (κ.2.2.2.1 6) (κ.2.2.2.1 7) (κ.2.2.2.1 8) (κ.2.2.2.1 13) Z57 Z58 (κ.1 1).toInt) ∧ (NT P59 1 r51) ∧ (0 ≤ n52.toInt ∧ n52.toInt ≤ 12) := hr51
                  obtain ⟨hr51_0, hr51_1, hr51_2, hr51_3, hr51_4⟩ := hr51
                  have kc60 : cto P59 y47 = cto κ.2.2.2.2 y47 := hr51_0.ct ty47 (by decide)
                  have kc61 : cto P59 y48 = cto κ.2.2.2.2 y48 := hr51_0.ct ty48 (by decide)
                  have kc62 : cto P59 y49 = cto κ.2.2.2.2 y49 := hr51_0.ct ty49 (by decide)
                  have kc63 : cto P59 (some b1) = cto κ.2.2.2.2 (some b1) := hr51_0.ct (nt_s hb1) (by decide)
                  obtain ⟨hr51_4_0, hr51_4_1⟩ := hr51_4
                  refine c_callVq (n := 1) (As := [va_rf r51]) (rest := []) C hP hS hl.1 (NX8_negative l D cy ad A sz0 sa (tP (tQ (tQ (tA (tI (tI (tI (tI κ 8 n52) 9 n53) 10 n54) 11 n55) 16 F56) 15 Z57) 17 Z58) P59) H.size (SLT H) C.f (fun q h => C.a q (Nat.le_trans hS.1 h)) r51 hr51_3 hr51_1 hr51_2) ⟨cw_737, cw_740, by decide +kernel⟩ ⟨cw_738, cw_739, cw_705⟩ rfl (hP.recvS (k := 3) (ci := 10) C.K rfl rfl) rfl rfl (lv_room (Nat.le_of_ble_eq_true rfl)) ⟨(vX8_eval_vS_27 d ), (vX8_eval_vS_50 d )⟩ ⟨(vX8_eval_vS_51 κ b1 x5 y47 y48 y49 P59 ex5 c6_0 c6_1 c6_2 c6_3 c6_4 c6_5 kdy47 kc60 kc61 kc62 kc63), (vX8_eval_vS_52 κ b1 x5 y47 y48 y49 P59 ex5 c6_0 c6_1 c6_2 c6_3 c6_4 c6_5 kdy47 kc60 kc61 kc62 kc63)⟩ dX8_eval_190 (fun r64 u H locs hr64 hP hS => ?_)
                  obtain ⟨n65, P66⟩ := u
                  have hP : CH D cy ad A (tP (tI (tP (tQ (tQ (tA (tI (tI (tI (tI κ 8 n52) 9 n53) 10 n54) 11 n55) 16 F56) 15 Z57) 17 Z58) P59) 9 n65) P66) H := hP
                  have hr64 : (EX P59 P66) ∧ (PV sa P66) ∧ (SV ad P66 (κ.2.1 0) (κ.2.1 1) (κ.2.2.2.1 6) (κ.2.2.2.1 7) (κ.2.2.2.1 8) (κ.2.2.2.1 13) Z57 Z58 (κ.1 1).toInt) ∧ (NT P66 1 r64) := hr64
                  obtain ⟨hr64_0, hr64_1, hr64_2, hr64_3⟩ := hr64
                  have kc67 : cto P66 y47 = cto P59 y47 := hr64_0.ct (hr51_0.nt ty47 (by decide)) (by decide)
                  have kc68 : cto P66 y48 = cto P59 y48 := hr64_0.ct (hr51_0.nt ty48 (by decide)) (by decide)
                  have kc69 : cto P66 y49 = cto P59 y49 := hr64_0.ct (hr51_0.nt ty49 (by decide)) (by decide)
                  have kc70 : cto P66 (some b1) = cto P59 (some b1) := hr64_0.ct (nt_s (hr51_0.T hb1 (by decide))) (by decide)
                  have hP : CH D cy ad A (tP (tQ (tQ (tA (tI (tI (tI (tI κ 8 n52) 9 n65) 10 n54) 11 n55) 16 F56) 15 Z57) 17 Z58) P66) H := CH.cong hP rfl rfl rfl rfl rfl rfl rfl rfl rfl rfl rfl rfl rfl rfl rfl rfl rfl rfl rfl rfl rfl rfl rfl rfl rfl rfl rfl
                  exact c_retq (v := r64) (Or.inl ⟨_, rfl⟩) C hsz hsl ⟨n52, n65, n54, n55, F56, Z57, Z58, P66⟩ ⟨(hr51_0.trans hr64_0), hr64_1, hr64_2, hr64_3, (vX8_eval_vS_53 n52 hr51_4_0 hr51_4_1)⟩ hP hS ⟨(vX8_eval_vS_54 κ b1 x5 y47 y48 y49 P59 P66 ex5 c6_0 c6_1 c6_2 c6_3 c6_4 c6_5 kdy47 kc60 kc61 kc62 kc63 kc67 kc68 kc69 kc70), (vX8_eval_vS_55 κ b1 x5 y47 y48 y49 P59 P66 ex5 c6_0 c6_1 c6_2 c6_3 c6_4 c6_5 kdy47 kc60 kc61 kc62 kc63 kc67 kc68 kc69 kc70)⟩ ⟨(vX8_eval_vS_56 κ b1 x5 y47 y48 y49 P59 P66 ex5 c6_0 c6_1 c6_2 c6_3 c6_4 c6_5 kdy47 kc60 kc61 kc62 kc63 kc67 kc68 kc69 kc70), (vX8_eval_vS_57 κ b1 x5 y47 y48 y49 P59 P66 ex5 c6_0 c6_1 c6_2 c6_3 c6_4 c6_5 kdy47 kc60 kc61 kc62 kc63 kc67 kc68 kc69 kc70)⟩ dX8_eval_193
                · by_cases c6_6 : x5.toInt = 33
                  · refine lv_lookup (off := 174) (tgt := 194) C.x C.b dX8_eval_20 (by decide) (by rw [c6_6]; decide) (by decide) ?_
                    refine lv_aload_n C.x C.b dX8_eval_194 rfl (lv_at hl 0 rfl) ?_
                    refine lv_aload_n C.x C.b dX8_eval_195 rfl (lv_at hl 0 rfl) ?_
                    refine lv_aload_n C.x C.b dX8_eval_196 rfl (lv_at hl 1 rfl) ?_
                    obtain ⟨y71, ey71⟩ : ∃ z, oR κ.2.2.2.2 3 b1 = z := ⟨_, rfl⟩
                    have ty71 : NT κ.2.2.2.2 2 y71 := by rw [← ey71]; exact (hPV.t2 hb1).2.1
                    obtain ⟨y72, ey72⟩ : ∃ z, oR κ.2.2.2.2 4 b1 = z := ⟨_, rfl⟩
                    have ty72 : NT κ.2.2.2.2 2 y72 := by rw [← ey72]; exact (hPV.t2 hb1).2.2.1
                    obtain ⟨y73, ey73⟩ : ∃ z, oR κ.2.2.2.2 5 b1 = z := ⟨_, rfl⟩
                    have ty73 : NT κ.2.2.2.2 2 y73 := by rw [← ey73]; exact (hPV.t2 hb1).2.2.2.1
                    have kdy71 : 1 + cto κ.2.2.2.2 y71 + cto κ.2.2.2.2 y72 + cto κ.2.2.2.2 y73 ≤ cto κ.2.2.2.2 (some b1) := by rw [← ey71, ← ey72, ← ey73]; exact (hPV.t2 hb1).2.2.2.2
                    refine pg_X5_3 (v := y71) C hP (t20 (a := b1) (t := 2) hb1) ey71 cw_700 dX8_eval_197 ?_
                    refine lv_iload_n C.x C.b dX8_eval_200 rfl (lv_at hl 2 rfl) ?_
                    refine lv_iconst (v := 1) C.x C.b dX8_eval_201 (by decide +kernel) ?_
                    refine lv_iadd C.x C.b dX8_eval_202 ?_
                    refine lv_topi (fun x74 ex74 => ?_)
                    have tx74 : x74.toInt = k1.toInt + 1 := (vX8_eval_vS_58 k1 d x74 hpre_2 hpre_3 hpre_4 c4 ex74)
                    refine c_callVq (n := 2) (As := [va_rf y71, .int x74]) (rest := [.ref (ad 3)]) C hP hS hl.1 (IH κ s.heap.size (SLT s.heap) C.f (fun q h => C.a q (Nat.le_trans hS.1 h)) y71 x74 ty71 hPV hSV (vX8_eval_vS_59 κ k1 d x74 hpre_0 hpre_1 hpre_2 hpre_3 hpre_4 c4 ex74 tx74)) ⟨cw_711, cw_696, by decide +kernel⟩ ⟨cw_712, cw_713, cw_705⟩ rfl (hP.recvS (k := 3) (ci := 10) C.K rfl rfl) rfl rfl (lv_room (Nat.le_of_ble_eq_true rfl)) ⟨(vX8_eval_vS_23 d ), (vX8_eval_vS_24 d )⟩ ⟨(vX8_eval_vS_60 κ b1 x5 y71 y72 y73 ex5 c6_0 c6_1 c6_2 c6_3 c6_4 c6_5 c6_6 kdy71), (vX8_eval_vS_61 κ b1 x5 y71 y72 y73 ex5 c6_0 c6_1 c6_2 c6_3 c6_4 c6_5 c6_6 kdy71)⟩ dX8_eval_203 (fun r75 u H locs hr75 hP hS => ?_)
                    obtain ⟨n76, n77, n78, n79, F80, Z81, Z82, P83⟩ := u
                    have hP : CH D cy ad A (tP (tQ (tQ (tA (tI (tI (tI (tI κ 8 n76) 9 n77) 10 n78) 11 n79) 16 F80) 15 Z81) 17 Z82) P83) H := hP
                    have hr75 : (EX κ.2.2.2.2 P83) ∧ (PV sa P83) ∧ (SV ad P83 (κ.2.1 0) (κ.2.1 1) (κ.2.2.2.1 6) (κ.2.2.2.1 7) (κ.2.2.2.1 8) (κ.2.2.2.1 13) Z81 Z82 (κ.1 1).toInt) ∧ (NT P83 1 r75) ∧ (0 ≤ n76.toInt ∧ n76.toInt ≤ 12) := hr75
                    obtain ⟨hr75_0, hr75_1, hr75_2, hr75_3, hr75_4⟩ := hr75
                    have kc84 : cto P83 y71 = cto κ.2.2.2.2 y71 := hr75_0.ct ty71 (by decide)
                    have kc85 : cto P83 y72 = cto κ.2.2.2.2 y72 := hr75_0.ct ty72 (by decide)
                    have kc86 : cto P83 y73 = cto κ.2.2.2.2 y73 := hr75_0.ct ty73 (by decide)
                    have kc87 : cto P83 (some b1) = cto κ.2.2.2.2 (some b1) := hr75_0.ct (nt_s hb1) (by decide)
                    obtain ⟨hr75_4_0, hr75_4_1⟩ := hr75_4
                    refine c_callVq (n := 1) (As := [va_rf r75]) (rest := []) C hP hS hl.1 (NX8_opposite l D cy ad A sz0 sa (tP (tQ (tQ (tA (tI (tI (tI (tI κ 8 n76) 9 n77) 10 n78) 11 n79) 16 F80) 15 Z81) 17 Z82) P83) H.size (SLT H) C.f (fun q h => C.a q (Nat.le_trans hS.1 h)) r75 hr75_3 hr75_1 hr75_2) ⟨cw_744, cw_747, by decide +kernel⟩ ⟨cw_745, cw_746, cw_705⟩ rfl (hP.recvS (k := 3) (ci := 10) C.K rfl rfl) rfl rfl (lv_room (Nat.le_of_ble_eq_true rfl)) ⟨(vX8_eval_vS_27 d ), (vX8_eval_vS_62 d )⟩ ⟨(vX8_eval_vS_63 κ b1 x5 y71 y72 y73 P83 ex5 c6_0 c6_1 c6_2 c6_3 c6_4 c6_5 c6_6 kdy71 kc84 kc85 kc86 kc87), (vX8_eval_vS_64 κ b1 x5 y71 y72 y73 P83 ex5 c6_0 c6_1 c6_2 c6_3 c6_4 c6_5 c6_6 kdy71 kc84 kc85 kc86 kc87)⟩ dX8_eval_206 (fun r88 u H locs hr88 hP hS => ?_)
                    obtain ⟨n89, P90⟩ := u
                    have hP : CH D cy ad A (tP (tI (tP (tQ (tQ (tA (tI (tI (tI (tI κ 8 n76) 9 n77) 10 n78) 11 n79) 16 F80) 15 Z81) 17 Z82) P83) 9 n89) P90) H := hP
                    have hr88 : (EX P83 P90) ∧ (PV sa P90) ∧ (SV ad P90 (κ.2.1 0) (κ.2.1 1) (κ.2.2.2.1 6) (κ.2.2.2.1 7) (κ.2.2.2.1 8) (κ.2.2.2.1 13) Z81 Z82 (κ.1 1).toInt) ∧ (NT P90 1 r88) := hr88
                    obtain ⟨hr88_0, hr88_1, hr88_2, hr88_3⟩ := hr88
                    have kc91 : cto P90 y71 = cto P83 y71 := hr88_0.ct (hr75_0.nt ty71 (by decide)) (by decide)
                    have kc92 : cto P90 y72 = cto P83 y72 := hr88_0.ct (hr75_0.nt ty72 (by decide)) (by decide)
                    have kc93 : cto P90 y73 = cto P83 y73 := hr88_0.ct (hr75_0.nt ty73 (by decide)) (by decide)
                    have kc94 : cto P90 (some b1) = cto P83 (some b1) := hr88_0.ct (nt_s (hr75_0.T hb1 (by decide))) (by decide)
                    have hP : CH D cy ad A (tP (tQ (tQ (tA (tI (tI (tI (tI κ 8 n76) 9 n89) 10 n78) 11 n79) 16 F80) 15 Z81) 17 Z82) P90) H := CH.cong hP rfl rfl rfl rfl rfl rfl rfl rfl rfl rfl rfl rfl rfl rfl rfl rfl rfl rfl rfl rfl rfl rfl rfl rfl rfl rfl rfl
                    exact c_retq (v := r88) (Or.inl ⟨_, rfl⟩) C hsz hsl ⟨n76, n89, n78, n79, F80, Z81, Z82, P90⟩ ⟨(hr75_0.trans hr88_0), hr88_1, hr88_2, hr88_3, (vX8_eval_vS_65 n76 hr75_4_0 hr75_4_1)⟩ hP hS ⟨(vX8_eval_vS_66 κ b1 x5 y71 y72 y73 P83 P90 ex5 c6_0 c6_1 c6_2 c6_3 c6_4 c6_5 c6_6 kdy71 kc84 kc85 kc86 kc87 kc91 kc92 kc93 kc94), (vX8_eval_vS_67 κ b1 x5 y71 y72 y73 P83 P90 ex5 c6_0 c6_1 c6_2 c6_3 c6_4 c6_5 c6_6 kdy71 kc84 kc85 kc86 kc87 kc91 kc92 kc93 kc94)⟩ ⟨(vX8_eval_vS_68 κ b1 x5 y71 y72 y73 P83 P90 ex5 c6_0 c6_1 c6_2 c6_3 c6_4 c6_5 c6_6 kdy71 kc84 kc85 kc86 kc87 kc91 kc92 kc93 kc94), (vX8_eval_vS_69 κ b1 x5 y71 y72 y73 P83 P90 ex5 c6_0 c6_1 c6_2 c6_3 c6_4 c6_5 c6_6 kdy71 kc84 kc85 kc86 kc87 kc91 kc92 kc93 kc94)⟩ dX8_eval_209
                  · by_cases c6_7 : x5.toInt = 61
                    · refine lv_lookup (off := 211) (tgt := 231) C.x C.b dX8_eval_20 (by decide) (by rw [c6_7]; decide) (by decide) ?_
                      refine lv_aload_n C.x C.b dX8_eval_231 rfl (lv_at hl 0 rfl) ?_
                      refine lv_aload_n C.x C.b dX8_eval_232 rfl (lv_at hl 1 rfl) ?_
                      refine lv_iload_n C.x C.b dX8_eval_233 rfl (lv_at hl 2 rfl) ?_
                      refine c_callVq (n := 2) (As := [.ref b1, .int k1]) (rest := []) C hP hS hl.1 (NX8_set l D cy ad A sz0 sa d IH κ s.heap.size (SLT s.heap) C.f (fun q h => C.a q (Nat.le_trans hS.1 h)) b1 k1 hb1 hPV hSV (vX8_eval_vS_36 κ k1 d hpre_0 hpre_1 hpre_2 hpre_3 hpre_4 c4)) ⟨cw_762, cw_842, by decide +kernel⟩ ⟨cw_763, cw_764, cw_705⟩ rfl (hP.recvS (k := 3) (ci := 10) C.K rfl rfl) rfl rfl (lv_room (Nat.le_of_ble_eq_true rfl)) ⟨(vX8_eval_vS_37 d ), (vX8_eval_vS_70 d )⟩ ⟨(vX8_eval_vS_71 κ b1 x5 ex5 c6_0 c6_1 c6_2 c6_3 c6_4 c6_5 c6_6 c6_7), (vX8_eval_vS_72 κ b1 x5 ex5 c6_0 c6_1 c6_2 c6_3 c6_4 c6_5 c6_6 c6_7)⟩ dX8_eval_234 (fun r95 u H locs hr95 hP hS => ?_)
                      obtain ⟨n96, n97, n98, n99, F100, Z101, Z102, P103⟩ := u
                      have hP : CH D cy ad A (tP (tQ (tQ (tA (tI (tI (tI (tI κ 8 n96) 9 n97) 10 n98) 11 n99) 16 F100) 15 Z101) 17 Z102) P103) H := hP
                      have hr95 : (EX κ.2.2.2.2 P103) ∧ (PV sa P103) ∧ (SV ad P103 (κ.2.1 0) (κ.2.1 1) (κ.2.2.2.1 6) (κ.2.2.2.1 7) (κ.2.2.2.1 8) (κ.2.2.2.1 13) Z101 Z102 (κ.1 1).toInt) ∧ (NT P103 1 r95) ∧ (0 ≤ n96.toInt ∧ n96.toInt ≤ 12) := hr95
                      obtain ⟨hr95_0, hr95_1, hr95_2, hr95_3, hr95_4⟩ := hr95
                      have kc104 : cto P103 (some b1) = cto κ.2.2.2.2 (some b1) := hr95_0.ct (nt_s hb1) (by decide)
                      obtain ⟨hr95_4_0, hr95_4_1⟩ := hr95_4
                      exact c_retq (v := r95) (Or.inl ⟨_, rfl⟩) C hsz hsl ⟨n96, n97, n98, n99, F100, Z101, Z102, P103⟩ ⟨hr95_0, hr95_1, hr95_2, hr95_3, (vX8_eval_vS_73 n96 hr95_4_0 hr95_4_1)⟩ hP hS ⟨(vX8_eval_vS_74 κ b1 x5 P103 ex5 c6_0 c6_1 c6_2 c6_3 c6_4 c6_5 c6_6 c6_7 kc104), (vX8_eval_vS_75 κ b1 x5 P103 ex5 c6_0 c6_1 c6_2 c6_3 c6_4 c6_5 c6_6 c6_7 kc104)⟩ ⟨(vX8_eval_vS_76 κ b1 x5 P103 ex5 c6_0 c6_1 c6_2 c6_3 c6_4 c6_5 c6_6 c6_7 kc104), (vX8_eval_vS_77 κ b1 x5 P103 ex5 c6_0 c6_1 c6_2 c6_3 c6_4 c6_5 c6_6 c6_7 kc104)⟩ dX8_eval_237
                    · by_cases c6_8 : x5.toInt = 63
                      · refine lv_lookup (off := 197) (tgt := 217) C.x C.b dX8_eval_20 (by decide) (by rw [c6_8]; decide) (by decide) ?_
                        refine lv_aload_n C.x C.b dX8_eval_217 rfl (lv_at hl 0 rfl) ?_
                        refine lv_aload_n C.x C.b dX8_eval_218 rfl (lv_at hl 1 rfl) ?_
                        refine lv_iload_n C.x C.b dX8_eval_219 rfl (lv_at hl 2 rfl) ?_
                        refine c_callVq (n := 2) (As := [.ref b1, .int k1]) (rest := []) C hP hS hl.1 (NX8_chosen l D cy ad A sz0 sa d IH κ s.heap.size (SLT s.heap) C.f (fun q h => C.a q (Nat.le_trans hS.1 h)) b1 k1 hb1 hPV hSV (vX8_eval_vS_36 κ k1 d hpre_0 hpre_1 hpre_2 hpre_3 hpre_4 c4)) ⟨cw_756, cw_822, by decide +kernel⟩ ⟨cw_757, cw_758, cw_705⟩ rfl (hP.recvS (k := 3) (ci := 10) C.K rfl rfl) rfl rfl (lv_room (Nat.le_of_ble_eq_true rfl)) ⟨(vX8_eval_vS_37 d ), (vX8_eval_vS_78 d )⟩ ⟨(vX8_eval_vS_79 κ b1 x5 ex5 c6_0 c6_1 c6_2 c6_3 c6_4 c6_5 c6_6 c6_7 c6_8), (vX8_eval_vS_80 κ b1 x5 ex5 c6_0 c6_1 c6_2 c6_3 c6_4 c6_5 c6_6 c6_7 c6_8)⟩ dX8_eval_220 (fun r105 u H locs hr105 hP hS => ?_)
                        obtain ⟨n106, n107, n108, n109, F110, Z111, Z112, P113⟩ := u
                        have hP : CH D cy ad A (tP (tQ (tQ (tA (tI (tI (tI (tI κ 8 n106) 9 n107) 10 n108) 11 n109) 16 F110) 15 Z111) 17 Z112) P113) H := hP
                        have hr105 : (EX κ.2.2.2.2 P113) ∧ (PV sa P113) ∧ (SV ad P113 (κ.2.1 0) (κ.2.1 1) (κ.2.2.2.1 6) (κ.2.2.2.1 7) (κ.2.2.2.1 8) (κ.2.2.2.1 13) Z111 Z112 (κ.1 1).toInt) ∧ (NT P113 1 r105) ∧ (0 ≤ n106.toInt ∧ n106.toInt ≤ 12) := hr105
                        obtain ⟨hr105_0, hr105_1, hr105_2, hr105_3, hr105_4⟩ := hr105
                        have kc114 : cto P113 (some b1) = cto κ.2.2.2.2 (some b1) := hr105_0.ct (nt_s hb1) (by decide)
                        obtain ⟨hr105_4_0, hr105_4_1⟩ := hr105_4
                        exact c_retq (v := r105) (Or.inl ⟨_, rfl⟩) C hsz hsl ⟨n106, n107, n108, n109, F110, Z111, Z112, P113⟩ ⟨hr105_0, hr105_1, hr105_2, hr105_3, (vX8_eval_vS_81 n106 hr105_4_0 hr105_4_1)⟩ hP hS ⟨(vX8_eval_vS_82 κ b1 x5 P113 ex5 c6_0 c6_1 c6_2 c6_3 c6_4 c6_5 c6_6 c6_7 c6_8 kc114), (vX8_eval_vS_83 κ b1 x5 P113 ex5 c6_0 c6_1 c6_2 c6_3 c6_4 c6_5 c6_6 c6_7 c6_8 kc114)⟩ ⟨(vX8_eval_vS_84 κ b1 x5 P113 ex5 c6_0 c6_1 c6_2 c6_3 c6_4 c6_5 c6_6 c6_7 c6_8 kc114), (vX8_eval_vS_85 κ b1 x5 P113 ex5 c6_0 c6_1 c6_2 c6_3 c6_4 c6_5 c6_6 c6_7 c6_8 kc114)⟩ dX8_eval_223
                      · by_cases c6_9 : x5.toInt = 9766
                        · refine lv_lookup (off := 190) (tgt := 210) C.x C.b dX8_eval_20 (by decide) (by rw [c6_9]; decide) (by decide) ?_
                          refine lv_aload_n C.x C.b dX8_eval_210 rfl (lv_at hl 0 rfl) ?_
                          refine lv_aload_n C.x C.b dX8_eval_211 rfl (lv_at hl 1 rfl) ?_
                          refine lv_iload_n C.x C.b dX8_eval_212 rfl (lv_at hl 2 rfl) ?_
                          refine c_callVq (n := 2) (As := [.ref b1, .int k1]) (rest := []) C hP hS hl.1 (NX8_logic l D cy ad A sz0 sa d IH κ s.heap.size (SLT s.heap) C.f (fun q h => C.a q (Nat.le_trans hS.1 h)) b1 k1 hb1 hPV hSV (vX8_eval_vS_36 κ k1 d hpre_0 hpre_1 hpre_2 hpre_3 hpre_4 c4)) ⟨cw_753, cw_836, by decide +kernel⟩ ⟨cw_754, cw_755, cw_705⟩ rfl (hP.recvS (k := 3) (ci := 10) C.K rfl rfl) rfl rfl (lv_room (Nat.le_of_ble_eq_true rfl)) ⟨(vX8_eval_vS_37 d ), (vX8_eval_vS_78 d )⟩ ⟨(vX8_eval_vS_86 κ b1 x5 ex5 c6_0 c6_1 c6_2 c6_3 c6_4 c6_5 c6_6 c6_7 c6_8 c6_9), (vX8_eval_vS_87 κ b1 x5 ex5 c6_0 c6_1 c6_2 c6_3 c6_4 c6_5 c6_6 c6_7 c6_8 c6_9)⟩ dX8_eval_213 (fun r115 u H locs hr115 hP hS => ?_)
                          obtain ⟨n116, n117, n118, n119, F120, Z121, Z122, P123⟩ := u
                          have hP : CH D cy ad A (tP (tQ (tQ (tA (tI (tI (tI (tI κ 8 n116) 9 n117) 10 n118) 11 n119) 16 F120) 15 Z121) 17 Z122) P123) H := hP
                          have hr115 : (EX κ.2.2.2.2 P123) ∧ (PV sa P123) ∧ (SV ad P123 (κ.2.1 0) (κ.2.1 1) (κ.2.2.2.1 6) (κ.2.2.2.1 7) (κ.2.2.2.1 8) (κ.2.2.2.1 13) Z121 Z122 (κ.1 1).toInt) ∧ (NT P123 1 r115) ∧ (0 ≤ n116.toInt ∧ n116.toInt ≤ 12) := hr115
                          obtain ⟨hr115_0, hr115_1, hr115_2, hr115_3, hr115_4⟩ := hr115
                          have kc124 : cto P123 (some b1) = cto κ.2.2.2.2 (some b1) := hr115_0.ct (nt_s hb1) (by decide)
                          obtain ⟨hr115_4_0, hr115_4_1⟩ := hr115_4
                          exact c_retq (v := r115) (Or.inl ⟨_, rfl⟩) C hsz hsl ⟨n116, n117, n118, n119, F120, Z121, Z122, P123⟩ ⟨hr115_0, hr115_1, hr115_2, hr115_3, (vX8_eval_vS_88 n116 hr115_4_0 hr115_4_1)⟩ hP hS ⟨(vX8_eval_vS_89 κ b1 x5 P123 ex5 c6_0 c6_1 c6_2 c6_3 c6_4 c6_5 c6_6 c6_7 c6_8 c6_9 kc124), (vX8_eval_vS_90 κ b1 x5 P123 ex5 c6_0 c6_1 c6_2 c6_3 c6_4 c6_5 c6_6 c6_7 c6_8 c6_9 kc124)⟩ ⟨(vX8_eval_vS_91 κ b1 x5 P123 ex5 c6_0 c6_1 c6_2 c6_3 c6_4 c6_5 c6_6 c6_7 c6_8 c6_9 kc124), (vX8_eval_vS_92 κ b1 x5 P123 ex5 c6_0 c6_1 c6_2 c6_3 c6_4 c6_5 c6_6 c6_7 c6_8 c6_9 kc124)⟩ dX8_eval_216
                        · by_cases c6_10 : x5.toInt = 16186
                          · refine lv_lookup (off := 204) (tgt := 224) C.x C.b dX8_eval_20 (by decide) (by rw [c6_10]; decide) (by decide) ?_
                            refine lv_aload_n C.x C.b dX8_eval_224 rfl (lv_at hl 0 rfl) ?_
                            refine lv_aload_n C.x C.b dX8_eval_225 rfl (lv_at hl 1 rfl) ?_
                            refine lv_iload_n C.x C.b dX8_eval_226 rfl (lv_at hl 2 rfl) ?_
                            refine c_callVq (n := 2) (As := [.ref b1, .int k1]) (rest := []) C hP hS hl.1 (NX8_orElse l D cy ad A sz0 sa d IH κ s.heap.size (SLT s.heap) C.f (fun q h => C.a q (Nat.le_trans hS.1 h)) b1 k1 hb1 hPV hSV (vX8_eval_vS_36 κ k1 d hpre_0 hpre_1 hpre_2 hpre_3 hpre_4 c4)) ⟨cw_759, cw_837, by decide +kernel⟩ ⟨cw_760, cw_761, cw_705⟩ rfl (hP.recvS (k := 3) (ci := 10) C.K rfl rfl) rfl rfl (lv_room (Nat.le_of_ble_eq_true rfl)) ⟨(vX8_eval_vS_37 d ), (vX8_eval_vS_70 d )⟩ ⟨(vX8_eval_vS_93 κ b1 x5 ex5 c6_0 c6_1 c6_2 c6_3 c6_4 c6_5 c6_6 c6_7 c6_8 c6_9 c6_10), (vX8_eval_vS_94 κ b1 x5 ex5 c6_0 c6_1 c6_2 c6_3 c6_4 c6_5 c6_6 c6_7 c6_8 c6_9 c6_10)⟩ dX8_eval_227 (fun r125 u H locs hr125 hP hS => ?_)
                            obtain ⟨n126, n127, n128, n129, F130, Z131, Z132, P133⟩ := u
                            have hP : CH D cy ad A (tP (tQ (tQ (tA (tI (tI (tI (tI κ 8 n126) 9 n127) 10 n128) 11 n129) 16 F130) 15 Z131) 17 Z132) P133) H := hP
                            have hr125 : (EX κ.2.2.2.2 P133) ∧ (PV sa P133) ∧ (SV ad P133 (κ.2.1 0) (κ.2.1 1) (κ.2.2.2.1 6) (κ.2.2.2.1 7) (κ.2.2.2.1 8) (κ.2.2.2.1 13) Z131 Z132 (κ.1 1).toInt) ∧ (NT P133 1 r125) ∧ (0 ≤ n126.toInt ∧ n126.toInt ≤ 12) := hr125
                            obtain ⟨hr125_0, hr125_1, hr125_2, hr125_3, hr125_4⟩ := hr125
                            have kc134 : cto P133 (some b1) = cto κ.2.2.2.2 (some b1) := hr125_0.ct (nt_s hb1) (by decide)
                            obtain ⟨hr125_4_0, hr125_4_1⟩ := hr125_4
                            exact c_retq (v := r125) (Or.inl ⟨_, rfl⟩) C hsz hsl ⟨n126, n127, n128, n129, F130, Z131, Z132, P133⟩ ⟨hr125_0, hr125_1, hr125_2, hr125_3, (vX8_eval_vS_95 n126 hr125_4_0 hr125_4_1)⟩ hP hS ⟨(vX8_eval_vS_96 κ b1 x5 P133 ex5 c6_0 c6_1 c6_2 c6_3 c6_4 c6_5 c6_6 c6_7 c6_8 c6_9 c6_10 kc134), (vX8_eval_vS_97 κ b1 x5 P133 ex5 c6_0 c6_1 c6_2 c6_3 c6_4 c6_5 c6_6 c6_7 c6_8 c6_9 c6_10 kc134)⟩ ⟨(vX8_eval_vS_98 κ b1 x5 P133 ex5 c6_0 c6_1 c6_2 c6_3 c6_4 c6_5 c6_6 c6_7 c6_8 c6_9 c6_10 kc134), (vX8_eval_vS_99 κ b1 x5 P133 ex5 c6_0 c6_1 c6_2 c6_3 c6_4 c6_5 c6_6 c6_7 c6_8 c6_9 c6_10 kc134)⟩ dX8_eval_230
                          · by_cases c6_11 : x5.toInt = 31868
                            · refine lv_lookup (off := 190) (tgt := 210) C.x C.b dX8_eval_20 (by decide) (by rw [c6_11]; decide) (by decide) ?_
                              refine lv_aload_n C.x C.b dX8_eval_210 rfl (lv_at hl 0 rfl) ?_
                              refine lv_aload_n C.x C.b dX8_eval_211 rfl (lv_at hl 1 rfl) ?_
                              refine lv_iload_n C.x C.b dX8_eval_212 rfl (lv_at hl 2 rfl) ?_
                              refine c_callVq (n := 2) (As := [.ref b1, .int k1]) (rest := []) C hP hS hl.1 (NX8_logic l D cy ad A sz0 sa d IH κ s.heap.size (SLT s.heap) C.f (fun q h => C.a q (Nat.le_trans hS.1 h)) b1 k1 hb1 hPV hSV (vX8_eval_vS_36 κ k1 d hpre_0 hpre_1 hpre_2 hpre_3 hpre_4 c4)) ⟨cw_753, cw_836, by decide +kernel⟩ ⟨cw_754, cw_755, cw_705⟩ rfl (hP.recvS (k := 3) (ci := 10) C.K rfl rfl) rfl rfl (lv_room (Nat.le_of_ble_eq_true rfl)) ⟨(vX8_eval_vS_37 d ), (vX8_eval_vS_78 d )⟩ ⟨(vX8_eval_vS_100 κ b1 x5 ex5 c6_0 c6_1 c6_2 c6_3 c6_4 c6_5 c6_6 c6_7 c6_8 c6_9 c6_10 c6_11), (vX8_eval_vS_101 κ b1 x5 ex5 c6_0 c6_1 c6_2 c6_3 c6_4 c6_5 c6_6 c6_7 c6_8 c6_9 c6_10 c6_11)⟩ dX8_eval_213 (fun r135 u H locs hr135 hP hS => ?_)
                              obtain ⟨n136, n137, n138, n139, F140, Z141, Z142, P143⟩ := u
                              have hP : CH D cy ad A (tP (tQ (tQ (tA (tI (tI (tI (tI κ 8 n136) 9 n137) 10 n138) 11 n139) 16 F140) 15 Z141) 17 Z142) P143) H := hP
                              have hr135 : (EX κ.2.2.2.2 P143) ∧ (PV sa P143) ∧ (SV ad P143 (κ.2.1 0) (κ.2.1 1) (κ.2.2.2.1 6) (κ.2.2.2.1 7) (κ.2.2.2.1 8) (κ.2.2.2.1 13) Z141 Z142 (κ.1 1).toInt) ∧ (NT P143 1 r135) ∧ (0 ≤ n136.toInt ∧ n136.toInt ≤ 12) := hr135
                              obtain ⟨hr135_0, hr135_1, hr135_2, hr135_3, hr135_4⟩ := hr135
                              have kc144 : cto P143 (some b1) = cto κ.2.2.2.2 (some b1) := hr135_0.ct (nt_s hb1) (by decide)
                              obtain ⟨hr135_4_0, hr135_4_1⟩ := hr135_4
                              exact c_retq (v := r135) (Or.inl ⟨_, rfl⟩) C hsz hsl ⟨n136, n137, n138, n139, F140, Z141, Z142, P143⟩ ⟨hr135_0, hr135_1, hr135_2, hr135_3, (vX8_eval_vS_102 n136 hr135_4_0 hr135_4_1)⟩ hP hS ⟨(vX8_eval_vS_103 κ b1 x5 P143 ex5 c6_0 c6_1 c6_2 c6_3 c6_4 c6_5 c6_6 c6_7 c6_8 c6_9 c6_10 c6_11 kc144), (vX8_eval_vS_104 κ b1 x5 P143 ex5 c6_0 c6_1 c6_2 c6_3 c6_4 c6_5 c6_6 c6_7 c6_8 c6_9 c6_10 c6_11 kc144)⟩ ⟨(vX8_eval_vS_105 κ b1 x5 P143 ex5 c6_0 c6_1 c6_2 c6_3 c6_4 c6_5 c6_6 c6_7 c6_8 c6_9 c6_10 c6_11 kc144), (vX8_eval_vS_106 κ b1 x5 P143 ex5 c6_0 c6_1 c6_2 c6_3 c6_4 c6_5 c6_6 c6_7 c6_8 c6_9 c6_10 c6_11 kc144)⟩ dX8_eval_216
                            · refine lv_lookup (off := 218) (tgt := 238) C.x C.b dX8_eval_20 (by decide) (by simp [Op.lookupswitch.offset, c6_0, c6_1, c6_2, c6_3, c6_4, c6_5, c6_6, c6_7, c6_8, c6_9, c6_10, c6_11, (show ¬ (1 : Int) = x5.toInt from fun h9 => c6_0 h9.symm), (show ¬ (2 : Int) = x5.toInt from fun h9 => c6_1 h9.symm), (show ¬ (3 : Int) = x5.toInt from fun h9 => c6_2 h9.symm), (show ¬ (4 : Int) = x5.toInt from fun h9 => c6_3 h9.symm), (show ¬ (5 : Int) = x5.toInt from fun h9 => c6_4 h9.symm), (show ¬ (6 : Int) = x5.toInt from fun h9 => c6_5 h9.symm), (show ¬ (33 : Int) = x5.toInt from fun h9 => c6_6 h9.symm), (show ¬ (61 : Int) = x5.toInt from fun h9 => c6_7 h9.symm), (show ¬ (63 : Int) = x5.toInt from fun h9 => c6_8 h9.symm), (show ¬ (9766 : Int) = x5.toInt from fun h9 => c6_9 h9.symm), (show ¬ (16186 : Int) = x5.toInt from fun h9 => c6_10 h9.symm), (show ¬ (31868 : Int) = x5.toInt from fun h9 => c6_11 h9.symm)]) (by decide) ?_
                              refine lv_aload_n C.x C.b dX8_eval_238 rfl (lv_at hl 0 rfl) ?_
                              refine lv_aload_n C.x C.b dX8_eval_239 rfl (lv_at hl 1 rfl) ?_
                              refine lv_iload_n C.x C.b dX8_eval_240 rfl (lv_at hl 2 rfl) ?_
                              refine c_callVq (n := 2) (As := [.ref b1, .int k1]) (rest := []) C hP hS hl.1 (NX8_combined l D cy ad A sz0 sa d IH κ s.heap.size (SLT s.heap) C.f (fun q h => C.a q (Nat.le_trans hS.1 h)) b1 k1 hb1 hPV hSV (vX8_eval_vS_36 κ k1 d hpre_0 hpre_1 hpre_2 hpre_3 hpre_4 c4)) ⟨cw_765, cw_827, by decide +kernel⟩ ⟨cw_766, cw_767, cw_705⟩ rfl (hP.recvS (k := 3) (ci := 10) C.K rfl rfl) rfl rfl (lv_room (Nat.le_of_ble_eq_true rfl)) ⟨(vX8_eval_vS_37 d ), (vX8_eval_vS_70 d )⟩ ⟨(vX8_eval_vS_107 κ b1 x5 ex5 c6_0 c6_1 c6_2 c6_3 c6_4 c6_5 c6_6 c6_7 c6_8 c6_9 c6_10 c6_11), (vX8_eval_vS_108 κ b1 x5 ex5 c6_0 c6_1 c6_2 c6_3 c6_4 c6_5 c6_6 c6_7 c6_8 c6_9 c6_10 c6_11)⟩ dX8_eval_241 (fun r145 u H locs hr145 hP hS => ?_)
                              obtain ⟨n146, n147, n148, n149, F150, Z151, Z152, P153⟩ := u
                              have hP : CH D cy ad A (tP (tQ (tQ (tA (tI (tI (tI (tI κ 8 n146) 9 n147) 10 n148) 11 n149) 16 F150) 15 Z151) 17 Z152) P153) H := hP
                              have hr145 : (EX κ.2.2.2.2 P153) ∧ (PV sa P153) ∧ (SV ad P153 (κ.2.1 0) (κ.2.1 1) (κ.2.2.2.1 6) (κ.2.2.2.1 7) (κ.2.2.2.1 8) (κ.2.2.2.1 13) Z151 Z152 (κ.1 1).toInt) ∧ (NT P153 1 r145) ∧ (0 ≤ n146.toInt ∧ n146.toInt ≤ 12) := hr145
                              obtain ⟨hr145_0, hr145_1, hr145_2, hr145_3, hr145_4⟩ := hr145
                              have kc154 : cto P153 (some b1) = cto κ.2.2.2.2 (some b1) := hr145_0.ct (nt_s hb1) (by decide)
                              obtain ⟨hr145_4_0, hr145_4_1⟩ := hr145_4
                              exact c_retq (v := r145) (Or.inl ⟨_, rfl⟩) C hsz hsl ⟨n146, n147, n148, n149, F150, Z151, Z152, P153⟩ ⟨hr145_0, hr145_1, hr145_2, hr145_3, (vX8_eval_vS_109 n146 hr145_4_0 hr145_4_1)⟩ hP hS ⟨(vX8_eval_vS_110 κ b1 x5 P153 ex5 c6_0 c6_1 c6_2 c6_3 c6_4 c6_5 c6_6 c6_7 c6_8 c6_9 c6_10 c6_11 kc154), (vX8_eval_vS_111 κ b1 x5 P153 ex5 c6_0 c6_1 c6_2 c6_3 c6_4 c6_5 c6_6 c6_7 c6_8 c6_9 c6_10 c6_11 kc154)⟩ ⟨(vX8_eval_vS_112 κ b1 x5 P153 ex5 c6_0 c6_1 c6_2 c6_3 c6_4 c6_5 c6_6 c6_7 c6_8 c6_9 c6_10 c6_11 kc154), (vX8_eval_vS_113 κ b1 x5 P153 ex5 c6_0 c6_1 c6_2 c6_3 c6_4 c6_5 c6_6 c6_7 c6_8 c6_9 c6_10 c6_11 kc154)⟩ dX8_eval_244
    · have c4 : 40 < k1.toInt := by have h := z_nle c4; rw [show (40 : Int32).toInt = 40 from by decide +kernel] at h; exact h
      refine lv_aload_n C.x C.b dX8_eval_10 rfl (lv_at hl 0 rfl) ?_
      refine lv_iconst (v := 1) C.x C.b dX8_eval_11 (by decide +kernel) ?_
      refine c_callVq (n := 1) (As := [.int 1]) (rest := []) C hP hS hl.1 (NX8_fail l D cy ad A sz0 sa κ s.heap.size (SLT s.heap) C.f (fun q h => C.a q (Nat.le_trans hS.1 h)) (1 : Int32) ) ⟨cw_702, cw_695, by decide +kernel⟩ ⟨cw_703, cw_704, cw_705⟩ rfl (hP.recvS (k := 3) (ci := 10) C.K rfl rfl) rfl rfl (lv_room (Nat.le_of_ble_eq_true rfl)) ⟨(vX8_eval_vS_1 d ), (vX8_eval_vS_2 d )⟩ ⟨(vX8_eval_vS_114 κ b1 ), (vX8_eval_vS_115 κ b1 )⟩ dX8_eval_12 (fun r155 u H locs hr155 hP hS => ?_)
      obtain ⟨n156, rfl⟩ : ∃ z, z = u := ⟨_, rfl⟩
      have hP : CH D cy ad A (tI κ 9 n156) H := hP
      have hr155 : (NT κ.2.2.2.2 1 r155) := hr155
      have hP : CH D cy ad A (tP (tQ (tQ (tA (tI (tI (tI (tI κ 8 (κ.1 8)) 9 n156) 10 (κ.1 10)) 11 (κ.1 11)) 16 (κ.2.2.1 16)) 15 (κ.2.2.2.1 15)) 17 (κ.2.2.2.1 17)) κ.2.2.2.2) H := CH.cong hP rfl rfl rfl rfl rfl rfl rfl rfl rfl rfl rfl rfl rfl rfl rfl rfl rfl rfl rfl rfl rfl rfl rfl rfl rfl rfl rfl
      exact c_retq (v := r155) (Or.inl ⟨_, rfl⟩) C hsz hsl ⟨(κ.1 8), n156, (κ.1 10), (κ.1 11), (κ.2.2.1 16), (κ.2.2.2.1 15), (κ.2.2.2.1 17), κ.2.2.2.2⟩ ⟨EX.rf, hPV, hSV, hr155, (vX8_eval_vS_5 κ hpre_0 hpre_1)⟩ hP hS ⟨(vX8_eval_vS_114 κ b1 ), (vX8_eval_vS_115 κ b1 )⟩ ⟨(vX8_eval_vS_116 κ b1 ), (vX8_eval_vS_117 κ b1 )⟩ dX8_eval_15

theorem NX8_eval_all (l : Launch) (D : va_G) (cy : Nat → ClassId) (ad : Nat → Nat) (A : Nat → Prop) (sz0 : Nat) (sa : Nat → Nat) : ∀ d : Nat, KX8_eval l D cy ad A sz0 sa d := fun d => by
  induction d with
  | zero => exact NX8_eval_v0 l D cy ad A sz0 sa
  | succ d ih => exact NX8_eval_vS l D cy ad A sz0 sa d ih
