-- slen @42
theorem vX0_asText_1 (n3 : Nat) (len3 : n3 ≤ 40) : n3 ≤ 40 := by
  first | assumption | omega | (subst_vars; omega) | trivial
-- post2 @42
theorem vX0_asText_2 (ad : Nat → Nat) (sa : Nat → Nat) (κ : KS) (k0 : Nat) (x1 : Int32) (n3 : Nat) (ht0 : oT κ.2.2.2.2 k0 = 1) (hPV : PV sa κ.2.2.2.2) (hs19 : oT κ.2.2.2.2 (ad 19) = 12) (ex1 : oI κ.2.2.2.2 0 k0 = x1) (c2_0 : x1.toInt = 0) (len3 : n3 ≤ 40) : ∀ (q7 q8 : Nat → Option Nat) (v : QV), VALq κ.2.2.2.2 sa q7 q8 k0 v → TXq κ.2.2.2.2 sa ((some (sa 402)).getD 0) (qSpl v) := by
  intro q7 q8 v h
  have k := h.k9
  rw [ex1] at k
  rw [show qSpl v = [110, 117, 108, 108] by
    unfold qSpl
    rw [if_neg (by omega), if_neg (by omega), if_neg (by omega), if_neg (by omega), if_pos (by omega)]]
  exact TXq.null9
-- slen @58
theorem vX0_asText_3 (n6 : Nat) (len6 : n6 ≤ 40) : n6 ≤ 40 := by
  first | assumption | omega | (subst_vars; omega) | trivial
-- post2 @58
theorem vX0_asText_4 (ad : Nat → Nat) (sa : Nat → Nat) (κ : KS) (k0 : Nat) (x1 : Int32) (x4 : Int32) (n6 : Nat) (ht0 : oT κ.2.2.2.2 k0 = 1) (hPV : PV sa κ.2.2.2.2) (hs19 : oT κ.2.2.2.2 (ad 19) = 12) (ex1 : oI κ.2.2.2.2 0 k0 = x1) (c2_0 : ¬ x1.toInt = 0) (c2_1 : x1.toInt = 1) (ex4 : oI κ.2.2.2.2 1 k0 = x4) (c5 : ¬ x4.toInt = 1) (len6 : n6 ≤ 40) : ∀ (q7 q8 : Nat → Option Nat) (v : QV), VALq κ.2.2.2.2 sa q7 q8 k0 v → TXq κ.2.2.2.2 sa ((some (sa 401)).getD 0) (qSpl v) := by
  intro q7 q8 v h
  have k := h.k9
  rw [ex1] at k
  have n1 := h.n9 (by omega) (by omega)
  rw [ex4] at n1
  rw [show qSpl v = [102, 97, 108, 115, 101] by
    unfold qSpl
    rw [if_neg (by omega), if_neg (by omega), if_neg (by omega), if_pos (by omega), if_neg (by omega)]]
  exact TXq.false9
-- slen @58
theorem vX0_asText_5 (n7 : Nat) (len7 : n7 ≤ 40) : n7 ≤ 40 := by
  first | assumption | omega | (subst_vars; omega) | trivial
-- post2 @58
theorem vX0_asText_6 (ad : Nat → Nat) (sa : Nat → Nat) (κ : KS) (k0 : Nat) (x1 : Int32) (x4 : Int32) (n7 : Nat) (ht0 : oT κ.2.2.2.2 k0 = 1) (hPV : PV sa κ.2.2.2.2) (hs19 : oT κ.2.2.2.2 (ad 19) = 12) (ex1 : oI κ.2.2.2.2 0 k0 = x1) (c2_0 : ¬ x1.toInt = 0) (c2_1 : x1.toInt = 1) (ex4 : oI κ.2.2.2.2 1 k0 = x4) (c5 : x4.toInt = 1) (len7 : n7 ≤ 40) : ∀ (q7 q8 : Nat → Option Nat) (v : QV), VALq κ.2.2.2.2 sa q7 q8 k0 v → TXq κ.2.2.2.2 sa ((some (sa 400)).getD 0) (qSpl v) := by
  intro q7 q8 v h
  have k := h.k9
  rw [ex1] at k
  have n1 := h.n9 (by omega) (by omega)
  rw [ex4] at n1
  rw [show qSpl v = [116, 114, 117, 101] by
    unfold qSpl
    rw [if_neg (by omega), if_neg (by omega), if_neg (by omega), if_pos (by omega), if_pos (by omega)]]
  exact TXq.true9
-- pre:J4_setLength_d00df@69 @69
theorem vX0_asText_7   : (0 : Int32).toInt = 0 := by
  have q0 : (0 : Int32).toInt = 0 := by decide +kernel
  first | assumption | omega | (subst_vars; omega) | trivial
-- pre:J4_append_bf812@97 @97
theorem vX0_asText_8 (ad : Nat → Nat) (κ : KS) (k0 : Nat) (x1 : Int32) (P9 : PL) (x13 : Int32) (ex1 : oI κ.2.2.2.2 0 k0 = x1) (c2_0 : ¬ x1.toInt = 0) (c2_1 : ¬ x1.toInt = 1) (c2_2 : x1.toInt = 2) (hr8_3 : (oI P9 25 (ad 19)).toInt = 0) (ex13 : oI P9 1 k0 = x13) : (oI P9 25 (ad 19)).toInt ≤ 1 := by
  first | assumption | omega | (subst_vars; omega) | trivial
-- pre:J4_toString_0e30d@105 @105
theorem vX0_asText_9 (ad : Nat → Nat) (κ : KS) (k0 : Nat) (x1 : Int32) (P9 : PL) (x13 : Int32) (P15 : PL) (ex1 : oI κ.2.2.2.2 0 k0 = x1) (c2_0 : ¬ x1.toInt = 0) (c2_1 : ¬ x1.toInt = 1) (c2_2 : x1.toInt = 2) (hr8_3 : (oI P9 25 (ad 19)).toInt = 0) (ex13 : oI P9 1 k0 = x13) (hr14_4_0 : (oI P9 25 (ad 19)).toInt < (oI P15 25 (ad 19)).toInt) (hr14_4_1 : (oI P15 25 (ad 19)).toInt ≤ (oI P9 25 (ad 19)).toInt + 11) : (oI P15 25 (ad 19)).toInt ≤ 40 := by
  first | assumption | omega | (subst_vars; omega) | trivial
-- room @105
theorem vX0_asText_10 (ad : Nat → Nat) (κ : KS) (k0 : Nat) (x1 : Int32) (P9 : PL) (x13 : Int32) (P15 : PL) (ex1 : oI κ.2.2.2.2 0 k0 = x1) (c2_0 : ¬ x1.toInt = 0) (c2_1 : ¬ x1.toInt = 1) (c2_2 : x1.toInt = 2) (hr8_3 : (oI P9 25 (ad 19)).toInt = 0) (ex13 : oI P9 1 k0 = x13) (hr14_4_0 : (oI P9 25 (ad 19)).toInt < (oI P15 25 (ad 19)).toInt) (hr14_4_1 : (oI P15 25 (ad 19)).toInt ≤ (oI P9 25 (ad 19)).toInt + 11) : 0 + 0 + 0 + (4 + (oI P15 25 (ad 19)).toInt.toNat) ≤ 16 := by
  first | assumption | omega | (subst_vars; omega) | trivial
-- slen @108
theorem vX0_asText_11 (ad : Nat → Nat) (κ : KS) (k0 : Nat) (x1 : Int32) (P9 : PL) (x13 : Int32) (P15 : PL) (nb21 : Nat) (ex1 : oI κ.2.2.2.2 0 k0 = x1) (c2_0 : ¬ x1.toInt = 0) (c2_1 : ¬ x1.toInt = 1) (c2_2 : x1.toInt = 2) (hr8_3 : (oI P9 25 (ad 19)).toInt = 0) (ex13 : oI P9 1 k0 = x13) (hr14_4_0 : (oI P9 25 (ad 19)).toInt < (oI P15 25 (ad 19)).toInt) (hr14_4_1 : (oI P15 25 (ad 19)).toInt ≤ (oI P9 25 (ad 19)).toInt + 11) (leb21 : ((nb21 : Nat) : Int) = (oI P15 25 (ad 19)).toInt) : nb21 ≤ 40 := by
  first | assumption | omega | (subst_vars; omega) | trivial
-- post2 @108
theorem vX0_asText_12 (ad : Nat → Nat) (sa : Nat → Nat) (κ : KS) (k0 : Nat) (x1 : Int32) (P9 : PL) (x13 : Int32) (P15 : PL) (P19 : PL) (b21 : Nat) (nb21 : Nat) (ht0 : oT κ.2.2.2.2 k0 = 1) (hPV : PV sa κ.2.2.2.2) (hs19 : oT κ.2.2.2.2 (ad 19) = 12) (ex1 : oI κ.2.2.2.2 0 k0 = x1) (c2_0 : ¬ x1.toInt = 0) (c2_1 : ¬ x1.toInt = 1) (c2_2 : x1.toInt = 2) (hr8_0 : EX κ.2.2.2.2 P9) (hr8_2 : KPx True κ.2.2.2.2 P9) (hr8y : SBX P9 (ad 19) []) (hr8_3 : (oI P9 25 (ad 19)).toInt = 0) (ex11 : oR P9 1 k0 = none) (ex13 : oI P9 1 k0 = x13) (hr14_0 : EX P9 P15) (hr14_2 : KPx True P9 P15) (hr14y : ∀ s9 : List Int, SBX P9 (ad 19) s9 → SBX P15 (ad 19) (s9 ++ qDec x13.toInt)) (hr14_4_0 : (oI P9 25 (ad 19)).toInt < (oI P15 25 (ad 19)).toInt) (hr14_4_1 : (oI P15 25 (ad 19)).toInt ≤ (oI P9 25 (ad 19)).toInt + 11) (hr18_0 : EX P15 P19) (hr18_2 : KPx True P15 P19) (leb21 : ((nb21 : Nat) : Int) = (oI P15 25 (ad 19)).toInt) (hr18y : ∀ s9 : List Int, SBX P15 (ad 19) s9 → TXq P19 sa b21 s9) : ∀ (q7 q8 : Nat → Option Nat) (v : QV), VALq κ.2.2.2.2 sa q7 q8 k0 v → TXq P19 sa b21 (qSpl v) := by
  intro q7 q8 v h
  have k := h.k9
  rw [ex1] at k
  have g := h.ex9 hr8_0 hr8_2
  have n8 := g.no9 ex11
  have q9 := h.q9
  have e := g.sn9 (by omega)
  rw [ex13] at e
  have s := hr18y _ (hr14y _ hr8y)
  rw [List.nil_append, ← e] at s
  exact s
-- grow @108
theorem vX0_asText_13 (ad : Nat → Nat) (κ : KS) (k0 : Nat) (x1 : Int32) (P9 : PL) (x13 : Int32) (P15 : PL) (nb21 : Nat) (ex1 : oI κ.2.2.2.2 0 k0 = x1) (c2_0 : ¬ x1.toInt = 0) (c2_1 : ¬ x1.toInt = 1) (c2_2 : x1.toInt = 2) (hr8_3 : (oI P9 25 (ad 19)).toInt = 0) (ex13 : oI P9 1 k0 = x13) (hr14_4_0 : (oI P9 25 (ad 19)).toInt < (oI P15 25 (ad 19)).toInt) (hr14_4_1 : (oI P15 25 (ad 19)).toInt ≤ (oI P9 25 (ad 19)).toInt + 11) (leb21 : ((nb21 : Nat) : Int) = (oI P15 25 (ad 19)).toInt) : 0 + 0 + 0 + (4 + (oI P15 25 (ad 19)).toInt.toNat) ≤ 16 := by
  first | assumption | omega | (subst_vars; omega) | trivial
-- pre:J4_append_cf468@85 @85
theorem vX0_asText_14 (ad : Nat → Nat) (P9 : PL) (hr8_3 : (oI P9 25 (ad 19)).toInt = 0) : 0 ≤ (111 : Int32).toInt ∧ (111 : Int32).toInt ≤ 255 ∧ (oI P9 25 (ad 19)).toInt < 70 := by
  have q111 : (111 : Int32).toInt = 111 := by decide +kernel
  refine ⟨?_, ?_, ?_⟩ <;> first | assumption | omega | (subst_vars; omega) | trivial
-- room @85
theorem vX0_asText_15 (ad : Nat → Nat) (P9 : PL) (hr8_3 : (oI P9 25 (ad 19)).toInt = 0) : 0 + 0 + (gr1 ((oI P9 25 (ad 19)).toInt + 1)) ≤ 2 := by
  have zg0 := gr_spec ((oI P9 25 (ad 19)).toInt + 1)
  first | assumption | omega | (subst_vars; omega) | trivial
-- room @85
theorem vX0_asText_16 (ad : Nat → Nat) (P9 : PL) (hr8_3 : (oI P9 25 (ad 19)).toInt = 0) : 0 + 0 + (gr70 ((oI P9 25 (ad 19)).toInt + 1)) ≤ 16 := by
  have zg0 := gr_spec ((oI P9 25 (ad 19)).toInt + 1)
  first | assumption | omega | (subst_vars; omega) | trivial
-- pre:J4_append_bf812@97 @97
theorem vX0_asText_17 (ad : Nat → Nat) (κ : KS) (k0 : Nat) (x1 : Int32) (P9 : PL) (P23 : PL) (x26 : Int32) (ex1 : oI κ.2.2.2.2 0 k0 = x1) (c2_0 : ¬ x1.toInt = 0) (c2_1 : ¬ x1.toInt = 1) (c2_2 : x1.toInt = 2) (hr8_3 : (oI P9 25 (ad 19)).toInt = 0) (hr22_4_0 : (oI P23 25 (ad 19)).toInt = (oI P9 25 (ad 19)).toInt + 1) (hr22_4_1 : gr1 ((oI P9 25 (ad 19)).toInt + 1) ≤ 1) (hr22_4_2 : gr70 ((oI P9 25 (ad 19)).toInt + 1) ≤ 70) (hr22_4_3 : (oI P9 25 (ad 19)).toInt + 1 ≤ 16 → gr1 ((oI P9 25 (ad 19)).toInt + 1) = 0 ∧ gr70 ((oI P9 25 (ad 19)).toInt + 1) = 0) (hr22_4_4 : 16 < (oI P9 25 (ad 19)).toInt + 1 → gr1 ((oI P9 25 (ad 19)).toInt + 1) = 1 ∧ gr70 ((oI P9 25 (ad 19)).toInt + 1) = 70) (ex26 : oI P23 1 k0 = x26) : (oI P23 25 (ad 19)).toInt ≤ 1 := by
  first | assumption | omega | (subst_vars; omega) | trivial
-- room @97
theorem vX0_asText_18 (ad : Nat → Nat) (κ : KS) (k0 : Nat) (x1 : Int32) (P9 : PL) (P23 : PL) (x26 : Int32) (ex1 : oI κ.2.2.2.2 0 k0 = x1) (c2_0 : ¬ x1.toInt = 0) (c2_1 : ¬ x1.toInt = 1) (c2_2 : x1.toInt = 2) (hr8_3 : (oI P9 25 (ad 19)).toInt = 0) (hr22_4_0 : (oI P23 25 (ad 19)).toInt = (oI P9 25 (ad 19)).toInt + 1) (hr22_4_1 : gr1 ((oI P9 25 (ad 19)).toInt + 1) ≤ 1) (hr22_4_2 : gr70 ((oI P9 25 (ad 19)).toInt + 1) ≤ 70) (hr22_4_3 : (oI P9 25 (ad 19)).toInt + 1 ≤ 16 → gr1 ((oI P9 25 (ad 19)).toInt + 1) = 0 ∧ gr70 ((oI P9 25 (ad 19)).toInt + 1) = 0) (hr22_4_4 : 16 < (oI P9 25 (ad 19)).toInt + 1 → gr1 ((oI P9 25 (ad 19)).toInt + 1) = 1 ∧ gr70 ((oI P9 25 (ad 19)).toInt + 1) = 70) (ex26 : oI P23 1 k0 = x26) : 0 + 0 + (gr1 ((oI P9 25 (ad 19)).toInt + 1)) + 0 ≤ 2 := by
  have zg0 := gr_spec ((oI P9 25 (ad 19)).toInt + 1)
  first | assumption | omega | (subst_vars; omega) | trivial
-- room @97
theorem vX0_asText_19 (ad : Nat → Nat) (κ : KS) (k0 : Nat) (x1 : Int32) (P9 : PL) (P23 : PL) (x26 : Int32) (ex1 : oI κ.2.2.2.2 0 k0 = x1) (c2_0 : ¬ x1.toInt = 0) (c2_1 : ¬ x1.toInt = 1) (c2_2 : x1.toInt = 2) (hr8_3 : (oI P9 25 (ad 19)).toInt = 0) (hr22_4_0 : (oI P23 25 (ad 19)).toInt = (oI P9 25 (ad 19)).toInt + 1) (hr22_4_1 : gr1 ((oI P9 25 (ad 19)).toInt + 1) ≤ 1) (hr22_4_2 : gr70 ((oI P9 25 (ad 19)).toInt + 1) ≤ 70) (hr22_4_3 : (oI P9 25 (ad 19)).toInt + 1 ≤ 16 → gr1 ((oI P9 25 (ad 19)).toInt + 1) = 0 ∧ gr70 ((oI P9 25 (ad 19)).toInt + 1) = 0) (hr22_4_4 : 16 < (oI P9 25 (ad 19)).toInt + 1 → gr1 ((oI P9 25 (ad 19)).toInt + 1) = 1 ∧ gr70 ((oI P9 25 (ad 19)).toInt + 1) = 70) (ex26 : oI P23 1 k0 = x26) : 0 + 0 + (gr70 ((oI P9 25 (ad 19)).toInt + 1)) + 0 ≤ 16 := by
  have zg0 := gr_spec ((oI P9 25 (ad 19)).toInt + 1)
  first | assumption | omega | (subst_vars; omega) | trivial
-- pre:J4_toString_0e30d@105 @105
theorem vX0_asText_20 (ad : Nat → Nat) (κ : KS) (k0 : Nat) (x1 : Int32) (P9 : PL) (P23 : PL) (x26 : Int32) (P28 : PL) (ex1 : oI κ.2.2.2.2 0 k0 = x1) (c2_0 : ¬ x1.toInt = 0) (c2_1 : ¬ x1.toInt = 1) (c2_2 : x1.toInt = 2) (hr8_3 : (oI P9 25 (ad 19)).toInt = 0) (hr22_4_0 : (oI P23 25 (ad 19)).toInt = (oI P9 25 (ad 19)).toInt + 1) (hr22_4_1 : gr1 ((oI P9 25 (ad 19)).toInt + 1) ≤ 1) (hr22_4_2 : gr70 ((oI P9 25 (ad 19)).toInt + 1) ≤ 70) (ex26 : oI P23 1 k0 = x26) (hr27_4_0 : (oI P23 25 (ad 19)).toInt < (oI P28 25 (ad 19)).toInt) (hr27_4_1 : (oI P28 25 (ad 19)).toInt ≤ (oI P23 25 (ad 19)).toInt + 11) : (oI P28 25 (ad 19)).toInt ≤ 40 := by
  first | assumption | omega | (subst_vars; omega) | trivial
-- room @105
theorem vX0_asText_21 (ad : Nat → Nat) (κ : KS) (k0 : Nat) (x1 : Int32) (P9 : PL) (P23 : PL) (x26 : Int32) (P28 : PL) (ex1 : oI κ.2.2.2.2 0 k0 = x1) (c2_0 : ¬ x1.toInt = 0) (c2_1 : ¬ x1.toInt = 1) (c2_2 : x1.toInt = 2) (hr8_3 : (oI P9 25 (ad 19)).toInt = 0) (hr22_4_0 : (oI P23 25 (ad 19)).toInt = (oI P9 25 (ad 19)).toInt + 1) (hr22_4_1 : gr1 ((oI P9 25 (ad 19)).toInt + 1) ≤ 1) (hr22_4_2 : gr70 ((oI P9 25 (ad 19)).toInt + 1) ≤ 70) (hr22_4_3 : (oI P9 25 (ad 19)).toInt + 1 ≤ 16 → gr1 ((oI P9 25 (ad 19)).toInt + 1) = 0 ∧ gr70 ((oI P9 25 (ad 19)).toInt + 1) = 0) (hr22_4_4 : 16 < (oI P9 25 (ad 19)).toInt + 1 → gr1 ((oI P9 25 (ad 19)).toInt + 1) = 1 ∧ gr70 ((oI P9 25 (ad 19)).toInt + 1) = 70) (ex26 : oI P23 1 k0 = x26) (hr27_4_0 : (oI P23 25 (ad 19)).toInt < (oI P28 25 (ad 19)).toInt) (hr27_4_1 : (oI P28 25 (ad 19)).toInt ≤ (oI P23 25 (ad 19)).toInt + 11) : 0 + 0 + (gr1 ((oI P9 25 (ad 19)).toInt + 1)) + 0 + 2 ≤ 2 := by
  have zg0 := gr_spec ((oI P9 25 (ad 19)).toInt + 1)
  first | assumption | omega | (subst_vars; omega) | trivial
-- room @105
theorem vX0_asText_22 (ad : Nat → Nat) (κ : KS) (k0 : Nat) (x1 : Int32) (P9 : PL) (P23 : PL) (x26 : Int32) (P28 : PL) (ex1 : oI κ.2.2.2.2 0 k0 = x1) (c2_0 : ¬ x1.toInt = 0) (c2_1 : ¬ x1.toInt = 1) (c2_2 : x1.toInt = 2) (hr8_3 : (oI P9 25 (ad 19)).toInt = 0) (hr22_4_0 : (oI P23 25 (ad 19)).toInt = (oI P9 25 (ad 19)).toInt + 1) (hr22_4_1 : gr1 ((oI P9 25 (ad 19)).toInt + 1) ≤ 1) (hr22_4_2 : gr70 ((oI P9 25 (ad 19)).toInt + 1) ≤ 70) (hr22_4_3 : (oI P9 25 (ad 19)).toInt + 1 ≤ 16 → gr1 ((oI P9 25 (ad 19)).toInt + 1) = 0 ∧ gr70 ((oI P9 25 (ad 19)).toInt + 1) = 0) (hr22_4_4 : 16 < (oI P9 25 (ad 19)).toInt + 1 → gr1 ((oI P9 25 (ad 19)).toInt + 1) = 1 ∧ gr70 ((oI P9 25 (ad 19)).toInt + 1) = 70) (ex26 : oI P23 1 k0 = x26) (hr27_4_0 : (oI P23 25 (ad 19)).toInt < (oI P28 25 (ad 19)).toInt) (hr27_4_1 : (oI P28 25 (ad 19)).toInt ≤ (oI P23 25 (ad 19)).toInt + 11) : 0 + 0 + (gr70 ((oI P9 25 (ad 19)).toInt + 1)) + 0 + (4 + (oI P28 25 (ad 19)).toInt.toNat) ≤ 16 := by
  have zg0 := gr_spec ((oI P9 25 (ad 19)).toInt + 1)
  first | assumption | omega | (subst_vars; omega) | trivial
-- slen @108
theorem vX0_asText_23 (ad : Nat → Nat) (κ : KS) (k0 : Nat) (x1 : Int32) (P9 : PL) (P23 : PL) (x26 : Int32) (P28 : PL) (nb34 : Nat) (ex1 : oI κ.2.2.2.2 0 k0 = x1) (c2_0 : ¬ x1.toInt = 0) (c2_1 : ¬ x1.toInt = 1) (c2_2 : x1.toInt = 2) (hr8_3 : (oI P9 25 (ad 19)).toInt = 0) (hr22_4_0 : (oI P23 25 (ad 19)).toInt = (oI P9 25 (ad 19)).toInt + 1) (hr22_4_1 : gr1 ((oI P9 25 (ad 19)).toInt + 1) ≤ 1) (hr22_4_2 : gr70 ((oI P9 25 (ad 19)).toInt + 1) ≤ 70) (ex26 : oI P23 1 k0 = x26) (hr27_4_0 : (oI P23 25 (ad 19)).toInt < (oI P28 25 (ad 19)).toInt) (hr27_4_1 : (oI P28 25 (ad 19)).toInt ≤ (oI P23 25 (ad 19)).toInt + 11) (leb34 : ((nb34 : Nat) : Int) = (oI P28 25 (ad 19)).toInt) : nb34 ≤ 40 := by
  first | assumption | omega | (subst_vars; omega) | trivial
-- post2 @108
theorem vX0_asText_24 (ad : Nat → Nat) (sa : Nat → Nat) (κ : KS) (k0 : Nat) (x1 : Int32) (P9 : PL) (b12 : Nat) (P23 : PL) (x26 : Int32) (P28 : PL) (P32 : PL) (b34 : Nat) (nb34 : Nat) (ht0 : oT κ.2.2.2.2 k0 = 1) (hPV : PV sa κ.2.2.2.2) (hs19 : oT κ.2.2.2.2 (ad 19) = 12) (ex1 : oI κ.2.2.2.2 0 k0 = x1) (c2_0 : ¬ x1.toInt = 0) (c2_1 : ¬ x1.toInt = 1) (c2_2 : x1.toInt = 2) (hr8_0 : EX κ.2.2.2.2 P9) (hr8_2 : KPx True κ.2.2.2.2 P9) (hr8y : SBX P9 (ad 19) []) (hr8_3 : (oI P9 25 (ad 19)).toInt = 0) (ex11 : oR P9 1 k0 = (some b12)) (hr22_0 : EX P9 P23) (hr22_2 : KPx True P9 P23) (hr22y : ∀ s9 : List Int, SBX P9 (ad 19) s9 → (111 : Int32).toInt < 128 → SBX P23 (ad 19) (s9 ++ [(111 : Int32).toInt])) (hr22_4_0 : (oI P23 25 (ad 19)).toInt = (oI P9 25 (ad 19)).toInt + 1) (hr22_4_1 : gr1 ((oI P9 25 (ad 19)).toInt + 1) ≤ 1) (hr22_4_2 : gr70 ((oI P9 25 (ad 19)).toInt + 1) ≤ 70) (hr22_4_3 : (oI P9 25 (ad 19)).toInt + 1 ≤ 16 → gr1 ((oI P9 25 (ad 19)).toInt + 1) = 0 ∧ gr70 ((oI P9 25 (ad 19)).toInt + 1) = 0) (hr22_4_4 : 16 < (oI P9 25 (ad 19)).toInt + 1 → gr1 ((oI P9 25 (ad 19)).toInt + 1) = 1 ∧ gr70 ((oI P9 25 (ad 19)).toInt + 1) = 70) (ex26 : oI P23 1 k0 = x26) (hr27_0 : EX P23 P28) (hr27_2 : KPx True P23 P28) (hr27y : ∀ s9 : List Int, SBX P23 (ad 19) s9 → SBX P28 (ad 19) (s9 ++ qDec x26.toInt)) (hr27_4_0 : (oI P23 25 (ad 19)).toInt < (oI P28 25 (ad 19)).toInt) (hr27_4_1 : (oI P28 25 (ad 19)).toInt ≤ (oI P23 25 (ad 19)).toInt + 11) (hr31_0 : EX P28 P32) (hr31_2 : KPx True P28 P32) (leb34 : ((nb34 : Nat) : Int) = (oI P28 25 (ad 19)).toInt) (hr31y : ∀ s9 : List Int, SBX P28 (ad 19) s9 → TXq P32 sa b34 s9) : ∀ (q7 q8 : Nat → Option Nat) (v : QV), VALq κ.2.2.2.2 sa q7 q8 k0 v → TXq P32 sa b34 (qSpl v) := by
  have q111 : (111 : Int32).toInt = 111 := by decide +kernel
  intro q7 q8 v h
  have k := h.k9
  rw [ex1] at k
  have g := h.ex9 hr8_0 hr8_2
  have n8 := g.o9 ex11
  have e := (g.ex9 hr22_0 hr22_2).so9 n8
  rw [ex26] at e
  have s := hr31y _ (hr27y _ (hr22y _ hr8y (by decide)))
  rw [show ([] ++ [(111 : Int32).toInt]) ++ qDec x26.toInt = qSpl v by rw [e, show (111 : Int32).toInt = 111 by decide] <;> rfl] at s
  exact s
-- grow @108
theorem vX0_asText_25 (ad : Nat → Nat) (κ : KS) (k0 : Nat) (x1 : Int32) (P9 : PL) (P23 : PL) (x26 : Int32) (P28 : PL) (nb34 : Nat) (ex1 : oI κ.2.2.2.2 0 k0 = x1) (c2_0 : ¬ x1.toInt = 0) (c2_1 : ¬ x1.toInt = 1) (c2_2 : x1.toInt = 2) (hr8_3 : (oI P9 25 (ad 19)).toInt = 0) (hr22_4_0 : (oI P23 25 (ad 19)).toInt = (oI P9 25 (ad 19)).toInt + 1) (hr22_4_1 : gr1 ((oI P9 25 (ad 19)).toInt + 1) ≤ 1) (hr22_4_2 : gr70 ((oI P9 25 (ad 19)).toInt + 1) ≤ 70) (hr22_4_3 : (oI P9 25 (ad 19)).toInt + 1 ≤ 16 → gr1 ((oI P9 25 (ad 19)).toInt + 1) = 0 ∧ gr70 ((oI P9 25 (ad 19)).toInt + 1) = 0) (hr22_4_4 : 16 < (oI P9 25 (ad 19)).toInt + 1 → gr1 ((oI P9 25 (ad 19)).toInt + 1) = 1 ∧ gr70 ((oI P9 25 (ad 19)).toInt + 1) = 70) (ex26 : oI P23 1 k0 = x26) (hr27_4_0 : (oI P23 25 (ad 19)).toInt < (oI P28 25 (ad 19)).toInt) (hr27_4_1 : (oI P28 25 (ad 19)).toInt ≤ (oI P23 25 (ad 19)).toInt + 11) (leb34 : ((nb34 : Nat) : Int) = (oI P28 25 (ad 19)).toInt) : 0 + 0 + (gr1 ((oI P9 25 (ad 19)).toInt + 1)) + 0 + 2 ≤ 2 := by
  have zg0 := gr_spec ((oI P9 25 (ad 19)).toInt + 1)
  first | assumption | omega | (subst_vars; omega) | trivial
-- grow @108
theorem vX0_asText_26 (ad : Nat → Nat) (κ : KS) (k0 : Nat) (x1 : Int32) (P9 : PL) (P23 : PL) (x26 : Int32) (P28 : PL) (nb34 : Nat) (ex1 : oI κ.2.2.2.2 0 k0 = x1) (c2_0 : ¬ x1.toInt = 0) (c2_1 : ¬ x1.toInt = 1) (c2_2 : x1.toInt = 2) (hr8_3 : (oI P9 25 (ad 19)).toInt = 0) (hr22_4_0 : (oI P23 25 (ad 19)).toInt = (oI P9 25 (ad 19)).toInt + 1) (hr22_4_1 : gr1 ((oI P9 25 (ad 19)).toInt + 1) ≤ 1) (hr22_4_2 : gr70 ((oI P9 25 (ad 19)).toInt + 1) ≤ 70) (hr22_4_3 : (oI P9 25 (ad 19)).toInt + 1 ≤ 16 → gr1 ((oI P9 25 (ad 19)).toInt + 1) = 0 ∧ gr70 ((oI P9 25 (ad 19)).toInt + 1) = 0) (hr22_4_4 : 16 < (oI P9 25 (ad 19)).toInt + 1 → gr1 ((oI P9 25 (ad 19)).toInt + 1) = 1 ∧ gr70 ((oI P9 25 (ad 19)).toInt + 1) = 70) (ex26 : oI P23 1 k0 = x26) (hr27_4_0 : (oI P23 25 (ad 19)).toInt < (oI P28 25 (ad 19)).toInt) (hr27_4_1 : (oI P28 25 (ad 19)).toInt ≤ (oI P23 25 (ad 19)).toInt + 11) (leb34 : ((nb34 : Nat) : Int) = (oI P28 25 (ad 19)).toInt) : 0 + 0 + (gr70 ((oI P9 25 (ad 19)).toInt + 1)) + 0 + (4 + (oI P28 25 (ad 19)).toInt.toNat) ≤ 16 := by
  have zg0 := gr_spec ((oI P9 25 (ad 19)).toInt + 1)
  first | assumption | omega | (subst_vars; omega) | trivial
-- pre:J4_append_bf812@97 @97
theorem vX0_asText_27 (ad : Nat → Nat) (κ : KS) (k0 : Nat) (x1 : Int32) (P36 : PL) (x40 : Int32) (ex1 : oI κ.2.2.2.2 0 k0 = x1) (c2_0 : ¬ x1.toInt = 0) (c2_1 : ¬ x1.toInt = 1) (c2_2 : ¬ x1.toInt = 2) (c2_3 : x1.toInt = 3) (hr35_3 : (oI P36 25 (ad 19)).toInt = 0) (ex40 : oI P36 1 k0 = x40) : (oI P36 25 (ad 19)).toInt ≤ 1 := by
  first | assumption | omega | (subst_vars; omega) | trivial
-- pre:J4_toString_0e30d@105 @105
theorem vX0_asText_28 (ad : Nat → Nat) (κ : KS) (k0 : Nat) (x1 : Int32) (P36 : PL) (x40 : Int32) (P42 : PL) (ex1 : oI κ.2.2.2.2 0 k0 = x1) (c2_0 : ¬ x1.toInt = 0) (c2_1 : ¬ x1.toInt = 1) (c2_2 : ¬ x1.toInt = 2) (c2_3 : x1.toInt = 3) (hr35_3 : (oI P36 25 (ad 19)).toInt = 0) (ex40 : oI P36 1 k0 = x40) (hr41_4_0 : (oI P36 25 (ad 19)).toInt < (oI P42 25 (ad 19)).toInt) (hr41_4_1 : (oI P42 25 (ad 19)).toInt ≤ (oI P36 25 (ad 19)).toInt + 11) : (oI P42 25 (ad 19)).toInt ≤ 40 := by
  first | assumption | omega | (subst_vars; omega) | trivial
-- room @105
theorem vX0_asText_29 (ad : Nat → Nat) (κ : KS) (k0 : Nat) (x1 : Int32) (P36 : PL) (x40 : Int32) (P42 : PL) (ex1 : oI κ.2.2.2.2 0 k0 = x1) (c2_0 : ¬ x1.toInt = 0) (c2_1 : ¬ x1.toInt = 1) (c2_2 : ¬ x1.toInt = 2) (c2_3 : x1.toInt = 3) (hr35_3 : (oI P36 25 (ad 19)).toInt = 0) (ex40 : oI P36 1 k0 = x40) (hr41_4_0 : (oI P36 25 (ad 19)).toInt < (oI P42 25 (ad 19)).toInt) (hr41_4_1 : (oI P42 25 (ad 19)).toInt ≤ (oI P36 25 (ad 19)).toInt + 11) : 0 + 0 + 0 + (4 + (oI P42 25 (ad 19)).toInt.toNat) ≤ 16 := by
  first | assumption | omega | (subst_vars; omega) | trivial
-- slen @108
theorem vX0_asText_30 (ad : Nat → Nat) (κ : KS) (k0 : Nat) (x1 : Int32) (P36 : PL) (x40 : Int32) (P42 : PL) (nb48 : Nat) (ex1 : oI κ.2.2.2.2 0 k0 = x1) (c2_0 : ¬ x1.toInt = 0) (c2_1 : ¬ x1.toInt = 1) (c2_2 : ¬ x1.toInt = 2) (c2_3 : x1.toInt = 3) (hr35_3 : (oI P36 25 (ad 19)).toInt = 0) (ex40 : oI P36 1 k0 = x40) (hr41_4_0 : (oI P36 25 (ad 19)).toInt < (oI P42 25 (ad 19)).toInt) (hr41_4_1 : (oI P42 25 (ad 19)).toInt ≤ (oI P36 25 (ad 19)).toInt + 11) (leb48 : ((nb48 : Nat) : Int) = (oI P42 25 (ad 19)).toInt) : nb48 ≤ 40 := by
  first | assumption | omega | (subst_vars; omega) | trivial
-- post2 @108
theorem vX0_asText_31 (ad : Nat → Nat) (sa : Nat → Nat) (κ : KS) (k0 : Nat) (x1 : Int32) (P36 : PL) (x40 : Int32) (P42 : PL) (P46 : PL) (b48 : Nat) (nb48 : Nat) (ht0 : oT κ.2.2.2.2 k0 = 1) (hPV : PV sa κ.2.2.2.2) (hs19 : oT κ.2.2.2.2 (ad 19) = 12) (ex1 : oI κ.2.2.2.2 0 k0 = x1) (c2_0 : ¬ x1.toInt = 0) (c2_1 : ¬ x1.toInt = 1) (c2_2 : ¬ x1.toInt = 2) (c2_3 : x1.toInt = 3) (hr35_0 : EX κ.2.2.2.2 P36) (hr35_2 : KPx True κ.2.2.2.2 P36) (hr35y : SBX P36 (ad 19) []) (hr35_3 : (oI P36 25 (ad 19)).toInt = 0) (ex38 : oR P36 1 k0 = none) (ex40 : oI P36 1 k0 = x40) (hr41_0 : EX P36 P42) (hr41_2 : KPx True P36 P42) (hr41y : ∀ s9 : List Int, SBX P36 (ad 19) s9 → SBX P42 (ad 19) (s9 ++ qDec x40.toInt)) (hr41_4_0 : (oI P36 25 (ad 19)).toInt < (oI P42 25 (ad 19)).toInt) (hr41_4_1 : (oI P42 25 (ad 19)).toInt ≤ (oI P36 25 (ad 19)).toInt + 11) (hr45_0 : EX P42 P46) (hr45_2 : KPx True P42 P46) (leb48 : ((nb48 : Nat) : Int) = (oI P42 25 (ad 19)).toInt) (hr45y : ∀ s9 : List Int, SBX P42 (ad 19) s9 → TXq P46 sa b48 s9) : ∀ (q7 q8 : Nat → Option Nat) (v : QV), VALq κ.2.2.2.2 sa q7 q8 k0 v → TXq P46 sa b48 (qSpl v) := by
  intro q7 q8 v h
  have k := h.k9
  rw [ex1] at k
  have g := h.ex9 hr35_0 hr35_2
  have n8 := g.no9 ex38
  have q9 := h.q9
  have e := g.sn9 (by omega)
  rw [ex40] at e
  have s := hr45y _ (hr41y _ hr35y)
  rw [List.nil_append, ← e] at s
  exact s
-- grow @108
theorem vX0_asText_32 (ad : Nat → Nat) (κ : KS) (k0 : Nat) (x1 : Int32) (P36 : PL) (x40 : Int32) (P42 : PL) (nb48 : Nat) (ex1 : oI κ.2.2.2.2 0 k0 = x1) (c2_0 : ¬ x1.toInt = 0) (c2_1 : ¬ x1.toInt = 1) (c2_2 : ¬ x1.toInt = 2) (c2_3 : x1.toInt = 3) (hr35_3 : (oI P36 25 (ad 19)).toInt = 0) (ex40 : oI P36 1 k0 = x40) (hr41_4_0 : (oI P36 25 (ad 19)).toInt < (oI P42 25 (ad 19)).toInt) (hr41_4_1 : (oI P42 25 (ad 19)).toInt ≤ (oI P36 25 (ad 19)).toInt + 11) (leb48 : ((nb48 : Nat) : Int) = (oI P42 25 (ad 19)).toInt) : 0 + 0 + 0 + (4 + (oI P42 25 (ad 19)).toInt.toNat) ≤ 16 := by
  first | assumption | omega | (subst_vars; omega) | trivial
-- pre:J4_append_cf468@85 @85
theorem vX0_asText_33 (ad : Nat → Nat) (P36 : PL) (hr35_3 : (oI P36 25 (ad 19)).toInt = 0) : 0 ≤ (111 : Int32).toInt ∧ (111 : Int32).toInt ≤ 255 ∧ (oI P36 25 (ad 19)).toInt < 70 := by
  have q111 : (111 : Int32).toInt = 111 := by decide +kernel
  refine ⟨?_, ?_, ?_⟩ <;> first | assumption | omega | (subst_vars; omega) | trivial
-- room @85
theorem vX0_asText_34 (ad : Nat → Nat) (P36 : PL) (hr35_3 : (oI P36 25 (ad 19)).toInt = 0) : 0 + 0 + (gr1 ((oI P36 25 (ad 19)).toInt + 1)) ≤ 2 := by
  have zg0 := gr_spec ((oI P36 25 (ad 19)).toInt + 1)
  first | assumption | omega | (subst_vars; omega) | trivial
-- room @85
theorem vX0_asText_35 (ad : Nat → Nat) (P36 : PL) (hr35_3 : (oI P36 25 (ad 19)).toInt = 0) : 0 + 0 + (gr70 ((oI P36 25 (ad 19)).toInt + 1)) ≤ 16 := by
  have zg0 := gr_spec ((oI P36 25 (ad 19)).toInt + 1)
  first | assumption | omega | (subst_vars; omega) | trivial
-- pre:J4_append_bf812@97 @97
theorem vX0_asText_36 (ad : Nat → Nat) (κ : KS) (k0 : Nat) (x1 : Int32) (P36 : PL) (P50 : PL) (x53 : Int32) (ex1 : oI κ.2.2.2.2 0 k0 = x1) (c2_0 : ¬ x1.toInt = 0) (c2_1 : ¬ x1.toInt = 1) (c2_2 : ¬ x1.toInt = 2) (c2_3 : x1.toInt = 3) (hr35_3 : (oI P36 25 (ad 19)).toInt = 0) (hr49_4_0 : (oI P50 25 (ad 19)).toInt = (oI P36 25 (ad 19)).toInt + 1) (hr49_4_1 : gr1 ((oI P36 25 (ad 19)).toInt + 1) ≤ 1) (hr49_4_2 : gr70 ((oI P36 25 (ad 19)).toInt + 1) ≤ 70) (hr49_4_3 : (oI P36 25 (ad 19)).toInt + 1 ≤ 16 → gr1 ((oI P36 25 (ad 19)).toInt + 1) = 0 ∧ gr70 ((oI P36 25 (ad 19)).toInt + 1) = 0) (hr49_4_4 : 16 < (oI P36 25 (ad 19)).toInt + 1 → gr1 ((oI P36 25 (ad 19)).toInt + 1) = 1 ∧ gr70 ((oI P36 25 (ad 19)).toInt + 1) = 70) (ex53 : oI P50 1 k0 = x53) : (oI P50 25 (ad 19)).toInt ≤ 1 := by
  first | assumption | omega | (subst_vars; omega) | trivial
-- room @97
theorem vX0_asText_37 (ad : Nat → Nat) (κ : KS) (k0 : Nat) (x1 : Int32) (P36 : PL) (P50 : PL) (x53 : Int32) (ex1 : oI κ.2.2.2.2 0 k0 = x1) (c2_0 : ¬ x1.toInt = 0) (c2_1 : ¬ x1.toInt = 1) (c2_2 : ¬ x1.toInt = 2) (c2_3 : x1.toInt = 3) (hr35_3 : (oI P36 25 (ad 19)).toInt = 0) (hr49_4_0 : (oI P50 25 (ad 19)).toInt = (oI P36 25 (ad 19)).toInt + 1) (hr49_4_1 : gr1 ((oI P36 25 (ad 19)).toInt + 1) ≤ 1) (hr49_4_2 : gr70 ((oI P36 25 (ad 19)).toInt + 1) ≤ 70) (hr49_4_3 : (oI P36 25 (ad 19)).toInt + 1 ≤ 16 → gr1 ((oI P36 25 (ad 19)).toInt + 1) = 0 ∧ gr70 ((oI P36 25 (ad 19)).toInt + 1) = 0) (hr49_4_4 : 16 < (oI P36 25 (ad 19)).toInt + 1 → gr1 ((oI P36 25 (ad 19)).toInt + 1) = 1 ∧ gr70 ((oI P36 25 (ad 19)).toInt + 1) = 70) (ex53 : oI P50 1 k0 = x53) : 0 + 0 + (gr1 ((oI P36 25 (ad 19)).toInt + 1)) + 0 ≤ 2 := by
  have zg0 := gr_spec ((oI P36 25 (ad 19)).toInt + 1)
  first | assumption | omega | (subst_vars; omega) | trivial
-- room @97
theorem vX0_asText_38 (ad : Nat → Nat) (κ : KS) (k0 : Nat) (x1 : Int32) (P36 : PL) (P50 : PL) (x53 : Int32) (ex1 : oI κ.2.2.2.2 0 k0 = x1) (c2_0 : ¬ x1.toInt = 0) (c2_1 : ¬ x1.toInt = 1) (c2_2 : ¬ x1.toInt = 2) (c2_3 : x1.toInt = 3) (hr35_3 : (oI P36 25 (ad 19)).toInt = 0) (hr49_4_0 : (oI P50 25 (ad 19)).toInt = (oI P36 25 (ad 19)).toInt + 1) (hr49_4_1 : gr1 ((oI P36 25 (ad 19)).toInt + 1) ≤ 1) (hr49_4_2 : gr70 ((oI P36 25 (ad 19)).toInt + 1) ≤ 70) (hr49_4_3 : (oI P36 25 (ad 19)).toInt + 1 ≤ 16 → gr1 ((oI P36 25 (ad 19)).toInt + 1) = 0 ∧ gr70 ((oI P36 25 (ad 19)).toInt + 1) = 0) (hr49_4_4 : 16 < (oI P36 25 (ad 19)).toInt + 1 → gr1 ((oI P36 25 (ad 19)).toInt + 1) = 1 ∧ gr70 ((oI P36 25 (ad 19)).toInt + 1) = 70) (ex53 : oI P50 1 k0 = x53) : 0 + 0 + (gr70 ((oI P36 25 (ad 19)).toInt + 1)) + 0 ≤ 16 := by
  have zg0 := gr_spec ((oI P36 25 (ad 19)).toInt + 1)
  first | assumption | omega | (subst_vars; omega) | trivial
-- pre:J4_toString_0e30d@105 @105
theorem vX0_asText_39 (ad : Nat → Nat) (κ : KS) (k0 : Nat) (x1 : Int32) (P36 : PL) (P50 : PL) (x53 : Int32) (P55 : PL) (ex1 : oI κ.2.2.2.2 0 k0 = x1) (c2_0 : ¬ x1.toInt = 0) (c2_1 : ¬ x1.toInt = 1) (c2_2 : ¬ x1.toInt = 2) (c2_3 : x1.toInt = 3) (hr35_3 : (oI P36 25 (ad 19)).toInt = 0) (hr49_4_0 : (oI P50 25 (ad 19)).toInt = (oI P36 25 (ad 19)).toInt + 1) (hr49_4_1 : gr1 ((oI P36 25 (ad 19)).toInt + 1) ≤ 1) (hr49_4_2 : gr70 ((oI P36 25 (ad 19)).toInt + 1) ≤ 70) (ex53 : oI P50 1 k0 = x53) (hr54_4_0 : (oI P50 25 (ad 19)).toInt < (oI P55 25 (ad 19)).toInt) (hr54_4_1 : (oI P55 25 (ad 19)).toInt ≤ (oI P50 25 (ad 19)).toInt + 11) : (oI P55 25 (ad 19)).toInt ≤ 40 := by
  first | assumption | omega | (subst_vars; omega) | trivial
-- room @105
theorem vX0_asText_40 (ad : Nat → Nat) (κ : KS) (k0 : Nat) (x1 : Int32) (P36 : PL) (P50 : PL) (x53 : Int32) (P55 : PL) (ex1 : oI κ.2.2.2.2 0 k0 = x1) (c2_0 : ¬ x1.toInt = 0) (c2_1 : ¬ x1.toInt = 1) (c2_2 : ¬ x1.toInt = 2) (c2_3 : x1.toInt = 3) (hr35_3 : (oI P36 25 (ad 19)).toInt = 0) (hr49_4_0 : (oI P50 25 (ad 19)).toInt = (oI P36 25 (ad 19)).toInt + 1) (hr49_4_1 : gr1 ((oI P36 25 (ad 19)).toInt + 1) ≤ 1) (hr49_4_2 : gr70 ((oI P36 25 (ad 19)).toInt + 1) ≤ 70) (hr49_4_3 : (oI P36 25 (ad 19)).toInt + 1 ≤ 16 → gr1 ((oI P36 25 (ad 19)).toInt + 1) = 0 ∧ gr70 ((oI P36 25 (ad 19)).toInt + 1) = 0) (hr49_4_4 : 16 < (oI P36 25 (ad 19)).toInt + 1 → gr1 ((oI P36 25 (ad 19)).toInt + 1) = 1 ∧ gr70 ((oI P36 25 (ad 19)).toInt + 1) = 70) (ex53 : oI P50 1 k0 = x53) (hr54_4_0 : (oI P50 25 (ad 19)).toInt < (oI P55 25 (ad 19)).toInt) (hr54_4_1 : (oI P55 25 (ad 19)).toInt ≤ (oI P50 25 (ad 19)).toInt + 11) : 0 + 0 + (gr1 ((oI P36 25 (ad 19)).toInt + 1)) + 0 + 2 ≤ 2 := by
  have zg0 := gr_spec ((oI P36 25 (ad 19)).toInt + 1)
  first | assumption | omega | (subst_vars; omega) | trivial
-- room @105
theorem vX0_asText_41 (ad : Nat → Nat) (κ : KS) (k0 : Nat) (x1 : Int32) (P36 : PL) (P50 : PL) (x53 : Int32) (P55 : PL) (ex1 : oI κ.2.2.2.2 0 k0 = x1) (c2_0 : ¬ x1.toInt = 0) (c2_1 : ¬ x1.toInt = 1) (c2_2 : ¬ x1.toInt = 2) (c2_3 : x1.toInt = 3) (hr35_3 : (oI P36 25 (ad 19)).toInt = 0) (hr49_4_0 : (oI P50 25 (ad 19)).toInt = (oI P36 25 (ad 19)).toInt + 1) (hr49_4_1 : gr1 ((oI P36 25 (ad 19)).toInt + 1) ≤ 1) (hr49_4_2 : gr70 ((oI P36 25 (ad 19)).toInt + 1) ≤ 70) (hr49_4_3 : (oI P36 25 (ad 19)).toInt + 1 ≤ 16 → gr1 ((oI P36 25 (ad 19)).toInt + 1) = 0 ∧ gr70 ((oI P36 25 (ad 19)).toInt + 1) = 0) (hr49_4_4 : 16 < (oI P36 25 (ad 19)).toInt + 1 → gr1 ((oI P36 25 (ad 19)).toInt + 1) = 1 ∧ gr70 ((oI P36 25 (ad 19)).toInt + 1) = 70) (ex53 : oI P50 1 k0 = x53) (hr54_4_0 : (oI P50 25 (ad 19)).toInt < (oI P55 25 (ad 19)).toInt) (hr54_4_1 : (oI P55 25 (ad 19)).toInt ≤ (oI P50 25 (ad 19)).toInt + 11) : 0 + 0 + (gr70 ((oI P36 25 (ad 19)).toInt + 1)) + 0 + (4 + (oI P55 25 (ad 19)).toInt.toNat) ≤ 16 := by
  have zg0 := gr_spec ((oI P36 25 (ad 19)).toInt + 1)
  first | assumption | omega | (subst_vars; omega) | trivial
-- slen @108
theorem vX0_asText_42 (ad : Nat → Nat) (κ : KS) (k0 : Nat) (x1 : Int32) (P36 : PL) (P50 : PL) (x53 : Int32) (P55 : PL) (nb61 : Nat) (ex1 : oI κ.2.2.2.2 0 k0 = x1) (c2_0 : ¬ x1.toInt = 0) (c2_1 : ¬ x1.toInt = 1) (c2_2 : ¬ x1.toInt = 2) (c2_3 : x1.toInt = 3) (hr35_3 : (oI P36 25 (ad 19)).toInt = 0) (hr49_4_0 : (oI P50 25 (ad 19)).toInt = (oI P36 25 (ad 19)).toInt + 1) (hr49_4_1 : gr1 ((oI P36 25 (ad 19)).toInt + 1) ≤ 1) (hr49_4_2 : gr70 ((oI P36 25 (ad 19)).toInt + 1) ≤ 70) (ex53 : oI P50 1 k0 = x53) (hr54_4_0 : (oI P50 25 (ad 19)).toInt < (oI P55 25 (ad 19)).toInt) (hr54_4_1 : (oI P55 25 (ad 19)).toInt ≤ (oI P50 25 (ad 19)).toInt + 11) (leb61 : ((nb61 : Nat) : Int) = (oI P55 25 (ad 19)).toInt) : nb61 ≤ 40 := by
  first | assumption | omega | (subst_vars; omega) | trivial
-- post2 @108
theorem vX0_asText_43 (ad : Nat → Nat) (sa : Nat → Nat) (κ : KS) (k0 : Nat) (x1 : Int32) (P36 : PL) (b39 : Nat) (P50 : PL) (x53 : Int32) (P55 : PL) (P59 : PL) (b61 : Nat) (nb61 : Nat) (ht0 : oT κ.2.2.2.2 k0 = 1) (hPV : PV sa κ.2.2.2.2) (hs19 : oT κ.2.2.2.2 (ad 19) = 12) (ex1 : oI κ.2.2.2.2 0 k0 = x1) (c2_0 : ¬ x1.toInt = 0) (c2_1 : ¬ x1.toInt = 1) (c2_2 : ¬ x1.toInt = 2) (c2_3 : x1.toInt = 3) (hr35_0 : EX κ.2.2.2.2 P36) (hr35_2 : KPx True κ.2.2.2.2 P36) (hr35y : SBX P36 (ad 19) []) (hr35_3 : (oI P36 25 (ad 19)).toInt = 0) (ex38 : oR P36 1 k0 = (some b39)) (hr49_0 : EX P36 P50) (hr49_2 : KPx True P36 P50) (hr49y : ∀ s9 : List Int, SBX P36 (ad 19) s9 → (111 : Int32).toInt < 128 → SBX P50 (ad 19) (s9 ++ [(111 : Int32).toInt])) (hr49_4_0 : (oI P50 25 (ad 19)).toInt = (oI P36 25 (ad 19)).toInt + 1) (hr49_4_1 : gr1 ((oI P36 25 (ad 19)).toInt + 1) ≤ 1) (hr49_4_2 : gr70 ((oI P36 25 (ad 19)).toInt + 1) ≤ 70) (hr49_4_3 : (oI P36 25 (ad 19)).toInt + 1 ≤ 16 → gr1 ((oI P36 25 (ad 19)).toInt + 1) = 0 ∧ gr70 ((oI P36 25 (ad 19)).toInt + 1) = 0) (hr49_4_4 : 16 < (oI P36 25 (ad 19)).toInt + 1 → gr1 ((oI P36 25 (ad 19)).toInt + 1) = 1 ∧ gr70 ((oI P36 25 (ad 19)).toInt + 1) = 70) (ex53 : oI P50 1 k0 = x53) (hr54_0 : EX P50 P55) (hr54_2 : KPx True P50 P55) (hr54y : ∀ s9 : List Int, SBX P50 (ad 19) s9 → SBX P55 (ad 19) (s9 ++ qDec x53.toInt)) (hr54_4_0 : (oI P50 25 (ad 19)).toInt < (oI P55 25 (ad 19)).toInt) (hr54_4_1 : (oI P55 25 (ad 19)).toInt ≤ (oI P50 25 (ad 19)).toInt + 11) (hr58_0 : EX P55 P59) (hr58_2 : KPx True P55 P59) (leb61 : ((nb61 : Nat) : Int) = (oI P55 25 (ad 19)).toInt) (hr58y : ∀ s9 : List Int, SBX P55 (ad 19) s9 → TXq P59 sa b61 s9) : ∀ (q7 q8 : Nat → Option Nat) (v : QV), VALq κ.2.2.2.2 sa q7 q8 k0 v → TXq P59 sa b61 (qSpl v) := by
  have q111 : (111 : Int32).toInt = 111 := by decide +kernel
  intro q7 q8 v h
  have k := h.k9
  rw [ex1] at k
  have g := h.ex9 hr35_0 hr35_2
  have n8 := g.o9 ex38
  have e := (g.ex9 hr49_0 hr49_2).so9 n8
  rw [ex53] at e
  have s := hr58y _ (hr54y _ (hr49y _ hr35y (by decide)))
  rw [show ([] ++ [(111 : Int32).toInt]) ++ qDec x53.toInt = qSpl v by rw [e, show (111 : Int32).toInt = 111 by decide] <;> rfl] at s
  exact s
-- grow @108
theorem vX0_asText_44 (ad : Nat → Nat) (κ : KS) (k0 : Nat) (x1 : Int32) (P36 : PL) (P50 : PL) (x53 : Int32) (P55 : PL) (nb61 : Nat) (ex1 : oI κ.2.2.2.2 0 k0 = x1) (c2_0 : ¬ x1.toInt = 0) (c2_1 : ¬ x1.toInt = 1) (c2_2 : ¬ x1.toInt = 2) (c2_3 : x1.toInt = 3) (hr35_3 : (oI P36 25 (ad 19)).toInt = 0) (hr49_4_0 : (oI P50 25 (ad 19)).toInt = (oI P36 25 (ad 19)).toInt + 1) (hr49_4_1 : gr1 ((oI P36 25 (ad 19)).toInt + 1) ≤ 1) (hr49_4_2 : gr70 ((oI P36 25 (ad 19)).toInt + 1) ≤ 70) (hr49_4_3 : (oI P36 25 (ad 19)).toInt + 1 ≤ 16 → gr1 ((oI P36 25 (ad 19)).toInt + 1) = 0 ∧ gr70 ((oI P36 25 (ad 19)).toInt + 1) = 0) (hr49_4_4 : 16 < (oI P36 25 (ad 19)).toInt + 1 → gr1 ((oI P36 25 (ad 19)).toInt + 1) = 1 ∧ gr70 ((oI P36 25 (ad 19)).toInt + 1) = 70) (ex53 : oI P50 1 k0 = x53) (hr54_4_0 : (oI P50 25 (ad 19)).toInt < (oI P55 25 (ad 19)).toInt) (hr54_4_1 : (oI P55 25 (ad 19)).toInt ≤ (oI P50 25 (ad 19)).toInt + 11) (leb61 : ((nb61 : Nat) : Int) = (oI P55 25 (ad 19)).toInt) : 0 + 0 + (gr1 ((oI P36 25 (ad 19)).toInt + 1)) + 0 + 2 ≤ 2 := by
  have zg0 := gr_spec ((oI P36 25 (ad 19)).toInt + 1)
  first | assumption | omega | (subst_vars; omega) | trivial
-- grow @108
theorem vX0_asText_45 (ad : Nat → Nat) (κ : KS) (k0 : Nat) (x1 : Int32) (P36 : PL) (P50 : PL) (x53 : Int32) (P55 : PL) (nb61 : Nat) (ex1 : oI κ.2.2.2.2 0 k0 = x1) (c2_0 : ¬ x1.toInt = 0) (c2_1 : ¬ x1.toInt = 1) (c2_2 : ¬ x1.toInt = 2) (c2_3 : x1.toInt = 3) (hr35_3 : (oI P36 25 (ad 19)).toInt = 0) (hr49_4_0 : (oI P50 25 (ad 19)).toInt = (oI P36 25 (ad 19)).toInt + 1) (hr49_4_1 : gr1 ((oI P36 25 (ad 19)).toInt + 1) ≤ 1) (hr49_4_2 : gr70 ((oI P36 25 (ad 19)).toInt + 1) ≤ 70) (hr49_4_3 : (oI P36 25 (ad 19)).toInt + 1 ≤ 16 → gr1 ((oI P36 25 (ad 19)).toInt + 1) = 0 ∧ gr70 ((oI P36 25 (ad 19)).toInt + 1) = 0) (hr49_4_4 : 16 < (oI P36 25 (ad 19)).toInt + 1 → gr1 ((oI P36 25 (ad 19)).toInt + 1) = 1 ∧ gr70 ((oI P36 25 (ad 19)).toInt + 1) = 70) (ex53 : oI P50 1 k0 = x53) (hr54_4_0 : (oI P50 25 (ad 19)).toInt < (oI P55 25 (ad 19)).toInt) (hr54_4_1 : (oI P55 25 (ad 19)).toInt ≤ (oI P50 25 (ad 19)).toInt + 11) (leb61 : ((nb61 : Nat) : Int) = (oI P55 25 (ad 19)).toInt) : 0 + 0 + (gr70 ((oI P36 25 (ad 19)).toInt + 1)) + 0 + (4 + (oI P55 25 (ad 19)).toInt.toNat) ≤ 16 := by
  have zg0 := gr_spec ((oI P36 25 (ad 19)).toInt + 1)
  first | assumption | omega | (subst_vars; omega) | trivial
-- slen @63
theorem vX0_asText_46 (n63 : Nat) (len63 : n63 ≤ 40) : n63 ≤ 40 := by
  first | assumption | omega | (subst_vars; omega) | trivial
-- post2 @63
theorem vX0_asText_47 (ad : Nat → Nat) (sa : Nat → Nat) (κ : KS) (k0 : Nat) (x1 : Int32) (x62 : Nat) (n63 : Nat) (ht0 : oT κ.2.2.2.2 k0 = 1) (hPV : PV sa κ.2.2.2.2) (hs19 : oT κ.2.2.2.2 (ad 19) = 12) (ex1 : oI κ.2.2.2.2 0 k0 = x1) (c2_0 : ¬ x1.toInt = 0) (c2_1 : ¬ x1.toInt = 1) (c2_2 : ¬ x1.toInt = 2) (c2_3 : ¬ x1.toInt = 3) (c2_4 : x1.toInt = 4) (ex62 : oR κ.2.2.2.2 0 k0 = some x62) (len63 : n63 ≤ 40) : ∀ (q7 q8 : Nat → Option Nat) (v : QV), VALq κ.2.2.2.2 sa q7 q8 k0 v → TXq κ.2.2.2.2 sa x62 (qSpl v) := by
  intro q7 q8 v h
  have k := h.k9
  rw [ex1] at k
  obtain ⟨cc, w6, w7⟩ := h.2.2.2.2.2.1
  rw [ex62] at w6
  obtain rfl := Option.some.inj w6
  unfold qSpl
  rw [if_pos (by omega)]
  exact w7
-- pre:J4_append_bf812@97 @97
theorem vX0_asText_48 (ad : Nat → Nat) (κ : KS) (k0 : Nat) (x1 : Int32) (P65 : PL) (x69 : Int32) (ex1 : oI κ.2.2.2.2 0 k0 = x1) (c2_0 : ¬ x1.toInt = 0) (c2_1 : ¬ x1.toInt = 1) (c2_2 : ¬ x1.toInt = 2) (c2_3 : ¬ x1.toInt = 3) (c2_4 : ¬ x1.toInt = 4) (hr64_3 : (oI P65 25 (ad 19)).toInt = 0) (ex69 : oI P65 1 k0 = x69) : (oI P65 25 (ad 19)).toInt ≤ 1 := by
  first | assumption | omega | (subst_vars; omega) | trivial
-- pre:J4_toString_0e30d@105 @105
theorem vX0_asText_49 (ad : Nat → Nat) (κ : KS) (k0 : Nat) (x1 : Int32) (P65 : PL) (x69 : Int32) (P71 : PL) (ex1 : oI κ.2.2.2.2 0 k0 = x1) (c2_0 : ¬ x1.toInt = 0) (c2_1 : ¬ x1.toInt = 1) (c2_2 : ¬ x1.toInt = 2) (c2_3 : ¬ x1.toInt = 3) (c2_4 : ¬ x1.toInt = 4) (hr64_3 : (oI P65 25 (ad 19)).toInt = 0) (ex69 : oI P65 1 k0 = x69) (hr70_4_0 : (oI P65 25 (ad 19)).toInt < (oI P71 25 (ad 19)).toInt) (hr70_4_1 : (oI P71 25 (ad 19)).toInt ≤ (oI P65 25 (ad 19)).toInt + 11) : (oI P71 25 (ad 19)).toInt ≤ 40 := by
  first | assumption | omega | (subst_vars; omega) | trivial
-- room @105
theorem vX0_asText_50 (ad : Nat → Nat) (κ : KS) (k0 : Nat) (x1 : Int32) (P65 : PL) (x69 : Int32) (P71 : PL) (ex1 : oI κ.2.2.2.2 0 k0 = x1) (c2_0 : ¬ x1.toInt = 0) (c2_1 : ¬ x1.toInt = 1) (c2_2 : ¬ x1.toInt = 2) (c2_3 : ¬ x1.toInt = 3) (c2_4 : ¬ x1.toInt = 4) (hr64_3 : (oI P65 25 (ad 19)).toInt = 0) (ex69 : oI P65 1 k0 = x69) (hr70_4_0 : (oI P65 25 (ad 19)).toInt < (oI P71 25 (ad 19)).toInt) (hr70_4_1 : (oI P71 25 (ad 19)).toInt ≤ (oI P65 25 (ad 19)).toInt + 11) : 0 + 0 + 0 + (4 + (oI P71 25 (ad 19)).toInt.toNat) ≤ 16 := by
  first | assumption | omega | (subst_vars; omega) | trivial
-- slen @108
theorem vX0_asText_51 (ad : Nat → Nat) (κ : KS) (k0 : Nat) (x1 : Int32) (P65 : PL) (x69 : Int32) (P71 : PL) (nb77 : Nat) (ex1 : oI κ.2.2.2.2 0 k0 = x1) (c2_0 : ¬ x1.toInt = 0) (c2_1 : ¬ x1.toInt = 1) (c2_2 : ¬ x1.toInt = 2) (c2_3 : ¬ x1.toInt = 3) (c2_4 : ¬ x1.toInt = 4) (hr64_3 : (oI P65 25 (ad 19)).toInt = 0) (ex69 : oI P65 1 k0 = x69) (hr70_4_0 : (oI P65 25 (ad 19)).toInt < (oI P71 25 (ad 19)).toInt) (hr70_4_1 : (oI P71 25 (ad 19)).toInt ≤ (oI P65 25 (ad 19)).toInt + 11) (leb77 : ((nb77 : Nat) : Int) = (oI P71 25 (ad 19)).toInt) : nb77 ≤ 40 := by
  first | assumption | omega | (subst_vars; omega) | trivial
-- post2 @108
theorem vX0_asText_52 (ad : Nat → Nat) (sa : Nat → Nat) (κ : KS) (k0 : Nat) (x1 : Int32) (P65 : PL) (x69 : Int32) (P71 : PL) (P75 : PL) (b77 : Nat) (nb77 : Nat) (ht0 : oT κ.2.2.2.2 k0 = 1) (hPV : PV sa κ.2.2.2.2) (hs19 : oT κ.2.2.2.2 (ad 19) = 12) (ex1 : oI κ.2.2.2.2 0 k0 = x1) (c2_0 : ¬ x1.toInt = 0) (c2_1 : ¬ x1.toInt = 1) (c2_2 : ¬ x1.toInt = 2) (c2_3 : ¬ x1.toInt = 3) (c2_4 : ¬ x1.toInt = 4) (hr64_0 : EX κ.2.2.2.2 P65) (hr64_2 : KPx True κ.2.2.2.2 P65) (hr64y : SBX P65 (ad 19) []) (hr64_3 : (oI P65 25 (ad 19)).toInt = 0) (ex67 : oR P65 1 k0 = none) (ex69 : oI P65 1 k0 = x69) (hr70_0 : EX P65 P71) (hr70_2 : KPx True P65 P71) (hr70y : ∀ s9 : List Int, SBX P65 (ad 19) s9 → SBX P71 (ad 19) (s9 ++ qDec x69.toInt)) (hr70_4_0 : (oI P65 25 (ad 19)).toInt < (oI P71 25 (ad 19)).toInt) (hr70_4_1 : (oI P71 25 (ad 19)).toInt ≤ (oI P65 25 (ad 19)).toInt + 11) (hr74_0 : EX P71 P75) (hr74_2 : KPx True P71 P75) (leb77 : ((nb77 : Nat) : Int) = (oI P71 25 (ad 19)).toInt) (hr74y : ∀ s9 : List Int, SBX P71 (ad 19) s9 → TXq P75 sa b77 s9) : ∀ (q7 q8 : Nat → Option Nat) (v : QV), VALq κ.2.2.2.2 sa q7 q8 k0 v → TXq P75 sa b77 (qSpl v) := by
  intro q7 q8 v h
  have k := h.k9
  rw [ex1] at k
  have g := h.ex9 hr64_0 hr64_2
  have n8 := g.no9 ex67
  have q9 := h.q9
  have e := g.sn9 (by omega)
  rw [ex69] at e
  have s := hr74y _ (hr70y _ hr64y)
  rw [List.nil_append, ← e] at s
  exact s
-- grow @108
theorem vX0_asText_53 (ad : Nat → Nat) (κ : KS) (k0 : Nat) (x1 : Int32) (P65 : PL) (x69 : Int32) (P71 : PL) (nb77 : Nat) (ex1 : oI κ.2.2.2.2 0 k0 = x1) (c2_0 : ¬ x1.toInt = 0) (c2_1 : ¬ x1.toInt = 1) (c2_2 : ¬ x1.toInt = 2) (c2_3 : ¬ x1.toInt = 3) (c2_4 : ¬ x1.toInt = 4) (hr64_3 : (oI P65 25 (ad 19)).toInt = 0) (ex69 : oI P65 1 k0 = x69) (hr70_4_0 : (oI P65 25 (ad 19)).toInt < (oI P71 25 (ad 19)).toInt) (hr70_4_1 : (oI P71 25 (ad 19)).toInt ≤ (oI P65 25 (ad 19)).toInt + 11) (leb77 : ((nb77 : Nat) : Int) = (oI P71 25 (ad 19)).toInt) : 0 + 0 + 0 + (4 + (oI P71 25 (ad 19)).toInt.toNat) ≤ 16 := by
  first | assumption | omega | (subst_vars; omega) | trivial
-- pre:J4_append_cf468@85 @85
theorem vX0_asText_54 (ad : Nat → Nat) (P65 : PL) (hr64_3 : (oI P65 25 (ad 19)).toInt = 0) : 0 ≤ (111 : Int32).toInt ∧ (111 : Int32).toInt ≤ 255 ∧ (oI P65 25 (ad 19)).toInt < 70 := by
  have q111 : (111 : Int32).toInt = 111 := by decide +kernel
  refine ⟨?_, ?_, ?_⟩ <;> first | assumption | omega | (subst_vars; omega) | trivial
-- room @85
theorem vX0_asText_55 (ad : Nat → Nat) (P65 : PL) (hr64_3 : (oI P65 25 (ad 19)).toInt = 0) : 0 + 0 + (gr1 ((oI P65 25 (ad 19)).toInt + 1)) ≤ 2 := by
  have zg0 := gr_spec ((oI P65 25 (ad 19)).toInt + 1)
  first | assumption | omega | (subst_vars; omega) | trivial
-- room @85
theorem vX0_asText_56 (ad : Nat → Nat) (P65 : PL) (hr64_3 : (oI P65 25 (ad 19)).toInt = 0) : 0 + 0 + (gr70 ((oI P65 25 (ad 19)).toInt + 1)) ≤ 16 := by
  have zg0 := gr_spec ((oI P65 25 (ad 19)).toInt + 1)
  first | assumption | omega | (subst_vars; omega) | trivial
-- pre:J4_append_bf812@97 @97
theorem vX0_asText_57 (ad : Nat → Nat) (κ : KS) (k0 : Nat) (x1 : Int32) (P65 : PL) (P79 : PL) (x82 : Int32) (ex1 : oI κ.2.2.2.2 0 k0 = x1) (c2_0 : ¬ x1.toInt = 0) (c2_1 : ¬ x1.toInt = 1) (c2_2 : ¬ x1.toInt = 2) (c2_3 : ¬ x1.toInt = 3) (c2_4 : ¬ x1.toInt = 4) (hr64_3 : (oI P65 25 (ad 19)).toInt = 0) (hr78_4_0 : (oI P79 25 (ad 19)).toInt = (oI P65 25 (ad 19)).toInt + 1) (hr78_4_1 : gr1 ((oI P65 25 (ad 19)).toInt + 1) ≤ 1) (hr78_4_2 : gr70 ((oI P65 25 (ad 19)).toInt + 1) ≤ 70) (hr78_4_3 : (oI P65 25 (ad 19)).toInt + 1 ≤ 16 → gr1 ((oI P65 25 (ad 19)).toInt + 1) = 0 ∧ gr70 ((oI P65 25 (ad 19)).toInt + 1) = 0) (hr78_4_4 : 16 < (oI P65 25 (ad 19)).toInt + 1 → gr1 ((oI P65 25 (ad 19)).toInt + 1) = 1 ∧ gr70 ((oI P65 25 (ad 19)).toInt + 1) = 70) (ex82 : oI P79 1 k0 = x82) : (oI P79 25 (ad 19)).toInt ≤ 1 := by
  first | assumption | omega | (subst_vars; omega) | trivial
-- room @97
theorem vX0_asText_58 (ad : Nat → Nat) (κ : KS) (k0 : Nat) (x1 : Int32) (P65 : PL) (P79 : PL) (x82 : Int32) (ex1 : oI κ.2.2.2.2 0 k0 = x1) (c2_0 : ¬ x1.toInt = 0) (c2_1 : ¬ x1.toInt = 1) (c2_2 : ¬ x1.toInt = 2) (c2_3 : ¬ x1.toInt = 3) (c2_4 : ¬ x1.toInt = 4) (hr64_3 : (oI P65 25 (ad 19)).toInt = 0) (hr78_4_0 : (oI P79 25 (ad 19)).toInt = (oI P65 25 (ad 19)).toInt + 1) (hr78_4_1 : gr1 ((oI P65 25 (ad 19)).toInt + 1) ≤ 1) (hr78_4_2 : gr70 ((oI P65 25 (ad 19)).toInt + 1) ≤ 70) (hr78_4_3 : (oI P65 25 (ad 19)).toInt + 1 ≤ 16 → gr1 ((oI P65 25 (ad 19)).toInt + 1) = 0 ∧ gr70 ((oI P65 25 (ad 19)).toInt + 1) = 0) (hr78_4_4 : 16 < (oI P65 25 (ad 19)).toInt + 1 → gr1 ((oI P65 25 (ad 19)).toInt + 1) = 1 ∧ gr70 ((oI P65 25 (ad 19)).toInt + 1) = 70) (ex82 : oI P79 1 k0 = x82) : 0 + 0 + (gr1 ((oI P65 25 (ad 19)).toInt + 1)) + 0 ≤ 2 := by
  have zg0 := gr_spec ((oI P65 25 (ad 19)).toInt + 1)
  first | assumption | omega | (subst_vars; omega) | trivial
-- room @97
theorem vX0_asText_59 (ad : Nat → Nat) (κ : KS) (k0 : Nat) (x1 : Int32) (P65 : PL) (P79 : PL) (x82 : Int32) (ex1 : oI κ.2.2.2.2 0 k0 = x1) (c2_0 : ¬ x1.toInt = 0) (c2_1 : ¬ x1.toInt = 1) (c2_2 : ¬ x1.toInt = 2) (c2_3 : ¬ x1.toInt = 3) (c2_4 : ¬ x1.toInt = 4) (hr64_3 : (oI P65 25 (ad 19)).toInt = 0) (hr78_4_0 : (oI P79 25 (ad 19)).toInt = (oI P65 25 (ad 19)).toInt + 1) (hr78_4_1 : gr1 ((oI P65 25 (ad 19)).toInt + 1) ≤ 1) (hr78_4_2 : gr70 ((oI P65 25 (ad 19)).toInt + 1) ≤ 70) (hr78_4_3 : (oI P65 25 (ad 19)).toInt + 1 ≤ 16 → gr1 ((oI P65 25 (ad 19)).toInt + 1) = 0 ∧ gr70 ((oI P65 25 (ad 19)).toInt + 1) = 0) (hr78_4_4 : 16 < (oI P65 25 (ad 19)).toInt + 1 → gr1 ((oI P65 25 (ad 19)).toInt + 1) = 1 ∧ gr70 ((oI P65 25 (ad 19)).toInt + 1) = 70) (ex82 : oI P79 1 k0 = x82) : 0 + 0 + (gr70 ((oI P65 25 (ad 19)).toInt + 1)) + 0 ≤ 16 := by
  have zg0 := gr_spec ((oI P65 25 (ad 19)).toInt + 1)
  first | assumption | omega | (subst_vars; omega) | trivial
-- pre:J4_toString_0e30d@105 @105
theorem vX0_asText_60 (ad : Nat → Nat) (κ : KS) (k0 : Nat) (x1 : Int32) (P65 : PL) (P79 : PL) (x82 : Int32) (P84 : PL) (ex1 : oI κ.2.2.2.2 0 k0 = x1) (c2_0 : ¬ x1.toInt = 0) (c2_1 : ¬ x1.toInt = 1) (c2_2 : ¬ x1.toInt = 2) (c2_3 : ¬ x1.toInt = 3) (c2_4 : ¬ x1.toInt = 4) (hr64_3 : (oI P65 25 (ad 19)).toInt = 0) (hr78_4_0 : (oI P79 25 (ad 19)).toInt = (oI P65 25 (ad 19)).toInt + 1) (hr78_4_1 : gr1 ((oI P65 25 (ad 19)).toInt + 1) ≤ 1) (hr78_4_2 : gr70 ((oI P65 25 (ad 19)).toInt + 1) ≤ 70) (ex82 : oI P79 1 k0 = x82) (hr83_4_0 : (oI P79 25 (ad 19)).toInt < (oI P84 25 (ad 19)).toInt) (hr83_4_1 : (oI P84 25 (ad 19)).toInt ≤ (oI P79 25 (ad 19)).toInt + 11) : (oI P84 25 (ad 19)).toInt ≤ 40 := by
  first | assumption | omega | (subst_vars; omega) | trivial
-- room @105
theorem vX0_asText_61 (ad : Nat → Nat) (κ : KS) (k0 : Nat) (x1 : Int32) (P65 : PL) (P79 : PL) (x82 : Int32) (P84 : PL) (ex1 : oI κ.2.2.2.2 0 k0 = x1) (c2_0 : ¬ x1.toInt = 0) (c2_1 : ¬ x1.toInt = 1) (c2_2 : ¬ x1.toInt = 2) (c2_3 : ¬ x1.toInt = 3) (c2_4 : ¬ x1.toInt = 4) (hr64_3 : (oI P65 25 (ad 19)).toInt = 0) (hr78_4_0 : (oI P79 25 (ad 19)).toInt = (oI P65 25 (ad 19)).toInt + 1) (hr78_4_1 : gr1 ((oI P65 25 (ad 19)).toInt + 1) ≤ 1) (hr78_4_2 : gr70 ((oI P65 25 (ad 19)).toInt + 1) ≤ 70) (hr78_4_3 : (oI P65 25 (ad 19)).toInt + 1 ≤ 16 → gr1 ((oI P65 25 (ad 19)).toInt + 1) = 0 ∧ gr70 ((oI P65 25 (ad 19)).toInt + 1) = 0) (hr78_4_4 : 16 < (oI P65 25 (ad 19)).toInt + 1 → gr1 ((oI P65 25 (ad 19)).toInt + 1) = 1 ∧ gr70 ((oI P65 25 (ad 19)).toInt + 1) = 70) (ex82 : oI P79 1 k0 = x82) (hr83_4_0 : (oI P79 25 (ad 19)).toInt < (oI P84 25 (ad 19)).toInt) (hr83_4_1 : (oI P84 25 (ad 19)).toInt ≤ (oI P79 25 (ad 19)).toInt + 11) : 0 + 0 + (gr1 ((oI P65 25 (ad 19)).toInt + 1)) + 0 + 2 ≤ 2 := by
  have zg0 := gr_spec ((oI P65 25 (ad 19)).toInt + 1)
  first | assumption | omega | (subst_vars; omega) | trivial
-- room @105
theorem vX0_asText_62 (ad : Nat → Nat) (κ : KS) (k0 : Nat) (x1 : Int32) (P65 : PL) (P79 : PL) (x82 : Int32) (P84 : PL) (ex1 : oI κ.2.2.2.2 0 k0 = x1) (c2_0 : ¬ x1.toInt = 0) (c2_1 : ¬ x1.toInt = 1) (c2_2 : ¬ x1.toInt = 2) (c2_3 : ¬ x1.toInt = 3) (c2_4 : ¬ x1.toInt = 4) (hr64_3 : (oI P65 25 (ad 19)).toInt = 0) (hr78_4_0 : (oI P79 25 (ad 19)).toInt = (oI P65 25 (ad 19)).toInt + 1) (hr78_4_1 : gr1 ((oI P65 25 (ad 19)).toInt + 1) ≤ 1) (hr78_4_2 : gr70 ((oI P65 25 (ad 19)).toInt + 1) ≤ 70) (hr78_4_3 : (oI P65 25 (ad 19)).toInt + 1 ≤ 16 → gr1 ((oI P65 25 (ad 19)).toInt + 1) = 0 ∧ gr70 ((oI P65 25 (ad 19)).toInt + 1) = 0) (hr78_4_4 : 16 < (oI P65 25 (ad 19)).toInt + 1 → gr1 ((oI P65 25 (ad 19)).toInt + 1) = 1 ∧ gr70 ((oI P65 25 (ad 19)).toInt + 1) = 70) (ex82 : oI P79 1 k0 = x82) (hr83_4_0 : (oI P79 25 (ad 19)).toInt < (oI P84 25 (ad 19)).toInt) (hr83_4_1 : (oI P84 25 (ad 19)).toInt ≤ (oI P79 25 (ad 19)).toInt + 11) : 0 + 0 + (gr70 ((oI P65 25 (ad 19)).toInt + 1)) + 0 + (4 + (oI P84 25 (ad 19)).toInt.toNat) ≤ 16 := by
  have zg0 := gr_spec ((oI P65 25 (ad 19)).toInt + 1)
  first | assumption | omega | (subst_vars; omega) | trivial
-- slen @108
theorem vX0_asText_63 (ad : Nat → Nat) (κ : KS) (k0 : Nat) (x1 : Int32) (P65 : PL) (P79 : PL) (x82 : Int32) (P84 : PL) (nb90 : Nat) (ex1 : oI κ.2.2.2.2 0 k0 = x1) (c2_0 : ¬ x1.toInt = 0) (c2_1 : ¬ x1.toInt = 1) (c2_2 : ¬ x1.toInt = 2) (c2_3 : ¬ x1.toInt = 3) (c2_4 : ¬ x1.toInt = 4) (hr64_3 : (oI P65 25 (ad 19)).toInt = 0) (hr78_4_0 : (oI P79 25 (ad 19)).toInt = (oI P65 25 (ad 19)).toInt + 1) (hr78_4_1 : gr1 ((oI P65 25 (ad 19)).toInt + 1) ≤ 1) (hr78_4_2 : gr70 ((oI P65 25 (ad 19)).toInt + 1) ≤ 70) (ex82 : oI P79 1 k0 = x82) (hr83_4_0 : (oI P79 25 (ad 19)).toInt < (oI P84 25 (ad 19)).toInt) (hr83_4_1 : (oI P84 25 (ad 19)).toInt ≤ (oI P79 25 (ad 19)).toInt + 11) (leb90 : ((nb90 : Nat) : Int) = (oI P84 25 (ad 19)).toInt) : nb90 ≤ 40 := by
  first | assumption | omega | (subst_vars; omega) | trivial
-- post2 @108
theorem vX0_asText_64 (ad : Nat → Nat) (sa : Nat → Nat) (κ : KS) (k0 : Nat) (x1 : Int32) (P65 : PL) (b68 : Nat) (P79 : PL) (x82 : Int32) (P84 : PL) (P88 : PL) (b90 : Nat) (nb90 : Nat) (ht0 : oT κ.2.2.2.2 k0 = 1) (hPV : PV sa κ.2.2.2.2) (hs19 : oT κ.2.2.2.2 (ad 19) = 12) (ex1 : oI κ.2.2.2.2 0 k0 = x1) (c2_0 : ¬ x1.toInt = 0) (c2_1 : ¬ x1.toInt = 1) (c2_2 : ¬ x1.toInt = 2) (c2_3 : ¬ x1.toInt = 3) (c2_4 : ¬ x1.toInt = 4) (hr64_0 : EX κ.2.2.2.2 P65) (hr64_2 : KPx True κ.2.2.2.2 P65) (hr64y : SBX P65 (ad 19) []) (hr64_3 : (oI P65 25 (ad 19)).toInt = 0) (ex67 : oR P65 1 k0 = (some b68)) (hr78_0 : EX P65 P79) (hr78_2 : KPx True P65 P79) (hr78y : ∀ s9 : List Int, SBX P65 (ad 19) s9 → (111 : Int32).toInt < 128 → SBX P79 (ad 19) (s9 ++ [(111 : Int32).toInt])) (hr78_4_0 : (oI P79 25 (ad 19)).toInt = (oI P65 25 (ad 19)).toInt + 1) (hr78_4_1 : gr1 ((oI P65 25 (ad 19)).toInt + 1) ≤ 1) (hr78_4_2 : gr70 ((oI P65 25 (ad 19)).toInt + 1) ≤ 70) (hr78_4_3 : (oI P65 25 (ad 19)).toInt + 1 ≤ 16 → gr1 ((oI P65 25 (ad 19)).toInt + 1) = 0 ∧ gr70 ((oI P65 25 (ad 19)).toInt + 1) = 0) (hr78_4_4 : 16 < (oI P65 25 (ad 19)).toInt + 1 → gr1 ((oI P65 25 (ad 19)).toInt + 1) = 1 ∧ gr70 ((oI P65 25 (ad 19)).toInt + 1) = 70) (ex82 : oI P79 1 k0 = x82) (hr83_0 : EX P79 P84) (hr83_2 : KPx True P79 P84) (hr83y : ∀ s9 : List Int, SBX P79 (ad 19) s9 → SBX P84 (ad 19) (s9 ++ qDec x82.toInt)) (hr83_4_0 : (oI P79 25 (ad 19)).toInt < (oI P84 25 (ad 19)).toInt) (hr83_4_1 : (oI P84 25 (ad 19)).toInt ≤ (oI P79 25 (ad 19)).toInt + 11) (hr87_0 : EX P84 P88) (hr87_2 : KPx True P84 P88) (leb90 : ((nb90 : Nat) : Int) = (oI P84 25 (ad 19)).toInt) (hr87y : ∀ s9 : List Int, SBX P84 (ad 19) s9 → TXq P88 sa b90 s9) : ∀ (q7 q8 : Nat → Option Nat) (v : QV), VALq κ.2.2.2.2 sa q7 q8 k0 v → TXq P88 sa b90 (qSpl v) := by
  have q111 : (111 : Int32).toInt = 111 := by decide +kernel
  intro q7 q8 v h
  have k := h.k9
  rw [ex1] at k
  have g := h.ex9 hr64_0 hr64_2
  have n8 := g.o9 ex67
  have e := (g.ex9 hr78_0 hr78_2).so9 n8
  rw [ex82] at e
  have s := hr87y _ (hr83y _ (hr78y _ hr64y (by decide)))
  rw [show ([] ++ [(111 : Int32).toInt]) ++ qDec x82.toInt = qSpl v by rw [e, show (111 : Int32).toInt = 111 by decide] <;> rfl] at s
  exact s
-- grow @108
theorem vX0_asText_65 (ad : Nat → Nat) (κ : KS) (k0 : Nat) (x1 : Int32) (P65 : PL) (P79 : PL) (x82 : Int32) (P84 : PL) (nb90 : Nat) (ex1 : oI κ.2.2.2.2 0 k0 = x1) (c2_0 : ¬ x1.toInt = 0) (c2_1 : ¬ x1.toInt = 1) (c2_2 : ¬ x1.toInt = 2) (c2_3 : ¬ x1.toInt = 3) (c2_4 : ¬ x1.toInt = 4) (hr64_3 : (oI P65 25 (ad 19)).toInt = 0) (hr78_4_0 : (oI P79 25 (ad 19)).toInt = (oI P65 25 (ad 19)).toInt + 1) (hr78_4_1 : gr1 ((oI P65 25 (ad 19)).toInt + 1) ≤ 1) (hr78_4_2 : gr70 ((oI P65 25 (ad 19)).toInt + 1) ≤ 70) (hr78_4_3 : (oI P65 25 (ad 19)).toInt + 1 ≤ 16 → gr1 ((oI P65 25 (ad 19)).toInt + 1) = 0 ∧ gr70 ((oI P65 25 (ad 19)).toInt + 1) = 0) (hr78_4_4 : 16 < (oI P65 25 (ad 19)).toInt + 1 → gr1 ((oI P65 25 (ad 19)).toInt + 1) = 1 ∧ gr70 ((oI P65 25 (ad 19)).toInt + 1) = 70) (ex82 : oI P79 1 k0 = x82) (hr83_4_0 : (oI P79 25 (ad 19)).toInt < (oI P84 25 (ad 19)).toInt) (hr83_4_1 : (oI P84 25 (ad 19)).toInt ≤ (oI P79 25 (ad 19)).toInt + 11) (leb90 : ((nb90 : Nat) : Int) = (oI P84 25 (ad 19)).toInt) : 0 + 0 + (gr1 ((oI P65 25 (ad 19)).toInt + 1)) + 0 + 2 ≤ 2 := by
  have zg0 := gr_spec ((oI P65 25 (ad 19)).toInt + 1)
  first | assumption | omega | (subst_vars; omega) | trivial
-- grow @108
theorem vX0_asText_66 (ad : Nat → Nat) (κ : KS) (k0 : Nat) (x1 : Int32) (P65 : PL) (P79 : PL) (x82 : Int32) (P84 : PL) (nb90 : Nat) (ex1 : oI κ.2.2.2.2 0 k0 = x1) (c2_0 : ¬ x1.toInt = 0) (c2_1 : ¬ x1.toInt = 1) (c2_2 : ¬ x1.toInt = 2) (c2_3 : ¬ x1.toInt = 3) (c2_4 : ¬ x1.toInt = 4) (hr64_3 : (oI P65 25 (ad 19)).toInt = 0) (hr78_4_0 : (oI P79 25 (ad 19)).toInt = (oI P65 25 (ad 19)).toInt + 1) (hr78_4_1 : gr1 ((oI P65 25 (ad 19)).toInt + 1) ≤ 1) (hr78_4_2 : gr70 ((oI P65 25 (ad 19)).toInt + 1) ≤ 70) (hr78_4_3 : (oI P65 25 (ad 19)).toInt + 1 ≤ 16 → gr1 ((oI P65 25 (ad 19)).toInt + 1) = 0 ∧ gr70 ((oI P65 25 (ad 19)).toInt + 1) = 0) (hr78_4_4 : 16 < (oI P65 25 (ad 19)).toInt + 1 → gr1 ((oI P65 25 (ad 19)).toInt + 1) = 1 ∧ gr70 ((oI P65 25 (ad 19)).toInt + 1) = 70) (ex82 : oI P79 1 k0 = x82) (hr83_4_0 : (oI P79 25 (ad 19)).toInt < (oI P84 25 (ad 19)).toInt) (hr83_4_1 : (oI P84 25 (ad 19)).toInt ≤ (oI P79 25 (ad 19)).toInt + 11) (leb90 : ((nb90 : Nat) : Int) = (oI P84 25 (ad 19)).toInt) : 0 + 0 + (gr70 ((oI P65 25 (ad 19)).toInt + 1)) + 0 + (4 + (oI P84 25 (ad 19)).toInt.toNat) ≤ 16 := by
  have zg0 := gr_spec ((oI P65 25 (ad 19)).toInt + 1)
  first | assumption | omega | (subst_vars; omega) | trivial
set_option maxHeartbeats 4000000 in
set_option maxRecDepth 100000 in
theorem NX0_asText (l : Launch) (D : va_G) (cy : Nat → ClassId) (ad : Nat → Nat) (A : Nat → Prop) (sz0 : Nat) (sa : Nat → Nat)  (κ : KS) (sz sl : Nat) (hAF : ∀ q, A q → Fr sz0 q) (hAn : ∀ q : Nat, sz ≤ q → A q) (k0 : Nat) (ht0 : oT κ.2.2.2.2 k0 = 1) (hPV : PV sa κ.2.2.2.2) (hs19 : oT κ.2.2.2.2 (ad 19) = 12) : Met l yX0_asText (Cond.code yX0_asText cX0_asText 2 (some (.object "java/lang/String")) :: GWc) ({ frames := 6, cells := 2, slots := 16, locals := 151 }) (PcC D cy ad A sz0 sa [.ref (ad 4), .ref k0] κ sz sl) (va_Qq (fun (r : Option Nat) (u : PL) => ((EX κ.2.2.2.2 u) ∧ (PV sa u) ∧ (KPx True κ.2.2.2.2 u) ∧ (∃ b n, r = some b ∧ SL u sa b n ∧ n ≤ 40)) ∧ (∀ (q7 q8 : Nat → Option Nat) (v : QV), VALq κ.2.2.2.2 sa q7 q8 k0 v → TXq u sa (r.getD 0) (qSpl v))) (fun (u : PL) (t : State) => Bx D cy ad A sz sl (tP κ u) (2) (16) t) A) (2) (16) A := by
  refine CM_of (loc0 := [(0, .ref (ad 4)), (1, .ref k0)]) (own := RX0) (nm := "asText") (by decide) rfl rfl rfl (Nat.le_of_ble_eq_true rfl) hAF hAn ?_
  intro p e s m below meth c ls hsz hsl C hP hS hl
  refine lv_aload_n C.x C.b dX0_asText_0 rfl (lv_at hl 1 rfl) ?_
  obtain ⟨x1, ex1⟩ : ∃ z, oI κ.2.2.2.2 0 k0 = z := ⟨_, rfl⟩
  refine pg_X10_0 (v := x1) C hP (t20 (a := k0) (t := 1) ht0) ex1 cw_55 dX0_asText_1 ?_
  by_cases c2_0 : x1.toInt = 0
  · refine lv_tableIn (off := 36) (tgt := 40) C.x C.b dX0_asText_4 (by rw [c2_0]; decide +kernel) (by rw [c2_0]; decide +kernel) (by rw [c2_0]; decide +kernel) (by decide) ?_
    refine va_ldcS C.x C.b C.o C.t.2.2.1 dX0_asText_40 ?_
    obtain ⟨n3, sln3, len3⟩ := (SOK.any (P := κ.2.2.2.2) (sa := sa) (c := (sa 402)) (by unfold KC; simp)).sl hPV C
    have hP : CH D cy ad A (tP κ κ.2.2.2.2) s.heap := CH.cong hP rfl rfl rfl rfl rfl rfl rfl rfl rfl rfl rfl rfl rfl rfl rfl rfl rfl rfl rfl rfl rfl rfl rfl rfl rfl rfl rfl
    exact c_retq (v := (some (sa 402))) (Or.inl ⟨_, rfl⟩) C hsz hsl κ.2.2.2.2 ⟨⟨EX.rf, hPV, KPx.rf, ⟨(sa 402), n3, rfl, sln3, (vX0_asText_1 n3 len3)⟩⟩, (vX0_asText_2 ad sa κ k0 x1 n3 ht0 hPV hs19 ex1 c2_0 len3)⟩ hP hS ⟨(Nat.le_of_ble_eq_true rfl), (Nat.le_of_ble_eq_true rfl)⟩ ⟨(Nat.le_of_ble_eq_true rfl), (Nat.le_of_ble_eq_true rfl)⟩ dX0_asText_42
  · by_cases c2_1 : x1.toInt = 1
    · refine lv_tableIn (off := 39) (tgt := 43) C.x C.b dX0_asText_4 (by rw [c2_1]; decide +kernel) (by rw [c2_1]; decide +kernel) (by rw [c2_1]; decide +kernel) (by decide) ?_
      refine lv_aload_n C.x C.b dX0_asText_43 rfl (lv_at hl 1 rfl) ?_
      obtain ⟨x4, ex4⟩ : ∃ z, oI κ.2.2.2.2 1 k0 = z := ⟨_, rfl⟩
      refine pg_X10_1 (v := x4) C hP (t20 (a := k0) (t := 1) ht0) ex4 cw_61 dX0_asText_44 ?_
      refine lv_iconst (v := 1) C.x C.b dX0_asText_47 (by decide +kernel) ?_
      refine lv_icmp_ne (tgt := 56) C.x C.b dX0_asText_48 (by decide) (fun c5 => ?_) (fun c5 => ?_)
      · have c5 : ¬ x4.toInt = 1 := by have h := z_ne c5; rw [show (1 : Int32).toInt = 1 from by decide +kernel] at h; exact h
        refine va_ldcS C.x C.b C.o C.t.2.1 dX0_asText_56 ?_
        obtain ⟨n6, sln6, len6⟩ := (SOK.any (P := κ.2.2.2.2) (sa := sa) (c := (sa 401)) (by unfold KC; simp)).sl hPV C
        have hP : CH D cy ad A (tP κ κ.2.2.2.2) s.heap := CH.cong hP rfl rfl rfl rfl rfl rfl rfl rfl rfl rfl rfl rfl rfl rfl rfl rfl rfl rfl rfl rfl rfl rfl rfl rfl rfl rfl rfl
        exact c_retq (v := (some (sa 401))) (Or.inl ⟨_, rfl⟩) C hsz hsl κ.2.2.2.2 ⟨⟨EX.rf, hPV, KPx.rf, ⟨(sa 401), n6, rfl, sln6, (vX0_asText_3 n6 len6)⟩⟩, (vX0_asText_4 ad sa κ k0 x1 x4 n6 ht0 hPV hs19 ex1 c2_0 c2_1 ex4 c5 len6)⟩ hP hS ⟨(Nat.le_of_ble_eq_true rfl), (Nat.le_of_ble_eq_true rfl)⟩ ⟨(Nat.le_of_ble_eq_true rfl), (Nat.le_of_ble_eq_true rfl)⟩ dX0_asText_58
      · have c5 : x4.toInt = 1 := by have h := z_eq c5; rw [show (1 : Int32).toInt = 1 from by decide +kernel] at h; exact h
        refine va_ldcS C.x C.b C.o C.t.1 dX0_asText_51 ?_
        refine lv_goto (tgt := 58) C.x C.b dX0_asText_53 (by decide) ?_
        obtain ⟨n7, sln7, len7⟩ := (SOK.any (P := κ.2.2.2.2) (sa := sa) (c := (sa 400)) (by unfold KC; simp)).sl hPV C
        have hP : CH D cy ad A (tP κ κ.2.2.2.2) s.heap := CH.cong hP rfl rfl rfl rfl rfl rfl rfl rfl rfl rfl rfl rfl rfl rfl rfl rfl rfl rfl rfl rfl rfl rfl rfl rfl rfl rfl rfl
        exact c_retq (v := (some (sa 400))) (Or.inl ⟨_, rfl⟩) C hsz hsl κ.2.2.2.2 ⟨⟨EX.rf, hPV, KPx.rf, ⟨(sa 400), n7, rfl, sln7, (vX0_asText_5 n7 len7)⟩⟩, (vX0_asText_6 ad sa κ k0 x1 x4 n7 ht0 hPV hs19 ex1 c2_0 c2_1 ex4 c5 len7)⟩ hP hS ⟨(Nat.le_of_ble_eq_true rfl), (Nat.le_of_ble_eq_true rfl)⟩ ⟨(Nat.le_of_ble_eq_true rfl), (Nat.le_of_ble_eq_true rfl)⟩ dX0_asText_58
    · by_cases c2_2 : x1.toInt = 2
      · refine lv_tableIn (off := 60) (tgt := 64) C.x C.b dX0_asText_4 (by rw [c2_2]; decide +kernel) (by rw [c2_2]; decide +kernel) (by rw [c2_2]; decide +kernel) (by decide) ?_
        refine lv_aload_n C.x C.b dX0_asText_64 rfl (lv_at hl 0 rfl) ?_
        refine cg_X0_1 C hP cw_9 dX0_asText_65 ?_
        refine lv_iconst (v := 0) C.x C.b dX0_asText_68 (by decide +kernel) ?_
        refine c_callVv (n := 1) (As := [.int 0]) (rest := []) C hP hS hl.1 (NJ4_setLength_d00df l D cy ad A sz0 sa κ s.heap.size (SLT s.heap) C.f (fun q h => C.a q (Nat.le_trans hS.1 h)) (ad 19) (0 : Int32) hs19 hPV (vX0_asText_7  )) ⟨cw_148, cw_151, by decide +kernel⟩ ⟨cw_149, cw_150, cw_8⟩ rfl (hP.recvP (t := 12) (ci := 1) C.K (t20 (a := (ad 19)) (t := 12) hs19) (by decide) rfl rfl) rfl rfl (lv_room (Nat.le_of_ble_eq_true rfl)) ⟨Nat.le_of_ble_eq_true rfl, Nat.le_of_ble_eq_true rfl⟩ ⟨(Nat.le_of_ble_eq_true rfl), (Nat.le_of_ble_eq_true rfl)⟩ dX0_asText_69 (fun u H locs hr8 hP hS => ?_)
        obtain ⟨P9, rfl⟩ : ∃ z, z = u := ⟨_, rfl⟩
        have hP : CH D cy ad A (tP κ P9) H := hP
        obtain ⟨hr8, hr8y⟩ := hr8
        have hr8y : SBX P9 (ad 19) [] := hr8y
        have hr8 : (EX κ.2.2.2.2 P9) ∧ (PV sa P9) ∧ (KPx True κ.2.2.2.2 P9) ∧ ((oI P9 25 (ad 19)).toInt = 0) := hr8
        obtain ⟨hr8_0, hr8_1, hr8_2, hr8_3⟩ := hr8
        have kpz10 : KPx True κ.2.2.2.2 P9 := KPx.rf.trans hr8_2
        refine lv_aload_n C.x C.b dX0_asText_72 rfl (lv_at hl 1 rfl) ?_
        obtain ⟨x11, ex11⟩ : ∃ z, oR P9 1 k0 = z := ⟨_, rfl⟩
        refine pg_X10_4 (v := x11) C hP (t20 (a := k0) (t := 1) (hr8_0.T ht0 (by decide))) ex11 cw_56 dX0_asText_73 ?_
        have tx11 : NT P9 6 x11 := by rw [← ex11]; exact (hr8_1.t1 (hr8_0.T ht0 (by decide))).2.1
        cases x11 with
        | none =>
          refine lv_ifnullN (tgt := 89) C.x C.b dX0_asText_76 (by decide) ?_
          refine lv_aload_n C.x C.b dX0_asText_89 rfl (lv_at hl 0 rfl) ?_
          refine cg_X0_1 C hP cw_9 dX0_asText_90 ?_
          refine lv_aload_n C.x C.b dX0_asText_93 rfl (lv_at hl 1 rfl) ?_
          obtain ⟨x13, ex13⟩ : ∃ z, oI P9 1 k0 = z := ⟨_, rfl⟩
          refine pg_X10_1 (v := x13) C hP (t20 (a := k0) (t := 1) (hr8_0.T ht0 (by decide))) ex13 cw_61 dX0_asText_94 ?_
          refine c_callVq (n := 1) (As := [.int x13]) (rest := []) C hP hS hl.1 (NJ4_append_bf812 l D cy ad A sz0 sa (tP κ P9) H.size (SLT H) C.f (fun q h => C.a q (Nat.le_trans hS.1 h)) (ad 19) x13 (hr8_0.T hs19 (by decide)) hr8_1 (vX0_asText_8 ad κ k0 x1 P9 x13 ex1 c2_0 c2_1 c2_2 hr8_3 ex13)) ⟨cw_255, cw_258, by decide +kernel⟩ ⟨cw_256, cw_257, cw_8⟩ rfl (hP.recvP (t := 12) (ci := 1) C.K (t20 (a := (ad 19)) (t := 12) (hr8_0.T hs19 (by decide))) (by decide) rfl rfl) rfl rfl (lv_room (Nat.le_of_ble_eq_true rfl)) ⟨Nat.le_of_ble_eq_true rfl, Nat.le_of_ble_eq_true rfl⟩ ⟨(Nat.le_of_ble_eq_true rfl), (Nat.le_of_ble_eq_true rfl)⟩ dX0_asText_97 (fun r14 u H locs hr14 hP hS => ?_)
          obtain ⟨P15, rfl⟩ : ∃ z, z = u := ⟨_, rfl⟩
          have hP : CH D cy ad A (tP (tP κ P9) P15) H := hP
          obtain ⟨hr14, hr14y⟩ := hr14
          have hr14y : ∀ s9 : List Int, SBX P9 (ad 19) s9 → SBX P15 (ad 19) (s9 ++ qDec x13.toInt) := hr14y
          have hr14 : (EX P9 P15) ∧ (PV sa P15) ∧ (KPx True P9 P15) ∧ (NN P15 12 r14) ∧ ((oI P9 25 (ad 19)).toInt < (oI P15 25 (ad 19)).toInt ∧ (oI P15 25 (ad 19)).toInt ≤ (oI P9 25 (ad 19)).toInt + 11) := hr14
          obtain ⟨hr14_0, hr14_1, hr14_2, hr14_3, hr14_4⟩ := hr14
          have kpz16 : KPx True κ.2.2.2.2 P15 := kpz10.trans hr14_2
          obtain ⟨b17, rfl, tb17⟩ := hr14_3
          obtain ⟨hr14_4_0, hr14_4_1⟩ := hr14_4
          refine lv_pop C.x C.b dX0_asText_100 rfl ?_
          refine lv_aload_n C.x C.b dX0_asText_101 rfl (lv_at hl 0 rfl) ?_
          refine cg_X0_1 C hP cw_9 dX0_asText_102 ?_
          refine c_callVq (n := 0) (As := []) (rest := []) C hP hS hl.1 (NJ4_toString_0e30d l D cy ad A sz0 sa (tP (tP κ P9) P15) H.size (SLT H) C.f (fun q h => C.a q (Nat.le_trans hS.1 h)) (ad 19) (hr14_0.T (hr8_0.T hs19 (by decide)) (by decide)) hr14_1 (vX0_asText_9 ad κ k0 x1 P9 x13 P15 ex1 c2_0 c2_1 c2_2 hr8_3 ex13 hr14_4_0 hr14_4_1)) ⟨cw_289, cw_292, by decide +kernel⟩ ⟨cw_290, cw_291, cw_8⟩ rfl (hP.recvP (t := 12) (ci := 1) C.K (t20 (a := (ad 19)) (t := 12) (hr14_0.T (hr8_0.T hs19 (by decide)) (by decide))) (by decide) rfl rfl) rfl rfl (lv_room (Nat.le_of_ble_eq_true rfl)) ⟨Nat.le_of_ble_eq_true rfl, Nat.le_of_ble_eq_true rfl⟩ ⟨(Nat.le_of_ble_eq_true rfl), (vX0_asText_10 ad κ k0 x1 P9 x13 P15 ex1 c2_0 c2_1 c2_2 hr8_3 ex13 hr14_4_0 hr14_4_1)⟩ dX0_asText_105 (fun r18 u H locs hr18 hP hS => ?_)
          obtain ⟨P19, rfl⟩ : ∃ z, z = u := ⟨_, rfl⟩
          have hP : CH D cy ad A (tP (tP (tP κ P9) P15) P19) H := hP
          obtain ⟨hr18, hr18y⟩ := hr18
          have hr18y : ∀ s9 : List Int, SBX P15 (ad 19) s9 → TXq P19 sa (r18.getD 0) s9 := hr18y
          have hr18 : (EX P15 P19) ∧ (PV sa P19) ∧ (KPx True P15 P19) ∧ (∃ b n, r18 = some b ∧ SL P19 sa b n ∧ ((n : Nat) : Int) = (oI P15 25 (ad 19)).toInt) := hr18
          obtain ⟨hr18_0, hr18_1, hr18_2, hr18_3⟩ := hr18
          have kpz20 : KPx True κ.2.2.2.2 P19 := kpz16.trans hr18_2
          obtain ⟨b21, nb21, rfl, tb21, leb21⟩ := hr18_3
          have hP : CH D cy ad A (tP κ P19) H := CH.cong hP rfl rfl rfl rfl rfl rfl rfl rfl rfl rfl rfl rfl rfl rfl rfl rfl rfl rfl rfl rfl rfl rfl rfl rfl rfl rfl rfl
          exact c_retq (v := (some b21)) (Or.inl ⟨_, rfl⟩) C hsz hsl P19 ⟨⟨((hr8_0.trans hr14_0).trans hr18_0), hr18_1, kpz20, ⟨b21, nb21, rfl, tb21, (vX0_asText_11 ad κ k0 x1 P9 x13 P15 nb21 ex1 c2_0 c2_1 c2_2 hr8_3 ex13 hr14_4_0 hr14_4_1 leb21)⟩⟩, (vX0_asText_12 ad sa κ k0 x1 P9 x13 P15 P19 b21 nb21 ht0 hPV hs19 ex1 c2_0 c2_1 c2_2 hr8_0 hr8_2 hr8y hr8_3 ex11 ex13 hr14_0 hr14_2 hr14y hr14_4_0 hr14_4_1 hr18_0 hr18_2 leb21 hr18y)⟩ hP hS ⟨(Nat.le_of_ble_eq_true rfl), (vX0_asText_13 ad κ k0 x1 P9 x13 P15 nb21 ex1 c2_0 c2_1 c2_2 hr8_3 ex13 hr14_4_0 hr14_4_1 leb21)⟩ ⟨(Nat.le_of_ble_eq_true rfl), (Nat.le_of_ble_eq_true rfl)⟩ dX0_asText_108
        | some b12 =>
          have hb12 : oT P9 b12 = 6 := tx11 b12 rfl
          refine lv_ifnull C.x C.b dX0_asText_76 ?_
          refine lv_aload_n C.x C.b dX0_asText_79 rfl (lv_at hl 0 rfl) ?_
          refine cg_X0_1 C hP cw_9 dX0_asText_80 ?_
          refine lv_bipush (v := 111) C.x C.b dX0_asText_83 (by decide +kernel) ?_
          refine c_callVq (n := 1) (As := [.int 111]) (rest := []) C hP hS hl.1 (NJ4_append_cf468 l D cy ad A sz0 sa (tP κ P9) H.size (SLT H) C.f (fun q h => C.a q (Nat.le_trans hS.1 h)) (ad 19) (111 : Int32) (hr8_0.T hs19 (by decide)) hr8_1 (vX0_asText_14 ad P9 hr8_3)) ⟨cw_218, cw_221, by decide +kernel⟩ ⟨cw_219, cw_220, cw_8⟩ rfl (hP.recvP (t := 12) (ci := 1) C.K (t20 (a := (ad 19)) (t := 12) (hr8_0.T hs19 (by decide))) (by decide) rfl rfl) rfl rfl (lv_room (Nat.le_of_ble_eq_true rfl)) ⟨Nat.le_of_ble_eq_true rfl, Nat.le_of_ble_eq_true rfl⟩ ⟨(vX0_asText_15 ad P9 hr8_3), (vX0_asText_16 ad P9 hr8_3)⟩ dX0_asText_85 (fun r22 u H locs hr22 hP hS => ?_)
          obtain ⟨P23, rfl⟩ : ∃ z, z = u := ⟨_, rfl⟩
          have hP : CH D cy ad A (tP (tP κ P9) P23) H := hP
          obtain ⟨hr22, hr22y⟩ := hr22
          have hr22y : ∀ s9 : List Int, SBX P9 (ad 19) s9 → (111 : Int32).toInt < 128 → SBX P23 (ad 19) (s9 ++ [(111 : Int32).toInt]) := hr22y
          have hr22 : (EX P9 P23) ∧ (PV sa P23) ∧ (KPx True P9 P23) ∧ (NN P23 12 r22) ∧ ((oI P23 25 (ad 19)).toInt = (oI P9 25 (ad 19)).toInt + 1 ∧ (gr1 ((oI P9 25 (ad 19)).toInt + 1) ≤ 1 ∧ gr70 ((oI P9 25 (ad 19)).toInt + 1) ≤ 70 ∧ ((oI P9 25 (ad 19)).toInt + 1 ≤ 16 → gr1 ((oI P9 25 (ad 19)).toInt + 1) = 0 ∧ gr70 ((oI P9 25 (ad 19)).toInt + 1) = 0) ∧ (16 < (oI P9 25 (ad 19)).toInt + 1 → gr1 ((oI P9 25 (ad 19)).toInt + 1) = 1 ∧ gr70 ((oI P9 25 (ad 19)).toInt + 1) = 70))) := hr22
          obtain ⟨hr22_0, hr22_1, hr22_2, hr22_3, hr22_4⟩ := hr22
          have kpz24 : KPx True κ.2.2.2.2 P23 := kpz10.trans hr22_2
          obtain ⟨b25, rfl, tb25⟩ := hr22_3
          obtain ⟨hr22_4_0, ⟨hr22_4_1, hr22_4_2, hr22_4_3, hr22_4_4⟩⟩ := hr22_4
          refine lv_pop C.x C.b dX0_asText_88 rfl ?_
          refine lv_aload_n C.x C.b dX0_asText_89 rfl (lv_at hl 0 rfl) ?_
          refine cg_X0_1 C hP cw_9 dX0_asText_90 ?_
          refine lv_aload_n C.x C.b dX0_asText_93 rfl (lv_at hl 1 rfl) ?_
          obtain ⟨x26, ex26⟩ : ∃ z, oI P23 1 k0 = z := ⟨_, rfl⟩
          refine pg_X10_1 (v := x26) C hP (t20 (a := k0) (t := 1) (hr22_0.T (hr8_0.T ht0 (by decide)) (by decide))) ex26 cw_61 dX0_asText_94 ?_
          refine c_callVq (n := 1) (As := [.int x26]) (rest := []) C hP hS hl.1 (NJ4_append_bf812 l D cy ad A sz0 sa (tP (tP κ P9) P23) H.size (SLT H) C.f (fun q h => C.a q (Nat.le_trans hS.1 h)) (ad 19) x26 (hr22_0.T (hr8_0.T hs19 (by decide)) (by decide)) hr22_1 (vX0_asText_17 ad κ k0 x1 P9 P23 x26 ex1 c2_0 c2_1 c2_2 hr8_3 hr22_4_0 hr22_4_1 hr22_4_2 hr22_4_3 hr22_4_4 ex26)) ⟨cw_255, cw_258, by decide +kernel⟩ ⟨cw_256, cw_257, cw_8⟩ rfl (hP.recvP (t := 12) (ci := 1) C.K (t20 (a := (ad 19)) (t := 12) (hr22_0.T (hr8_0.T hs19 (by decide)) (by decide))) (by decide) rfl rfl) rfl rfl (lv_room (Nat.le_of_ble_eq_true rfl)) ⟨Nat.le_of_ble_eq_true rfl, Nat.le_of_ble_eq_true rfl⟩ ⟨(vX0_asText_18 ad κ k0 x1 P9 P23 x26 ex1 c2_0 c2_1 c2_2 hr8_3 hr22_4_0 hr22_4_1 hr22_4_2 hr22_4_3 hr22_4_4 ex26), (vX0_asText_19 ad κ k0 x1 P9 P23 x26 ex1 c2_0 c2_1 c2_2 hr8_3 hr22_4_0 hr22_4_1 hr22_4_2 hr22_4_3 hr22_4_4 ex26)⟩ dX0_asText_97 (fun r27 u H locs hr27 hP hS => ?_)
          obtain ⟨P28, rfl⟩ : ∃ z, z = u := ⟨_, rfl⟩
          have hP : CH D cy ad A (tP (tP (tP κ P9) P23) P28) H := hP
          obtain ⟨hr27, hr27y⟩ := hr27
          have hr27y : ∀ s9 : List Int, SBX P23 (ad 19) s9 → SBX P28 (ad 19) (s9 ++ qDec x26.toInt) := hr27y
          have hr27 : (EX P23 P28) ∧ (PV sa P28) ∧ (KPx True P23 P28) ∧ (NN P28 12 r27) ∧ ((oI P23 25 (ad 19)).toInt < (oI P28 25 (ad 19)).toInt ∧ (oI P28 25 (ad 19)).toInt ≤ (oI P23 25 (ad 19)).toInt + 11) := hr27
          obtain ⟨hr27_0, hr27_1, hr27_2, hr27_3, hr27_4⟩ := hr27
          have kpz29 : KPx True κ.2.2.2.2 P28 := kpz24.trans hr27_2
          obtain ⟨b30, rfl, tb30⟩ := hr27_3
          obtain ⟨hr27_4_0, hr27_4_1⟩ := hr27_4
          refine lv_pop C.x C.b dX0_asText_100 rfl ?_
          refine lv_aload_n C.x C.b dX0_asText_101 rfl (lv_at hl 0 rfl) ?_
          refine cg_X0_1 C hP cw_9 dX0_asText_102 ?_
          refine c_callVq (n := 0) (As := []) (rest := []) C hP hS hl.1 (NJ4_toString_0e30d l D cy ad A sz0 sa (tP (tP (tP κ P9) P23) P28) H.size (SLT H) C.f (fun q h => C.a q (Nat.le_trans hS.1 h)) (ad 19) (hr27_0.T (hr22_0.T (hr8_0.T hs19 (by decide)) (by decide)) (by decide)) hr27_1 (vX0_asText_20 ad κ k0 x1 P9 P23 x26 P28 ex1 c2_0 c2_1 c2_2 hr8_3 hr22_4_0 hr22_4_1 hr22_4_2 ex26 hr27_4_0 hr27_4_1)) ⟨cw_289, cw_292, by decide +kernel⟩ ⟨cw_290, cw_291, cw_8⟩ rfl (hP.recvP (t := 12) (ci := 1) C.K (t20 (a := (ad 19)) (t := 12) (hr27_0.T (hr22_0.T (hr8_0.T hs19 (by decide)) (by decide)) (by decide))) (by decide) rfl rfl) rfl rfl (lv_room (Nat.le_of_ble_eq_true rfl)) ⟨Nat.le_of_ble_eq_true rfl, Nat.le_of_ble_eq_true rfl⟩ ⟨(vX0_asText_21 ad κ k0 x1 P9 P23 x26 P28 ex1 c2_0 c2_1 c2_2 hr8_3 hr22_4_0 hr22_4_1 hr22_4_2 hr22_4_3 hr22_4_4 ex26 hr27_4_0 hr27_4_1), (vX0_asText_22 ad κ k0 x1 P9 P23 x26 P28 ex1 c2_0 c2_1 c2_2 hr8_3 hr22_4_0 hr22_4_1 hr22_4_2 hr22_4_3 hr22_4_4 ex26 hr27_4_0 hr27_4_1)⟩ dX0_asText_105 (fun r31 u H locs hr31 hP hS => ?_)
          obtain ⟨P32, rfl⟩ : ∃ z, z = u := ⟨_, rfl⟩
          have hP : CH D cy ad A (tP (tP (tP (tP κ P9) P23) P28) P32) H := hP
          obtain ⟨hr31, hr31y⟩ := hr31
          have hr31y : ∀ s9 : List Int, SBX P28 (ad 19) s9 → TXq P32 sa (r31.getD 0) s9 := hr31y
          have hr31 : (EX P28 P32) ∧ (PV sa P32) ∧ (KPx True P28 P32) ∧ (∃ b n, r31 = some b ∧ SL P32 sa b n ∧ ((n : Nat) : Int) = (oI P28 25 (ad 19)).toInt) := hr31
          obtain ⟨hr31_0, hr31_1, hr31_2, hr31_3⟩ := hr31
          have kpz33 : KPx True κ.2.2.2.2 P32 := kpz29.trans hr31_2
          obtain ⟨b34, nb34, rfl, tb34, leb34⟩ := hr31_3
          have hP : CH D cy ad A (tP κ P32) H := CH.cong hP rfl rfl rfl rfl rfl rfl rfl rfl rfl rfl rfl rfl rfl rfl rfl rfl rfl rfl rfl rfl rfl rfl rfl rfl rfl rfl rfl
          exact c_retq (v := (some b34)) (Or.inl ⟨_, rfl⟩) C hsz hsl P32 ⟨⟨(((hr8_0.trans hr22_0).trans hr27_0).trans hr31_0), hr31_1, kpz33, ⟨b34, nb34, rfl, tb34, (vX0_asText_23 ad κ k0 x1 P9 P23 x26 P28 nb34 ex1 c2_0 c2_1 c2_2 hr8_3 hr22_4_0 hr22_4_1 hr22_4_2 ex26 hr27_4_0 hr27_4_1 leb34)⟩⟩, (vX0_asText_24 ad sa κ k0 x1 P9 b12 P23 x26 P28 P32 b34 nb34 ht0 hPV hs19 ex1 c2_0 c2_1 c2_2 hr8_0 hr8_2 hr8y hr8_3 ex11 hr22_0 hr22_2 hr22y hr22_4_0 hr22_4_1 hr22_4_2 hr22_4_3 hr22_4_4 ex26 hr27_0 hr27_2 hr27y hr27_4_0 hr27_4_1 hr31_0 hr31_2 leb34 hr31y)⟩ hP hS ⟨(vX0_asText_25 ad κ k0 x1 P9 P23 x26 P28 nb34 ex1 c2_0 c2_1 c2_2 hr8_3 hr22_4_0 hr22_4_1 hr22_4_2 hr22_4_3 hr22_4_4 ex26 hr27_4_0 hr27_4_1 leb34), (vX0_asText_26 ad κ k0 x1 P9 P23 x26 P28 nb34 ex1 c2_0 c2_1 c2_2 hr8_3 hr22_4_0 hr22_4_1 hr22_4_2 hr22_4_3 hr22_4_4 ex26 hr27_4_0 hr27_4_1 leb34)⟩ ⟨(Nat.le_of_ble_eq_true rfl), (Nat.le_of_ble_eq_true rfl)⟩ dX0_asText_108
      · by_cases c2_3 : x1.toInt = 3
        · refine lv_tableIn (off := 60) (tgt := 64) C.x C.b dX0_asText_4 (by rw [c2_3]; decide +kernel) (by rw [c2_3]; decide +kernel) (by rw [c2_3]; decide +kernel) (by decide) ?_
          refine lv_aload_n C.x C.b dX0_asText_64 rfl (lv_at hl 0 rfl) ?_
          refine cg_X0_1 C hP cw_9 dX0_asText_65 ?_
          refine lv_iconst (v := 0) C.x C.b dX0_asText_68 (by decide +kernel) ?_
          refine c_callVv (n := 1) (As := [.int 0]) (rest := []) C hP hS hl.1 (NJ4_setLength_d00df l D cy ad A sz0 sa κ s.heap.size (SLT s.heap) C.f (fun q h => C.a q (Nat.le_trans hS.1 h)) (ad 19) (0 : Int32) hs19 hPV (vX0_asText_7  )) ⟨cw_148, cw_151, by decide +kernel⟩ ⟨cw_149, cw_150, cw_8⟩ rfl (hP.recvP (t := 12) (ci := 1) C.K (t20 (a := (ad 19)) (t := 12) hs19) (by decide) rfl rfl) rfl rfl (lv_room (Nat.le_of_ble_eq_true rfl)) ⟨Nat.le_of_ble_eq_true rfl, Nat.le_of_ble_eq_true rfl⟩ ⟨(Nat.le_of_ble_eq_true rfl), (Nat.le_of_ble_eq_true rfl)⟩ dX0_asText_69 (fun u H locs hr35 hP hS => ?_)
          obtain ⟨P36, rfl⟩ : ∃ z, z = u := ⟨_, rfl⟩
          have hP : CH D cy ad A (tP κ P36) H := hP
          obtain ⟨hr35, hr35y⟩ := hr35
          have hr35y : SBX P36 (ad 19) [] := hr35y
          have hr35 : (EX κ.2.2.2.2 P36) ∧ (PV sa P36) ∧ (KPx True κ.2.2.2.2 P36) ∧ ((oI P36 25 (ad 19)).toInt = 0) := hr35
          obtain ⟨hr35_0, hr35_1, hr35_2, hr35_3⟩ := hr35
          have kpz37 : KPx True κ.2.2.2.2 P36 := KPx.rf.trans hr35_2
          refine lv_aload_n C.x C.b dX0_asText_72 rfl (lv_at hl 1 rfl) ?_
          obtain ⟨x38, ex38⟩ : ∃ z, oR P36 1 k0 = z := ⟨_, rfl⟩
          refine pg_X10_4 (v := x38) C hP (t20 (a := k0) (t := 1) (hr35_0.T ht0 (by decide))) ex38 cw_56 dX0_asText_73 ?_
          have tx38 : NT P36 6 x38 := by rw [← ex38]; exact (hr35_1.t1 (hr35_0.T ht0 (by decide))).2.1
          cases x38 with
          | none =>
            refine lv_ifnullN (tgt := 89) C.x C.b dX0_asText_76 (by decide) ?_
            refine lv_aload_n C.x C.b dX0_asText_89 rfl (lv_at hl 0 rfl) ?_
            refine cg_X0_1 C hP cw_9 dX0_asText_90 ?_
            refine lv_aload_n C.x C.b dX0_asText_93 rfl (lv_at hl 1 rfl) ?_
            obtain ⟨x40, ex40⟩ : ∃ z, oI P36 1 k0 = z := ⟨_, rfl⟩
            refine pg_X10_1 (v := x40) C hP (t20 (a := k0) (t := 1) (hr35_0.T ht0 (by decide))) ex40 cw_61 dX0_asText_94 ?_
            refine c_callVq (n := 1) (As := [.int x40]) (rest := []) C hP hS hl.1 (NJ4_append_bf812 l D cy ad A sz0 sa (tP κ P36) H.size (SLT H) C.f (fun q h => C.a q (Nat.le_trans hS.1 h)) (ad 19) x40 (hr35_0.T hs19 (by decide)) hr35_1 (vX0_asText_27 ad κ k0 x1 P36 x40 ex1 c2_0 c2_1 c2_2 c2_3 hr35_3 ex40)) ⟨cw_255, cw_258, by decide +kernel⟩ ⟨cw_256, cw_257, cw_8⟩ rfl (hP.recvP (t := 12) (ci := 1) C.K (t20 (a := (ad 19)) (t := 12) (hr35_0.T hs19 (by decide))) (by decide) rfl rfl) rfl rfl (lv_room (Nat.le_of_ble_eq_true rfl)) ⟨Nat.le_of_ble_eq_true rfl, Nat.le_of_ble_eq_true rfl⟩ ⟨(Nat.le_of_ble_eq_true rfl), (Nat.le_of_ble_eq_true rfl)⟩ dX0_asText_97 (fun r41 u H locs hr41 hP hS => ?_)
            obtain ⟨P42, rfl⟩ : ∃ z, z = u := ⟨_, rfl⟩
            have hP : CH D cy ad A (tP (tP κ P36) P42) H := hP
            obtain ⟨hr41, hr41y⟩ := hr41
            have hr41y : ∀ s9 : List Int, SBX P36 (ad 19) s9 → SBX P42 (ad 19) (s9 ++ qDec x40.toInt) := hr41y
            have hr41 : (EX P36 P42) ∧ (PV sa P42) ∧ (KPx True P36 P42) ∧ (NN P42 12 r41) ∧ ((oI P36 25 (ad 19)).toInt < (oI P42 25 (ad 19)).toInt ∧ (oI P42 25 (ad 19)).toInt ≤ (oI P36 25 (ad 19)).toInt + 11) := hr41
            obtain ⟨hr41_0, hr41_1, hr41_2, hr41_3, hr41_4⟩ := hr41
            have kpz43 : KPx True κ.2.2.2.2 P42 := kpz37.trans hr41_2
            obtain ⟨b44, rfl, tb44⟩ := hr41_3
            obtain ⟨hr41_4_0, hr41_4_1⟩ := hr41_4
            refine lv_pop C.x C.b dX0_asText_100 rfl ?_
            refine lv_aload_n C.x C.b dX0_asText_101 rfl (lv_at hl 0 rfl) ?_
            refine cg_X0_1 C hP cw_9 dX0_asText_102 ?_
            refine c_callVq (n := 0) (As := []) (rest := []) C hP hS hl.1 (NJ4_toString_0e30d l D cy ad A sz0 sa (tP (tP κ P36) P42) H.size (SLT H) C.f (fun q h => C.a q (Nat.le_trans hS.1 h)) (ad 19) (hr41_0.T (hr35_0.T hs19 (by decide)) (by decide)) hr41_1 (vX0_asText_28 ad κ k0 x1 P36 x40 P42 ex1 c2_0 c2_1 c2_2 c2_3 hr35_3 ex40 hr41_4_0 hr41_4_1)) ⟨cw_289, cw_292, by decide +kernel⟩ ⟨cw_290, cw_291, cw_8⟩ rfl (hP.recvP (t := 12) (ci := 1) C.K (t20 (a := (ad 19)) (t := 12) (hr41_0.T (hr35_0.T hs19 (by decide)) (by decide))) (by decide) rfl rfl) rfl rfl (lv_room (Nat.le_of_ble_eq_true rfl)) ⟨Nat.le_of_ble_eq_true rfl, Nat.le_of_ble_eq_true rfl⟩ ⟨(Nat.le_of_ble_eq_true rfl), (vX0_asText_29 ad κ k0 x1 P36 x40 P42 ex1 c2_0 c2_1 c2_2 c2_3 hr35_3 ex40 hr41_4_0 hr41_4_1)⟩ dX0_asText_105 (fun r45 u H locs hr45 hP hS => ?_)
            obtain ⟨P46, rfl⟩ : ∃ z, z = u := ⟨_, rfl⟩
            have hP : CH D cy ad A (tP (tP (tP κ P36) P42) P46) H := hP
            obtain ⟨hr45, hr45y⟩ := hr45
            have hr45y : ∀ s9 : List Int, SBX P42 (ad 19) s9 → TXq P46 sa (r45.getD 0) s9 := hr45y
            have hr45 : (EX P42 P46) ∧ (PV sa P46) ∧ (KPx True P42 P46) ∧ (∃ b n, r45 = some b ∧ SL P46 sa b n ∧ ((n : Nat) : Int) = (oI P42 25 (ad 19)).toInt) := hr45
            obtain ⟨hr45_0, hr45_1, hr45_2, hr45_3⟩ := hr45
            have kpz47 : KPx True κ.2.2.2.2 P46 := kpz43.trans hr45_2
            obtain ⟨b48, nb48, rfl, tb48, leb48⟩ := hr45_3
            have hP : CH D cy ad A (tP κ P46) H := CH.cong hP rfl rfl rfl rfl rfl rfl rfl rfl rfl rfl rfl rfl rfl rfl rfl rfl rfl rfl rfl rfl rfl rfl rfl rfl rfl rfl rfl
            exact c_retq (v := (some b48)) (Or.inl ⟨_, rfl⟩) C hsz hsl P46 ⟨⟨((hr35_0.trans hr41_0).trans hr45_0), hr45_1, kpz47, ⟨b48, nb48, rfl, tb48, (vX0_asText_30 ad κ k0 x1 P36 x40 P42 nb48 ex1 c2_0 c2_1 c2_2 c2_3 hr35_3 ex40 hr41_4_0 hr41_4_1 leb48)⟩⟩, (vX0_asText_31 ad sa κ k0 x1 P36 x40 P42 P46 b48 nb48 ht0 hPV hs19 ex1 c2_0 c2_1 c2_2 c2_3 hr35_0 hr35_2 hr35y hr35_3 ex38 ex40 hr41_0 hr41_2 hr41y hr41_4_0 hr41_4_1 hr45_0 hr45_2 leb48 hr45y)⟩ hP hS ⟨(Nat.le_of_ble_eq_true rfl), (vX0_asText_32 ad κ k0 x1 P36 x40 P42 nb48 ex1 c2_0 c2_1 c2_2 c2_3 hr35_3 ex40 hr41_4_0 hr41_4_1 leb48)⟩ ⟨(Nat.le_of_ble_eq_true rfl), (Nat.le_of_ble_eq_true rfl)⟩ dX0_asText_108
          | some b39 =>
            have hb39 : oT P36 b39 = 6 := tx38 b39 rfl
            refine lv_ifnull C.x C.b dX0_asText_76 ?_
            refine lv_aload_n C.x C.b dX0_asText_79 rfl (lv_at hl 0 rfl) ?_
            refine cg_X0_1 C hP cw_9 dX0_asText_80 ?_
            refine lv_bipush (v := 111) C.x C.b dX0_asText_83 (by decide +kernel) ?_
            refine c_callVq (n := 1) (As := [.int 111]) (rest := []) C hP hS hl.1 (NJ4_append_cf468 l D cy ad A sz0 sa (tP κ P36) H.size (SLT H) C.f (fun q h => C.a q (Nat.le_trans hS.1 h)) (ad 19) (111 : Int32) (hr35_0.T hs19 (by decide)) hr35_1 (vX0_asText_33 ad P36 hr35_3)) ⟨cw_218, cw_221, by decide +kernel⟩ ⟨cw_219, cw_220, cw_8⟩ rfl (hP.recvP (t := 12) (ci := 1) C.K (t20 (a := (ad 19)) (t := 12) (hr35_0.T hs19 (by decide))) (by decide) rfl rfl) rfl rfl (lv_room (Nat.le_of_ble_eq_true rfl)) ⟨Nat.le_of_ble_eq_true rfl, Nat.le_of_ble_eq_true rfl⟩ ⟨(vX0_asText_34 ad P36 hr35_3), (vX0_asText_35 ad P36 hr35_3)⟩ dX0_asText_85 (fun r49 u H locs hr49 hP hS => ?_)
            obtain ⟨P50, rfl⟩ : ∃ z, z = u := ⟨_, rfl⟩
            have hP : CH D cy ad A (tP (tP κ P36) P50) H := hP
            obtain ⟨hr49, hr49y⟩ := hr49
            have hr49y : ∀ s9 : List Int, SBX P36 (ad 19) s9 → (111 : Int32).toInt < 128 → SBX P50 (ad 19) (s9 ++ [(111 : Int32).toInt]) := hr49y
            have hr49 : (EX P36 P50) ∧ (PV sa P50) ∧ (KPx True P36 P50) ∧ (NN P50 12 r49) ∧ ((oI P50 25 (ad 19)).toInt = (oI P36 25 (ad 19)).toInt + 1 ∧ (gr1 ((oI P36 25 (ad 19)).toInt + 1) ≤ 1 ∧ gr70 ((oI P36 25 (ad 19)).toInt + 1) ≤ 70 ∧ ((oI P36 25 (ad 19)).toInt + 1 ≤ 16 → gr1 ((oI P36 25 (ad 19)).toInt + 1) = 0 ∧ gr70 ((oI P36 25 (ad 19)).toInt + 1) = 0) ∧ (16 < (oI P36 25 (ad 19)).toInt + 1 → gr1 ((oI P36 25 (ad 19)).toInt + 1) = 1 ∧ gr70 ((oI P36 25 (ad 19)).toInt + 1) = 70))) := hr49
            obtain ⟨hr49_0, hr49_1, hr49_2, hr49_3, hr49_4⟩ := hr49
            have kpz51 : KPx True κ.2.2.2.2 P50 := kpz37.trans hr49_2
            obtain ⟨b52, rfl, tb52⟩ := hr49_3
            obtain ⟨hr49_4_0, ⟨hr49_4_1, hr49_4_2, hr49_4_3, hr49_4_4⟩⟩ := hr49_4
            refine lv_pop C.x C.b dX0_asText_88 rfl ?_
            refine lv_aload_n C.x C.b dX0_asText_89 rfl (lv_at hl 0 rfl) ?_
            refine cg_X0_1 C hP cw_9 dX0_asText_90 ?_
            refine lv_aload_n C.x C.b dX0_asText_93 rfl (lv_at hl 1 rfl) ?_
            obtain ⟨x53, ex53⟩ : ∃ z, oI P50 1 k0 = z := ⟨_, rfl⟩
            refine pg_X10_1 (v := x53) C hP (t20 (a := k0) (t := 1) (hr49_0.T (hr35_0.T ht0 (by decide)) (by decide))) ex53 cw_61 dX0_asText_94 ?_
            refine c_callVq (n := 1) (As := [.int x53]) (rest := []) C hP hS hl.1 (NJ4_append_bf812 l D cy ad A sz0 sa (tP (tP κ P36) P50) H.size (SLT H) C.f (fun q h => C.a q (Nat.le_trans hS.1 h)) (ad 19) x53 (hr49_0.T (hr35_0.T hs19 (by decide)) (by decide)) hr49_1 (vX0_asText_36 ad κ k0 x1 P36 P50 x53 ex1 c2_0 c2_1 c2_2 c2_3 hr35_3 hr49_4_0 hr49_4_1 hr49_4_2 hr49_4_3 hr49_4_4 ex53)) ⟨cw_255, cw_258, by decide +kernel⟩ ⟨cw_256, cw_257, cw_8⟩ rfl (hP.recvP (t := 12) (ci := 1) C.K (t20 (a := (ad 19)) (t := 12) (hr49_0.T (hr35_0.T hs19 (by decide)) (by decide))) (by decide) rfl rfl) rfl rfl (lv_room (Nat.le_of_ble_eq_true rfl)) ⟨Nat.le_of_ble_eq_true rfl, Nat.le_of_ble_eq_true rfl⟩ ⟨(vX0_asText_37 ad κ k0 x1 P36 P50 x53 ex1 c2_0 c2_1 c2_2 c2_3 hr35_3 hr49_4_0 hr49_4_1 hr49_4_2 hr49_4_3 hr49_4_4 ex53), (vX0_asText_38 ad κ k0 x1 P36 P50 x53 ex1 c2_0 c2_1 c2_2 c2_3 hr35_3 hr49_4_0 hr49_4_1 hr49_4_2 hr49_4_3 hr49_4_4 ex53)⟩ dX0_asText_97 (fun r54 u H locs hr54 hP hS => ?_)
            obtain ⟨P55, rfl⟩ : ∃ z, z = u := ⟨_, rfl⟩
            have hP : CH D cy ad A (tP (tP (tP κ P36) P50) P55) H := hP
            obtain ⟨hr54, hr54y⟩ := hr54
            have hr54y : ∀ s9 : List Int, SBX P50 (ad 19) s9 → SBX P55 (ad 19) (s9 ++ qDec x53.toInt) := hr54y
            have hr54 : (EX P50 P55) ∧ (PV sa P55) ∧ (KPx True P50 P55) ∧ (NN P55 12 r54) ∧ ((oI P50 25 (ad 19)).toInt < (oI P55 25 (ad 19)).toInt ∧ (oI P55 25 (ad 19)).toInt ≤ (oI P50 25 (ad 19)).toInt + 11) := hr54
            obtain ⟨hr54_0, hr54_1, hr54_2, hr54_3, hr54_4⟩ := hr54
            have kpz56 : KPx True κ.2.2.2.2 P55 := kpz51.trans hr54_2
            obtain ⟨b57, rfl, tb57⟩ := hr54_3
            obtain ⟨hr54_4_0, hr54_4_1⟩ := hr54_4
            refine lv_pop C.x C.b dX0_asText_100 rfl ?_
            refine lv_aload_n C.x C.b dX0_asText_101 rfl (lv_at hl 0 rfl) ?_
            refine cg_X0_1 C hP cw_9 dX0_asText_102 ?_
            refine c_callVq (n := 0) (As := []) (rest := []) C hP hS hl.1 (NJ4_toString_0e30d l D cy ad A sz0 sa (tP (tP (tP κ P36) P50) P55) H.size (SLT H) C.f (fun q h => C.a q (Nat.le_trans hS.1 h)) (ad 19) (hr54_0.T (hr49_0.T (hr35_0.T hs19 (by decide)) (by decide)) (by decide)) hr54_1 (vX0_asText_39 ad κ k0 x1 P36 P50 x53 P55 ex1 c2_0 c2_1 c2_2 c2_3 hr35_3 hr49_4_0 hr49_4_1 hr49_4_2 ex53 hr54_4_0 hr54_4_1)) ⟨cw_289, cw_292, by decide +kernel⟩ ⟨cw_290, cw_291, cw_8⟩ rfl (hP.recvP (t := 12) (ci := 1) C.K (t20 (a := (ad 19)) (t := 12) (hr54_0.T (hr49_0.T (hr35_0.T hs19 (by decide)) (by decide)) (by decide))) (by decide) rfl rfl) rfl rfl (lv_room (Nat.le_of_ble_eq_true rfl)) ⟨Nat.le_of_ble_eq_true rfl, Nat.le_of_ble_eq_true rfl⟩ ⟨(vX0_asText_40 ad κ k0 x1 P36 P50 x53 P55 ex1 c2_0 c2_1 c2_2 c2_3 hr35_3 hr49_4_0 hr49_4_1 hr49_4_2 hr49_4_3 hr49_4_4 ex53 hr54_4_0 hr54_4_1), (vX0_asText_41 ad κ k0 x1 P36 P50 x53 P55 ex1 c2_0 c2_1 c2_2 c2_3 hr35_3 hr49_4_0 hr49_4_1 hr49_4_2 hr49_4_3 hr49_4_4 ex53 hr54_4_0 hr54_4_1)⟩ dX0_asText_105 (fun r58 u H locs hr58 hP hS => ?_)
            obtain ⟨P59, rfl⟩ : ∃ z, z = u := ⟨_, rfl⟩
            have hP : CH D cy ad A (tP (tP (tP (tP κ P36) P50) P55) P59) H := hP
            obtain ⟨hr58, hr58y⟩ := hr58
            have hr58y : ∀ s9 : List Int, SBX P55 (ad 19) s9 → TXq P59 sa (r58.getD 0) s9 := hr58y
            have hr58 : (EX P55 P59) ∧ (PV sa P59) ∧ (KPx True P55 P59) ∧ (∃ b n, r58 = some b ∧ SL P59 sa b n ∧ ((n : Nat) : Int) = (oI P55 25 (ad 19)).toInt) := hr58
            obtain ⟨hr58_0, hr58_1, hr58_2, hr58_3⟩ := hr58
            have kpz60 : KPx True κ.2.2.2.2 P59 := kpz56.trans hr58_2
            obtain ⟨b61, nb61, rfl, tb61, leb61⟩ := hr58_3
            have hP : CH D cy ad A (tP κ P59) H := CH.cong hP rfl rfl rfl rfl rfl rfl rfl rfl rfl rfl rfl rfl rfl rfl rfl rfl rfl rfl rfl rfl rfl rfl rfl rfl rfl rfl rfl
            exact c_retq (v := (some b61)) (Or.inl ⟨_, rfl⟩) C hsz hsl P59 ⟨⟨(((hr35_0.trans hr49_0).trans hr54_0).trans hr58_0), hr58_1, kpz60, ⟨b61, nb61, rfl, tb61, (vX0_asText_42 ad κ k0 x1 P36 P50 x53 P55 nb61 ex1 c2_0 c2_1 c2_2 c2_3 hr35_3 hr49_4_0 hr49_4_1 hr49_4_2 ex53 hr54_4_0 hr54_4_1 leb61)⟩⟩, (vX0_asText_43 ad sa κ k0 x1 P36 b39 P50 x53 P55 P59 b61 nb61 ht0 hPV hs19 ex1 c2_0 c2_1 c2_2 c2_3 hr35_0 hr35_2 hr35y hr35_3 ex38 hr49_0 hr49_2 hr49y hr49_4_0 hr49_4_1 hr49_4_2 hr49_4_3 hr49_4_4 ex53 hr54_0 hr54_2 hr54y hr54_4_0 hr54_4_1 hr58_0 hr58_2 leb61 hr58y)⟩ hP hS ⟨(vX0_asText_44 ad κ k0 x1 P36 P50 x53 P55 nb61 ex1 c2_0 c2_1 c2_2 c2_3 hr35_3 hr49_4_0 hr49_4_1 hr49_4_2 hr49_4_3 hr49_4_4 ex53 hr54_4_0 hr54_4_1 leb61), (vX0_asText_45 ad κ k0 x1 P36 P50 x53 P55 nb61 ex1 c2_0 c2_1 c2_2 c2_3 hr35_3 hr49_4_0 hr49_4_1 hr49_4_2 hr49_4_3 hr49_4_4 ex53 hr54_4_0 hr54_4_1 leb61)⟩ ⟨(Nat.le_of_ble_eq_true rfl), (Nat.le_of_ble_eq_true rfl)⟩ dX0_asText_108
        · by_cases c2_4 : x1.toInt = 4
          · refine lv_tableIn (off := 55) (tgt := 59) C.x C.b dX0_asText_4 (by rw [c2_4]; decide +kernel) (by rw [c2_4]; decide +kernel) (by rw [c2_4]; decide +kernel) (by decide) ?_
            refine lv_aload_n C.x C.b dX0_asText_59 rfl (lv_at hl 1 rfl) ?_
            obtain ⟨x62, ex62, hx62⟩ := (hPV.t1 ht0).1
            refine pg_X10_3 (v := some x62) C hP (t20 (a := k0) (t := 1) ht0) ex62 cw_65 dX0_asText_60 ?_
            obtain ⟨n63, sln63, len63⟩ := hx62.sl hPV C
            have hP : CH D cy ad A (tP κ κ.2.2.2.2) s.heap := CH.cong hP rfl rfl rfl rfl rfl rfl rfl rfl rfl rfl rfl rfl rfl rfl rfl rfl rfl rfl rfl rfl rfl rfl rfl rfl rfl rfl rfl
            exact c_retq (v := (some x62)) (Or.inl ⟨_, rfl⟩) C hsz hsl κ.2.2.2.2 ⟨⟨EX.rf, hPV, KPx.rf, ⟨x62, n63, rfl, sln63, (vX0_asText_46 n63 len63)⟩⟩, (vX0_asText_47 ad sa κ k0 x1 x62 n63 ht0 hPV hs19 ex1 c2_0 c2_1 c2_2 c2_3 c2_4 ex62 len63)⟩ hP hS ⟨(Nat.le_of_ble_eq_true rfl), (Nat.le_of_ble_eq_true rfl)⟩ ⟨(Nat.le_of_ble_eq_true rfl), (Nat.le_of_ble_eq_true rfl)⟩ dX0_asText_63
          · refine lv_tableOut (tgt := 64) C.x C.b dX0_asText_4 (by omega) (by decide) ?_
            refine lv_aload_n C.x C.b dX0_asText_64 rfl (lv_at hl 0 rfl) ?_
            refine cg_X0_1 C hP cw_9 dX0_asText_65 ?_
            refine lv_iconst (v := 0) C.x C.b dX0_asText_68 (by decide +kernel) ?_
            refine c_callVv (n := 1) (As := [.int 0]) (rest := []) C hP hS hl.1 (NJ4_setLength_d00df l D cy ad A sz0 sa κ s.heap.size (SLT s.heap) C.f (fun q h => C.a q (Nat.le_trans hS.1 h)) (ad 19) (0 : Int32) hs19 hPV (vX0_asText_7  )) ⟨cw_148, cw_151, by decide +kernel⟩ ⟨cw_149, cw_150, cw_8⟩ rfl (hP.recvP (t := 12) (ci := 1) C.K (t20 (a := (ad 19)) (t := 12) hs19) (by decide) rfl rfl) rfl rfl (lv_room (Nat.le_of_ble_eq_true rfl)) ⟨Nat.le_of_ble_eq_true rfl, Nat.le_of_ble_eq_true rfl⟩ ⟨(Nat.le_of_ble_eq_true rfl), (Nat.le_of_ble_eq_true rfl)⟩ dX0_asText_69 (fun u H locs hr64 hP hS => ?_)
            obtain ⟨P65, rfl⟩ : ∃ z, z = u := ⟨_, rfl⟩
            have hP : CH D cy ad A (tP κ P65) H := hP
            obtain ⟨hr64, hr64y⟩ := hr64
            have hr64y : SBX P65 (ad 19) [] := hr64y
            have hr64 : (EX κ.2.2.2.2 P65) ∧ (PV sa P65) ∧ (KPx True κ.2.2.2.2 P65) ∧ ((oI P65 25 (ad 19)).toInt = 0) := hr64
            obtain ⟨hr64_0, hr64_1, hr64_2, hr64_3⟩ := hr64
            have kpz66 : KPx True κ.2.2.2.2 P65 := KPx.rf.trans hr64_2
            refine lv_aload_n C.x C.b dX0_asText_72 rfl (lv_at hl 1 rfl) ?_
            obtain ⟨x67, ex67⟩ : ∃ z, oR P65 1 k0 = z := ⟨_, rfl⟩
            refine pg_X10_4 (v := x67) C hP (t20 (a := k0) (t := 1) (hr64_0.T ht0 (by decide))) ex67 cw_56 dX0_asText_73 ?_
            have tx67 : NT P65 6 x67 := by rw [← ex67]; exact (hr64_1.t1 (hr64_0.T ht0 (by decide))).2.1
            cases x67 with
            | none =>
              refine lv_ifnullN (tgt := 89) C.x C.b dX0_asText_76 (by decide) ?_
              refine lv_aload_n C.x C.b dX0_asText_89 rfl (lv_at hl 0 rfl) ?_
              refine cg_X0_1 C hP cw_9 dX0_asText_90 ?_
              refine lv_aload_n C.x C.b dX0_asText_93 rfl (lv_at hl 1 rfl) ?_
              obtain ⟨x69, ex69⟩ : ∃ z, oI P65 1 k0 = z := ⟨_, rfl⟩
              refine pg_X10_1 (v := x69) C hP (t20 (a := k0) (t := 1) (hr64_0.T ht0 (by decide))) ex69 cw_61 dX0_asText_94 ?_
              refine c_callVq (n := 1) (As := [.int x69]) (rest := []) C hP hS hl.1 (NJ4_append_bf812 l D cy ad A sz0 sa (tP κ P65) H.size (SLT H) C.f (fun q h => C.a q (Nat.le_trans hS.1 h)) (ad 19) x69 (hr64_0.T hs19 (by decide)) hr64_1 (vX0_asText_48 ad κ k0 x1 P65 x69 ex1 c2_0 c2_1 c2_2 c2_3 c2_4 hr64_3 ex69)) ⟨cw_255, cw_258, by decide +kernel⟩ ⟨cw_256, cw_257, cw_8⟩ rfl (hP.recvP (t := 12) (ci := 1) C.K (t20 (a := (ad 19)) (t := 12) (hr64_0.T hs19 (by decide))) (by decide) rfl rfl) rfl rfl (lv_room (Nat.le_of_ble_eq_true rfl)) ⟨Nat.le_of_ble_eq_true rfl, Nat.le_of_ble_eq_true rfl⟩ ⟨(Nat.le_of_ble_eq_true rfl), (Nat.le_of_ble_eq_true rfl)⟩ dX0_asText_97 (fun r70 u H locs hr70 hP hS => ?_)
              obtain ⟨P71, rfl⟩ : ∃ z, z = u := ⟨_, rfl⟩
              have hP : CH D cy ad A (tP (tP κ P65) P71) H := hP
              obtain ⟨hr70, hr70y⟩ := hr70
              have hr70y : ∀ s9 : List Int, SBX P65 (ad 19) s9 → SBX P71 (ad 19) (s9 ++ qDec x69.toInt) := hr70y
              have hr70 : (EX P65 P71) ∧ (PV sa P71) ∧ (KPx True P65 P71) ∧ (NN P71 12 r70) ∧ ((oI P65 25 (ad 19)).toInt < (oI P71 25 (ad 19)).toInt ∧ (oI P71 25 (ad 19)).toInt ≤ (oI P65 25 (ad 19)).toInt + 11) := hr70
              obtain ⟨hr70_0, hr70_1, hr70_2, hr70_3, hr70_4⟩ := hr70
              have kpz72 : KPx True κ.2.2.2.2 P71 := kpz66.trans hr70_2
              obtain ⟨b73, rfl, tb73⟩ := hr70_3
              obtain ⟨hr70_4_0, hr70_4_1⟩ := hr70_4
              refine lv_pop C.x C.b dX0_asText_100 rfl ?_
              refine lv_aload_n C.x C.b dX0_asText_101 rfl (lv_at hl 0 rfl) ?_
              refine cg_X0_1 C hP cw_9 dX0_asText_102 ?_
              refine c_callVq (n := 0) (As := []) (rest := []) C hP hS hl.1 (NJ4_toString_0e30d l D cy ad A sz0 sa (tP (tP κ P65) P71) H.size (SLT H) C.f (fun q h => C.a q (Nat.le_trans hS.1 h)) (ad 19) (hr70_0.T (hr64_0.T hs19 (by decide)) (by decide)) hr70_1 (vX0_asText_49 ad κ k0 x1 P65 x69 P71 ex1 c2_0 c2_1 c2_2 c2_3 c2_4 hr64_3 ex69 hr70_4_0 hr70_4_1)) ⟨cw_289, cw_292, by decide +kernel⟩ ⟨cw_290, cw_291, cw_8⟩ rfl (hP.recvP (t := 12) (ci := 1) C.K (t20 (a := (ad 19)) (t := 12) (hr70_0.T (hr64_0.T hs19 (by decide)) (by decide))) (by decide) rfl rfl) rfl rfl (lv_room (Nat.le_of_ble_eq_true rfl)) ⟨Nat.le_of_ble_eq_true rfl, Nat.le_of_ble_eq_true rfl⟩ ⟨(Nat.le_of_ble_eq_true rfl), (vX0_asText_50 ad κ k0 x1 P65 x69 P71 ex1 c2_0 c2_1 c2_2 c2_3 c2_4 hr64_3 ex69 hr70_4_0 hr70_4_1)⟩ dX0_asText_105 (fun r74 u H locs hr74 hP hS => ?_)
              obtain ⟨P75, rfl⟩ : ∃ z, z = u := ⟨_, rfl⟩
              have hP : CH D cy ad A (tP (tP (tP κ P65) P71) P75) H := hP
              obtain ⟨hr74, hr74y⟩ := hr74
              have hr74y : ∀ s9 : List Int, SBX P71 (ad 19) s9 → TXq P75 sa (r74.getD 0) s9 := hr74y
              have hr74 : (EX P71 P75) ∧ (PV sa P75) ∧ (KPx True P71 P75) ∧ (∃ b n, r74 = some b ∧ SL P75 sa b n ∧ ((n : Nat) : Int) = (oI P71 25 (ad 19)).toInt) := hr74
              obtain ⟨hr74_0, hr74_1, hr74_2, hr74_3⟩ := hr74
              have kpz76 : KPx True κ.2.2.2.2 P75 := kpz72.trans hr74_2
              obtain ⟨b77, nb77, rfl, tb77, leb77⟩ := hr74_3
              have hP : CH D cy ad A (tP κ P75) H := CH.cong hP rfl rfl rfl rfl rfl rfl rfl rfl rfl rfl rfl rfl rfl rfl rfl rfl rfl rfl rfl rfl rfl rfl rfl rfl rfl rfl rfl
              exact c_retq (v := (some b77)) (Or.inl ⟨_, rfl⟩) C hsz hsl P75 ⟨⟨((hr64_0.trans hr70_0).trans hr74_0), hr74_1, kpz76, ⟨b77, nb77, rfl, tb77, (vX0_asText_51 ad κ k0 x1 P65 x69 P71 nb77 ex1 c2_0 c2_1 c2_2 c2_3 c2_4 hr64_3 ex69 hr70_4_0 hr70_4_1 leb77)⟩⟩, (vX0_asText_52 ad sa κ k0 x1 P65 x69 P71 P75 b77 nb77 ht0 hPV hs19 ex1 c2_0 c2_1 c2_2 c2_3 c2_4 hr64_0 hr64_2 hr64y hr64_3 ex67 ex69 hr70_0 hr70_2 hr70y hr70_4_0 hr70_4_1 hr74_0 hr74_2 leb77 hr74y)⟩ hP hS ⟨(Nat.le_of_ble_eq_true rfl), (vX0_asText_53 ad κ k0 x1 P65 x69 P71 nb77 ex1 c2_0 c2_1 c2_2 c2_3 c2_4 hr64_3 ex69 hr70_4_0 hr70_4_1 leb77)⟩ ⟨(Nat.le_of_ble_eq_true rfl), (Nat.le_of_ble_eq_true rfl)⟩ dX0_asText_108
            | some b68 =>
              have hb68 : oT P65 b68 = 6 := tx67 b68 rfl
              refine lv_ifnull C.x C.b dX0_asText_76 ?_
              refine lv_aload_n C.x C.b dX0_asText_79 rfl (lv_at hl 0 rfl) ?_
              refine cg_X0_1 C hP cw_9 dX0_asText_80 ?_
              refine lv_bipush (v := 111) C.x C.b dX0_asText_83 (by decide +kernel) ?_
              refine c_callVq (n := 1) (As := [.int 111]) (rest := []) C hP hS hl.1 (NJ4_append_cf468 l D cy ad A sz0 sa (tP κ P65) H.size (SLT H) C.f (fun q h => C.a q (Nat.le_trans hS.1 h)) (ad 19) (111 : Int32) (hr64_0.T hs19 (by decide)) hr64_1 (vX0_asText_54 ad P65 hr64_3)) ⟨cw_218, cw_221, by decide +kernel⟩ ⟨cw_219, cw_220, cw_8⟩ rfl (hP.recvP (t := 12) (ci := 1) C.K (t20 (a := (ad 19)) (t := 12) (hr64_0.T hs19 (by decide))) (by decide) rfl rfl) rfl rfl (lv_room (Nat.le_of_ble_eq_true rfl)) ⟨Nat.le_of_ble_eq_true rfl, Nat.le_of_ble_eq_true rfl⟩ ⟨(vX0_asText_55 ad P65 hr64_3), (vX0_asText_56 ad P65 hr64_3)⟩ dX0_asText_85 (fun r78 u H locs hr78 hP hS => ?_)
              obtain ⟨P79, rfl⟩ : ∃ z, z = u := ⟨_, rfl⟩
              have hP : CH D cy ad A (tP (tP κ P65) P79) H := hP
              obtain ⟨hr78, hr78y⟩ := hr78
              have hr78y : ∀ s9 : List Int, SBX P65 (ad 19) s9 → (111 : Int32).toInt < 128 → SBX P79 (ad 19) (s9 ++ [(111 : Int32).toInt]) := hr78y
              have hr78 : (EX P65 P79) ∧ (PV sa P79) ∧ (KPx True P65 P79) ∧ (NN P79 12 r78) ∧ ((oI P79 25 (ad 19)).toInt = (oI P65 25 (ad 19)).toInt + 1 ∧ (gr1 ((oI P65 25 (ad 19)).toInt + 1) ≤ 1 ∧ gr70 ((oI P65 25 (ad 19)).toInt + 1) ≤ 70 ∧ ((oI P65 25 (ad 19)).toInt + 1 ≤ 16 → gr1 ((oI P65 25 (ad 19)).toInt + 1) = 0 ∧ gr70 ((oI P65 25 (ad 19)).toInt + 1) = 0) ∧ (16 < (oI P65 25 (ad 19)).toInt + 1 → gr1 ((oI P65 25 (ad 19)).toInt + 1) = 1 ∧ gr70 ((oI P65 25 (ad 19)).toInt + 1) = 70))) := hr78
              obtain ⟨hr78_0, hr78_1, hr78_2, hr78_3, hr78_4⟩ := hr78
              have kpz80 : KPx True κ.2.2.2.2 P79 := kpz66.trans hr78_2
              obtain ⟨b81, rfl, tb81⟩ := hr78_3
              obtain ⟨hr78_4_0, ⟨hr78_4_1, hr78_4_2, hr78_4_3, hr78_4_4⟩⟩ := hr78_4
              refine lv_pop C.x C.b dX0_asText_88 rfl ?_
              refine lv_aload_n C.x C.b dX0_asText_89 rfl (lv_at hl 0 rfl) ?_
              refine cg_X0_1 C hP cw_9 dX0_asText_90 ?_
              refine lv_aload_n C.x C.b dX0_asText_93 rfl (lv_at hl 1 rfl) ?_
              obtain ⟨x82, ex82⟩ : ∃ z, oI P79 1 k0 = z := ⟨_, rfl⟩
              refine pg_X10_1 (v := x82) C hP (t20 (a := k0) (t := 1) (hr78_0.T (hr64_0.T ht0 (by decide)) (by decide))) ex82 cw_61 dX0_asText_94 ?_
              refine c_callVq (n := 1) (As := [.int x82]) (rest := []) C hP hS hl.1 (NJ4_append_bf812 l D cy ad A sz0 sa (tP (tP κ P65) P79) H.size (SLT H) C.f (fun q h => C.a q (Nat.le_trans hS.1 h)) (ad 19) x82 (hr78_0.T (hr64_0.T hs19 (by decide)) (by decide)) hr78_1 (vX0_asText_57 ad κ k0 x1 P65 P79 x82 ex1 c2_0 c2_1 c2_2 c2_3 c2_4 hr64_3 hr78_4_0 hr78_4_1 hr78_4_2 hr78_4_3 hr78_4_4 ex82)) ⟨cw_255, cw_258, by decide +kernel⟩ ⟨cw_256, cw_257, cw_8⟩ rfl (hP.recvP (t := 12) (ci := 1) C.K (t20 (a := (ad 19)) (t := 12) (hr78_0.T (hr64_0.T hs19 (by decide)) (by decide))) (by decide) rfl rfl) rfl rfl (lv_room (Nat.le_of_ble_eq_true rfl)) ⟨Nat.le_of_ble_eq_true rfl, Nat.le_of_ble_eq_true rfl⟩ ⟨(vX0_asText_58 ad κ k0 x1 P65 P79 x82 ex1 c2_0 c2_1 c2_2 c2_3 c2_4 hr64_3 hr78_4_0 hr78_4_1 hr78_4_2 hr78_4_3 hr78_4_4 ex82), (vX0_asText_59 ad κ k0 x1 P65 P79 x82 ex1 c2_0 c2_1 c2_2 c2_3 c2_4 hr64_3 hr78_4_0 hr78_4_1 hr78_4_2 hr78_4_3 hr78_4_4 ex82)⟩ dX0_asText_97 (fun r83 u H locs hr83 hP hS => ?_)
              obtain ⟨P84, rfl⟩ : ∃ z, z = u := ⟨_, rfl⟩
              have hP : CH D cy ad A (tP (tP (tP κ P65) P79) P84) H := hP
              obtain ⟨hr83, hr83y⟩ := hr83
              have hr83y : ∀ s9 : List Int, SBX P79 (ad 19) s9 → SBX P84 (ad 19) (s9 ++ qDec x82.toInt) := hr83y
              have hr83 : (EX P79 P84) ∧ (PV sa P84) ∧ (KPx True P79 P84) ∧ (NN P84 12 r83) ∧ ((oI P79 25 (ad 19)).toInt < (oI P84 25 (ad 19)).toInt ∧ (oI P84 25 (ad 19)).toInt ≤ (oI P79 25 (ad 19)).toInt + 11) := hr83
              obtain ⟨hr83_0, hr83_1, hr83_2, hr83_3, hr83_4⟩ := hr83
              have kpz85 : KPx True κ.2.2.2.2 P84 := kpz80.trans hr83_2
              obtain ⟨b86, rfl, tb86⟩ := hr83_3
              obtain ⟨hr83_4_0, hr83_4_1⟩ := hr83_4
              refine lv_pop C.x C.b dX0_asText_100 rfl ?_
              refine lv_aload_n C.x C.b dX0_asText_101 rfl (lv_at hl 0 rfl) ?_
              refine cg_X0_1 C hP cw_9 dX0_asText_102 ?_
              refine c_callVq (n := 0) (As := []) (rest := []) C hP hS hl.1 (NJ4_toString_0e30d l D cy ad A sz0 sa (tP (tP (tP κ P65) P79) P84) H.size (SLT H) C.f (fun q h => C.a q (Nat.le_trans hS.1 h)) (ad 19) (hr83_0.T (hr78_0.T (hr64_0.T hs19 (by decide)) (by decide)) (by decide)) hr83_1 (vX0_asText_60 ad κ k0 x1 P65 P79 x82 P84 ex1 c2_0 c2_1 c2_2 c2_3 c2_4 hr64_3 hr78_4_0 hr78_4_1 hr78_4_2 ex82 hr83_4_0 hr83_4_1)) ⟨cw_289, cw_292, by decide +kernel⟩ ⟨cw_290, cw_291, cw_8⟩ rfl (hP.recvP (t := 12) (ci := 1) C.K (t20 (a := (ad 19)) (t := 12) (hr83_0.T (hr78_0.T (hr64_0.T hs19 (by decide)) (by decide)) (by decide))) (by decide) rfl rfl) rfl rfl (lv_room (Nat.le_of_ble_eq_true rfl)) ⟨Nat.le_of_ble_eq_true rfl, Nat.le_of_ble_eq_true rfl⟩ ⟨(vX0_asText_61 ad κ k0 x1 P65 P79 x82 P84 ex1 c2_0 c2_1 c2_2 c2_3 c2_4 hr64_3 hr78_4_0 hr78_4_1 hr78_4_2 hr78_4_3 hr78_4_4 ex82 hr83_4_0 hr83_4_1), (vX0_asText_62 ad κ k0 x1 P65 P79 x82 P84 ex1 c2_0 c2_1 c2_2 c2_3 c2_4 hr64_3 hr78_4_0 hr78_4_1 hr78_4_2 hr78_4_3 hr78_4_4 ex82 hr83_4_0 hr83_4_1)⟩ dX0_asText_105 (fun r87 u H locs hr87 hP hS => ?_)
              obtain ⟨P88, rfl⟩ : ∃ z, z = u := ⟨_, rfl⟩
              have hP : CH D cy ad A (tP (tP (tP (tP κ P65) P79) P84) P88) H := hP
              obtain ⟨hr87, hr87y⟩ := hr87
              have hr87y : ∀ s9 : List Int, SBX P84 (ad 19) s9 → TXq P88 sa (r87.getD 0) s9 := hr87y
              have hr87 : (EX P84 P88) ∧ (PV sa P88) ∧ (KPx True P84 P88) ∧ (∃ b n, r87 = some b ∧ SL P88 sa b n ∧ ((n : Nat) : Int) = (oI P84 25 (ad 19)).toInt) := hr87
              obtain ⟨hr87_0, hr87_1, hr87_2, hr87_3⟩ := hr87
              have kpz89 : KPx True κ.2.2.2.2 P88 := kpz85.trans hr87_2
              obtain ⟨b90, nb90, rfl, tb90, leb90⟩ := hr87_3
              have hP : CH D cy ad A (tP κ P88) H := CH.cong hP rfl rfl rfl rfl rfl rfl rfl rfl rfl rfl rfl rfl rfl rfl rfl rfl rfl rfl rfl rfl rfl rfl rfl rfl rfl rfl rfl
              exact c_retq (v := (some b90)) (Or.inl ⟨_, rfl⟩) C hsz hsl P88 ⟨⟨(((hr64_0.trans hr78_0).trans hr83_0).trans hr87_0), hr87_1, kpz89, ⟨b90, nb90, rfl, tb90, (vX0_asText_63 ad κ k0 x1 P65 P79 x82 P84 nb90 ex1 c2_0 c2_1 c2_2 c2_3 c2_4 hr64_3 hr78_4_0 hr78_4_1 hr78_4_2 ex82 hr83_4_0 hr83_4_1 leb90)⟩⟩, (vX0_asText_64 ad sa κ k0 x1 P65 b68 P79 x82 P84 P88 b90 nb90 ht0 hPV hs19 ex1 c2_0 c2_1 c2_2 c2_3 c2_4 hr64_0 hr64_2 hr64y hr64_3 ex67 hr78_0 hr78_2 hr78y hr78_4_0 hr78_4_1 hr78_4_2 hr78_4_3 hr78_4_4 ex82 hr83_0 hr83_2 hr83y hr83_4_0 hr83_4_1 hr87_0 hr87_2 leb90 hr87y)⟩ hP hS ⟨(vX0_asText_65 ad κ k0 x1 P65 P79 x82 P84 nb90 ex1 c2_0 c2_1 c2_2 c2_3 c2_4 hr64_3 hr78_4_0 hr78_4_1 hr78_4_2 hr78_4_3 hr78_4_4 ex82 hr83_4_0 hr83_4_1 leb90), (vX0_asText_66 ad κ k0 x1 P65 P79 x82 P84 nb90 ex1 c2_0 c2_1 c2_2 c2_3 c2_4 hr64_3 hr78_4_0 hr78_4_1 hr78_4_2 hr78_4_3 hr78_4_4 ex82 hr83_4_0 hr83_4_1 leb90)⟩ ⟨(Nat.le_of_ble_eq_true rfl), (Nat.le_of_ble_eq_true rfl)⟩ dX0_asText_108

-- nw@22 @22
theorem vX0_join_1 (nb4 : Nat) (nb8 : Nat) (r9 : Int32) (r10 : Int32) (x11 : Int32) (leb4 : nb4 ≤ 40) (leb8 : nb8 ≤ 40) (hr9 : r9.toInt = ((nb4 : Nat) : Int)) (hr10 : r10.toInt = ((nb8 : Nat) : Int)) (ex11 : x11 = r9 + r10) : x11.toInt = r9.toInt + r10.toInt := by
  rw [ex11, z_add (by omega) (by omega)]; first | done | omega
-- pre:J4_setLength_d00df@35 @35
theorem vX0_join_2   : (0 : Int32).toInt = 0 := by
  have q0 : (0 : Int32).toInt = 0 := by decide +kernel
  first | assumption | omega | (subst_vars; omega) | trivial
-- pre:J4_append_15ec4@43 @43
theorem vX0_join_3 (ad : Nat → Nat) (nb4 : Nat) (nb8 : Nat) (r9 : Int32) (r10 : Int32) (x11 : Int32) (P14 : PL) (leb4 : nb4 ≤ 40) (leb8 : nb8 ≤ 40) (hr9 : r9.toInt = ((nb4 : Nat) : Int)) (hr10 : r10.toInt = ((nb8 : Nat) : Int)) (ex11 : x11 = r9 + r10) (tx11 : x11.toInt = r9.toInt + r10.toInt) (c12 : x11.toInt ≤ 16) (hr13_3 : (oI P14 25 (ad 19)).toInt = 0) : (oI P14 25 (ad 19)).toInt + ((nb4 : Nat) : Int) ≤ 16 := by
  first | assumption | omega | (subst_vars; omega) | trivial
-- pre:J4_append_15ec4@53 @53
theorem vX0_join_4 (ad : Nat → Nat) (nb4 : Nat) (nb8 : Nat) (r9 : Int32) (r10 : Int32) (x11 : Int32) (P14 : PL) (P17 : PL) (leb4 : nb4 ≤ 40) (leb8 : nb8 ≤ 40) (hr9 : r9.toInt = ((nb4 : Nat) : Int)) (hr10 : r10.toInt = ((nb8 : Nat) : Int)) (ex11 : x11 = r9 + r10) (tx11 : x11.toInt = r9.toInt + r10.toInt) (c12 : x11.toInt ≤ 16) (hr13_3 : (oI P14 25 (ad 19)).toInt = 0) (hr16_4 : (oI P17 25 (ad 19)).toInt = (oI P14 25 (ad 19)).toInt + ((nb4 : Nat) : Int)) : (oI P17 25 (ad 19)).toInt + ((nb8 : Nat) : Int) ≤ 16 := by
  first | assumption | omega | (subst_vars; omega) | trivial
-- pre:J4_toString_0e30d@61 @61
theorem vX0_join_5 (ad : Nat → Nat) (nb4 : Nat) (nb8 : Nat) (r9 : Int32) (r10 : Int32) (x11 : Int32) (P14 : PL) (P17 : PL) (P21 : PL) (leb4 : nb4 ≤ 40) (leb8 : nb8 ≤ 40) (hr9 : r9.toInt = ((nb4 : Nat) : Int)) (hr10 : r10.toInt = ((nb8 : Nat) : Int)) (ex11 : x11 = r9 + r10) (tx11 : x11.toInt = r9.toInt + r10.toInt) (c12 : x11.toInt ≤ 16) (hr13_3 : (oI P14 25 (ad 19)).toInt = 0) (hr16_4 : (oI P17 25 (ad 19)).toInt = (oI P14 25 (ad 19)).toInt + ((nb4 : Nat) : Int)) (hr20_4 : (oI P21 25 (ad 19)).toInt = (oI P17 25 (ad 19)).toInt + ((nb8 : Nat) : Int)) : (oI P21 25 (ad 19)).toInt ≤ 40 := by
  first | assumption | omega | (subst_vars; omega) | trivial
-- room @61
theorem vX0_join_6 (ad : Nat → Nat) (nb4 : Nat) (nb8 : Nat) (r9 : Int32) (r10 : Int32) (x11 : Int32) (P14 : PL) (P17 : PL) (P21 : PL) (leb4 : nb4 ≤ 40) (leb8 : nb8 ≤ 40) (hr9 : r9.toInt = ((nb4 : Nat) : Int)) (hr10 : r10.toInt = ((nb8 : Nat) : Int)) (ex11 : x11 = r9 + r10) (tx11 : x11.toInt = r9.toInt + r10.toInt) (c12 : x11.toInt ≤ 16) (hr13_3 : (oI P14 25 (ad 19)).toInt = 0) (hr16_4 : (oI P17 25 (ad 19)).toInt = (oI P14 25 (ad 19)).toInt + ((nb4 : Nat) : Int)) (hr20_4 : (oI P21 25 (ad 19)).toInt = (oI P17 25 (ad 19)).toInt + ((nb8 : Nat) : Int)) : 0 + 16 + 16 + 0 + 0 + 0 + 0 + 0 + (4 + (oI P21 25 (ad 19)).toInt.toNat) ≤ 57 := by
  first | assumption | omega | (subst_vars; omega) | trivial
-- room @64
theorem vX0_join_7 (ad : Nat → Nat) (nb4 : Nat) (nb8 : Nat) (r9 : Int32) (r10 : Int32) (x11 : Int32) (P14 : PL) (P17 : PL) (P21 : PL) (nb27 : Nat) (leb4 : nb4 ≤ 40) (leb8 : nb8 ≤ 40) (hr9 : r9.toInt = ((nb4 : Nat) : Int)) (hr10 : r10.toInt = ((nb8 : Nat) : Int)) (ex11 : x11 = r9 + r10) (tx11 : x11.toInt = r9.toInt + r10.toInt) (c12 : x11.toInt ≤ 16) (hr13_3 : (oI P14 25 (ad 19)).toInt = 0) (hr16_4 : (oI P17 25 (ad 19)).toInt = (oI P14 25 (ad 19)).toInt + ((nb4 : Nat) : Int)) (hr20_4 : (oI P21 25 (ad 19)).toInt = (oI P17 25 (ad 19)).toInt + ((nb8 : Nat) : Int)) (leb27 : ((nb27 : Nat) : Int) = (oI P21 25 (ad 19)).toInt) : 0 + 16 + 16 + 0 + 0 + 0 + 0 + 0 + (4 + (oI P21 25 (ad 19)).toInt.toNat) + 5 ≤ 57 := by
  first | assumption | omega | (subst_vars; omega) | trivial
-- post2 @67
theorem vX0_join_8 (ad : Nat → Nat) (sa : Nat → Nat) (κ : KS) (k0 : Nat) (k1 : Nat) (P2 : PL) (b4 : Nat) (nb4 : Nat) (P6 : PL) (b8 : Nat) (nb8 : Nat) (r9 : Int32) (r10 : Int32) (x11 : Int32) (P14 : PL) (P17 : PL) (P21 : PL) (P25 : PL) (b27 : Nat) (nb27 : Nat) (P29 : PL) (b31 : Nat) (ht0 : oT κ.2.2.2.2 k0 = 1) (ht1 : oT κ.2.2.2.2 k1 = 1) (hPV : PV sa κ.2.2.2.2) (hs19 : oT κ.2.2.2.2 (ad 19) = 12) (hr1_0 : EX κ.2.2.2.2 P2) (hr1_2 : KPx True κ.2.2.2.2 P2) (leb4 : nb4 ≤ 40) (hr1y : ∀ (q7 q8 : Nat → Option Nat) (v : QV), VALq κ.2.2.2.2 sa q7 q8 k0 v → TXq P2 sa b4 (qSpl v)) (hr5_0 : EX P2 P6) (hr5_2 : KPx True P2 P6) (leb8 : nb8 ≤ 40) (hr5y : ∀ (q7 q8 : Nat → Option Nat) (v : QV), VALq P2 sa q7 q8 k1 v → TXq P6 sa b8 (qSpl v)) (hr9y : ∀ s9 : List Int, TXq P6 sa b4 s9 → r9.toInt = (s9.length : Int)) (hr9 : r9.toInt = ((nb4 : Nat) : Int)) (hr10y : ∀ s9 : List Int, TXq P6 sa b8 s9 → r10.toInt = (s9.length : Int)) (hr10 : r10.toInt = ((nb8 : Nat) : Int)) (ex11 : x11 = r9 + r10) (tx11 : x11.toInt = r9.toInt + r10.toInt) (c12 : x11.toInt ≤ 16) (hr13_0 : EX P6 P14) (hr13_2 : KPx True P6 P14) (hr13y : SBX P14 (ad 19) []) (hr13_3 : (oI P14 25 (ad 19)).toInt = 0) (hr16_0 : EX P14 P17) (hr16_2 : KPx True P14 P17) (hr16y : ∀ s9 t9 : List Int, SBX P14 (ad 19) s9 → TXq P14 sa b4 t9 → SBX P17 (ad 19) (s9 ++ t9)) (hr16_4 : (oI P17 25 (ad 19)).toInt = (oI P14 25 (ad 19)).toInt + ((nb4 : Nat) : Int)) (hr20_0 : EX P17 P21) (hr20_2 : KPx True P17 P21) (hr20y : ∀ s9 t9 : List Int, SBX P17 (ad 19) s9 → TXq P17 sa b8 t9 → SBX P21 (ad 19) (s9 ++ t9)) (hr20_4 : (oI P21 25 (ad 19)).toInt = (oI P17 25 (ad 19)).toInt + ((nb8 : Nat) : Int)) (hr24_0 : EX P21 P25) (hr24_2 : KPx True P21 P25) (leb27 : ((nb27 : Nat) : Int) = (oI P21 25 (ad 19)).toInt) (hr24y : ∀ s9 : List Int, SBX P21 (ad 19) s9 → TXq P25 sa b27 s9) (hr28_0 : EX P25 P29) (hr28_2 : KPx True P25 P29) (hr28y : ∀ (q7 q8 : Nat → Option Nat) (s9 : List Int), TXq P25 sa b27 s9 → s9.length ≤ 16 → CHS s9 → VALq P29 sa q7 q8 b31 (qText s9)) : ∀ (q7 q8 : Nat → Option Nat) (v w : QV), VALq κ.2.2.2.2 sa q7 q8 k0 v → VALq κ.2.2.2.2 sa q7 q8 k1 w → ((some b31) = (none : Option Nat) → ¬ (qSpl v ++ qSpl w).length ≤ 16) ∧ (∀ x, (some b31) = some x → (qSpl v ++ qSpl w).length ≤ 16 ∧ VALq P29 sa q7 q8 x (qText (qSpl v ++ qSpl w))) := by
  intro q7 q8 v w h g
  have A := hr1y q7 q8 v h
  have B := hr5y q7 q8 w (g.ex9 hr1_0 hr1_2)
  have A6 := A.ex9 hr5_0 hr5_2
  have La := hr9y _ A6
  have Lb := hr10y _ B
  have S1 := hr16y _ _ hr13y (A6.ex9 hr13_0 hr13_2)
  have T := hr24y _ (hr20y _ _ S1 ((B.ex9 hr13_0 hr13_2).ex9 hr16_0 hr16_2))
  rw [List.nil_append] at T
  have l16 : (qSpl v ++ qSpl w).length ≤ 16 := by rw [List.length_append]; omega
  refine ⟨fun e => (by cases e), fun x e => ?_⟩
  obtain rfl := Option.some.inj e
  exact ⟨l16, hr28y q7 q8 _ T l16 (fun c hc => by
    rcases List.mem_append.mp hc with z | z
    · exact (QCN.spl9 h.1).2 c z
    · exact (QCN.spl9 g.1).2 c z)⟩
-- post2 @29
theorem vX0_join_9 (ad : Nat → Nat) (sa : Nat → Nat) (κ : KS) (k0 : Nat) (k1 : Nat) (P2 : PL) (b4 : Nat) (nb4 : Nat) (P6 : PL) (b8 : Nat) (nb8 : Nat) (r9 : Int32) (r10 : Int32) (x11 : Int32) (ht0 : oT κ.2.2.2.2 k0 = 1) (ht1 : oT κ.2.2.2.2 k1 = 1) (hPV : PV sa κ.2.2.2.2) (hs19 : oT κ.2.2.2.2 (ad 19) = 12) (hr1_0 : EX κ.2.2.2.2 P2) (hr1_2 : KPx True κ.2.2.2.2 P2) (leb4 : nb4 ≤ 40) (hr1y : ∀ (q7 q8 : Nat → Option Nat) (v : QV), VALq κ.2.2.2.2 sa q7 q8 k0 v → TXq P2 sa b4 (qSpl v)) (hr5_0 : EX P2 P6) (hr5_2 : KPx True P2 P6) (leb8 : nb8 ≤ 40) (hr5y : ∀ (q7 q8 : Nat → Option Nat) (v : QV), VALq P2 sa q7 q8 k1 v → TXq P6 sa b8 (qSpl v)) (hr9y : ∀ s9 : List Int, TXq P6 sa b4 s9 → r9.toInt = (s9.length : Int)) (hr9 : r9.toInt = ((nb4 : Nat) : Int)) (hr10y : ∀ s9 : List Int, TXq P6 sa b8 s9 → r10.toInt = (s9.length : Int)) (hr10 : r10.toInt = ((nb8 : Nat) : Int)) (ex11 : x11 = r9 + r10) (tx11 : x11.toInt = r9.toInt + r10.toInt) (c12 : 16 < x11.toInt) : ∀ (q7 q8 : Nat → Option Nat) (v w : QV), VALq κ.2.2.2.2 sa q7 q8 k0 v → VALq κ.2.2.2.2 sa q7 q8 k1 w → (none = (none : Option Nat) → ¬ (qSpl v ++ qSpl w).length ≤ 16) ∧ (∀ x, none = some x → (qSpl v ++ qSpl w).length ≤ 16 ∧ VALq P6 sa q7 q8 x (qText (qSpl v ++ qSpl w))) := by
  intro q7 q8 v w h g
  have A := hr1y q7 q8 v h
  have B := hr5y q7 q8 w (g.ex9 hr1_0 hr1_2)
  have A6 := A.ex9 hr5_0 hr5_2
  have La := hr9y _ A6
  have Lb := hr10y _ B
  exact ⟨fun _ => by rw [List.length_append]; omega, fun x e => (by cases e)⟩
set_option maxHeartbeats 4000000 in
set_option maxRecDepth 100000 in
theorem NX0_join (l : Launch) (D : va_G) (cy : Nat → ClassId) (ad : Nat → Nat) (A : Nat → Prop) (sz0 : Nat) (sa : Nat → Nat)  (κ : KS) (sz sl : Nat) (hAF : ∀ q, A q → Fr sz0 q) (hAn : ∀ q : Nat, sz ≤ q → A q) (k0 : Nat) (k1 : Nat) (ht0 : oT κ.2.2.2.2 k0 = 1) (ht1 : oT κ.2.2.2.2 k1 = 1) (hPV : PV sa κ.2.2.2.2) (hs19 : oT κ.2.2.2.2 (ad 19) = 12) : Met l yX0_join (Cond.code yX0_join cX0_join 5 (some (.object "PhraseDesk$Value")) :: GWc) ({ frames := 7, cells := 7, slots := 57, locals := 172 }) (PcC D cy ad A sz0 sa [.ref (ad 4), .ref k0, .ref k1] κ sz sl) (va_Qq (fun (r : Option Nat) (u : PL) => ((EX κ.2.2.2.2 u) ∧ (PV sa u) ∧ (KPx True κ.2.2.2.2 u) ∧ (NT u 1 r)) ∧ (∀ (q7 q8 : Nat → Option Nat) (v w : QV), VALq κ.2.2.2.2 sa q7 q8 k0 v → VALq κ.2.2.2.2 sa q7 q8 k1 w → (r = (none : Option Nat) → ¬ (qSpl v ++ qSpl w).length ≤ 16) ∧ (∀ x, r = some x → (qSpl v ++ qSpl w).length ≤ 16 ∧ VALq u sa q7 q8 x (qText (qSpl v ++ qSpl w))))) (fun (u : PL) (t : State) => Bx D cy ad A sz sl (tP κ u) (7) (57) t) A) (7) (57) A := by
  refine CM_of (loc0 := [(0, .ref (ad 4)), (1, .ref k0), (2, .ref k1)]) (own := RX0) (nm := "join") (by decide) rfl rfl rfl (Nat.le_of_ble_eq_true rfl) hAF hAn ?_
  intro p e s m below meth c ls hsz hsl C hP hS hl
  refine lv_aload_n C.x C.b dX0_join_0 rfl (lv_at hl 0 rfl) ?_
  refine lv_aload_n C.x C.b dX0_join_1 rfl (lv_at hl 1 rfl) ?_
  refine c_callVq (n := 1) (As := [.ref k0]) (rest := []) C hP hS hl.1 (NX0_asText l D cy ad A sz0 sa κ s.heap.size (SLT s.heap) C.f (fun q h => C.a q (Nat.le_trans hS.1 h)) k0 ht0 hPV hs19) ⟨cw_144, cw_147, by decide +kernel⟩ ⟨cw_145, cw_146, cw_34⟩ rfl (hP.recvS (k := 4) (ci := 2) C.K rfl rfl) rfl rfl (lv_room (Nat.le_of_ble_eq_true rfl)) ⟨Nat.le_of_ble_eq_true rfl, Nat.le_of_ble_eq_true rfl⟩ ⟨(Nat.le_of_ble_eq_true rfl), (Nat.le_of_ble_eq_true rfl)⟩ dX0_join_2 (fun r1 u H locs hr1 hP hS => ?_)
  obtain ⟨P2, rfl⟩ : ∃ z, z = u := ⟨_, rfl⟩
  have hP : CH D cy ad A (tP κ P2) H := hP
  obtain ⟨hr1, hr1y⟩ := hr1
  have hr1y : ∀ (q7 q8 : Nat → Option Nat) (v : QV), VALq κ.2.2.2.2 sa q7 q8 k0 v → TXq P2 sa (r1.getD 0) (qSpl v) := hr1y
  have hr1 : (EX κ.2.2.2.2 P2) ∧ (PV sa P2) ∧ (KPx True κ.2.2.2.2 P2) ∧ (∃ b n, r1 = some b ∧ SL P2 sa b n ∧ n ≤ 40) := hr1
  obtain ⟨hr1_0, hr1_1, hr1_2, hr1_3⟩ := hr1
  have kpz3 : KPx True κ.2.2.2.2 P2 := KPx.rf.trans hr1_2
  obtain ⟨b4, nb4, rfl, tb4, leb4⟩ := hr1_3
  refine lv_astore_n (lv' := [(3, .ref b4), (0, .ref (ad 4)), (1, .ref k0), (2, .ref k1)]) C.x C.b dX0_join_5 rfl hl (by decide) rfl (fun ls hl => ?_)
  refine lv_aload_n C.x C.b dX0_join_6 rfl (lv_at hl 1 rfl) ?_
  refine lv_aload_n C.x C.b dX0_join_7 rfl (lv_at hl 3 rfl) ?_
  refine c_callVq (n := 1) (As := [.ref k1]) (rest := []) C hP hS hl.1 (NX0_asText l D cy ad A sz0 sa (tP κ P2) H.size (SLT H) C.f (fun q h => C.a q (Nat.le_trans hS.1 h)) k1 (hr1_0.T ht1 (by decide)) hr1_1 (hr1_0.T hs19 (by decide))) ⟨cw_144, cw_147, by decide +kernel⟩ ⟨cw_145, cw_146, cw_34⟩ rfl (hP.recvS (k := 4) (ci := 2) C.K rfl rfl) rfl rfl (lv_room (Nat.le_of_ble_eq_true rfl)) ⟨Nat.le_of_ble_eq_true rfl, Nat.le_of_ble_eq_true rfl⟩ ⟨(Nat.le_of_ble_eq_true rfl), (Nat.le_of_ble_eq_true rfl)⟩ dX0_join_8 (fun r5 u H locs hr5 hP hS => ?_)
  obtain ⟨P6, rfl⟩ : ∃ z, z = u := ⟨_, rfl⟩
  have hP : CH D cy ad A (tP (tP κ P2) P6) H := hP
  obtain ⟨hr5, hr5y⟩ := hr5
  have hr5y : ∀ (q7 q8 : Nat → Option Nat) (v : QV), VALq P2 sa q7 q8 k1 v → TXq P6 sa (r5.getD 0) (qSpl v) := hr5y
  have hr5 : (EX P2 P6) ∧ (PV sa P6) ∧ (KPx True P2 P6) ∧ (∃ b n, r5 = some b ∧ SL P6 sa b n ∧ n ≤ 40) := hr5
  obtain ⟨hr5_0, hr5_1, hr5_2, hr5_3⟩ := hr5
  have kpz7 : KPx True κ.2.2.2.2 P6 := kpz3.trans hr5_2
  obtain ⟨b8, nb8, rfl, tb8, leb8⟩ := hr5_3
  refine lv_astore (lv' := [(4, .ref b8), (3, .ref b4), (0, .ref (ad 4)), (1, .ref k0), (2, .ref k1)]) C.x C.b dX0_join_11 hl (by decide) rfl (fun ls hl => ?_)
  refine lv_aload_n C.x C.b dX0_join_13 rfl (lv_at hl 1 rfl) ?_
  refine c_callVi (n := 0) (As := []) (rest := []) C hP hS hl.1 (NJ0_length_8abf5 l D cy ad A sz0 sa (tP (tP κ P2) P6) H.size (SLT H) C.f (fun q h => C.a q (Nat.le_trans hS.1 h)) b4 nb4 (hr5_0.SL tb4) hr5_1) ⟨cw_98, cw_101, by decide +kernel⟩ ⟨cw_99, cw_100, cw_70⟩ rfl (c_srecv C hP hS (hr5_0.S tb4.sok)) rfl rfl (lv_room (Nat.le_of_ble_eq_true rfl)) ⟨Nat.le_of_ble_eq_true rfl, Nat.le_of_ble_eq_true rfl⟩ ⟨(Nat.le_of_ble_eq_true rfl), (Nat.le_of_ble_eq_true rfl)⟩ dX0_join_14 (fun r9 u H locs hr9 hP hS => ?_)
  obtain ⟨hr9, hr9y⟩ := hr9
  have hr9y : ∀ s9 : List Int, TXq P6 sa b4 s9 → r9.toInt = (s9.length : Int) := hr9y
  have hr9 : (r9.toInt = ((nb4 : Nat) : Int)) := hr9
  refine lv_aload C.x C.b dX0_join_17 (lv_at hl 0 rfl) ?_
  refine c_callVi (n := 0) (As := []) (rest := [.int r9]) C hP hS hl.1 (NJ0_length_8abf5 l D cy ad A sz0 sa (tP (tP κ P2) P6) H.size (SLT H) C.f (fun q h => C.a q (Nat.le_trans hS.1 h)) b8 nb8 tb8 hr5_1) ⟨cw_98, cw_101, by decide +kernel⟩ ⟨cw_99, cw_100, cw_70⟩ rfl (c_srecv C hP hS tb8.sok) rfl rfl (lv_room (Nat.le_of_ble_eq_true rfl)) ⟨Nat.le_of_ble_eq_true rfl, Nat.le_of_ble_eq_true rfl⟩ ⟨(Nat.le_of_ble_eq_true rfl), (Nat.le_of_ble_eq_true rfl)⟩ dX0_join_19 (fun r10 u H locs hr10 hP hS => ?_)
  obtain ⟨hr10, hr10y⟩ := hr10
  have hr10y : ∀ s9 : List Int, TXq P6 sa b8 s9 → r10.toInt = (s9.length : Int) := hr10y
  have hr10 : (r10.toInt = ((nb8 : Nat) : Int)) := hr10
  refine lv_iadd C.x C.b dX0_join_22 ?_
  refine lv_topi (fun x11 ex11 => ?_)
  have tx11 : x11.toInt = r9.toInt + r10.toInt := (vX0_join_1 nb4 nb8 r9 r10 x11 leb4 leb8 hr9 hr10 ex11)
  refine lv_bipush (v := 16) C.x C.b dX0_join_23 (by decide +kernel) ?_
  refine lv_icmp_le (tgt := 30) C.x C.b dX0_join_25 (by decide) (fun c12 => ?_) (fun c12 => ?_)
  · have c12 : x11.toInt ≤ 16 := by have h := z_le c12; rw [show (16 : Int32).toInt = 16 from by decide +kernel] at h; exact h
    refine lv_aload_n C.x C.b dX0_join_30 rfl (lv_at hl 2 rfl) ?_
    refine cg_X0_1 C hP cw_9 dX0_join_31 ?_
    refine lv_iconst (v := 0) C.x C.b dX0_join_34 (by decide +kernel) ?_
    refine c_callVv (n := 1) (As := [.int 0]) (rest := []) C hP hS hl.1 (NJ4_setLength_d00df l D cy ad A sz0 sa (tP (tP κ P2) P6) H.size (SLT H) C.f (fun q h => C.a q (Nat.le_trans hS.1 h)) (ad 19) (0 : Int32) (hr5_0.T (hr1_0.T hs19 (by decide)) (by decide)) hr5_1 (vX0_join_2  )) ⟨cw_148, cw_151, by decide +kernel⟩ ⟨cw_149, cw_150, cw_8⟩ rfl (hP.recvP (t := 12) (ci := 1) C.K (t20 (a := (ad 19)) (t := 12) (hr5_0.T (hr1_0.T hs19 (by decide)) (by decide))) (by decide) rfl rfl) rfl rfl (lv_room (Nat.le_of_ble_eq_true rfl)) ⟨Nat.le_of_ble_eq_true rfl, Nat.le_of_ble_eq_true rfl⟩ ⟨(Nat.le_of_ble_eq_true rfl), (Nat.le_of_ble_eq_true rfl)⟩ dX0_join_35 (fun u H locs hr13 hP hS => ?_)
    obtain ⟨P14, rfl⟩ : ∃ z, z = u := ⟨_, rfl⟩
    have hP : CH D cy ad A (tP (tP (tP κ P2) P6) P14) H := hP
    obtain ⟨hr13, hr13y⟩ := hr13
    have hr13y : SBX P14 (ad 19) [] := hr13y
    have hr13 : (EX P6 P14) ∧ (PV sa P14) ∧ (KPx True P6 P14) ∧ ((oI P14 25 (ad 19)).toInt = 0) := hr13
    obtain ⟨hr13_0, hr13_1, hr13_2, hr13_3⟩ := hr13
    have kpz15 : KPx True κ.2.2.2.2 P14 := kpz7.trans hr13_2
    refine lv_aload_n C.x C.b dX0_join_38 rfl (lv_at hl 2 rfl) ?_
    refine cg_X0_1 C hP cw_9 dX0_join_39 ?_
    refine lv_aload_n C.x C.b dX0_join_42 rfl (lv_at hl 1 rfl) ?_
    refine c_callVq (n := 1) (As := [.ref b4]) (rest := []) C hP hS hl.1 (NJ4_append_15ec4 l D cy ad A sz0 sa (tP (tP (tP κ P2) P6) P14) H.size (SLT H) C.f (fun q h => C.a q (Nat.le_trans hS.1 h)) (ad 19) b4 nb4 (hr13_0.T (hr5_0.T (hr1_0.T hs19 (by decide)) (by decide)) (by decide)) (hr13_0.SL (hr5_0.SL tb4)) hr13_1 (vX0_join_3 ad nb4 nb8 r9 r10 x11 P14 leb4 leb8 hr9 hr10 ex11 tx11 c12 hr13_3)) ⟨cw_342, cw_345, by decide +kernel⟩ ⟨cw_343, cw_344, cw_8⟩ rfl (hP.recvP (t := 12) (ci := 1) C.K (t20 (a := (ad 19)) (t := 12) (hr13_0.T (hr5_0.T (hr1_0.T hs19 (by decide)) (by decide)) (by decide))) (by decide) rfl rfl) rfl rfl (lv_room (Nat.le_of_ble_eq_true rfl)) ⟨Nat.le_of_ble_eq_true rfl, Nat.le_of_ble_eq_true rfl⟩ ⟨(Nat.le_of_ble_eq_true rfl), (Nat.le_of_ble_eq_true rfl)⟩ dX0_join_43 (fun r16 u H locs hr16 hP hS => ?_)
    obtain ⟨P17, rfl⟩ : ∃ z, z = u := ⟨_, rfl⟩
    have hP : CH D cy ad A (tP (tP (tP (tP κ P2) P6) P14) P17) H := hP
    obtain ⟨hr16, hr16y⟩ := hr16
    have hr16y : ∀ s9 t9 : List Int, SBX P14 (ad 19) s9 → TXq P14 sa b4 t9 → SBX P17 (ad 19) (s9 ++ t9) := hr16y
    have hr16 : (EX P14 P17) ∧ (PV sa P17) ∧ (KPx True P14 P17) ∧ (NN P17 12 r16) ∧ ((oI P17 25 (ad 19)).toInt = (oI P14 25 (ad 19)).toInt + ((nb4 : Nat) : Int)) := hr16
    obtain ⟨hr16_0, hr16_1, hr16_2, hr16_3, hr16_4⟩ := hr16
    have kpz18 : KPx True κ.2.2.2.2 P17 := kpz15.trans hr16_2
    obtain ⟨b19, rfl, tb19⟩ := hr16_3
    refine lv_pop C.x C.b dX0_join_46 rfl ?_
    refine lv_aload_n C.x C.b dX0_join_47 rfl (lv_at hl 2 rfl) ?_
    refine cg_X0_1 C hP cw_9 dX0_join_48 ?_
    refine lv_aload C.x C.b dX0_join_51 (lv_at hl 0 rfl) ?_
    refine c_callVq (n := 1) (As := [.ref b8]) (rest := []) C hP hS hl.1 (NJ4_append_15ec4 l D cy ad A sz0 sa (tP (tP (tP (tP κ P2) P6) P14) P17) H.size (SLT H) C.f (fun q h => C.a q (Nat.le_trans hS.1 h)) (ad 19) b8 nb8 (hr16_0.T (hr13_0.T (hr5_0.T (hr1_0.T hs19 (by decide)) (by decide)) (by decide)) (by decide)) (hr16_0.SL (hr13_0.SL tb8)) hr16_1 (vX0_join_4 ad nb4 nb8 r9 r10 x11 P14 P17 leb4 leb8 hr9 hr10 ex11 tx11 c12 hr13_3 hr16_4)) ⟨cw_342, cw_345, by decide +kernel⟩ ⟨cw_343, cw_344, cw_8⟩ rfl (hP.recvP (t := 12) (ci := 1) C.K (t20 (a := (ad 19)) (t := 12) (hr16_0.T (hr13_0.T (hr5_0.T (hr1_0.T hs19 (by decide)) (by decide)) (by decide)) (by decide))) (by decide) rfl rfl) rfl rfl (lv_room (Nat.le_of_ble_eq_true rfl)) ⟨Nat.le_of_ble_eq_true rfl, Nat.le_of_ble_eq_true rfl⟩ ⟨(Nat.le_of_ble_eq_true rfl), (Nat.le_of_ble_eq_true rfl)⟩ dX0_join_53 (fun r20 u H locs hr20 hP hS => ?_)
    obtain ⟨P21, rfl⟩ : ∃ z, z = u := ⟨_, rfl⟩
    have hP : CH D cy ad A (tP (tP (tP (tP (tP κ P2) P6) P14) P17) P21) H := hP
    obtain ⟨hr20, hr20y⟩ := hr20
    have hr20y : ∀ s9 t9 : List Int, SBX P17 (ad 19) s9 → TXq P17 sa b8 t9 → SBX P21 (ad 19) (s9 ++ t9) := hr20y
    have hr20 : (EX P17 P21) ∧ (PV sa P21) ∧ (KPx True P17 P21) ∧ (NN P21 12 r20) ∧ ((oI P21 25 (ad 19)).toInt = (oI P17 25 (ad 19)).toInt + ((nb8 : Nat) : Int)) := hr20
    obtain ⟨hr20_0, hr20_1, hr20_2, hr20_3, hr20_4⟩ := hr20
    have kpz22 : KPx True κ.2.2.2.2 P21 := kpz18.trans hr20_2
    obtain ⟨b23, rfl, tb23⟩ := hr20_3
    refine lv_pop C.x C.b dX0_join_56 rfl ?_
    refine lv_aload_n C.x C.b dX0_join_57 rfl (lv_at hl 2 rfl) ?_
    refine cg_X0_1 C hP cw_9 dX0_join_58 ?_
    refine c_callVq (n := 0) (As := []) (rest := []) C hP hS hl.1 (NJ4_toString_0e30d l D cy ad A sz0 sa (tP (tP (tP (tP (tP κ P2) P6) P14) P17) P21) H.size (SLT H) C.f (fun q h => C.a q (Nat.le_trans hS.1 h)) (ad 19) (hr20_0.T (hr16_0.T (hr13_0.T (hr5_0.T (hr1_0.T hs19 (by decide)) (by decide)) (by decide)) (by decide)) (by decide)) hr20_1 (vX0_join_5 ad nb4 nb8 r9 r10 x11 P14 P17 P21 leb4 leb8 hr9 hr10 ex11 tx11 c12 hr13_3 hr16_4 hr20_4)) ⟨cw_289, cw_292, by decide +kernel⟩ ⟨cw_290, cw_291, cw_8⟩ rfl (hP.recvP (t := 12) (ci := 1) C.K (t20 (a := (ad 19)) (t := 12) (hr20_0.T (hr16_0.T (hr13_0.T (hr5_0.T (hr1_0.T hs19 (by decide)) (by decide)) (by decide)) (by decide)) (by decide))) (by decide) rfl rfl) rfl rfl (lv_room (Nat.le_of_ble_eq_true rfl)) ⟨Nat.le_of_ble_eq_true rfl, Nat.le_of_ble_eq_true rfl⟩ ⟨(Nat.le_of_ble_eq_true rfl), (vX0_join_6 ad nb4 nb8 r9 r10 x11 P14 P17 P21 leb4 leb8 hr9 hr10 ex11 tx11 c12 hr13_3 hr16_4 hr20_4)⟩ dX0_join_61 (fun r24 u H locs hr24 hP hS => ?_)
    obtain ⟨P25, rfl⟩ : ∃ z, z = u := ⟨_, rfl⟩
    have hP : CH D cy ad A (tP (tP (tP (tP (tP (tP κ P2) P6) P14) P17) P21) P25) H := hP
    obtain ⟨hr24, hr24y⟩ := hr24
    have hr24y : ∀ s9 : List Int, SBX P21 (ad 19) s9 → TXq P25 sa (r24.getD 0) s9 := hr24y
    have hr24 : (EX P21 P25) ∧ (PV sa P25) ∧ (KPx True P21 P25) ∧ (∃ b n, r24 = some b ∧ SL P25 sa b n ∧ ((n : Nat) : Int) = (oI P21 25 (ad 19)).toInt) := hr24
    obtain ⟨hr24_0, hr24_1, hr24_2, hr24_3⟩ := hr24
    have kpz26 : KPx True κ.2.2.2.2 P25 := kpz22.trans hr24_2
    obtain ⟨b27, nb27, rfl, tb27, leb27⟩ := hr24_3
    refine c_callSq (C2 := "") (b := 0) (n := 1) (As := [.ref b27]) (rest := []) C hP hS hl.1 (NX10_ofText l D cy ad A sz0 sa (tP (tP (tP (tP (tP (tP κ P2) P6) P14) P17) P21) P25) H.size (SLT H) C.f (fun q h => C.a q (Nat.le_trans hS.1 h)) b27 tb27.sok hr24_1) ⟨cw_337, cw_339, by decide +kernel⟩ ⟨cw_338, cw_40⟩ rfl rfl (lv_room (Nat.le_of_ble_eq_true rfl)) ⟨Nat.le_of_ble_eq_true rfl, Nat.le_of_ble_eq_true rfl⟩ ⟨(Nat.le_of_ble_eq_true rfl), (vX0_join_7 ad nb4 nb8 r9 r10 x11 P14 P17 P21 nb27 leb4 leb8 hr9 hr10 ex11 tx11 c12 hr13_3 hr16_4 hr20_4 leb27)⟩ dX0_join_64 (fun r28 u H locs hr28 hP hS => ?_)
    obtain ⟨P29, rfl⟩ : ∃ z, z = u := ⟨_, rfl⟩
    have hP : CH D cy ad A (tP (tP (tP (tP (tP (tP (tP κ P2) P6) P14) P17) P21) P25) P29) H := hP
    obtain ⟨hr28, hr28y⟩ := hr28
    have hr28y : ∀ (q7 q8 : Nat → Option Nat) (s9 : List Int), TXq P25 sa b27 s9 → s9.length ≤ 16 → CHS s9 → VALq P29 sa q7 q8 (r28.getD 0) (qText s9) := hr28y
    have hr28 : (EX P25 P29) ∧ (PV sa P29) ∧ (KPx True P25 P29) ∧ (NN P29 1 r28) := hr28
    obtain ⟨hr28_0, hr28_1, hr28_2, hr28_3⟩ := hr28
    have kpz30 : KPx True κ.2.2.2.2 P29 := kpz26.trans hr28_2
    obtain ⟨b31, rfl, tb31⟩ := hr28_3
    have hP : CH D cy ad A (tP κ P29) H := CH.cong hP rfl rfl rfl rfl rfl rfl rfl rfl rfl rfl rfl rfl rfl rfl rfl rfl rfl rfl rfl rfl rfl rfl rfl rfl rfl rfl rfl
    exact c_retq (v := (some b31)) (Or.inl ⟨_, rfl⟩) C hsz hsl P29 ⟨⟨((((((hr1_0.trans hr5_0).trans hr13_0).trans hr16_0).trans hr20_0).trans hr24_0).trans hr28_0), hr28_1, kpz30, (nt_s tb31)⟩, (vX0_join_8 ad sa κ k0 k1 P2 b4 nb4 P6 b8 nb8 r9 r10 x11 P14 P17 P21 P25 b27 nb27 P29 b31 ht0 ht1 hPV hs19 hr1_0 hr1_2 leb4 hr1y hr5_0 hr5_2 leb8 hr5y hr9y hr9 hr10y hr10 ex11 tx11 c12 hr13_0 hr13_2 hr13y hr13_3 hr16_0 hr16_2 hr16y hr16_4 hr20_0 hr20_2 hr20y hr20_4 hr24_0 hr24_2 leb27 hr24y hr28_0 hr28_2 hr28y)⟩ hP hS ⟨(Nat.le_of_ble_eq_true rfl), (vX0_join_7 ad nb4 nb8 r9 r10 x11 P14 P17 P21 nb27 leb4 leb8 hr9 hr10 ex11 tx11 c12 hr13_3 hr16_4 hr20_4 leb27)⟩ ⟨(Nat.le_of_ble_eq_true rfl), (Nat.le_of_ble_eq_true rfl)⟩ dX0_join_67
  · have c12 : 16 < x11.toInt := by have h := z_nle c12; rw [show (16 : Int32).toInt = 16 from by decide +kernel] at h; exact h
    refine lv_null C.x C.b dX0_join_28 ?_
    have hP : CH D cy ad A (tP κ P6) H := CH.cong hP rfl rfl rfl rfl rfl rfl rfl rfl rfl rfl rfl rfl rfl rfl rfl rfl rfl rfl rfl rfl rfl rfl rfl rfl rfl rfl rfl
    exact c_retq (v := none) (Or.inl ⟨_, rfl⟩) C hsz hsl P6 ⟨⟨(hr1_0.trans hr5_0), hr5_1, kpz7, nt_n⟩, (vX0_join_9 ad sa κ k0 k1 P2 b4 nb4 P6 b8 nb8 r9 r10 x11 ht0 ht1 hPV hs19 hr1_0 hr1_2 leb4 hr1y hr5_0 hr5_2 leb8 hr5y hr9y hr9 hr10y hr10 ex11 tx11 c12)⟩ hP hS ⟨(Nat.le_of_ble_eq_true rfl), (Nat.le_of_ble_eq_true rfl)⟩ ⟨(Nat.le_of_ble_eq_true rfl), (Nat.le_of_ble_eq_true rfl)⟩ dX0_join_29

-- post2 @40
theorem vX0_convert_1 (ad : Nat → Nat) (sa : Nat → Nat) (κ : KS) (k0 : Nat) (k1 : Int32) (x1 : Int32) (P5 : PL) (r4 : Option Nat) (ht0 : oT κ.2.2.2.2 k0 = 1) (hPV : PV sa κ.2.2.2.2) (hs19 : oT κ.2.2.2.2 (ad 19) = 12) (ex1 : oI κ.2.2.2.2 0 k0 = x1) (c2 : ¬ x1.toInt = k1.toInt) (c3_1 : k1.toInt = 1) (hr4_0 : EX κ.2.2.2.2 P5) (hr4_2 : KPx True κ.2.2.2.2 P5) (hr4y : ∀ (q7 q8 : Nat → Option Nat) (v : QV), VALq κ.2.2.2.2 sa q7 q8 k0 v → (r4 = (none : Option Nat) → qCvB v = .inr 10) ∧ (∀ x, r4 = some x → ∃ w, qCvB v = .inl w ∧ VALq P5 sa q7 q8 x w)) : ∀ (q7 q8 : Nat → Option Nat) (v : QV), VALq κ.2.2.2.2 sa q7 q8 k0 v → ¬ v.1 = k1.toInt → 1 ≤ k1.toInt → k1.toInt ≤ 4 → (r4 = (none : Option Nat) → qConv v k1.toInt = .inr 10) ∧ (∀ x, r4 = some x → ∃ w, qConv v k1.toInt = .inl w ∧ VALq P5 sa q7 q8 x w) := by
  intro q7 q8 v h hn h1 h4
  have k := h.k9
  rw [ex1] at k
  rw [show qConv v k1.toInt = qCvB v by unfold qConv; rw [if_neg (by omega), if_pos (by omega)]]
  exact hr4y q7 q8 v h
-- post2 @45
theorem vX0_convert_2 (ad : Nat → Nat) (sa : Nat → Nat) (κ : KS) (k0 : Nat) (k1 : Int32) (x1 : Int32) (P8 : PL) (r7 : Option Nat) (ht0 : oT κ.2.2.2.2 k0 = 1) (hPV : PV sa κ.2.2.2.2) (hs19 : oT κ.2.2.2.2 (ad 19) = 12) (ex1 : oI κ.2.2.2.2 0 k0 = x1) (c2 : ¬ x1.toInt = k1.toInt) (c3_1 : ¬ k1.toInt = 1) (c3_2 : k1.toInt = 2) (hr7_0 : EX κ.2.2.2.2 P8) (hr7_2 : KPx True κ.2.2.2.2 P8) (hr7y : ∀ (q7 q8 : Nat → Option Nat) (v : QV), VALq κ.2.2.2.2 sa q7 q8 k0 v → (r7 = (none : Option Nat) → qCvI v = none) ∧ (∀ x, r7 = some x → ∃ m : Int32, qCvI v = some m.toInt ∧ VALq P8 sa q7 q8 x (qInt m))) : ∀ (q7 q8 : Nat → Option Nat) (v : QV), VALq κ.2.2.2.2 sa q7 q8 k0 v → ¬ v.1 = k1.toInt → 1 ≤ k1.toInt → k1.toInt ≤ 4 → (r7 = (none : Option Nat) → qConv v k1.toInt = .inr 10) ∧ (∀ x, r7 = some x → ∃ w, qConv v k1.toInt = .inl w ∧ VALq P8 sa q7 q8 x w) := by
  intro q7 q8 v h hn h1 h4
  have k := h.k9
  rw [ex1] at k
  have A := hr7y q7 q8 v h
  refine ⟨fun e => ?_, fun x e => ?_⟩
  · unfold qConv
    rw [if_neg (by omega), if_neg (by omega), if_pos (by omega), A.1 e]
  · obtain ⟨m, m1, m2⟩ := A.2 x e
    refine ⟨qInt m, ?_, m2⟩
    unfold qConv
    rw [if_neg (by omega), if_neg (by omega), if_pos (by omega), m1]
    show Sum.inl (qInt (Int32.ofInt m.toInt)) = _
    rw [Int32.ofInt_toInt]
-- post2 @67
theorem vX0_convert_3 (ad : Nat → Nat) (sa : Nat → Nat) (κ : KS) (k0 : Nat) (k1 : Int32) (x1 : Int32) (P11 : PL) (ht0 : oT κ.2.2.2.2 k0 = 1) (hPV : PV sa κ.2.2.2.2) (hs19 : oT κ.2.2.2.2 (ad 19) = 12) (ex1 : oI κ.2.2.2.2 0 k0 = x1) (c2 : ¬ x1.toInt = k1.toInt) (c3_1 : ¬ k1.toInt = 1) (c3_2 : ¬ k1.toInt = 2) (c3_3 : k1.toInt = 3) (hr10_0 : EX κ.2.2.2.2 P11) (hr10_2 : KPx True κ.2.2.2.2 P11) (hr10y : ∀ (q7 q8 : Nat → Option Nat) (v : QV), VALq κ.2.2.2.2 sa q7 q8 k0 v → (none = (none : Option Nat) → qCvI v = none) ∧ (∀ x, none = some x → ∃ m : Int32, qCvI v = some m.toInt ∧ VALq P11 sa q7 q8 x (qInt m))) : ∀ (q7 q8 : Nat → Option Nat) (v : QV), VALq κ.2.2.2.2 sa q7 q8 k0 v → ¬ v.1 = k1.toInt → 1 ≤ k1.toInt → k1.toInt ≤ 4 → (none = (none : Option Nat) → qConv v k1.toInt = .inr 10) ∧ (∀ x, none = some x → ∃ w, qConv v k1.toInt = .inl w ∧ VALq P11 sa q7 q8 x w) := by
  intro q7 q8 v h hn h1 h4
  have k := h.k9
  rw [ex1] at k
  have A := hr10y q7 q8 v h
  refine ⟨fun e => ?_, fun x e => (by cases e)⟩
  unfold qConv
  rw [if_neg (by omega), if_neg (by omega), if_neg (by omega), if_neg (by omega), A.1 rfl]
-- pre:X10_ofReal@64 @64
theorem vX0_convert_4 (P11 : PL) (b13 : Nat) (x14 : Int32) (x15 : UInt64) (ex14 : oI P11 1 b13 = x14) (ex15 : x15 = FP.i2d x14) (fx15 : FN x15) : FN x15 := by
  first | assumption | exact fp_k0 | exact fp_i2d _ | (subst_vars; exact fp_i2d _) | exact (fp_FN_iff _).mpr (by decide +kernel)
-- post2 @67
theorem vX0_convert_5 (ad : Nat → Nat) (sa : Nat → Nat) (κ : KS) (k0 : Nat) (k1 : Int32) (x1 : Int32) (P11 : PL) (b13 : Nat) (x14 : Int32) (x15 : UInt64) (P17 : PL) (b19 : Nat) (ht0 : oT κ.2.2.2.2 k0 = 1) (hPV : PV sa κ.2.2.2.2) (hs19 : oT κ.2.2.2.2 (ad 19) = 12) (ex1 : oI κ.2.2.2.2 0 k0 = x1) (c2 : ¬ x1.toInt = k1.toInt) (c3_1 : ¬ k1.toInt = 1) (c3_2 : ¬ k1.toInt = 2) (c3_3 : k1.toInt = 3) (hr10_0 : EX κ.2.2.2.2 P11) (hr10_2 : KPx True κ.2.2.2.2 P11) (hr10y : ∀ (q7 q8 : Nat → Option Nat) (v : QV), VALq κ.2.2.2.2 sa q7 q8 k0 v → ((some b13) = (none : Option Nat) → qCvI v = none) ∧ (∀ x, (some b13) = some x → ∃ m : Int32, qCvI v = some m.toInt ∧ VALq P11 sa q7 q8 x (qInt m))) (ex14 : oI P11 1 b13 = x14) (ex15 : x15 = FP.i2d x14) (fx15 : FN x15) (hr16_0 : EX P11 P17) (hr16_2 : KPx True P11 P17) (hr16y : ∀ q7 q8 : Nat → Option Nat, VALq P17 sa q7 q8 b19 (qReal x15)) : ∀ (q7 q8 : Nat → Option Nat) (v : QV), VALq κ.2.2.2.2 sa q7 q8 k0 v → ¬ v.1 = k1.toInt → 1 ≤ k1.toInt → k1.toInt ≤ 4 → ((some b19) = (none : Option Nat) → qConv v k1.toInt = .inr 10) ∧ (∀ x, (some b19) = some x → ∃ w, qConv v k1.toInt = .inl w ∧ VALq P17 sa q7 q8 x w) := by
  intro q7 q8 v h hn h1 h4
  have k := h.k9
  rw [ex1] at k
  have A := hr10y q7 q8 v h
  refine ⟨fun e => (by cases e), fun x e => ?_⟩
  obtain rfl := Option.some.inj e
  obtain ⟨m, m1, m2⟩ := A.2 _ rfl
  have n1 := m2.n9 (show ¬ (2 : Int) = 3 by decide) (show ¬ (2 : Int) = 4 by decide)
  rw [ex14] at n1
  have n2 := Int32.toInt_inj.mp (show _ = m.toInt from n1)
  refine ⟨qReal x15, ?_, hr16y q7 q8⟩
  unfold qConv
  rw [if_neg (by omega), if_neg (by omega), if_neg (by omega), if_neg (by omega), m1]
  show Sum.inl (qReal (FP.i2d (Int32.ofInt m.toInt))) = _
  rw [Int32.ofInt_toInt, ex15, n2]
-- post2 @76
theorem vX0_convert_6 (ad : Nat → Nat) (sa : Nat → Nat) (κ : KS) (k0 : Nat) (k1 : Int32) (x1 : Int32) (P21 : PL) (b23 : Nat) (nb23 : Nat) (P25 : PL) (b27 : Nat) (ht0 : oT κ.2.2.2.2 k0 = 1) (hPV : PV sa κ.2.2.2.2) (hs19 : oT κ.2.2.2.2 (ad 19) = 12) (ex1 : oI κ.2.2.2.2 0 k0 = x1) (c2 : ¬ x1.toInt = k1.toInt) (c3_1 : ¬ k1.toInt = 1) (c3_2 : ¬ k1.toInt = 2) (c3_3 : ¬ k1.toInt = 3) (hr20_0 : EX κ.2.2.2.2 P21) (hr20_2 : KPx True κ.2.2.2.2 P21) (leb23 : nb23 ≤ 40) (hr20y : ∀ (q7 q8 : Nat → Option Nat) (v : QV), VALq κ.2.2.2.2 sa q7 q8 k0 v → TXq P21 sa b23 (qSpl v)) (hr24_0 : EX P21 P25) (hr24_2 : KPx True P21 P25) (hr24y : ∀ (q7 q8 : Nat → Option Nat) (s9 : List Int), TXq P21 sa b23 s9 → s9.length ≤ 16 → CHS s9 → VALq P25 sa q7 q8 b27 (qText s9)) : ∀ (q7 q8 : Nat → Option Nat) (v : QV), VALq κ.2.2.2.2 sa q7 q8 k0 v → ¬ v.1 = k1.toInt → 1 ≤ k1.toInt → k1.toInt ≤ 4 → ((some b27) = (none : Option Nat) → qConv v k1.toInt = .inr 10) ∧ (∀ x, (some b27) = some x → ∃ w, qConv v k1.toInt = .inl w ∧ VALq P25 sa q7 q8 x w) := by
  intro q7 q8 v h hn h1 h4
  have k := h.k9
  rw [ex1] at k
  refine ⟨fun e => (by cases e), fun x e => ?_⟩
  obtain rfl := Option.some.inj e
  have sp := QCN.spl9 h.1
  exact ⟨_, (by unfold qConv; rw [if_pos (by omega)]), hr24y q7 q8 _ (hr20y q7 q8 v h) sp.1 sp.2⟩
-- post2 @9
theorem vX0_convert_7 (ad : Nat → Nat) (sa : Nat → Nat) (κ : KS) (k0 : Nat) (k1 : Int32) (x1 : Int32) (ht0 : oT κ.2.2.2.2 k0 = 1) (hPV : PV sa κ.2.2.2.2) (hs19 : oT κ.2.2.2.2 (ad 19) = 12) (ex1 : oI κ.2.2.2.2 0 k0 = x1) (c2 : x1.toInt = k1.toInt) : ∀ (q7 q8 : Nat → Option Nat) (v : QV), VALq κ.2.2.2.2 sa q7 q8 k0 v → ¬ v.1 = k1.toInt → 1 ≤ k1.toInt → k1.toInt ≤ 4 → ((some k0) = (none : Option Nat) → qConv v k1.toInt = .inr 10) ∧ (∀ x, (some k0) = some x → ∃ w, qConv v k1.toInt = .inl w ∧ VALq κ.2.2.2.2 sa q7 q8 x w) := by
  intro q7 q8 v h hn h1 h4
  have k := h.k9
  rw [ex1] at k
  exfalso; omega
set_option maxHeartbeats 4000000 in
set_option maxRecDepth 100000 in
theorem NX0_convert (l : Launch) (D : va_G) (cy : Nat → ClassId) (ad : Nat → Nat) (A : Nat → Prop) (sz0 : Nat) (sa : Nat → Nat)  (κ : KS) (sz sl : Nat) (hAF : ∀ q, A q → Fr sz0 q) (hAn : ∀ q : Nat, sz ≤ q → A q) (k0 : Nat) (k1 : Int32) (ht0 : oT κ.2.2.2.2 k0 = 1) (hPV : PV sa κ.2.2.2.2) (hs19 : oT κ.2.2.2.2 (ad 19) = 12) : Met l yX0_convert (Cond.code yX0_convert cX0_convert 4 (some (.object "PhraseDesk$Value")) :: GWc) ({ frames := 7, cells := 3, slots := 21, locals := 172 }) (PcC D cy ad A sz0 sa [.ref (ad 4), .ref k0, .int k1] κ sz sl) (va_Qq (fun (r : Option Nat) (u : PL) => ((EX κ.2.2.2.2 u) ∧ (PV sa u) ∧ (KPx True κ.2.2.2.2 u) ∧ (NT u 1 r)) ∧ (∀ (q7 q8 : Nat → Option Nat) (v : QV), VALq κ.2.2.2.2 sa q7 q8 k0 v → ¬ v.1 = k1.toInt → 1 ≤ k1.toInt → k1.toInt ≤ 4 → (r = (none : Option Nat) → qConv v k1.toInt = .inr 10) ∧ (∀ x, r = some x → ∃ w, qConv v k1.toInt = .inl w ∧ VALq u sa q7 q8 x w))) (fun (u : PL) (t : State) => Bx D cy ad A sz sl (tP κ u) (3) (21) t) A) (3) (21) A := by
  refine CM_of (loc0 := [(0, .ref (ad 4)), (1, .ref k0), (2, .int k1)]) (own := RX0) (nm := "convert") (by decide) rfl rfl rfl (Nat.le_of_ble_eq_true rfl) hAF hAn ?_
  intro p e s m below meth c ls hsz hsl C hP hS hl
  refine lv_aload_n C.x C.b dX0_convert_0 rfl (lv_at hl 1 rfl) ?_
  obtain ⟨x1, ex1⟩ : ∃ z, oI κ.2.2.2.2 0 k0 = z := ⟨_, rfl⟩
  refine pg_X10_0 (v := x1) C hP (t20 (a := k0) (t := 1) ht0) ex1 cw_55 dX0_convert_1 ?_
  refine lv_iload_n C.x C.b dX0_convert_4 rfl (lv_at hl 2 rfl) ?_
  refine lv_icmp_ne (tgt := 10) C.x C.b dX0_convert_5 (by decide) (fun c2 => ?_) (fun c2 => ?_)
  · have c2 : ¬ x1.toInt = k1.toInt := by have h := z_ne c2; exact h
    refine lv_iload_n C.x C.b dX0_convert_10 rfl (lv_at hl 2 rfl) ?_
    by_cases c3_1 : k1.toInt = 1
    · refine lv_tableIn (off := 25) (tgt := 36) C.x C.b dX0_convert_11 (by rw [c3_1]; decide +kernel) (by rw [c3_1]; decide +kernel) (by rw [c3_1]; decide +kernel) (by decide) ?_
      refine lv_aload_n C.x C.b dX0_convert_36 rfl (lv_at hl 1 rfl) ?_
      refine c_callSq (C2 := "") (b := 0) (n := 1) (As := [.ref k0]) (rest := []) C hP hS hl.1 (NX0_toBool l D cy ad A sz0 sa κ s.heap.size (SLT s.heap) C.f (fun q h => C.a q (Nat.le_trans hS.1 h)) k0 ht0 hPV) ⟨cw_62, cw_64, by decide +kernel⟩ ⟨cw_63, cw_34⟩ rfl rfl (lv_room (Nat.le_of_ble_eq_true rfl)) ⟨Nat.le_of_ble_eq_true rfl, Nat.le_of_ble_eq_true rfl⟩ ⟨(Nat.le_of_ble_eq_true rfl), (Nat.le_of_ble_eq_true rfl)⟩ dX0_convert_37 (fun r4 u H locs hr4 hP hS => ?_)
      obtain ⟨P5, rfl⟩ : ∃ z, z = u := ⟨_, rfl⟩
      have hP : CH D cy ad A (tP κ P5) H := hP
      obtain ⟨hr4, hr4y⟩ := hr4
      have hr4y : ∀ (q7 q8 : Nat → Option Nat) (v : QV), VALq κ.2.2.2.2 sa q7 q8 k0 v → (r4 = (none : Option Nat) → qCvB v = .inr 10) ∧ (∀ x, r4 = some x → ∃ w, qCvB v = .inl w ∧ VALq P5 sa q7 q8 x w) := hr4y
      have hr4 : (EX κ.2.2.2.2 P5) ∧ (PV sa P5) ∧ (KPx True κ.2.2.2.2 P5) ∧ (NT P5 1 r4) := hr4
      obtain ⟨hr4_0, hr4_1, hr4_2, hr4_3⟩ := hr4
      have kpz6 : KPx True κ.2.2.2.2 P5 := KPx.rf.trans hr4_2
      exact c_retq (v := r4) (Or.inl ⟨_, rfl⟩) C hsz hsl P5 ⟨⟨hr4_0, hr4_1, kpz6, hr4_3⟩, (vX0_convert_1 ad sa κ k0 k1 x1 P5 r4 ht0 hPV hs19 ex1 c2 c3_1 hr4_0 hr4_2 hr4y)⟩ hP hS ⟨(Nat.le_of_ble_eq_true rfl), (Nat.le_of_ble_eq_true rfl)⟩ ⟨(Nat.le_of_ble_eq_true rfl), (Nat.le_of_ble_eq_true rfl)⟩ dX0_convert_40
    · by_cases c3_2 : k1.toInt = 2
      · refine lv_tableIn (off := 30) (tgt := 41) C.x C.b dX0_convert_11 (by rw [c3_2]; decide +kernel) (by rw [c3_2]; decide +kernel) (by rw [c3_2]; decide +kernel) (by decide) ?_
        refine lv_aload_n C.x C.b dX0_convert_41 rfl (lv_at hl 1 rfl) ?_
        refine c_callSq (C2 := "") (b := 0) (n := 1) (As := [.ref k0]) (rest := []) C hP hS hl.1 (NX0_toInt l D cy ad A sz0 sa κ s.heap.size (SLT s.heap) C.f (fun q h => C.a q (Nat.le_trans hS.1 h)) k0 ht0 hPV) ⟨cw_92, cw_94, by decide +kernel⟩ ⟨cw_93, cw_34⟩ rfl rfl (lv_room (Nat.le_of_ble_eq_true rfl)) ⟨Nat.le_of_ble_eq_true rfl, Nat.le_of_ble_eq_true rfl⟩ ⟨(Nat.le_of_ble_eq_true rfl), (Nat.le_of_ble_eq_true rfl)⟩ dX0_convert_42 (fun r7 u H locs hr7 hP hS => ?_)
        obtain ⟨P8, rfl⟩ : ∃ z, z = u := ⟨_, rfl⟩
        have hP : CH D cy ad A (tP κ P8) H := hP
        obtain ⟨hr7, hr7y⟩ := hr7
        have hr7y : ∀ (q7 q8 : Nat → Option Nat) (v : QV), VALq κ.2.2.2.2 sa q7 q8 k0 v → (r7 = (none : Option Nat) → qCvI v = none) ∧ (∀ x, r7 = some x → ∃ m : Int32, qCvI v = some m.toInt ∧ VALq P8 sa q7 q8 x (qInt m)) := hr7y
        have hr7 : (EX κ.2.2.2.2 P8) ∧ (PV sa P8) ∧ (KPx True κ.2.2.2.2 P8) ∧ (NT P8 1 r7) := hr7
        obtain ⟨hr7_0, hr7_1, hr7_2, hr7_3⟩ := hr7
        have kpz9 : KPx True κ.2.2.2.2 P8 := KPx.rf.trans hr7_2
        exact c_retq (v := r7) (Or.inl ⟨_, rfl⟩) C hsz hsl P8 ⟨⟨hr7_0, hr7_1, kpz9, hr7_3⟩, (vX0_convert_2 ad sa κ k0 k1 x1 P8 r7 ht0 hPV hs19 ex1 c2 c3_1 c3_2 hr7_0 hr7_2 hr7y)⟩ hP hS ⟨(Nat.le_of_ble_eq_true rfl), (Nat.le_of_ble_eq_true rfl)⟩ ⟨(Nat.le_of_ble_eq_true rfl), (Nat.le_of_ble_eq_true rfl)⟩ dX0_convert_45
      · by_cases c3_3 : k1.toInt = 3
        · refine lv_tableIn (off := 35) (tgt := 46) C.x C.b dX0_convert_11 (by rw [c3_3]; decide +kernel) (by rw [c3_3]; decide +kernel) (by rw [c3_3]; decide +kernel) (by decide) ?_
          refine lv_aload_n C.x C.b dX0_convert_46 rfl (lv_at hl 1 rfl) ?_
          refine c_callSq (C2 := "") (b := 0) (n := 1) (As := [.ref k0]) (rest := []) C hP hS hl.1 (NX0_toInt l D cy ad A sz0 sa κ s.heap.size (SLT s.heap) C.f (fun q h => C.a q (Nat.le_trans hS.1 h)) k0 ht0 hPV) ⟨cw_92, cw_94, by decide +kernel⟩ ⟨cw_93, cw_34⟩ rfl rfl (lv_room (Nat.le_of_ble_eq_true rfl)) ⟨Nat.le_of_ble_eq_true rfl, Nat.le_of_ble_eq_true rfl⟩ ⟨(Nat.le_of_ble_eq_true rfl), (Nat.le_of_ble_eq_true rfl)⟩ dX0_convert_47 (fun r10 u H locs hr10 hP hS => ?_)
          obtain ⟨P11, rfl⟩ : ∃ z, z = u := ⟨_, rfl⟩
          have hP : CH D cy ad A (tP κ P11) H := hP
          obtain ⟨hr10, hr10y⟩ := hr10
          have hr10y : ∀ (q7 q8 : Nat → Option Nat) (v : QV), VALq κ.2.2.2.2 sa q7 q8 k0 v → (r10 = (none : Option Nat) → qCvI v = none) ∧ (∀ x, r10 = some x → ∃ m : Int32, qCvI v = some m.toInt ∧ VALq P11 sa q7 q8 x (qInt m)) := hr10y
          have hr10 : (EX κ.2.2.2.2 P11) ∧ (PV sa P11) ∧ (KPx True κ.2.2.2.2 P11) ∧ (NT P11 1 r10) := hr10
          obtain ⟨hr10_0, hr10_1, hr10_2, hr10_3⟩ := hr10
          have kpz12 : KPx True κ.2.2.2.2 P11 := KPx.rf.trans hr10_2
          refine lq_astore_n (lv' := [(3, va_rf r10), (0, .ref (ad 4)), (1, .ref k0), (2, .int k1)]) C.x C.b dX0_convert_50 rfl hl (by decide) (by cases r10 <;> rfl) (fun ls hl => ?_)
          refine lq_aload_n C.x C.b dX0_convert_51 rfl (lv_at hl 0 rfl) ?_
          cases r10 with
          | none =>
            refine lv_ifnonnullN C.x C.b dX0_convert_52 ?_
            refine lv_null C.x C.b dX0_convert_55 ?_
            refine lv_goto (tgt := 67) C.x C.b dX0_convert_56 (by decide) ?_
            exact c_retq (v := none) (Or.inl ⟨_, rfl⟩) C hsz hsl P11 ⟨⟨hr10_0, hr10_1, kpz12, nt_n⟩, (vX0_convert_3 ad sa κ k0 k1 x1 P11 ht0 hPV hs19 ex1 c2 c3_1 c3_2 c3_3 hr10_0 hr10_2 hr10y)⟩ hP hS ⟨(Nat.le_of_ble_eq_true rfl), (Nat.le_of_ble_eq_true rfl)⟩ ⟨(Nat.le_of_ble_eq_true rfl), (Nat.le_of_ble_eq_true rfl)⟩ dX0_convert_67
          | some b13 =>
            have hb13 : oT P11 b13 = 1 := hr10_3 b13 rfl
            refine lv_ifnonnull (tgt := 59) C.x C.b dX0_convert_52 (by decide) ?_
            refine lv_aload_n C.x C.b dX0_convert_59 rfl (lv_at hl 0 rfl) ?_
            obtain ⟨x14, ex14⟩ : ∃ z, oI P11 1 b13 = z := ⟨_, rfl⟩
            refine pg_X10_1 (v := x14) C hP (t20 (a := b13) (t := 1) hb13) ex14 cw_61 dX0_convert_60 ?_
            refine lv_i2d C.x C.b dX0_convert_63 ?_
            refine lv_topd (fun x15 ex15 => ?_)
            have fx15 : FN x15 := by rw [ex15]; exact fp_i2d _
            refine c_callSq (C2 := "") (b := 0) (n := 1) (As := [.double x15]) (rest := []) C hP hS hl.1 (NX10_ofReal l D cy ad A sz0 sa (tP κ P11) H.size (SLT H) C.f (fun q h => C.a q (Nat.le_trans hS.1 h)) x15 hr10_1 (vX0_convert_4 P11 b13 x14 x15 ex14 ex15 fx15)) ⟨cw_141, cw_143, by decide +kernel⟩ ⟨cw_142, cw_40⟩ rfl rfl (lv_room (Nat.le_of_ble_eq_true rfl)) ⟨Nat.le_of_ble_eq_true rfl, Nat.le_of_ble_eq_true rfl⟩ ⟨(Nat.le_of_ble_eq_true rfl), (Nat.le_of_ble_eq_true rfl)⟩ dX0_convert_64 (fun r16 u H locs hr16 hP hS => ?_)
            obtain ⟨P17, rfl⟩ : ∃ z, z = u := ⟨_, rfl⟩
            have hP : CH D cy ad A (tP (tP κ P11) P17) H := hP
            obtain ⟨hr16, hr16y⟩ := hr16
            have hr16y : ∀ q7 q8 : Nat → Option Nat, VALq P17 sa q7 q8 (r16.getD 0) (qReal x15) := hr16y
            have hr16 : (EX P11 P17) ∧ (PV sa P17) ∧ (KPx True P11 P17) ∧ (NN P17 1 r16) := hr16
            obtain ⟨hr16_0, hr16_1, hr16_2, hr16_3⟩ := hr16
            have kpz18 : KPx True κ.2.2.2.2 P17 := kpz12.trans hr16_2
            obtain ⟨b19, rfl, tb19⟩ := hr16_3
            have hP : CH D cy ad A (tP κ P17) H := CH.cong hP rfl rfl rfl rfl rfl rfl rfl rfl rfl rfl rfl rfl rfl rfl rfl rfl rfl rfl rfl rfl rfl rfl rfl rfl rfl rfl rfl
            exact c_retq (v := (some b19)) (Or.inl ⟨_, rfl⟩) C hsz hsl P17 ⟨⟨(hr10_0.trans hr16_0), hr16_1, kpz18, (nt_s tb19)⟩, (vX0_convert_5 ad sa κ k0 k1 x1 P11 b13 x14 x15 P17 b19 ht0 hPV hs19 ex1 c2 c3_1 c3_2 c3_3 hr10_0 hr10_2 hr10y ex14 ex15 fx15 hr16_0 hr16_2 hr16y)⟩ hP hS ⟨(Nat.le_of_ble_eq_true rfl), (Nat.le_of_ble_eq_true rfl)⟩ ⟨(Nat.le_of_ble_eq_true rfl), (Nat.le_of_ble_eq_true rfl)⟩ dX0_convert_67
        · refine lv_tableOut (tgt := 68) C.x C.b dX0_convert_11 (by omega) (by decide) ?_
          refine lv_aload_n C.x C.b dX0_convert_68 rfl (lv_at hl 0 rfl) ?_
          refine lv_aload_n C.x C.b dX0_convert_69 rfl (lv_at hl 1 rfl) ?_
          refine c_callVq (n := 1) (As := [.ref k0]) (rest := []) C hP hS hl.1 (NX0_asText l D cy ad A sz0 sa κ s.heap.size (SLT s.heap) C.f (fun q h => C.a q (Nat.le_trans hS.1 h)) k0 ht0 hPV hs19) ⟨cw_144, cw_147, by decide +kernel⟩ ⟨cw_145, cw_146, cw_34⟩ rfl (hP.recvS (k := 4) (ci := 2) C.K rfl rfl) rfl rfl (lv_room (Nat.le_of_ble_eq_true rfl)) ⟨Nat.le_of_ble_eq_true rfl, Nat.le_of_ble_eq_true rfl⟩ ⟨(Nat.le_of_ble_eq_true rfl), (Nat.le_of_ble_eq_true rfl)⟩ dX0_convert_70 (fun r20 u H locs hr20 hP hS => ?_)
          obtain ⟨P21, rfl⟩ : ∃ z, z = u := ⟨_, rfl⟩
          have hP : CH D cy ad A (tP κ P21) H := hP
          obtain ⟨hr20, hr20y⟩ := hr20
          have hr20y : ∀ (q7 q8 : Nat → Option Nat) (v : QV), VALq κ.2.2.2.2 sa q7 q8 k0 v → TXq P21 sa (r20.getD 0) (qSpl v) := hr20y
          have hr20 : (EX κ.2.2.2.2 P21) ∧ (PV sa P21) ∧ (KPx True κ.2.2.2.2 P21) ∧ (∃ b n, r20 = some b ∧ SL P21 sa b n ∧ n ≤ 40) := hr20
          obtain ⟨hr20_0, hr20_1, hr20_2, hr20_3⟩ := hr20
          have kpz22 : KPx True κ.2.2.2.2 P21 := KPx.rf.trans hr20_2
          obtain ⟨b23, nb23, rfl, tb23, leb23⟩ := hr20_3
          refine c_callSq (C2 := "") (b := 0) (n := 1) (As := [.ref b23]) (rest := []) C hP hS hl.1 (NX10_ofText l D cy ad A sz0 sa (tP κ P21) H.size (SLT H) C.f (fun q h => C.a q (Nat.le_trans hS.1 h)) b23 tb23.sok hr20_1) ⟨cw_337, cw_339, by decide +kernel⟩ ⟨cw_338, cw_40⟩ rfl rfl (lv_room (Nat.le_of_ble_eq_true rfl)) ⟨Nat.le_of_ble_eq_true rfl, Nat.le_of_ble_eq_true rfl⟩ ⟨(Nat.le_of_ble_eq_true rfl), (Nat.le_of_ble_eq_true rfl)⟩ dX0_convert_73 (fun r24 u H locs hr24 hP hS => ?_)
          obtain ⟨P25, rfl⟩ : ∃ z, z = u := ⟨_, rfl⟩
          have hP : CH D cy ad A (tP (tP κ P21) P25) H := hP
          obtain ⟨hr24, hr24y⟩ := hr24
          have hr24y : ∀ (q7 q8 : Nat → Option Nat) (s9 : List Int), TXq P21 sa b23 s9 → s9.length ≤ 16 → CHS s9 → VALq P25 sa q7 q8 (r24.getD 0) (qText s9) := hr24y
          have hr24 : (EX P21 P25) ∧ (PV sa P25) ∧ (KPx True P21 P25) ∧ (NN P25 1 r24) := hr24
          obtain ⟨hr24_0, hr24_1, hr24_2, hr24_3⟩ := hr24
          have kpz26 : KPx True κ.2.2.2.2 P25 := kpz22.trans hr24_2
          obtain ⟨b27, rfl, tb27⟩ := hr24_3
          have hP : CH D cy ad A (tP κ P25) H := CH.cong hP rfl rfl rfl rfl rfl rfl rfl rfl rfl rfl rfl rfl rfl rfl rfl rfl rfl rfl rfl rfl rfl rfl rfl rfl rfl rfl rfl
          exact c_retq (v := (some b27)) (Or.inl ⟨_, rfl⟩) C hsz hsl P25 ⟨⟨(hr20_0.trans hr24_0), hr24_1, kpz26, (nt_s tb27)⟩, (vX0_convert_6 ad sa κ k0 k1 x1 P21 b23 nb23 P25 b27 ht0 hPV hs19 ex1 c2 c3_1 c3_2 c3_3 hr20_0 hr20_2 leb23 hr20y hr24_0 hr24_2 hr24y)⟩ hP hS ⟨(Nat.le_of_ble_eq_true rfl), (Nat.le_of_ble_eq_true rfl)⟩ ⟨(Nat.le_of_ble_eq_true rfl), (Nat.le_of_ble_eq_true rfl)⟩ dX0_convert_76
  · have c2 : x1.toInt = k1.toInt := by have h := z_eq c2; exact h
    refine lv_aload_n C.x C.b dX0_convert_8 rfl (lv_at hl 1 rfl) ?_
    have hP : CH D cy ad A (tP κ κ.2.2.2.2) s.heap := CH.cong hP rfl rfl rfl rfl rfl rfl rfl rfl rfl rfl rfl rfl rfl rfl rfl rfl rfl rfl rfl rfl rfl rfl rfl rfl rfl rfl rfl
    exact c_retq (v := (some k0)) (Or.inl ⟨_, rfl⟩) C hsz hsl κ.2.2.2.2 ⟨⟨EX.rf, hPV, KPx.rf, (nt_s ht0)⟩, (vX0_convert_7 ad sa κ k0 k1 x1 ht0 hPV hs19 ex1 c2)⟩ hP hS ⟨(Nat.le_of_ble_eq_true rfl), (Nat.le_of_ble_eq_true rfl)⟩ ⟨(Nat.le_of_ble_eq_true rfl), (Nat.le_of_ble_eq_true rfl)⟩ dX0_convert_9
