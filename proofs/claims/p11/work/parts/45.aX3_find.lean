-- init@2 @2
theorem vX3_addUnlessHidden_1   : 0 ≤ (0 : Int32).toInt ∧ (0 : Int32).toInt ≤ 30 := by
  have q0 : (0 : Int32).toInt = 0 := by decide +kernel
  refine ⟨?_, ?_⟩ <;> first | assumption | omega | (subst_vars; omega) | trivial
-- init2@2 @2
theorem vX3_addUnlessHidden_2 (ad : Nat → Nat) (sa : Nat → Nat) (κ : KS) (k0 : Nat) (ht0 : oT κ.2.2.2.2 k0 = 5) (hPV : PV sa κ.2.2.2.2) (hSV : SV ad κ.2.2.2.2 (κ.2.1 0) (κ.2.1 1) (κ.2.2.2.1 6) (κ.2.2.2.1 7) (κ.2.2.2.1 8) (κ.2.2.2.1 13) (κ.2.2.2.1 15) (κ.2.2.2.1 17) (κ.1 1).toInt) (hpre_0 : 0 ≤ (κ.1 10).toInt) (hpre_1 : (κ.1 10).toInt ≤ 30) : ∀ (H : QT) (l : List Nat) (m : Nat), CDq κ.2.2.2.2 H (κ.2.2.2.1 15) (κ.1 10).toInt l → RTq κ.2.2.2.2 H k0 m → ∀ j : Nat, (j : Int) < (0 : Int32).toInt → j < l.length → qSm H m (l.getD j 0) = false := by
  have q0 : (0 : Int32).toInt = 0 := by decide +kernel
  intro H l m D R j hj hl
  have z0 : (0 : Int32).toInt = 0 := by decide
  exfalso; omega
-- post @91
theorem vX3_addUnlessHidden_3 (κ : KS) (y1 : Int32) (hpre_0 : 0 ≤ (κ.1 10).toInt) (hpre_1 : (κ.1 10).toInt ≤ 30) (hi2_0 : 0 ≤ y1.toInt) (hi2_1 : y1.toInt ≤ 30) (c2 : (κ.1 10).toInt ≤ y1.toInt) (c4 : 30 ≤ (κ.1 10).toInt) : 0 ≤ (κ.1 10).toInt ∧ (κ.1 10).toInt ≤ 30 := by
  refine ⟨?_, ?_⟩ <;> first | assumption | omega | (subst_vars; omega) | trivial
-- post2 @91
theorem vX3_addUnlessHidden_4 (ad : Nat → Nat) (sa : Nat → Nat) (κ : KS) (k0 : Nat) (y1 : Int32) (ht0 : oT κ.2.2.2.2 k0 = 5) (hPV : PV sa κ.2.2.2.2) (hSV : SV ad κ.2.2.2.2 (κ.2.1 0) (κ.2.1 1) (κ.2.2.2.1 6) (κ.2.2.2.1 7) (κ.2.2.2.1 8) (κ.2.2.2.1 13) (κ.2.2.2.1 15) (κ.2.2.2.1 17) (κ.1 1).toInt) (hpre_0 : 0 ≤ (κ.1 10).toInt) (hpre_1 : (κ.1 10).toInt ≤ 30) (hi2_0 : 0 ≤ y1.toInt) (hi2_1 : y1.toInt ≤ 30) (hi2y : ∀ (H : QT) (l : List Nat) (m : Nat), CDq κ.2.2.2.2 H (κ.2.2.2.1 15) (κ.1 10).toInt l → RTq κ.2.2.2.2 H k0 m → ∀ j : Nat, (j : Int) < y1.toInt → j < l.length → qSm H m (l.getD j 0) = false) (c2 : (κ.1 10).toInt ≤ y1.toInt) (c4 : 30 ≤ (κ.1 10).toInt) : ∀ (H : QT) (l : List Nat) (m : Nat), CDq κ.2.2.2.2 H (κ.2.2.2.1 15) (κ.1 10).toInt l → RTq κ.2.2.2.2 H k0 m → l.length < 30 → CDq κ.2.2.2.2 H (κ.2.2.2.1 15) (κ.1 10).toInt (if l.any (qSm H m) = true then l else l ++ [m]) := by
  intro H l m D R hl
  have I := hi2y H l m D R
  have d1 := D.1
  exfalso; omega
-- in@80 @80
theorem vX3_addUnlessHidden_5 (κ : KS) (y1 : Int32) (hpre_0 : 0 ≤ (κ.1 10).toInt) (hpre_1 : (κ.1 10).toInt ≤ 30) (hi2_0 : 0 ≤ y1.toInt) (hi2_1 : y1.toInt ≤ 30) (c2 : (κ.1 10).toInt ≤ y1.toInt) (c4 : (κ.1 10).toInt < 30) : vp_in (κ.1 10) 30 := by
  exact vp_in_iff.mpr ⟨by omega, by omega⟩
-- nw@87 @87
theorem vX3_addUnlessHidden_6 (κ : KS) (y1 : Int32) (x6 : Int32) (hpre_0 : 0 ≤ (κ.1 10).toInt) (hpre_1 : (κ.1 10).toInt ≤ 30) (hi2_0 : 0 ≤ y1.toInt) (hi2_1 : y1.toInt ≤ 30) (c2 : (κ.1 10).toInt ≤ y1.toInt) (c4 : (κ.1 10).toInt < 30) (ex6 : x6 = (κ.1 10) + (1 : Int32)) : x6.toInt = (κ.1 10).toInt + 1 := by
  have q1 : (1 : Int32).toInt = 1 := by decide +kernel
  have w1 : (1 : Int32).toInt = 1 := by decide +kernel
  rw [ex6, z_add (by omega) (by omega)]; first | done | omega
-- post @91
theorem vX3_addUnlessHidden_7 (κ : KS) (y1 : Int32) (x6 : Int32) (hpre_0 : 0 ≤ (κ.1 10).toInt) (hpre_1 : (κ.1 10).toInt ≤ 30) (hi2_0 : 0 ≤ y1.toInt) (hi2_1 : y1.toInt ≤ 30) (c2 : (κ.1 10).toInt ≤ y1.toInt) (c4 : (κ.1 10).toInt < 30) (ex6 : x6 = (κ.1 10) + (1 : Int32)) (tx6 : x6.toInt = (κ.1 10).toInt + 1) : 0 ≤ x6.toInt ∧ x6.toInt ≤ 30 := by
  have q1 : (1 : Int32).toInt = 1 := by decide +kernel
  refine ⟨?_, ?_⟩ <;> first | assumption | omega | (subst_vars; omega) | trivial
-- post2 @91
theorem vX3_addUnlessHidden_8 (ad : Nat → Nat) (sa : Nat → Nat) (κ : KS) (k0 : Nat) (y1 : Int32) (x6 : Int32) (ht0 : oT κ.2.2.2.2 k0 = 5) (hPV : PV sa κ.2.2.2.2) (hSV : SV ad κ.2.2.2.2 (κ.2.1 0) (κ.2.1 1) (κ.2.2.2.1 6) (κ.2.2.2.1 7) (κ.2.2.2.1 8) (κ.2.2.2.1 13) (κ.2.2.2.1 15) (κ.2.2.2.1 17) (κ.1 1).toInt) (hpre_0 : 0 ≤ (κ.1 10).toInt) (hpre_1 : (κ.1 10).toInt ≤ 30) (hi2_0 : 0 ≤ y1.toInt) (hi2_1 : y1.toInt ≤ 30) (hi2y : ∀ (H : QT) (l : List Nat) (m : Nat), CDq κ.2.2.2.2 H (κ.2.2.2.1 15) (κ.1 10).toInt l → RTq κ.2.2.2.2 H k0 m → ∀ j : Nat, (j : Int) < y1.toInt → j < l.length → qSm H m (l.getD j 0) = false) (c2 : (κ.1 10).toInt ≤ y1.toInt) (c4 : (κ.1 10).toInt < 30) (ex6 : x6 = (κ.1 10) + (1 : Int32)) (tx6 : x6.toInt = (κ.1 10).toInt + 1) : ∀ (H : QT) (l : List Nat) (m : Nat), CDq κ.2.2.2.2 H (κ.2.2.2.1 15) (κ.1 10).toInt l → RTq κ.2.2.2.2 H k0 m → l.length < 30 → CDq κ.2.2.2.2 H (va_up (κ.2.2.2.1 15) (κ.1 10).toNatClampNeg (some k0)) x6.toInt (if l.any (qSm H m) = true then l else l ++ [m]) := by
  have q1 : (1 : Int32).toInt = 1 := by decide +kernel
  intro H l m D R hl
  have I := hi2y H l m D R
  have d1 := D.1
  rw [q_any9 l (fun i hi => I i (by omega) hi), if_neg (by decide)]
  exact D.app9 ht0 R hl (by omega) (by rw [clampN])
-- post @91
theorem vX3_addUnlessHidden_9 (κ : KS) (y1 : Int32) (hpre_0 : 0 ≤ (κ.1 10).toInt) (hpre_1 : (κ.1 10).toInt ≤ 30) (hi2_0 : 0 ≤ y1.toInt) (hi2_1 : y1.toInt ≤ 30) (c2 : y1.toInt < (κ.1 10).toInt) (c8 : 30 ≤ y1.toInt) (c10 : 30 ≤ (κ.1 10).toInt) : 0 ≤ (κ.1 10).toInt ∧ (κ.1 10).toInt ≤ 30 := by
  refine ⟨?_, ?_⟩ <;> first | assumption | omega | (subst_vars; omega) | trivial
-- post2 @91
theorem vX3_addUnlessHidden_10 (ad : Nat → Nat) (sa : Nat → Nat) (κ : KS) (k0 : Nat) (y1 : Int32) (ht0 : oT κ.2.2.2.2 k0 = 5) (hPV : PV sa κ.2.2.2.2) (hSV : SV ad κ.2.2.2.2 (κ.2.1 0) (κ.2.1 1) (κ.2.2.2.1 6) (κ.2.2.2.1 7) (κ.2.2.2.1 8) (κ.2.2.2.1 13) (κ.2.2.2.1 15) (κ.2.2.2.1 17) (κ.1 1).toInt) (hpre_0 : 0 ≤ (κ.1 10).toInt) (hpre_1 : (κ.1 10).toInt ≤ 30) (hi2_0 : 0 ≤ y1.toInt) (hi2_1 : y1.toInt ≤ 30) (hi2y : ∀ (H : QT) (l : List Nat) (m : Nat), CDq κ.2.2.2.2 H (κ.2.2.2.1 15) (κ.1 10).toInt l → RTq κ.2.2.2.2 H k0 m → ∀ j : Nat, (j : Int) < y1.toInt → j < l.length → qSm H m (l.getD j 0) = false) (c2 : y1.toInt < (κ.1 10).toInt) (c8 : 30 ≤ y1.toInt) (c10 : 30 ≤ (κ.1 10).toInt) : ∀ (H : QT) (l : List Nat) (m : Nat), CDq κ.2.2.2.2 H (κ.2.2.2.1 15) (κ.1 10).toInt l → RTq κ.2.2.2.2 H k0 m → l.length < 30 → CDq κ.2.2.2.2 H (κ.2.2.2.1 15) (κ.1 10).toInt (if l.any (qSm H m) = true then l else l ++ [m]) := by
  intro H l m D R hl
  have I := hi2y H l m D R
  have d1 := D.1
  exfalso; omega
-- in@80 @80
theorem vX3_addUnlessHidden_11 (κ : KS) (y1 : Int32) (hpre_0 : 0 ≤ (κ.1 10).toInt) (hpre_1 : (κ.1 10).toInt ≤ 30) (hi2_0 : 0 ≤ y1.toInt) (hi2_1 : y1.toInt ≤ 30) (c2 : y1.toInt < (κ.1 10).toInt) (c8 : 30 ≤ y1.toInt) (c10 : (κ.1 10).toInt < 30) : vp_in (κ.1 10) 30 := by
  exact vp_in_iff.mpr ⟨by omega, by omega⟩
-- nw@87 @87
theorem vX3_addUnlessHidden_12 (κ : KS) (y1 : Int32) (x12 : Int32) (hpre_0 : 0 ≤ (κ.1 10).toInt) (hpre_1 : (κ.1 10).toInt ≤ 30) (hi2_0 : 0 ≤ y1.toInt) (hi2_1 : y1.toInt ≤ 30) (c2 : y1.toInt < (κ.1 10).toInt) (c8 : 30 ≤ y1.toInt) (c10 : (κ.1 10).toInt < 30) (ex12 : x12 = (κ.1 10) + (1 : Int32)) : x12.toInt = (κ.1 10).toInt + 1 := by
  have q1 : (1 : Int32).toInt = 1 := by decide +kernel
  have w1 : (1 : Int32).toInt = 1 := by decide +kernel
  rw [ex12, z_add (by omega) (by omega)]; first | done | omega
-- post @91
theorem vX3_addUnlessHidden_13 (κ : KS) (y1 : Int32) (x12 : Int32) (hpre_0 : 0 ≤ (κ.1 10).toInt) (hpre_1 : (κ.1 10).toInt ≤ 30) (hi2_0 : 0 ≤ y1.toInt) (hi2_1 : y1.toInt ≤ 30) (c2 : y1.toInt < (κ.1 10).toInt) (c8 : 30 ≤ y1.toInt) (c10 : (κ.1 10).toInt < 30) (ex12 : x12 = (κ.1 10) + (1 : Int32)) (tx12 : x12.toInt = (κ.1 10).toInt + 1) : 0 ≤ x12.toInt ∧ x12.toInt ≤ 30 := by
  have q1 : (1 : Int32).toInt = 1 := by decide +kernel
  refine ⟨?_, ?_⟩ <;> first | assumption | omega | (subst_vars; omega) | trivial
-- post2 @91
theorem vX3_addUnlessHidden_14 (ad : Nat → Nat) (sa : Nat → Nat) (κ : KS) (k0 : Nat) (y1 : Int32) (x12 : Int32) (ht0 : oT κ.2.2.2.2 k0 = 5) (hPV : PV sa κ.2.2.2.2) (hSV : SV ad κ.2.2.2.2 (κ.2.1 0) (κ.2.1 1) (κ.2.2.2.1 6) (κ.2.2.2.1 7) (κ.2.2.2.1 8) (κ.2.2.2.1 13) (κ.2.2.2.1 15) (κ.2.2.2.1 17) (κ.1 1).toInt) (hpre_0 : 0 ≤ (κ.1 10).toInt) (hpre_1 : (κ.1 10).toInt ≤ 30) (hi2_0 : 0 ≤ y1.toInt) (hi2_1 : y1.toInt ≤ 30) (hi2y : ∀ (H : QT) (l : List Nat) (m : Nat), CDq κ.2.2.2.2 H (κ.2.2.2.1 15) (κ.1 10).toInt l → RTq κ.2.2.2.2 H k0 m → ∀ j : Nat, (j : Int) < y1.toInt → j < l.length → qSm H m (l.getD j 0) = false) (c2 : y1.toInt < (κ.1 10).toInt) (c8 : 30 ≤ y1.toInt) (c10 : (κ.1 10).toInt < 30) (ex12 : x12 = (κ.1 10) + (1 : Int32)) (tx12 : x12.toInt = (κ.1 10).toInt + 1) : ∀ (H : QT) (l : List Nat) (m : Nat), CDq κ.2.2.2.2 H (κ.2.2.2.1 15) (κ.1 10).toInt l → RTq κ.2.2.2.2 H k0 m → l.length < 30 → CDq κ.2.2.2.2 H (va_up (κ.2.2.2.1 15) (κ.1 10).toNatClampNeg (some k0)) x12.toInt (if l.any (qSm H m) = true then l else l ++ [m]) := by
  have q1 : (1 : Int32).toInt = 1 := by decide +kernel
  intro H l m D R hl
  have I := hi2y H l m D R
  have d1 := D.1
  rw [q_any9 l (fun i hi => I i (by omega) hi), if_neg (by decide)]
  exact D.app9 ht0 R hl (by omega) (by rw [clampN])
-- in@24 @24
theorem vX3_addUnlessHidden_15 (κ : KS) (y1 : Int32) (hpre_0 : 0 ≤ (κ.1 10).toInt) (hpre_1 : (κ.1 10).toInt ≤ 30) (hi2_0 : 0 ≤ y1.toInt) (hi2_1 : y1.toInt ≤ 30) (c2 : y1.toInt < (κ.1 10).toInt) (c8 : y1.toInt < 30) : vp_in y1 30 := by
  exact vp_in_iff.mpr ⟨by omega, by omega⟩
-- nw@53 @53
theorem vX3_addUnlessHidden_16 (κ : KS) (y1 : Int32) (x15 : Int32) (hpre_0 : 0 ≤ (κ.1 10).toInt) (hpre_1 : (κ.1 10).toInt ≤ 30) (hi2_0 : 0 ≤ y1.toInt) (hi2_1 : y1.toInt ≤ 30) (c2 : y1.toInt < (κ.1 10).toInt) (c8 : y1.toInt < 30) (ex13 : none = (κ.2.2.2.1 15) y1.toNatClampNeg) (ex15 : x15 = y1 + (1 : Int32)) : x15.toInt = y1.toInt + 1 := by
  have q1 : (1 : Int32).toInt = 1 := by decide +kernel
  have z9 : (1 : Int32).toInt = 1 := by decide +kernel
  rw [ex15, z_add (by omega) (by omega)]; first | done | omega
-- inv@2 @2
theorem vX3_addUnlessHidden_17 (κ : KS) (y1 : Int32) (x15 : Int32) (hpre_0 : 0 ≤ (κ.1 10).toInt) (hpre_1 : (κ.1 10).toInt ≤ 30) (hi2_0 : 0 ≤ y1.toInt) (hi2_1 : y1.toInt ≤ 30) (c2 : y1.toInt < (κ.1 10).toInt) (c8 : y1.toInt < 30) (ex13 : none = (κ.2.2.2.1 15) y1.toNatClampNeg) (ex15 : x15 = y1 + (1 : Int32)) (tx15 : x15.toInt = y1.toInt + 1) : 0 ≤ x15.toInt ∧ x15.toInt ≤ 30 := by
  have q1 : (1 : Int32).toInt = 1 := by decide +kernel
  refine ⟨?_, ?_⟩ <;> first | assumption | omega | (subst_vars; omega) | trivial
-- inv2@2 @2
theorem vX3_addUnlessHidden_18 (ad : Nat → Nat) (sa : Nat → Nat) (κ : KS) (k0 : Nat) (y1 : Int32) (x15 : Int32) (ht0 : oT κ.2.2.2.2 k0 = 5) (hPV : PV sa κ.2.2.2.2) (hSV : SV ad κ.2.2.2.2 (κ.2.1 0) (κ.2.1 1) (κ.2.2.2.1 6) (κ.2.2.2.1 7) (κ.2.2.2.1 8) (κ.2.2.2.1 13) (κ.2.2.2.1 15) (κ.2.2.2.1 17) (κ.1 1).toInt) (hpre_0 : 0 ≤ (κ.1 10).toInt) (hpre_1 : (κ.1 10).toInt ≤ 30) (hi2_0 : 0 ≤ y1.toInt) (hi2_1 : y1.toInt ≤ 30) (hi2y : ∀ (H : QT) (l : List Nat) (m : Nat), CDq κ.2.2.2.2 H (κ.2.2.2.1 15) (κ.1 10).toInt l → RTq κ.2.2.2.2 H k0 m → ∀ j : Nat, (j : Int) < y1.toInt → j < l.length → qSm H m (l.getD j 0) = false) (c2 : y1.toInt < (κ.1 10).toInt) (c8 : y1.toInt < 30) (ex13 : none = (κ.2.2.2.1 15) y1.toNatClampNeg) (ex15 : x15 = y1 + (1 : Int32)) (tx15 : x15.toInt = y1.toInt + 1) : ∀ (H : QT) (l : List Nat) (m : Nat), CDq κ.2.2.2.2 H (κ.2.2.2.1 15) (κ.1 10).toInt l → RTq κ.2.2.2.2 H k0 m → ∀ j : Nat, (j : Int) < x15.toInt → j < l.length → qSm H m (l.getD j 0) = false := by
  have q1 : (1 : Int32).toInt = 1 := by decide +kernel
  intro H l m D R j hj hl
  have I := hi2y H l m D R
  by_cases q : (j : Int) < y1.toInt
  · exact I j q hl
  obtain ⟨d1, d2, d3⟩ := D
  have e : j = y1.toNatClampNeg := by rw [clampN]; omega
  obtain ⟨x, x1, x2, x3⟩ := d3 j hl
  rw [e, ← ex13] at x1
  cases x1
-- meas@2 @2
theorem vX3_addUnlessHidden_19 (κ : KS) (y1 : Int32) (x15 : Int32) (hpre_0 : 0 ≤ (κ.1 10).toInt) (hpre_1 : (κ.1 10).toInt ≤ 30) (hi2_0 : 0 ≤ y1.toInt) (hi2_1 : y1.toInt ≤ 30) (c2 : y1.toInt < (κ.1 10).toInt) (c8 : y1.toInt < 30) (ex13 : none = (κ.2.2.2.1 15) y1.toNatClampNeg) (ex15 : x15 = y1 + (1 : Int32)) (tx15 : x15.toInt = y1.toInt + 1) : (30 - x15.toInt).toNat < (30 - y1.toInt).toNat := by
  have q1 : (1 : Int32).toInt = 1 := by decide +kernel
  first | assumption | omega | (subst_vars; omega) | trivial
-- nw@53 @53
theorem vX3_addUnlessHidden_20 (κ : KS) (k0 : Nat) (y1 : Int32) (b14 : Nat) (x16 : Int32) (x17 : Int32) (x19 : Int32) (hpre_0 : 0 ≤ (κ.1 10).toInt) (hpre_1 : (κ.1 10).toInt ≤ 30) (hi2_0 : 0 ≤ y1.toInt) (hi2_1 : y1.toInt ≤ 30) (c2 : y1.toInt < (κ.1 10).toInt) (c8 : y1.toInt < 30) (ex13 : (some b14) = (κ.2.2.2.1 15) y1.toNatClampNeg) (ex16 : oI κ.2.2.2.2 14 b14 = x16) (ex17 : oI κ.2.2.2.2 14 k0 = x17) (c18 : ¬ x16.toInt = x17.toInt) (ex19 : x19 = y1 + (1 : Int32)) : x19.toInt = y1.toInt + 1 := by
  have q1 : (1 : Int32).toInt = 1 := by decide +kernel
  have z9 : (1 : Int32).toInt = 1 := by decide +kernel
  rw [ex19, z_add (by omega) (by omega)]; first | done | omega
-- inv@2 @2
theorem vX3_addUnlessHidden_21 (κ : KS) (k0 : Nat) (y1 : Int32) (b14 : Nat) (x16 : Int32) (x17 : Int32) (x19 : Int32) (hpre_0 : 0 ≤ (κ.1 10).toInt) (hpre_1 : (κ.1 10).toInt ≤ 30) (hi2_0 : 0 ≤ y1.toInt) (hi2_1 : y1.toInt ≤ 30) (c2 : y1.toInt < (κ.1 10).toInt) (c8 : y1.toInt < 30) (ex13 : (some b14) = (κ.2.2.2.1 15) y1.toNatClampNeg) (ex16 : oI κ.2.2.2.2 14 b14 = x16) (ex17 : oI κ.2.2.2.2 14 k0 = x17) (c18 : ¬ x16.toInt = x17.toInt) (ex19 : x19 = y1 + (1 : Int32)) (tx19 : x19.toInt = y1.toInt + 1) : 0 ≤ x19.toInt ∧ x19.toInt ≤ 30 := by
  have q1 : (1 : Int32).toInt = 1 := by decide +kernel
  refine ⟨?_, ?_⟩ <;> first | assumption | omega | (subst_vars; omega) | trivial
-- inv2@2 @2
theorem vX3_addUnlessHidden_22 (ad : Nat → Nat) (sa : Nat → Nat) (κ : KS) (k0 : Nat) (y1 : Int32) (b14 : Nat) (x16 : Int32) (x17 : Int32) (x19 : Int32) (ht0 : oT κ.2.2.2.2 k0 = 5) (hPV : PV sa κ.2.2.2.2) (hSV : SV ad κ.2.2.2.2 (κ.2.1 0) (κ.2.1 1) (κ.2.2.2.1 6) (κ.2.2.2.1 7) (κ.2.2.2.1 8) (κ.2.2.2.1 13) (κ.2.2.2.1 15) (κ.2.2.2.1 17) (κ.1 1).toInt) (hpre_0 : 0 ≤ (κ.1 10).toInt) (hpre_1 : (κ.1 10).toInt ≤ 30) (hi2_0 : 0 ≤ y1.toInt) (hi2_1 : y1.toInt ≤ 30) (hi2y : ∀ (H : QT) (l : List Nat) (m : Nat), CDq κ.2.2.2.2 H (κ.2.2.2.1 15) (κ.1 10).toInt l → RTq κ.2.2.2.2 H k0 m → ∀ j : Nat, (j : Int) < y1.toInt → j < l.length → qSm H m (l.getD j 0) = false) (c2 : y1.toInt < (κ.1 10).toInt) (c8 : y1.toInt < 30) (ex13 : (some b14) = (κ.2.2.2.1 15) y1.toNatClampNeg) (ex16 : oI κ.2.2.2.2 14 b14 = x16) (ex17 : oI κ.2.2.2.2 14 k0 = x17) (c18 : ¬ x16.toInt = x17.toInt) (ex19 : x19 = y1 + (1 : Int32)) (tx19 : x19.toInt = y1.toInt + 1) : ∀ (H : QT) (l : List Nat) (m : Nat), CDq κ.2.2.2.2 H (κ.2.2.2.1 15) (κ.1 10).toInt l → RTq κ.2.2.2.2 H k0 m → ∀ j : Nat, (j : Int) < x19.toInt → j < l.length → qSm H m (l.getD j 0) = false := by
  have q1 : (1 : Int32).toInt = 1 := by decide +kernel
  intro H l m D R j hj hl
  have I := hi2y H l m D R
  by_cases q : (j : Int) < y1.toInt
  · exact I j q hl
  obtain ⟨d1, d2, d3⟩ := D
  have e : j = y1.toNatClampNeg := by rw [clampN]; omega
  obtain ⟨x, x1, x2, x3⟩ := d3 j hl
  rw [e, ← ex13] at x1
  obtain rfl := Option.some.inj x1
  have a1 := x3.2.1
  rw [ex16] at a1
  have a1R := R.2.1
  rw [ex17] at a1R
  refine decide_eq_false (fun z => ?_)
  omega
-- meas@2 @2
theorem vX3_addUnlessHidden_23 (κ : KS) (k0 : Nat) (y1 : Int32) (b14 : Nat) (x16 : Int32) (x17 : Int32) (x19 : Int32) (hpre_0 : 0 ≤ (κ.1 10).toInt) (hpre_1 : (κ.1 10).toInt ≤ 30) (hi2_0 : 0 ≤ y1.toInt) (hi2_1 : y1.toInt ≤ 30) (c2 : y1.toInt < (κ.1 10).toInt) (c8 : y1.toInt < 30) (ex13 : (some b14) = (κ.2.2.2.1 15) y1.toNatClampNeg) (ex16 : oI κ.2.2.2.2 14 b14 = x16) (ex17 : oI κ.2.2.2.2 14 k0 = x17) (c18 : ¬ x16.toInt = x17.toInt) (ex19 : x19 = y1 + (1 : Int32)) (tx19 : x19.toInt = y1.toInt + 1) : (30 - x19.toInt).toNat < (30 - y1.toInt).toNat := by
  have q1 : (1 : Int32).toInt = 1 := by decide +kernel
  first | assumption | omega | (subst_vars; omega) | trivial
-- nw@53 @53
theorem vX3_addUnlessHidden_24 (κ : KS) (k0 : Nat) (y1 : Int32) (b14 : Nat) (x16 : Int32) (x17 : Int32) (x20 : Int32) (x21 : Int32) (x23 : Int32) (hpre_0 : 0 ≤ (κ.1 10).toInt) (hpre_1 : (κ.1 10).toInt ≤ 30) (hi2_0 : 0 ≤ y1.toInt) (hi2_1 : y1.toInt ≤ 30) (c2 : y1.toInt < (κ.1 10).toInt) (c8 : y1.toInt < 30) (ex13 : (some b14) = (κ.2.2.2.1 15) y1.toNatClampNeg) (ex16 : oI κ.2.2.2.2 14 b14 = x16) (ex17 : oI κ.2.2.2.2 14 k0 = x17) (c18 : x16.toInt = x17.toInt) (ex20 : oI κ.2.2.2.2 15 b14 = x20) (ex21 : oI κ.2.2.2.2 15 k0 = x21) (c22 : ¬ x20.toInt = x21.toInt) (ex23 : x23 = y1 + (1 : Int32)) : x23.toInt = y1.toInt + 1 := by
  have q1 : (1 : Int32).toInt = 1 := by decide +kernel
  have z9 : (1 : Int32).toInt = 1 := by decide +kernel
  rw [ex23, z_add (by omega) (by omega)]; first | done | omega
-- inv@2 @2
theorem vX3_addUnlessHidden_25 (κ : KS) (k0 : Nat) (y1 : Int32) (b14 : Nat) (x16 : Int32) (x17 : Int32) (x20 : Int32) (x21 : Int32) (x23 : Int32) (hpre_0 : 0 ≤ (κ.1 10).toInt) (hpre_1 : (κ.1 10).toInt ≤ 30) (hi2_0 : 0 ≤ y1.toInt) (hi2_1 : y1.toInt ≤ 30) (c2 : y1.toInt < (κ.1 10).toInt) (c8 : y1.toInt < 30) (ex13 : (some b14) = (κ.2.2.2.1 15) y1.toNatClampNeg) (ex16 : oI κ.2.2.2.2 14 b14 = x16) (ex17 : oI κ.2.2.2.2 14 k0 = x17) (c18 : x16.toInt = x17.toInt) (ex20 : oI κ.2.2.2.2 15 b14 = x20) (ex21 : oI κ.2.2.2.2 15 k0 = x21) (c22 : ¬ x20.toInt = x21.toInt) (ex23 : x23 = y1 + (1 : Int32)) (tx23 : x23.toInt = y1.toInt + 1) : 0 ≤ x23.toInt ∧ x23.toInt ≤ 30 := by
  have q1 : (1 : Int32).toInt = 1 := by decide +kernel
  refine ⟨?_, ?_⟩ <;> first | assumption | omega | (subst_vars; omega) | trivial
-- inv2@2 @2
theorem vX3_addUnlessHidden_26 (ad : Nat → Nat) (sa : Nat → Nat) (κ : KS) (k0 : Nat) (y1 : Int32) (b14 : Nat) (x16 : Int32) (x17 : Int32) (x20 : Int32) (x21 : Int32) (x23 : Int32) (ht0 : oT κ.2.2.2.2 k0 = 5) (hPV : PV sa κ.2.2.2.2) (hSV : SV ad κ.2.2.2.2 (κ.2.1 0) (κ.2.1 1) (κ.2.2.2.1 6) (κ.2.2.2.1 7) (κ.2.2.2.1 8) (κ.2.2.2.1 13) (κ.2.2.2.1 15) (κ.2.2.2.1 17) (κ.1 1).toInt) (hpre_0 : 0 ≤ (κ.1 10).toInt) (hpre_1 : (κ.1 10).toInt ≤ 30) (hi2_0 : 0 ≤ y1.toInt) (hi2_1 : y1.toInt ≤ 30) (hi2y : ∀ (H : QT) (l : List Nat) (m : Nat), CDq κ.2.2.2.2 H (κ.2.2.2.1 15) (κ.1 10).toInt l → RTq κ.2.2.2.2 H k0 m → ∀ j : Nat, (j : Int) < y1.toInt → j < l.length → qSm H m (l.getD j 0) = false) (c2 : y1.toInt < (κ.1 10).toInt) (c8 : y1.toInt < 30) (ex13 : (some b14) = (κ.2.2.2.1 15) y1.toNatClampNeg) (ex16 : oI κ.2.2.2.2 14 b14 = x16) (ex17 : oI κ.2.2.2.2 14 k0 = x17) (c18 : x16.toInt = x17.toInt) (ex20 : oI κ.2.2.2.2 15 b14 = x20) (ex21 : oI κ.2.2.2.2 15 k0 = x21) (c22 : ¬ x20.toInt = x21.toInt) (ex23 : x23 = y1 + (1 : Int32)) (tx23 : x23.toInt = y1.toInt + 1) : ∀ (H : QT) (l : List Nat) (m : Nat), CDq κ.2.2.2.2 H (κ.2.2.2.1 15) (κ.1 10).toInt l → RTq κ.2.2.2.2 H k0 m → ∀ j : Nat, (j : Int) < x23.toInt → j < l.length → qSm H m (l.getD j 0) = false := by
  have q1 : (1 : Int32).toInt = 1 := by decide +kernel
  intro H l m D R j hj hl
  have I := hi2y H l m D R
  by_cases q : (j : Int) < y1.toInt
  · exact I j q hl
  obtain ⟨d1, d2, d3⟩ := D
  have e : j = y1.toNatClampNeg := by rw [clampN]; omega
  obtain ⟨x, x1, x2, x3⟩ := d3 j hl
  rw [e, ← ex13] at x1
  obtain rfl := Option.some.inj x1
  have a1 := x3.2.1
  rw [ex16] at a1
  have a1R := R.2.1
  rw [ex17] at a1R
  have a2 := x3.2.2.1
  rw [ex20] at a2
  have a2R := R.2.2.1
  rw [ex21] at a2R
  refine decide_eq_false (fun z => ?_)
  omega
-- meas@2 @2
theorem vX3_addUnlessHidden_27 (κ : KS) (k0 : Nat) (y1 : Int32) (b14 : Nat) (x16 : Int32) (x17 : Int32) (x20 : Int32) (x21 : Int32) (x23 : Int32) (hpre_0 : 0 ≤ (κ.1 10).toInt) (hpre_1 : (κ.1 10).toInt ≤ 30) (hi2_0 : 0 ≤ y1.toInt) (hi2_1 : y1.toInt ≤ 30) (c2 : y1.toInt < (κ.1 10).toInt) (c8 : y1.toInt < 30) (ex13 : (some b14) = (κ.2.2.2.1 15) y1.toNatClampNeg) (ex16 : oI κ.2.2.2.2 14 b14 = x16) (ex17 : oI κ.2.2.2.2 14 k0 = x17) (c18 : x16.toInt = x17.toInt) (ex20 : oI κ.2.2.2.2 15 b14 = x20) (ex21 : oI κ.2.2.2.2 15 k0 = x21) (c22 : ¬ x20.toInt = x21.toInt) (ex23 : x23 = y1 + (1 : Int32)) (tx23 : x23.toInt = y1.toInt + 1) : (30 - x23.toInt).toNat < (30 - y1.toInt).toNat := by
  have q1 : (1 : Int32).toInt = 1 := by decide +kernel
  first | assumption | omega | (subst_vars; omega) | trivial
-- post @52
theorem vX3_addUnlessHidden_28 (κ : KS) (k0 : Nat) (y1 : Int32) (b14 : Nat) (x16 : Int32) (x17 : Int32) (x20 : Int32) (x21 : Int32) (hpre_0 : 0 ≤ (κ.1 10).toInt) (hpre_1 : (κ.1 10).toInt ≤ 30) (hi2_0 : 0 ≤ y1.toInt) (hi2_1 : y1.toInt ≤ 30) (c2 : y1.toInt < (κ.1 10).toInt) (c8 : y1.toInt < 30) (ex13 : (some b14) = (κ.2.2.2.1 15) y1.toNatClampNeg) (ex16 : oI κ.2.2.2.2 14 b14 = x16) (ex17 : oI κ.2.2.2.2 14 k0 = x17) (c18 : x16.toInt = x17.toInt) (ex20 : oI κ.2.2.2.2 15 b14 = x20) (ex21 : oI κ.2.2.2.2 15 k0 = x21) (c22 : x20.toInt = x21.toInt) : 0 ≤ (κ.1 10).toInt ∧ (κ.1 10).toInt ≤ 30 := by
  refine ⟨?_, ?_⟩ <;> first | assumption | omega | (subst_vars; omega) | trivial
-- post2 @52
theorem vX3_addUnlessHidden_29 (ad : Nat → Nat) (sa : Nat → Nat) (κ : KS) (k0 : Nat) (y1 : Int32) (b14 : Nat) (x16 : Int32) (x17 : Int32) (x20 : Int32) (x21 : Int32) (ht0 : oT κ.2.2.2.2 k0 = 5) (hPV : PV sa κ.2.2.2.2) (hSV : SV ad κ.2.2.2.2 (κ.2.1 0) (κ.2.1 1) (κ.2.2.2.1 6) (κ.2.2.2.1 7) (κ.2.2.2.1 8) (κ.2.2.2.1 13) (κ.2.2.2.1 15) (κ.2.2.2.1 17) (κ.1 1).toInt) (hpre_0 : 0 ≤ (κ.1 10).toInt) (hpre_1 : (κ.1 10).toInt ≤ 30) (hi2_0 : 0 ≤ y1.toInt) (hi2_1 : y1.toInt ≤ 30) (hi2y : ∀ (H : QT) (l : List Nat) (m : Nat), CDq κ.2.2.2.2 H (κ.2.2.2.1 15) (κ.1 10).toInt l → RTq κ.2.2.2.2 H k0 m → ∀ j : Nat, (j : Int) < y1.toInt → j < l.length → qSm H m (l.getD j 0) = false) (c2 : y1.toInt < (κ.1 10).toInt) (c8 : y1.toInt < 30) (ex13 : (some b14) = (κ.2.2.2.1 15) y1.toNatClampNeg) (ex16 : oI κ.2.2.2.2 14 b14 = x16) (ex17 : oI κ.2.2.2.2 14 k0 = x17) (c18 : x16.toInt = x17.toInt) (ex20 : oI κ.2.2.2.2 15 b14 = x20) (ex21 : oI κ.2.2.2.2 15 k0 = x21) (c22 : x20.toInt = x21.toInt) : ∀ (H : QT) (l : List Nat) (m : Nat), CDq κ.2.2.2.2 H (κ.2.2.2.1 15) (κ.1 10).toInt l → RTq κ.2.2.2.2 H k0 m → l.length < 30 → CDq κ.2.2.2.2 H (κ.2.2.2.1 15) (κ.1 10).toInt (if l.any (qSm H m) = true then l else l ++ [m]) := by
  intro H l m D R hl
  have I := hi2y H l m D R
  have DD := D
  obtain ⟨d1, d2, d3⟩ := D
  have lt : y1.toNatClampNeg < l.length := by rw [clampN]; omega
  obtain ⟨x, x1, x2, x3⟩ := d3 _ lt
  rw [← ex13] at x1
  obtain rfl := Option.some.inj x1
  have a1 := x3.2.1
  rw [ex16] at a1
  have a1R := R.2.1
  rw [ex17] at a1R
  have a2 := x3.2.2.1
  rw [ex20] at a2
  have a2R := R.2.2.1
  rw [ex21] at a2R
  rw [if_pos (q_anyt9 lt (decide_eq_true ⟨by omega, by omega⟩))]
  exact DD
set_option maxHeartbeats 4000000 in
set_option maxRecDepth 100000 in
theorem NX3_addUnlessHidden (l : Launch) (D : va_G) (cy : Nat → ClassId) (ad : Nat → Nat) (A : Nat → Prop) (sz0 : Nat) (sa : Nat → Nat)  (κ : KS) (sz sl : Nat) (hAF : ∀ q, A q → Fr sz0 q) (hAn : ∀ q : Nat, sz ≤ q → A q) (k0 : Nat) (ht0 : oT κ.2.2.2.2 k0 = 5) (hPV : PV sa κ.2.2.2.2) (hSV : SV ad κ.2.2.2.2 (κ.2.1 0) (κ.2.1 1) (κ.2.2.2.1 6) (κ.2.2.2.1 7) (κ.2.2.2.1 8) (κ.2.2.2.1 13) (κ.2.2.2.1 15) (κ.2.2.2.1 17) (κ.1 1).toInt) (hpre : 0 ≤ (κ.1 10).toInt ∧ (κ.1 10).toInt ≤ 30) : Met l yX3_addUnlessHidden (Cond.code yX3_addUnlessHidden cX3_addUnlessHidden 4 none :: GWc) ({ frames := 0, cells := 0, slots := 0, locals := 0 }) (PcC D cy ad A sz0 sa [.ref (ad 5), .ref k0] κ sz sl) (va_Qv (fun (u : (Nat → Option Nat) × Int32) => ((SV ad κ.2.2.2.2 (κ.2.1 0) (κ.2.1 1) (κ.2.2.2.1 6) (κ.2.2.2.1 7) (κ.2.2.2.1 8) (κ.2.2.2.1 13) u.1 (κ.2.2.2.1 17) (κ.1 1).toInt) ∧ (0 ≤ u.2.toInt ∧ u.2.toInt ≤ 30)) ∧ (∀ (H : QT) (l : List Nat) (m : Nat), CDq κ.2.2.2.2 H (κ.2.2.2.1 15) (κ.1 10).toInt l → RTq κ.2.2.2.2 H k0 m → l.length < 30 → CDq κ.2.2.2.2 H u.1 u.2.toInt (if l.any (qSm H m) = true then l else l ++ [m]))) (fun (u : (Nat → Option Nat) × Int32) (t : State) => Bx D cy ad A sz sl (tI (tQ κ 15 u.1) 10 u.2) (0) (0) t) A) (0) (0) A := by
  refine CM_of (loc0 := [(0, .ref (ad 5)), (1, .ref k0)]) (own := RX3) (nm := "addUnlessHidden") (by decide) rfl rfl rfl (Nat.le_of_ble_eq_true rfl) hAF hAn ?_
  intro p e s m below meth c ls hsz hsl C hP hS hl
  obtain ⟨hpre_0, hpre_1⟩ := hpre
  refine lv_iconst (v := 0) C.x C.b dX3_addUnlessHidden_0 (by decide +kernel) ?_
  refine lv_istore_n (lv' := [(2, .int 0), (0, .ref (ad 5)), (1, .ref k0)]) C.x C.b dX3_addUnlessHidden_1 rfl hl (by decide) rfl (fun ls hl => ?_)
  have lp2 : ∀ (n : Nat) (y1 : Int32) (H : Heap) (locs : List Loc) (ls : Array Slot), (30 - y1.toInt).toNat < n → ((0 ≤ y1.toInt ∧ y1.toInt ≤ 30) ∧ (∀ (H : QT) (l : List Nat) (m : Nat), CDq κ.2.2.2.2 H (κ.2.2.2.1 15) (κ.1 10).toInt l → RTq κ.2.2.2.2 H k0 m → ∀ j : Nat, (j : Int) < y1.toInt → j < l.length → qSm H m (l.getD j 0) = false)) → CH D cy ad A κ H → va_S A s.heap H locs → lv_has ls 4 [(2, .int y1), (0, .ref (ad 5)), (1, .ref k0)] → W p l e (headSpec (Cond.code yX3_addUnlessHidden cX3_addUnlessHidden 4 none :: GWc) ({ frames := 0, cells := 0, slots := 0, locals := 0 })).room s m #[.ref (ad 5), .ref k0] below meth c H locs (0) (0) (MQ below (va_Qv (fun (u : (Nat → Option Nat) × Int32) => ((SV ad κ.2.2.2.2 (κ.2.1 0) (κ.2.1 1) (κ.2.2.2.1 6) (κ.2.2.2.1 7) (κ.2.2.2.1 8) (κ.2.2.2.1 13) u.1 (κ.2.2.2.1 17) (κ.1 1).toInt) ∧ (0 ≤ u.2.toInt ∧ u.2.toInt ≤ 30)) ∧ (∀ (H : QT) (l : List Nat) (m : Nat), CDq κ.2.2.2.2 H (κ.2.2.2.1 15) (κ.1 10).toInt l → RTq κ.2.2.2.2 H k0 m → l.length < 30 → CDq κ.2.2.2.2 H u.1 u.2.toInt (if l.any (qSm H m) = true then l else l ++ [m]))) (fun (u : (Nat → Option Nat) × Int32) (t : State) => Bx D cy ad A sz sl (tI (tQ κ 15 u.1) 10 u.2) (0) (0) t) A) #[.ref (ad 5), .ref k0] s (0) (0) A) (F0 m 2 ls []) := by
    intro n
    induction n with
    | zero => intro y1 H locs ls hn; exact absurd hn (Nat.not_lt_zero _)
    | succ n2 ih2 =>
      intro y1 H locs ls hn2  hi2 hP hS hl
      obtain ⟨hi2, hi2y⟩ := hi2
      obtain ⟨hi2_0, hi2_1⟩ := hi2
      refine lv_iload_n C.x C.b dX3_addUnlessHidden_2 rfl (lv_at hl 0 rfl) ?_
      refine lv_aload_n C.x C.b dX3_addUnlessHidden_3 rfl (lv_at hl 1 rfl) ?_
      refine cg_X3_1 (v := (κ.1 10)) C hP rfl cw_424 dX3_addUnlessHidden_4 ?_
      refine lv_icmp_ge (tgt := 59) C.x C.b dX3_addUnlessHidden_7 (by decide) (fun c2 => ?_) (fun c2 => ?_)
      · have c2 : (κ.1 10).toInt ≤ y1.toInt := by have h := z_le c2; exact h
        refine lv_aload_n C.x C.b dX3_addUnlessHidden_59 rfl (lv_at hl 1 rfl) ?_
        refine cg_X3_1 (v := (κ.1 10)) C hP rfl cw_424 dX3_addUnlessHidden_60 ?_
        refine lv_aload_n C.x C.b dX3_addUnlessHidden_63 rfl (lv_at hl 1 rfl) ?_
        refine cg_X3_0 C hP cw_409 dX3_addUnlessHidden_64 ?_
        refine cl_15 C hP dX3_addUnlessHidden_67 ?_
        refine lv_icmp_ge (tgt := 91) C.x C.b dX3_addUnlessHidden_68 (by decide) (fun c4 => ?_) (fun c4 => ?_)
        · have c4 : 30 ≤ (κ.1 10).toInt := by have h := z_le c4; rw [show (30 : Int32).toInt = 30 from by decide +kernel] at h; exact h
          have hP : CH D cy ad A (tI (tQ κ 15 (κ.2.2.2.1 15)) 10 (κ.1 10)) H := CH.cong hP rfl rfl rfl rfl rfl rfl rfl rfl rfl rfl rfl rfl rfl rfl rfl rfl rfl rfl rfl rfl rfl rfl rfl rfl rfl rfl rfl
          exact c_retv C hsz hsl ⟨(κ.2.2.2.1 15), (κ.1 10)⟩ ⟨⟨hSV, (vX3_addUnlessHidden_3 κ y1 hpre_0 hpre_1 hi2_0 hi2_1 c2 c4)⟩, (vX3_addUnlessHidden_4 ad sa κ k0 y1 ht0 hPV hSV hpre_0 hpre_1 hi2_0 hi2_1 hi2y c2 c4)⟩ hP hS ⟨(Nat.le_of_ble_eq_true rfl), (Nat.le_of_ble_eq_true rfl)⟩ ⟨(Nat.le_of_ble_eq_true rfl), (Nat.le_of_ble_eq_true rfl)⟩ dX3_addUnlessHidden_91
        · have c4 : (κ.1 10).toInt < 30 := by have h := z_nle c4; rw [show (30 : Int32).toInt = 30 from by decide +kernel] at h; exact h
          refine lv_aload_n C.x C.b dX3_addUnlessHidden_71 rfl (lv_at hl 1 rfl) ?_
          refine cg_X3_0 C hP cw_409 dX3_addUnlessHidden_72 ?_
          refine lv_aload_n C.x C.b dX3_addUnlessHidden_75 rfl (lv_at hl 1 rfl) ?_
          refine cg_X3_1 (v := (κ.1 10)) C hP rfl cw_424 dX3_addUnlessHidden_76 ?_
          refine lv_aload_n C.x C.b dX3_addUnlessHidden_79 rfl (lv_at hl 2 rfl) ?_
          refine cw_st15 (f := (κ.2.2.2.1 15)) C hP hS rfl (t20 (a := k0) (t := 5) ht0) (vX3_addUnlessHidden_5 κ y1 hpre_0 hpre_1 hi2_0 hi2_1 c2 c4) dX3_addUnlessHidden_80 (fun H locs hP hS => ?_)
          have svz5 : SV ad κ.2.2.2.2 (κ.2.1 0) (κ.2.1 1) (κ.2.2.2.1 6) (κ.2.2.2.1 7) (κ.2.2.2.1 8) (κ.2.2.2.1 13) (va_up (κ.2.2.2.1 15) (κ.1 10).toNatClampNeg (some k0)) (κ.2.2.2.1 17) (κ.1 1).toInt := hSV.s15 (nt_s ht0)
          refine lv_aload_n C.x C.b dX3_addUnlessHidden_81 rfl (lv_at hl 1 rfl) ?_
          refine lv_dup C.x C.b dX3_addUnlessHidden_82 rfl ?_
          refine cg_X3_1 (v := (κ.1 10)) C hP rfl cw_424 dX3_addUnlessHidden_83 ?_
          refine lv_iconst (v := 1) C.x C.b dX3_addUnlessHidden_86 (by decide +kernel) ?_
          refine lv_iadd C.x C.b dX3_addUnlessHidden_87 ?_
          refine lv_topi (fun x6 ex6 => ?_)
          have tx6 : x6.toInt = (κ.1 10).toInt + 1 := (vX3_addUnlessHidden_6 κ y1 x6 hpre_0 hpre_1 hi2_0 hi2_1 c2 c4 ex6)
          refine cp_X3_1 (v := x6) C hP hS cw_424 dX3_addUnlessHidden_88 (fun H locs hP hS => ?_)
          exact c_retv C hsz hsl ⟨(va_up (κ.2.2.2.1 15) (κ.1 10).toNatClampNeg (some k0)), x6⟩ ⟨⟨svz5, (vX3_addUnlessHidden_7 κ y1 x6 hpre_0 hpre_1 hi2_0 hi2_1 c2 c4 ex6 tx6)⟩, (vX3_addUnlessHidden_8 ad sa κ k0 y1 x6 ht0 hPV hSV hpre_0 hpre_1 hi2_0 hi2_1 hi2y c2 c4 ex6 tx6)⟩ hP hS ⟨(Nat.le_of_ble_eq_true rfl), (Nat.le_of_ble_eq_true rfl)⟩ ⟨(Nat.le_of_ble_eq_true rfl), (Nat.le_of_ble_eq_true rfl)⟩ dX3_addUnlessHidden_91
      · have c2 : y1.toInt < (κ.1 10).toInt := by have h := z_nle c2; exact h
        refine lv_iload_n C.x C.b dX3_addUnlessHidden_10 rfl (lv_at hl 0 rfl) ?_
        refine lv_aload_n C.x C.b dX3_addUnlessHidden_11 rfl (lv_at hl 1 rfl) ?_
        refine cg_X3_0 C hP cw_409 dX3_addUnlessHidden_12 ?_
        refine cl_15 C hP dX3_addUnlessHidden_15 ?_
        refine lv_icmp_ge (tgt := 59) C.x C.b dX3_addUnlessHidden_16 (by decide) (fun c8 => ?_) (fun c8 => ?_)
        · have c8 : 30 ≤ y1.toInt := by have h := z_le c8; rw [show (30 : Int32).toInt = 30 from by decide +kernel] at h; exact h
          refine lv_aload_n C.x C.b dX3_addUnlessHidden_59 rfl (lv_at hl 1 rfl) ?_
          refine cg_X3_1 (v := (κ.1 10)) C hP rfl cw_424 dX3_addUnlessHidden_60 ?_
          refine lv_aload_n C.x C.b dX3_addUnlessHidden_63 rfl (lv_at hl 1 rfl) ?_
          refine cg_X3_0 C hP cw_409 dX3_addUnlessHidden_64 ?_
          refine cl_15 C hP dX3_addUnlessHidden_67 ?_
          refine lv_icmp_ge (tgt := 91) C.x C.b dX3_addUnlessHidden_68 (by decide) (fun c10 => ?_) (fun c10 => ?_)
          · have c10 : 30 ≤ (κ.1 10).toInt := by have h := z_le c10; rw [show (30 : Int32).toInt = 30 from by decide +kernel] at h; exact h
            have hP : CH D cy ad A (tI (tQ κ 15 (κ.2.2.2.1 15)) 10 (κ.1 10)) H := CH.cong hP rfl rfl rfl rfl rfl rfl rfl rfl rfl rfl rfl rfl rfl rfl rfl rfl rfl rfl rfl rfl rfl rfl rfl rfl rfl rfl rfl
            exact c_retv C hsz hsl ⟨(κ.2.2.2.1 15), (κ.1 10)⟩ ⟨⟨hSV, (vX3_addUnlessHidden_9 κ y1 hpre_0 hpre_1 hi2_0 hi2_1 c2 c8 c10)⟩, (vX3_addUnlessHidden_10 ad sa κ k0 y1 ht0 hPV hSV hpre_0 hpre_1 hi2_0 hi2_1 hi2y c2 c8 c10)⟩ hP hS ⟨(Nat.le_of_ble_eq_true rfl), (Nat.le_of_ble_eq_true rfl)⟩ ⟨(Nat.le_of_ble_eq_true rfl), (Nat.le_of_ble_eq_true rfl)⟩ dX3_addUnlessHidden_91
          · have c10 : (κ.1 10).toInt < 30 := by have h := z_nle c10; rw [show (30 : Int32).toInt = 30 from by decide +kernel] at h; exact h
            refine lv_aload_n C.x C.b dX3_addUnlessHidden_71 rfl (lv_at hl 1 rfl) ?_
            refine cg_X3_0 C hP cw_409 dX3_addUnlessHidden_72 ?_
            refine lv_aload_n C.x C.b dX3_addUnlessHidden_75 rfl (lv_at hl 1 rfl) ?_
            refine cg_X3_1 (v := (κ.1 10)) C hP rfl cw_424 dX3_addUnlessHidden_76 ?_
            refine lv_aload_n C.x C.b dX3_addUnlessHidden_79 rfl (lv_at hl 2 rfl) ?_
            refine cw_st15 (f := (κ.2.2.2.1 15)) C hP hS rfl (t20 (a := k0) (t := 5) ht0) (vX3_addUnlessHidden_11 κ y1 hpre_0 hpre_1 hi2_0 hi2_1 c2 c8 c10) dX3_addUnlessHidden_80 (fun H locs hP hS => ?_)
            have svz11 : SV ad κ.2.2.2.2 (κ.2.1 0) (κ.2.1 1) (κ.2.2.2.1 6) (κ.2.2.2.1 7) (κ.2.2.2.1 8) (κ.2.2.2.1 13) (va_up (κ.2.2.2.1 15) (κ.1 10).toNatClampNeg (some k0)) (κ.2.2.2.1 17) (κ.1 1).toInt := hSV.s15 (nt_s ht0)
            refine lv_aload_n C.x C.b dX3_addUnlessHidden_81 rfl (lv_at hl 1 rfl) ?_
            refine lv_dup C.x C.b dX3_addUnlessHidden_82 rfl ?_
            refine cg_X3_1 (v := (κ.1 10)) C hP rfl cw_424 dX3_addUnlessHidden_83 ?_
            refine lv_iconst (v := 1) C.x C.b dX3_addUnlessHidden_86 (by decide +kernel) ?_
            refine lv_iadd C.x C.b dX3_addUnlessHidden_87 ?_
            refine lv_topi (fun x12 ex12 => ?_)
            have tx12 : x12.toInt = (κ.1 10).toInt + 1 := (vX3_addUnlessHidden_12 κ y1 x12 hpre_0 hpre_1 hi2_0 hi2_1 c2 c8 c10 ex12)
            refine cp_X3_1 (v := x12) C hP hS cw_424 dX3_addUnlessHidden_88 (fun H locs hP hS => ?_)
            exact c_retv C hsz hsl ⟨(va_up (κ.2.2.2.1 15) (κ.1 10).toNatClampNeg (some k0)), x12⟩ ⟨⟨svz11, (vX3_addUnlessHidden_13 κ y1 x12 hpre_0 hpre_1 hi2_0 hi2_1 c2 c8 c10 ex12 tx12)⟩, (vX3_addUnlessHidden_14 ad sa κ k0 y1 x12 ht0 hPV hSV hpre_0 hpre_1 hi2_0 hi2_1 hi2y c2 c8 c10 ex12 tx12)⟩ hP hS ⟨(Nat.le_of_ble_eq_true rfl), (Nat.le_of_ble_eq_true rfl)⟩ ⟨(Nat.le_of_ble_eq_true rfl), (Nat.le_of_ble_eq_true rfl)⟩ dX3_addUnlessHidden_91
        · have c8 : y1.toInt < 30 := by have h := z_nle c8; rw [show (30 : Int32).toInt = 30 from by decide +kernel] at h; exact h
          refine lv_aload_n C.x C.b dX3_addUnlessHidden_19 rfl (lv_at hl 1 rfl) ?_
          refine cg_X3_0 C hP cw_409 dX3_addUnlessHidden_20 ?_
          refine lv_iload_n C.x C.b dX3_addUnlessHidden_23 rfl (lv_at hl 0 rfl) ?_
          refine ca_15 (f := (κ.2.2.2.1 15)) C hP rfl (vX3_addUnlessHidden_15 κ y1 hpre_0 hpre_1 hi2_0 hi2_1 c2 c8) dX3_addUnlessHidden_24 (fun x13 ex13 => ?_)
          have tx13 : NT κ.2.2.2.2 5 x13 := by rw [ex13]; exact hSV.n15 _
          refine lq_astore_n (lv' := [(3, va_rf x13), (2, .int y1), (0, .ref (ad 5)), (1, .ref k0)]) C.x C.b dX3_addUnlessHidden_25 rfl hl (by decide) (by cases x13 <;> rfl) (fun ls hl => ?_)
          refine lq_aload_n C.x C.b dX3_addUnlessHidden_26 rfl (lv_at hl 0 rfl) ?_
          cases x13 with
          | none =>
            refine lv_ifnullN (tgt := 53) C.x C.b dX3_addUnlessHidden_27 (by decide) ?_
            obtain ⟨x15, ex15⟩ : ∃ y : Int32, y = y1 + (1 : Int32) := ⟨_, rfl⟩
            have tx15 : x15.toInt = y1.toInt + 1 := (vX3_addUnlessHidden_16 κ y1 x15 hpre_0 hpre_1 hi2_0 hi2_1 c2 c8 ex13 ex15)
            refine lv_iinc (v := x15) (lv' := [(2, .int x15), (3, .null), (0, .ref (ad 5)), (1, .ref k0)]) C.x C.b dX3_addUnlessHidden_53 hl (k := 1) rfl (by rw [ex15]; rfl) (by decide) rfl (fun ls hl => ?_)
            refine lv_goto (tgt := 2) C.x C.b dX3_addUnlessHidden_56 (by decide) ?_
            refine W.widen (k := 0) (n := 0) (Nat.le_of_ble_eq_true rfl) (Nat.le_of_ble_eq_true rfl) ?_
            exact ih2 x15 _ _ _ (Nat.lt_of_lt_of_le (vX3_addUnlessHidden_19 κ y1 x15 hpre_0 hpre_1 hi2_0 hi2_1 c2 c8 ex13 ex15 tx15) (Nat.le_of_lt_succ hn2))  ⟨(vX3_addUnlessHidden_17 κ y1 x15 hpre_0 hpre_1 hi2_0 hi2_1 c2 c8 ex13 ex15 tx15), (vX3_addUnlessHidden_18 ad sa κ k0 y1 x15 ht0 hPV hSV hpre_0 hpre_1 hi2_0 hi2_1 hi2y c2 c8 ex13 ex15 tx15)⟩ hP hS (lv_sub hl [0, 2, 3] rfl)
          | some b14 =>
            have hb14 : oT κ.2.2.2.2 b14 = 5 := tx13 b14 rfl
            refine lv_ifnull C.x C.b dX3_addUnlessHidden_27 ?_
            refine lv_aload_n C.x C.b dX3_addUnlessHidden_30 rfl (lv_at hl 0 rfl) ?_
            obtain ⟨x16, ex16⟩ : ∃ z, oI κ.2.2.2.2 14 b14 = z := ⟨_, rfl⟩
            refine pg_X7_1 (v := x16) C hP (t20 (a := b14) (t := 5) hb14) ex16 cw_436 dX3_addUnlessHidden_31 ?_
            refine lv_aload_n C.x C.b dX3_addUnlessHidden_34 rfl (lv_at hl 3 rfl) ?_
            obtain ⟨x17, ex17⟩ : ∃ z, oI κ.2.2.2.2 14 k0 = z := ⟨_, rfl⟩
            refine pg_X7_1 (v := x17) C hP (t20 (a := k0) (t := 5) ht0) ex17 cw_436 dX3_addUnlessHidden_35 ?_
            refine lv_icmp_ne (tgt := 53) C.x C.b dX3_addUnlessHidden_38 (by decide) (fun c18 => ?_) (fun c18 => ?_)
            · have c18 : ¬ x16.toInt = x17.toInt := by have h := z_ne c18; exact h
              obtain ⟨x19, ex19⟩ : ∃ y : Int32, y = y1 + (1 : Int32) := ⟨_, rfl⟩
              have tx19 : x19.toInt = y1.toInt + 1 := (vX3_addUnlessHidden_20 κ k0 y1 b14 x16 x17 x19 hpre_0 hpre_1 hi2_0 hi2_1 c2 c8 ex13 ex16 ex17 c18 ex19)
              refine lv_iinc (v := x19) (lv' := [(2, .int x19), (3, .ref b14), (0, .ref (ad 5)), (1, .ref k0)]) C.x C.b dX3_addUnlessHidden_53 hl (k := 1) rfl (by rw [ex19]; rfl) (by decide) rfl (fun ls hl => ?_)
              refine lv_goto (tgt := 2) C.x C.b dX3_addUnlessHidden_56 (by decide) ?_
              refine W.widen (k := 0) (n := 0) (Nat.le_of_ble_eq_true rfl) (Nat.le_of_ble_eq_true rfl) ?_
              exact ih2 x19 _ _ _ (Nat.lt_of_lt_of_le (vX3_addUnlessHidden_23 κ k0 y1 b14 x16 x17 x19 hpre_0 hpre_1 hi2_0 hi2_1 c2 c8 ex13 ex16 ex17 c18 ex19 tx19) (Nat.le_of_lt_succ hn2))  ⟨(vX3_addUnlessHidden_21 κ k0 y1 b14 x16 x17 x19 hpre_0 hpre_1 hi2_0 hi2_1 c2 c8 ex13 ex16 ex17 c18 ex19 tx19), (vX3_addUnlessHidden_22 ad sa κ k0 y1 b14 x16 x17 x19 ht0 hPV hSV hpre_0 hpre_1 hi2_0 hi2_1 hi2y c2 c8 ex13 ex16 ex17 c18 ex19 tx19)⟩ hP hS (lv_sub hl [0, 2, 3] rfl)
            · have c18 : x16.toInt = x17.toInt := by have h := z_eq c18; exact h
              refine lv_aload_n C.x C.b dX3_addUnlessHidden_41 rfl (lv_at hl 0 rfl) ?_
              obtain ⟨x20, ex20⟩ : ∃ z, oI κ.2.2.2.2 15 b14 = z := ⟨_, rfl⟩
              refine pg_X7_2 (v := x20) C hP (t20 (a := b14) (t := 5) hb14) ex20 cw_437 dX3_addUnlessHidden_42 ?_
              refine lv_aload_n C.x C.b dX3_addUnlessHidden_45 rfl (lv_at hl 3 rfl) ?_
              obtain ⟨x21, ex21⟩ : ∃ z, oI κ.2.2.2.2 15 k0 = z := ⟨_, rfl⟩
              refine pg_X7_2 (v := x21) C hP (t20 (a := k0) (t := 5) ht0) ex21 cw_437 dX3_addUnlessHidden_46 ?_
              refine lv_icmp_ne (tgt := 53) C.x C.b dX3_addUnlessHidden_49 (by decide) (fun c22 => ?_) (fun c22 => ?_)
              · have c22 : ¬ x20.toInt = x21.toInt := by have h := z_ne c22; exact h
                obtain ⟨x23, ex23⟩ : ∃ y : Int32, y = y1 + (1 : Int32) := ⟨_, rfl⟩
                have tx23 : x23.toInt = y1.toInt + 1 := (vX3_addUnlessHidden_24 κ k0 y1 b14 x16 x17 x20 x21 x23 hpre_0 hpre_1 hi2_0 hi2_1 c2 c8 ex13 ex16 ex17 c18 ex20 ex21 c22 ex23)
                refine lv_iinc (v := x23) (lv' := [(2, .int x23), (3, .ref b14), (0, .ref (ad 5)), (1, .ref k0)]) C.x C.b dX3_addUnlessHidden_53 hl (k := 1) rfl (by rw [ex23]; rfl) (by decide) rfl (fun ls hl => ?_)
                refine lv_goto (tgt := 2) C.x C.b dX3_addUnlessHidden_56 (by decide) ?_
                refine W.widen (k := 0) (n := 0) (Nat.le_of_ble_eq_true rfl) (Nat.le_of_ble_eq_true rfl) ?_
                exact ih2 x23 _ _ _ (Nat.lt_of_lt_of_le (vX3_addUnlessHidden_27 κ k0 y1 b14 x16 x17 x20 x21 x23 hpre_0 hpre_1 hi2_0 hi2_1 c2 c8 ex13 ex16 ex17 c18 ex20 ex21 c22 ex23 tx23) (Nat.le_of_lt_succ hn2))  ⟨(vX3_addUnlessHidden_25 κ k0 y1 b14 x16 x17 x20 x21 x23 hpre_0 hpre_1 hi2_0 hi2_1 c2 c8 ex13 ex16 ex17 c18 ex20 ex21 c22 ex23 tx23), (vX3_addUnlessHidden_26 ad sa κ k0 y1 b14 x16 x17 x20 x21 x23 ht0 hPV hSV hpre_0 hpre_1 hi2_0 hi2_1 hi2y c2 c8 ex13 ex16 ex17 c18 ex20 ex21 c22 ex23 tx23)⟩ hP hS (lv_sub hl [0, 2, 3] rfl)
              · have c22 : x20.toInt = x21.toInt := by have h := z_eq c22; exact h
                have hP : CH D cy ad A (tI (tQ κ 15 (κ.2.2.2.1 15)) 10 (κ.1 10)) H := CH.cong hP rfl rfl rfl rfl rfl rfl rfl rfl rfl rfl rfl rfl rfl rfl rfl rfl rfl rfl rfl rfl rfl rfl rfl rfl rfl rfl rfl
                exact c_retv C hsz hsl ⟨(κ.2.2.2.1 15), (κ.1 10)⟩ ⟨⟨hSV, (vX3_addUnlessHidden_28 κ k0 y1 b14 x16 x17 x20 x21 hpre_0 hpre_1 hi2_0 hi2_1 c2 c8 ex13 ex16 ex17 c18 ex20 ex21 c22)⟩, (vX3_addUnlessHidden_29 ad sa κ k0 y1 b14 x16 x17 x20 x21 ht0 hPV hSV hpre_0 hpre_1 hi2_0 hi2_1 hi2y c2 c8 ex13 ex16 ex17 c18 ex20 ex21 c22)⟩ hP hS ⟨(Nat.le_of_ble_eq_true rfl), (Nat.le_of_ble_eq_true rfl)⟩ ⟨(Nat.le_of_ble_eq_true rfl), (Nat.le_of_ble_eq_true rfl)⟩ dX3_addUnlessHidden_52
  refine W.widen (k := 0) (n := 0) (Nat.le_of_ble_eq_true rfl) (Nat.le_of_ble_eq_true rfl) ?_
  exact lp2 ((30 - (0 : Int32).toInt).toNat + 1) (0 : Int32) _ _ _ (Nat.lt_succ_self _)  ⟨(vX3_addUnlessHidden_1  ), (vX3_addUnlessHidden_2 ad sa κ k0 ht0 hPV hSV hpre_0 hpre_1)⟩ hP hS (lv_sub hl [0, 1, 2] rfl)

-- init@8 @8
theorem vX3_collect_1   : 0 ≤ (0 : Int32).toInt ∧ (0 : Int32).toInt ≤ 30 := by
  have q0 : (0 : Int32).toInt = 0 := by decide +kernel
  refine ⟨?_, ?_⟩ <;> first | assumption | omega | (subst_vars; omega) | trivial
-- post @80
theorem vX3_collect_2 (n3 : Int32) (hi8_0 : 0 ≤ n3.toInt) (hi8_1 : n3.toInt ≤ 30) : 0 ≤ n3.toInt ∧ n3.toInt ≤ 30 := by
  refine ⟨?_, ?_⟩ <;> first | assumption | omega | (subst_vars; omega) | trivial
-- init@16 @16
theorem vX3_collect_3 (n3 : Int32) (hi8_0 : 0 ≤ n3.toInt) (hi8_1 : n3.toInt ≤ 30) : 0 ≤ n3.toInt ∧ n3.toInt ≤ 30 ∧ 0 ≤ (0 : Int32).toInt ∧ (0 : Int32).toInt ≤ 6 := by
  have q0 : (0 : Int32).toInt = 0 := by decide +kernel
  refine ⟨?_, ?_, ?_, ?_⟩ <;> first | assumption | omega | (subst_vars; omega) | trivial
-- inv@8 @8
theorem vX3_collect_4 (n7 : Int32) (hi16_0 : 0 ≤ n7.toInt) (hi16_1 : n7.toInt ≤ 30) : 0 ≤ n7.toInt ∧ n7.toInt ≤ 30 := by
  refine ⟨?_, ?_⟩ <;> first | assumption | omega | (subst_vars; omega) | trivial
-- meas@8 @8
theorem vX3_collect_5 (κ : KS) (b4 : Nat) (y5 : Int32) (x8 : Int32) (x10 : Option Nat) (hi16_2 : 0 ≤ y5.toInt) (hi16_3 : y5.toInt ≤ 6) (ex8 : oI κ.2.2.2.2 9 b4 = x8) (bx8_0 : 0 ≤ x8.toInt) (bx8_1 : x8.toInt ≤ 6) (c9 : x8.toInt ≤ y5.toInt) (mx10 : cto κ.2.2.2.2 x10 < oC κ.2.2.2.2 b4) : (cto κ.2.2.2.2 x10) < (cto κ.2.2.2.2 (some b4)) := by
  first | omega | (show cto _ _ < oC _ _; assumption)
-- nw@64 @64
theorem vX3_collect_6 (κ : KS) (b4 : Nat) (y5 : Int32) (x8 : Int32) (x13 : Int32) (hi16_2 : 0 ≤ y5.toInt) (hi16_3 : y5.toInt ≤ 6) (ex8 : oI κ.2.2.2.2 9 b4 = x8) (bx8_0 : 0 ≤ x8.toInt) (bx8_1 : x8.toInt ≤ 6) (c9 : y5.toInt < x8.toInt) (ex13 : x13 = y5 + (1 : Int32)) : x13.toInt = y5.toInt + 1 := by
  have q1 : (1 : Int32).toInt = 1 := by decide +kernel
  have z9 : (1 : Int32).toInt = 1 := by decide +kernel
  rw [ex13, z_add (by omega) (by omega)]; first | done | omega
-- inv@16 @16
theorem vX3_collect_7 (κ : KS) (b4 : Nat) (y5 : Int32) (n7 : Int32) (x8 : Int32) (x13 : Int32) (hi16_0 : 0 ≤ n7.toInt) (hi16_1 : n7.toInt ≤ 30) (hi16_2 : 0 ≤ y5.toInt) (hi16_3 : y5.toInt ≤ 6) (ex8 : oI κ.2.2.2.2 9 b4 = x8) (bx8_0 : 0 ≤ x8.toInt) (bx8_1 : x8.toInt ≤ 6) (c9 : y5.toInt < x8.toInt) (ex13 : x13 = y5 + (1 : Int32)) (tx13 : x13.toInt = y5.toInt + 1) : 0 ≤ n7.toInt ∧ n7.toInt ≤ 30 ∧ 0 ≤ x13.toInt ∧ x13.toInt ≤ 6 := by
  have q1 : (1 : Int32).toInt = 1 := by decide +kernel
  refine ⟨?_, ?_, ?_, ?_⟩ <;> first | assumption | omega | (subst_vars; omega) | trivial
-- meas@16 @16
theorem vX3_collect_8 (κ : KS) (b4 : Nat) (y5 : Int32) (x8 : Int32) (x13 : Int32) (hi16_2 : 0 ≤ y5.toInt) (hi16_3 : y5.toInt ≤ 6) (ex8 : oI κ.2.2.2.2 9 b4 = x8) (bx8_0 : 0 ≤ x8.toInt) (bx8_1 : x8.toInt ≤ 6) (c9 : y5.toInt < x8.toInt) (ex13 : x13 = y5 + (1 : Int32)) (tx13 : x13.toInt = y5.toInt + 1) : (6 - x13.toInt).toNat < (6 - y5.toInt).toNat := by
  have q1 : (1 : Int32).toInt = 1 := by decide +kernel
  first | omega | (show cto _ _ < oC _ _; assumption)
-- nw@64 @64
theorem vX3_collect_9 (κ : KS) (k1 : Int32) (b4 : Nat) (y5 : Int32) (x8 : Int32) (b12 : Nat) (x14 : Int32) (x16 : Int32) (hi16_2 : 0 ≤ y5.toInt) (hi16_3 : y5.toInt ≤ 6) (ex8 : oI κ.2.2.2.2 9 b4 = x8) (bx8_0 : 0 ≤ x8.toInt) (bx8_1 : x8.toInt ≤ 6) (c9 : y5.toInt < x8.toInt) (ex14 : oI κ.2.2.2.2 13 b12 = x14) (c15 : ¬ x14.toInt = k1.toInt) (ex16 : x16 = y5 + (1 : Int32)) : x16.toInt = y5.toInt + 1 := by
  have q1 : (1 : Int32).toInt = 1 := by decide +kernel
  have z9 : (1 : Int32).toInt = 1 := by decide +kernel
  rw [ex16, z_add (by omega) (by omega)]; first | done | omega
-- inv@16 @16
theorem vX3_collect_10 (κ : KS) (k1 : Int32) (b4 : Nat) (y5 : Int32) (n7 : Int32) (x8 : Int32) (b12 : Nat) (x14 : Int32) (x16 : Int32) (hi16_0 : 0 ≤ n7.toInt) (hi16_1 : n7.toInt ≤ 30) (hi16_2 : 0 ≤ y5.toInt) (hi16_3 : y5.toInt ≤ 6) (ex8 : oI κ.2.2.2.2 9 b4 = x8) (bx8_0 : 0 ≤ x8.toInt) (bx8_1 : x8.toInt ≤ 6) (c9 : y5.toInt < x8.toInt) (ex14 : oI κ.2.2.2.2 13 b12 = x14) (c15 : ¬ x14.toInt = k1.toInt) (ex16 : x16 = y5 + (1 : Int32)) (tx16 : x16.toInt = y5.toInt + 1) : 0 ≤ n7.toInt ∧ n7.toInt ≤ 30 ∧ 0 ≤ x16.toInt ∧ x16.toInt ≤ 6 := by
  have q1 : (1 : Int32).toInt = 1 := by decide +kernel
  refine ⟨?_, ?_, ?_, ?_⟩ <;> first | assumption | omega | (subst_vars; omega) | trivial
-- meas@16 @16
theorem vX3_collect_11 (κ : KS) (k1 : Int32) (b4 : Nat) (y5 : Int32) (x8 : Int32) (b12 : Nat) (x14 : Int32) (x16 : Int32) (hi16_2 : 0 ≤ y5.toInt) (hi16_3 : y5.toInt ≤ 6) (ex8 : oI κ.2.2.2.2 9 b4 = x8) (bx8_0 : 0 ≤ x8.toInt) (bx8_1 : x8.toInt ≤ 6) (c9 : y5.toInt < x8.toInt) (ex14 : oI κ.2.2.2.2 13 b12 = x14) (c15 : ¬ x14.toInt = k1.toInt) (ex16 : x16 = y5 + (1 : Int32)) (tx16 : x16.toInt = y5.toInt + 1) : (6 - x16.toInt).toNat < (6 - y5.toInt).toNat := by
  have q1 : (1 : Int32).toInt = 1 := by decide +kernel
  first | omega | (show cto _ _ < oC _ _; assumption)
-- nw@64 @64
theorem vX3_collect_12 (κ : KS) (k1 : Int32) (k2 : Int32) (b4 : Nat) (y5 : Int32) (x8 : Int32) (b12 : Nat) (x14 : Int32) (x17 : Int32) (x19 : Int32) (hi16_2 : 0 ≤ y5.toInt) (hi16_3 : y5.toInt ≤ 6) (ex8 : oI κ.2.2.2.2 9 b4 = x8) (bx8_0 : 0 ≤ x8.toInt) (bx8_1 : x8.toInt ≤ 6) (c9 : y5.toInt < x8.toInt) (ex14 : oI κ.2.2.2.2 13 b12 = x14) (c15 : x14.toInt = k1.toInt) (ex17 : oI κ.2.2.2.2 16 b12 = x17) (c18 : ¬ x17.toInt = k2.toInt) (ex19 : x19 = y5 + (1 : Int32)) : x19.toInt = y5.toInt + 1 := by
  have q1 : (1 : Int32).toInt = 1 := by decide +kernel
  have z9 : (1 : Int32).toInt = 1 := by decide +kernel
  rw [ex19, z_add (by omega) (by omega)]; first | done | omega
-- inv@16 @16
theorem vX3_collect_13 (κ : KS) (k1 : Int32) (k2 : Int32) (b4 : Nat) (y5 : Int32) (n7 : Int32) (x8 : Int32) (b12 : Nat) (x14 : Int32) (x17 : Int32) (x19 : Int32) (hi16_0 : 0 ≤ n7.toInt) (hi16_1 : n7.toInt ≤ 30) (hi16_2 : 0 ≤ y5.toInt) (hi16_3 : y5.toInt ≤ 6) (ex8 : oI κ.2.2.2.2 9 b4 = x8) (bx8_0 : 0 ≤ x8.toInt) (bx8_1 : x8.toInt ≤ 6) (c9 : y5.toInt < x8.toInt) (ex14 : oI κ.2.2.2.2 13 b12 = x14) (c15 : x14.toInt = k1.toInt) (ex17 : oI κ.2.2.2.2 16 b12 = x17) (c18 : ¬ x17.toInt = k2.toInt) (ex19 : x19 = y5 + (1 : Int32)) (tx19 : x19.toInt = y5.toInt + 1) : 0 ≤ n7.toInt ∧ n7.toInt ≤ 30 ∧ 0 ≤ x19.toInt ∧ x19.toInt ≤ 6 := by
  have q1 : (1 : Int32).toInt = 1 := by decide +kernel
  refine ⟨?_, ?_, ?_, ?_⟩ <;> first | assumption | omega | (subst_vars; omega) | trivial
-- meas@16 @16
theorem vX3_collect_14 (κ : KS) (k1 : Int32) (k2 : Int32) (b4 : Nat) (y5 : Int32) (x8 : Int32) (b12 : Nat) (x14 : Int32) (x17 : Int32) (x19 : Int32) (hi16_2 : 0 ≤ y5.toInt) (hi16_3 : y5.toInt ≤ 6) (ex8 : oI κ.2.2.2.2 9 b4 = x8) (bx8_0 : 0 ≤ x8.toInt) (bx8_1 : x8.toInt ≤ 6) (c9 : y5.toInt < x8.toInt) (ex14 : oI κ.2.2.2.2 13 b12 = x14) (c15 : x14.toInt = k1.toInt) (ex17 : oI κ.2.2.2.2 16 b12 = x17) (c18 : ¬ x17.toInt = k2.toInt) (ex19 : x19 = y5 + (1 : Int32)) (tx19 : x19.toInt = y5.toInt + 1) : (6 - x19.toInt).toNat < (6 - y5.toInt).toNat := by
  have q1 : (1 : Int32).toInt = 1 := by decide +kernel
  first | omega | (show cto _ _ < oC _ _; assumption)
-- nw@64 @64
theorem vX3_collect_15 (κ : KS) (k1 : Int32) (k2 : Int32) (b4 : Nat) (y5 : Int32) (x8 : Int32) (b12 : Nat) (x14 : Int32) (x17 : Int32) (x23 : Int32) (hi16_2 : 0 ≤ y5.toInt) (hi16_3 : y5.toInt ≤ 6) (ex8 : oI κ.2.2.2.2 9 b4 = x8) (bx8_0 : 0 ≤ x8.toInt) (bx8_1 : x8.toInt ≤ 6) (c9 : y5.toInt < x8.toInt) (ex14 : oI κ.2.2.2.2 13 b12 = x14) (c15 : x14.toInt = k1.toInt) (ex17 : oI κ.2.2.2.2 16 b12 = x17) (c18 : x17.toInt = k2.toInt) (ex23 : x23 = y5 + (1 : Int32)) : x23.toInt = y5.toInt + 1 := by
  have q1 : (1 : Int32).toInt = 1 := by decide +kernel
  have z9 : (1 : Int32).toInt = 1 := by decide +kernel
  rw [ex23, z_add (by omega) (by omega)]; first | done | omega
-- inv@16 @16
theorem vX3_collect_16 (κ : KS) (k1 : Int32) (k2 : Int32) (b4 : Nat) (y5 : Int32) (x8 : Int32) (b12 : Nat) (x14 : Int32) (x17 : Int32) (n22 : Int32) (x23 : Int32) (hi16_2 : 0 ≤ y5.toInt) (hi16_3 : y5.toInt ≤ 6) (ex8 : oI κ.2.2.2.2 9 b4 = x8) (bx8_0 : 0 ≤ x8.toInt) (bx8_1 : x8.toInt ≤ 6) (c9 : y5.toInt < x8.toInt) (ex14 : oI κ.2.2.2.2 13 b12 = x14) (c15 : x14.toInt = k1.toInt) (ex17 : oI κ.2.2.2.2 16 b12 = x17) (c18 : x17.toInt = k2.toInt) (hr20_1_0 : 0 ≤ n22.toInt) (hr20_1_1 : n22.toInt ≤ 30) (ex23 : x23 = y5 + (1 : Int32)) (tx23 : x23.toInt = y5.toInt + 1) : 0 ≤ n22.toInt ∧ n22.toInt ≤ 30 ∧ 0 ≤ x23.toInt ∧ x23.toInt ≤ 6 := by
  have q1 : (1 : Int32).toInt = 1 := by decide +kernel
  refine ⟨?_, ?_, ?_, ?_⟩ <;> first | assumption | omega | (subst_vars; omega) | trivial
-- meas@16 @16
theorem vX3_collect_17 (κ : KS) (k1 : Int32) (k2 : Int32) (b4 : Nat) (y5 : Int32) (x8 : Int32) (b12 : Nat) (x14 : Int32) (x17 : Int32) (x23 : Int32) (hi16_2 : 0 ≤ y5.toInt) (hi16_3 : y5.toInt ≤ 6) (ex8 : oI κ.2.2.2.2 9 b4 = x8) (bx8_0 : 0 ≤ x8.toInt) (bx8_1 : x8.toInt ≤ 6) (c9 : y5.toInt < x8.toInt) (ex14 : oI κ.2.2.2.2 13 b12 = x14) (c15 : x14.toInt = k1.toInt) (ex17 : oI κ.2.2.2.2 16 b12 = x17) (c18 : x17.toInt = k2.toInt) (ex23 : x23 = y5 + (1 : Int32)) (tx23 : x23.toInt = y5.toInt + 1) : (6 - x23.toInt).toNat < (6 - y5.toInt).toNat := by
  have q1 : (1 : Int32).toInt = 1 := by decide +kernel
  first | omega | (show cto _ _ < oC _ _; assumption)
set_option maxHeartbeats 4000000 in
set_option maxRecDepth 100000 in
theorem NX3_collect (l : Launch) (D : va_G) (cy : Nat → ClassId) (ad : Nat → Nat) (A : Nat → Prop) (sz0 : Nat) (sa : Nat → Nat)  (κ : KS) (sz sl : Nat) (hAF : ∀ q, A q → Fr sz0 q) (hAn : ∀ q : Nat, sz ≤ q → A q) (k0 : Nat) (k1 : Int32) (k2 : Int32) (ht0 : oT κ.2.2.2.2 k0 = 3) (hPV : PV sa κ.2.2.2.2) (hSV : SV ad κ.2.2.2.2 (κ.2.1 0) (κ.2.1 1) (κ.2.2.2.1 6) (κ.2.2.2.1 7) (κ.2.2.2.1 8) (κ.2.2.2.1 13) (κ.2.2.2.1 15) (κ.2.2.2.1 17) (κ.1 1).toInt) : Met l yX3_collect (Cond.code yX3_collect cX3_collect 7 none :: GWc) ({ frames := 1, cells := 0, slots := 0, locals := 23 }) (PcC D cy ad A sz0 sa [.ref (ad 5), .ref k0, .int k1, .int k2] κ sz sl) (va_Qv (fun (u : (Nat → Option Nat) × Int32) => (SV ad κ.2.2.2.2 (κ.2.1 0) (κ.2.1 1) (κ.2.2.2.1 6) (κ.2.2.2.1 7) (κ.2.2.2.1 8) (κ.2.2.2.1 13) u.1 (κ.2.2.2.1 17) (κ.1 1).toInt) ∧ (0 ≤ u.2.toInt ∧ u.2.toInt ≤ 30)) (fun (u : (Nat → Option Nat) × Int32) (t : State) => Bx D cy ad A sz sl (tI (tQ κ 15 u.1) 10 u.2) (0) (0) t) A) (0) (0) A := by
  refine CM_of (loc0 := [(0, .ref (ad 5)), (1, .ref k0), (2, .int k1), (3, .int k2)]) (own := RX3) (nm := "collect") (by decide) rfl rfl rfl (Nat.le_of_ble_eq_true rfl) hAF hAn ?_
  intro p e s m below meth c ls hsz hsl C hP hS hl
  refine lv_aload_n C.x C.b dX3_collect_0 rfl (lv_at hl 0 rfl) ?_
  refine lv_iconst (v := 0) C.x C.b dX3_collect_1 (by decide +kernel) ?_
  refine cp_X3_1 (v := 0) C hP hS cw_424 dX3_collect_2 (fun H locs hP hS => ?_)
  refine lv_aload_n C.x C.b dX3_collect_5 rfl (lv_at hl 1 rfl) ?_
  refine lv_astore (lv' := [(4, .ref k0), (0, .ref (ad 5)), (1, .ref k0), (2, .int k1), (3, .int k2)]) C.x C.b dX3_collect_6 hl (by decide) rfl (fun ls hl => ?_)
  have lp8 : ∀ (n : Nat) (y1 : Option Nat) (Z2 : (Nat → Option Nat)) (n3 : Int32) (H : Heap) (locs : List Loc) (ls : Array Slot), (cto κ.2.2.2.2 y1) < n → (NT κ.2.2.2.2 3 y1) → (SV ad κ.2.2.2.2 (κ.2.1 0) (κ.2.1 1) (κ.2.2.2.1 6) (κ.2.2.2.1 7) (κ.2.2.2.1 8) (κ.2.2.2.1 13) Z2 (κ.2.2.2.1 17) (κ.1 1).toInt) → (0 ≤ n3.toInt ∧ n3.toInt ≤ 30) → CH D cy ad A (tI (tQ (tI κ 10 (0 : Int32)) 15 Z2) 10 n3) H → va_S A s.heap H locs → lv_has ls 7 [(4, va_rf y1), (0, .ref (ad 5)), (1, .ref k0), (2, .int k1), (3, .int k2)] → W p l e (headSpec (Cond.code yX3_collect cX3_collect 7 none :: GWc) ({ frames := 1, cells := 0, slots := 0, locals := 23 })).room s m #[.ref (ad 5), .ref k0, .int k1, .int k2] below meth c H locs (0) (0) (MQ below (va_Qv (fun (u : (Nat → Option Nat) × Int32) => (SV ad κ.2.2.2.2 (κ.2.1 0) (κ.2.1 1) (κ.2.2.2.1 6) (κ.2.2.2.1 7) (κ.2.2.2.1 8) (κ.2.2.2.1 13) u.1 (κ.2.2.2.1 17) (κ.1 1).toInt) ∧ (0 ≤ u.2.toInt ∧ u.2.toInt ≤ 30)) (fun (u : (Nat → Option Nat) × Int32) (t : State) => Bx D cy ad A sz sl (tI (tQ κ 15 u.1) 10 u.2) (0) (0) t) A) #[.ref (ad 5), .ref k0, .int k1, .int k2] s (0) (0) A) (F0 m 8 ls []) := by
    intro n
    induction n with
    | zero => intro y1 Z2 n3 H locs ls hn; exact absurd hn (Nat.not_lt_zero _)
    | succ n8 ih8 =>
      intro y1 Z2 n3 H locs ls hn8 hf8_0 hf8_1 hi8 hP hS hl
      obtain ⟨hi8_0, hi8_1⟩ := hi8
      refine lq_aload C.x C.b dX3_collect_8 (lv_at hl 0 rfl) ?_
      cases y1 with
      | none =>
        refine lv_ifnullN (tgt := 80) C.x C.b dX3_collect_10 (by decide) ?_
        have hP : CH D cy ad A (tI (tQ κ 15 Z2) 10 n3) H := CH.cong hP rfl rfl rfl rfl rfl rfl rfl rfl rfl rfl rfl rfl rfl rfl rfl rfl rfl rfl rfl rfl rfl rfl rfl rfl rfl rfl rfl
        exact c_retv C hsz hsl ⟨Z2, n3⟩ ⟨hf8_1, (vX3_collect_2 n3 hi8_0 hi8_1)⟩ hP hS ⟨(Nat.le_of_ble_eq_true rfl), (Nat.le_of_ble_eq_true rfl)⟩ ⟨(Nat.le_of_ble_eq_true rfl), (Nat.le_of_ble_eq_true rfl)⟩ dX3_collect_80
      | some b4 =>
        have hb4 : oT κ.2.2.2.2 b4 = 3 := hf8_0 b4 rfl
        refine lv_ifnull C.x C.b dX3_collect_10 ?_
        refine lv_iconst (v := 0) C.x C.b dX3_collect_13 (by decide +kernel) ?_
        refine lv_istore (lv' := [(5, .int 0), (4, .ref b4), (0, .ref (ad 5)), (1, .ref k0), (2, .int k1), (3, .int k2)]) C.x C.b dX3_collect_14 hl (by decide) rfl (fun ls hl => ?_)
        have lp16 : ∀ (n : Nat) (y5 : Int32) (Z6 : (Nat → Option Nat)) (n7 : Int32) (H : Heap) (locs : List Loc) (ls : Array Slot), (6 - y5.toInt).toNat < n → (SV ad κ.2.2.2.2 (κ.2.1 0) (κ.2.1 1) (κ.2.2.2.1 6) (κ.2.2.2.1 7) (κ.2.2.2.1 8) (κ.2.2.2.1 13) Z6 (κ.2.2.2.1 17) (κ.1 1).toInt) → (0 ≤ n7.toInt ∧ n7.toInt ≤ 30 ∧ 0 ≤ y5.toInt ∧ y5.toInt ≤ 6) → CH D cy ad A (tI (tQ (tI (tQ (tI κ 10 (0 : Int32)) 15 Z2) 10 n3) 15 Z6) 10 n7) H → va_S A s.heap H locs → lv_has ls 7 [(5, .int y5), (4, .ref b4), (0, .ref (ad 5)), (1, .ref k0), (2, .int k1), (3, .int k2)] → W p l e (headSpec (Cond.code yX3_collect cX3_collect 7 none :: GWc) ({ frames := 1, cells := 0, slots := 0, locals := 23 })).room s m #[.ref (ad 5), .ref k0, .int k1, .int k2] below meth c H locs (0) (0) (MQ below (va_Qv (fun (u : (Nat → Option Nat) × Int32) => (SV ad κ.2.2.2.2 (κ.2.1 0) (κ.2.1 1) (κ.2.2.2.1 6) (κ.2.2.2.1 7) (κ.2.2.2.1 8) (κ.2.2.2.1 13) u.1 (κ.2.2.2.1 17) (κ.1 1).toInt) ∧ (0 ≤ u.2.toInt ∧ u.2.toInt ≤ 30)) (fun (u : (Nat → Option Nat) × Int32) (t : State) => Bx D cy ad A sz sl (tI (tQ κ 15 u.1) 10 u.2) (0) (0) t) A) #[.ref (ad 5), .ref k0, .int k1, .int k2] s (0) (0) A) (F0 m 16 ls []) := by
          intro n
          induction n with
          | zero => intro y5 Z6 n7 H locs ls hn; exact absurd hn (Nat.not_lt_zero _)
          | succ n16 ih16 =>
            intro y5 Z6 n7 H locs ls hn16 hf16_0 hi16 hP hS hl
            obtain ⟨hi16_0, hi16_1, hi16_2, hi16_3⟩ := hi16
            refine lv_iload C.x C.b dX3_collect_16 (lv_at hl 0 rfl) ?_
            refine lv_aload C.x C.b dX3_collect_18 (lv_at hl 1 rfl) ?_
            obtain ⟨x8, ex8⟩ : ∃ z, oI κ.2.2.2.2 9 b4 = z := ⟨_, rfl⟩
            refine pg_X1_6 (v := x8) C hP (t20 (a := b4) (t := 3) hb4) ex8 cw_425 dX3_collect_20 ?_
            have bx8 : 0 ≤ x8.toInt ∧ x8.toInt ≤ 6 := by rw [← ex8]; exact (hPV.t3 hb4).2.2.2.2
            obtain ⟨bx8_0, bx8_1⟩ := bx8
            refine lv_icmp_ge (tgt := 70) C.x C.b dX3_collect_23 (by decide) (fun c9 => ?_) (fun c9 => ?_)
            · have c9 : x8.toInt ≤ y5.toInt := by have h := z_le c9; exact h
              refine lv_aload C.x C.b dX3_collect_70 (lv_at hl 1 rfl) ?_
              obtain ⟨x10, ex10⟩ : ∃ z, oR κ.2.2.2.2 6 b4 = z := ⟨_, rfl⟩
              refine pg_X1_2 (v := x10) C hP (t20 (a := b4) (t := 3) hb4) ex10 cw_428 dX3_collect_72 ?_
              have tx10 : NT κ.2.2.2.2 3 x10 := by rw [← ex10]; exact (hPV.t3 hb4).1.1
              have mx10 : cto κ.2.2.2.2 x10 < oC κ.2.2.2.2 b4 := by rw [← ex10]; exact (hPV.t3 hb4).1.2
              refine lq_astore (lv' := [(4, va_rf x10), (5, .int y5), (0, .ref (ad 5)), (1, .ref k0), (2, .int k1), (3, .int k2)]) C.x C.b dX3_collect_75 hl (by decide) (by cases x10 <;> rfl) (fun ls hl => ?_)
              refine lv_goto (tgt := 8) C.x C.b dX3_collect_77 (by decide) ?_
              have hP : CH D cy ad A (tI (tQ (tI κ 10 (0 : Int32)) 15 Z6) 10 n7) H := CH.cong hP rfl rfl rfl rfl rfl rfl rfl rfl rfl rfl rfl rfl rfl rfl rfl rfl rfl rfl rfl rfl rfl rfl rfl rfl rfl rfl rfl
              refine W.widen (k := 0) (n := 0) (Nat.le_of_ble_eq_true rfl) (Nat.le_of_ble_eq_true rfl) ?_
              exact ih8 x10 Z6 n7 _ _ _ (Nat.lt_of_lt_of_le (vX3_collect_5 κ b4 y5 x8 x10 hi16_2 hi16_3 ex8 bx8_0 bx8_1 c9 mx10) (Nat.le_of_lt_succ hn8)) tx10 hf16_0 (vX3_collect_4 n7 hi16_0 hi16_1) hP hS (lv_sub hl [0, 2, 3, 4, 5] rfl)
            · have c9 : y5.toInt < x8.toInt := by have h := z_nle c9; exact h
              refine lv_aload C.x C.b dX3_collect_26 (lv_at hl 1 rfl) ?_
              refine lv_iload C.x C.b dX3_collect_28 (lv_at hl 0 rfl) ?_
              refine c_callVq (n := 1) (As := [.int y5]) (rest := []) C hP hS hl.1 (NX1_routineAt l D cy ad A sz0 sa (tI (tQ (tI (tQ (tI κ 10 (0 : Int32)) 15 Z2) 10 n3) 15 Z6) 10 n7) H.size (SLT H) C.f (fun q h => C.a q (Nat.le_trans hS.1 h)) b4 y5 hb4 hPV) ⟨cw_429, cw_398, by decide +kernel⟩ ⟨cw_430, cw_431, cw_405⟩ rfl (hP.recvP (t := 3) (ci := 3) C.K (t20 (a := b4) (t := 3) hb4) (by decide) rfl rfl) rfl rfl (lv_room (Nat.le_of_ble_eq_true rfl)) ⟨Nat.le_of_ble_eq_true rfl, Nat.le_of_ble_eq_true rfl⟩ ⟨(Nat.le_of_ble_eq_true rfl), (Nat.le_of_ble_eq_true rfl)⟩ dX3_collect_30 (fun r11 u H locs hr11 hP hS => ?_)
              have hr11 : (NT κ.2.2.2.2 5 r11) := hr11
              refine lq_astore (lv' := [(6, va_rf r11), (5, .int y5), (4, .ref b4), (0, .ref (ad 5)), (1, .ref k0), (2, .int k1), (3, .int k2)]) C.x C.b dX3_collect_33 hl (by decide) (by cases r11 <;> rfl) (fun ls hl => ?_)
              refine lq_aload C.x C.b dX3_collect_35 (lv_at hl 0 rfl) ?_
              cases r11 with
              | none =>
                refine lv_ifnullN (tgt := 64) C.x C.b dX3_collect_37 (by decide) ?_
                obtain ⟨x13, ex13⟩ : ∃ y : Int32, y = y5 + (1 : Int32) := ⟨_, rfl⟩
                have tx13 : x13.toInt = y5.toInt + 1 := (vX3_collect_6 κ b4 y5 x8 x13 hi16_2 hi16_3 ex8 bx8_0 bx8_1 c9 ex13)
                refine lv_iinc (v := x13) (lv' := [(5, .int x13), (6, .null), (4, .ref b4), (0, .ref (ad 5)), (1, .ref k0), (2, .int k1), (3, .int k2)]) C.x C.b dX3_collect_64 hl (k := 1) rfl (by rw [ex13]; rfl) (by decide) rfl (fun ls hl => ?_)
                refine lv_goto (tgt := 16) C.x C.b dX3_collect_67 (by decide) ?_
                refine W.widen (k := 0) (n := 0) (Nat.le_of_ble_eq_true rfl) (Nat.le_of_ble_eq_true rfl) ?_
                exact ih16 x13 Z6 n7 _ _ _ (Nat.lt_of_lt_of_le (vX3_collect_8 κ b4 y5 x8 x13 hi16_2 hi16_3 ex8 bx8_0 bx8_1 c9 ex13 tx13) (Nat.le_of_lt_succ hn16)) hf16_0 (vX3_collect_7 κ b4 y5 n7 x8 x13 hi16_0 hi16_1 hi16_2 hi16_3 ex8 bx8_0 bx8_1 c9 ex13 tx13) hP hS (lv_sub hl [0, 2, 3, 4, 5, 6] rfl)
              | some b12 =>
                have hb12 : oT κ.2.2.2.2 b12 = 5 := hr11 b12 rfl
                refine lv_ifnull C.x C.b dX3_collect_37 ?_
                refine lv_aload C.x C.b dX3_collect_40 (lv_at hl 0 rfl) ?_
                obtain ⟨x14, ex14⟩ : ∃ z, oI κ.2.2.2.2 13 b12 = z := ⟨_, rfl⟩
                refine pg_X7_0 (v := x14) C hP (t20 (a := b12) (t := 5) hb12) ex14 cw_426 dX3_collect_42 ?_
                refine lv_iload_n C.x C.b dX3_collect_45 rfl (lv_at hl 5 rfl) ?_
                refine lv_icmp_ne (tgt := 64) C.x C.b dX3_collect_46 (by decide) (fun c15 => ?_) (fun c15 => ?_)
                · have c15 : ¬ x14.toInt = k1.toInt := by have h := z_ne c15; exact h
                  obtain ⟨x16, ex16⟩ : ∃ y : Int32, y = y5 + (1 : Int32) := ⟨_, rfl⟩
                  have tx16 : x16.toInt = y5.toInt + 1 := (vX3_collect_9 κ k1 b4 y5 x8 b12 x14 x16 hi16_2 hi16_3 ex8 bx8_0 bx8_1 c9 ex14 c15 ex16)
                  refine lv_iinc (v := x16) (lv' := [(5, .int x16), (6, .ref b12), (4, .ref b4), (0, .ref (ad 5)), (1, .ref k0), (2, .int k1), (3, .int k2)]) C.x C.b dX3_collect_64 hl (k := 1) rfl (by rw [ex16]; rfl) (by decide) rfl (fun ls hl => ?_)
                  refine lv_goto (tgt := 16) C.x C.b dX3_collect_67 (by decide) ?_
                  refine W.widen (k := 0) (n := 0) (Nat.le_of_ble_eq_true rfl) (Nat.le_of_ble_eq_true rfl) ?_
                  exact ih16 x16 Z6 n7 _ _ _ (Nat.lt_of_lt_of_le (vX3_collect_11 κ k1 b4 y5 x8 b12 x14 x16 hi16_2 hi16_3 ex8 bx8_0 bx8_1 c9 ex14 c15 ex16 tx16) (Nat.le_of_lt_succ hn16)) hf16_0 (vX3_collect_10 κ k1 b4 y5 n7 x8 b12 x14 x16 hi16_0 hi16_1 hi16_2 hi16_3 ex8 bx8_0 bx8_1 c9 ex14 c15 ex16 tx16) hP hS (lv_sub hl [0, 2, 3, 4, 5, 6] rfl)
                · have c15 : x14.toInt = k1.toInt := by have h := z_eq c15; exact h
                  refine lv_aload C.x C.b dX3_collect_49 (lv_at hl 0 rfl) ?_
                  obtain ⟨x17, ex17⟩ : ∃ z, oI κ.2.2.2.2 16 b12 = z := ⟨_, rfl⟩
                  refine pg_X7_3 (v := x17) C hP (t20 (a := b12) (t := 5) hb12) ex17 cw_427 dX3_collect_51 ?_
                  refine lv_iload_n C.x C.b dX3_collect_54 rfl (lv_at hl 6 rfl) ?_
                  refine lv_icmp_ne (tgt := 64) C.x C.b dX3_collect_55 (by decide) (fun c18 => ?_) (fun c18 => ?_)
                  · have c18 : ¬ x17.toInt = k2.toInt := by have h := z_ne c18; exact h
                    obtain ⟨x19, ex19⟩ : ∃ y : Int32, y = y5 + (1 : Int32) := ⟨_, rfl⟩
                    have tx19 : x19.toInt = y5.toInt + 1 := (vX3_collect_12 κ k1 k2 b4 y5 x8 b12 x14 x17 x19 hi16_2 hi16_3 ex8 bx8_0 bx8_1 c9 ex14 c15 ex17 c18 ex19)
                    refine lv_iinc (v := x19) (lv' := [(5, .int x19), (6, .ref b12), (4, .ref b4), (0, .ref (ad 5)), (1, .ref k0), (2, .int k1), (3, .int k2)]) C.x C.b dX3_collect_64 hl (k := 1) rfl (by rw [ex19]; rfl) (by decide) rfl (fun ls hl => ?_)
                    refine lv_goto (tgt := 16) C.x C.b dX3_collect_67 (by decide) ?_
                    refine W.widen (k := 0) (n := 0) (Nat.le_of_ble_eq_true rfl) (Nat.le_of_ble_eq_true rfl) ?_
                    exact ih16 x19 Z6 n7 _ _ _ (Nat.lt_of_lt_of_le (vX3_collect_14 κ k1 k2 b4 y5 x8 b12 x14 x17 x19 hi16_2 hi16_3 ex8 bx8_0 bx8_1 c9 ex14 c15 ex17 c18 ex19 tx19) (Nat.le_of_lt_succ hn16)) hf16_0 (vX3_collect_13 κ k1 k2 b4 y5 n7 x8 b12 x14 x17 x19 hi16_0 hi16_1 hi16_2 hi16_3 ex8 bx8_0 bx8_1 c9 ex14 c15 ex17 c18 ex19 tx19) hP hS (lv_sub hl [0, 2, 3, 4, 5, 6] rfl)
                  · have c18 : x17.toInt = k2.toInt := by have h := z_eq c18; exact h
                    refine lv_aload_n C.x C.b dX3_collect_58 rfl (lv_at hl 3 rfl) ?_
                    refine lv_aload C.x C.b dX3_collect_59 (lv_at hl 0 rfl) ?_
                    refine c_callVv (n := 1) (As := [.ref b12]) (rest := []) C hP hS hl.1 (NX3_addUnlessHidden l D cy ad A sz0 sa (tI (tQ (tI (tQ (tI κ 10 (0 : Int32)) 15 Z2) 10 n3) 15 Z6) 10 n7) H.size (SLT H) C.f (fun q h => C.a q (Nat.le_trans hS.1 h)) b12 hb12 hPV hf16_0 (vX3_collect_4 n7 hi16_0 hi16_1)) ⟨cw_432, cw_435, by decide +kernel⟩ ⟨cw_433, cw_434, cw_422⟩ rfl (hP.recvS (k := 5) (ci := 5) C.K rfl rfl) rfl rfl (lv_room (Nat.le_of_ble_eq_true rfl)) ⟨Nat.le_of_ble_eq_true rfl, Nat.le_of_ble_eq_true rfl⟩ ⟨(Nat.le_of_ble_eq_true rfl), (Nat.le_of_ble_eq_true rfl)⟩ dX3_collect_61 (fun u H locs hr20 hP hS => ?_)
                    obtain ⟨Z21, n22⟩ := u
                    have hP : CH D cy ad A (tI (tQ (tI (tQ (tI (tQ (tI κ 10 (0 : Int32)) 15 Z2) 10 n3) 15 Z6) 10 n7) 15 Z21) 10 n22) H := hP
                    obtain ⟨hr20, hr20y⟩ := hr20
                    have hr20y : ∀ (H : QT) (l : List Nat) (m : Nat), CDq κ.2.2.2.2 H Z6 n7.toInt l → RTq κ.2.2.2.2 H b12 m → l.length < 30 → CDq κ.2.2.2.2 H Z21 n22.toInt (if l.any (qSm H m) = true then l else l ++ [m]) := hr20y
                    have hr20 : (SV ad κ.2.2.2.2 (κ.2.1 0) (κ.2.1 1) (κ.2.2.2.1 6) (κ.2.2.2.1 7) (κ.2.2.2.1 8) (κ.2.2.2.1 13) Z21 (κ.2.2.2.1 17) (κ.1 1).toInt) ∧ (0 ≤ n22.toInt ∧ n22.toInt ≤ 30) := hr20
                    obtain ⟨hr20_0, hr20_1⟩ := hr20
                    obtain ⟨hr20_1_0, hr20_1_1⟩ := hr20_1
                    obtain ⟨x23, ex23⟩ : ∃ y : Int32, y = y5 + (1 : Int32) := ⟨_, rfl⟩
                    have tx23 : x23.toInt = y5.toInt + 1 := (vX3_collect_15 κ k1 k2 b4 y5 x8 b12 x14 x17 x23 hi16_2 hi16_3 ex8 bx8_0 bx8_1 c9 ex14 c15 ex17 c18 ex23)
                    refine lv_iinc (v := x23) (lv' := [(5, .int x23), (6, .ref b12), (4, .ref b4), (0, .ref (ad 5)), (1, .ref k0), (2, .int k1), (3, .int k2)]) C.x C.b dX3_collect_64 hl (k := 1) rfl (by rw [ex23]; rfl) (by decide) rfl (fun ls hl => ?_)
                    refine lv_goto (tgt := 16) C.x C.b dX3_collect_67 (by decide) ?_
                    have hP : CH D cy ad A (tI (tQ (tI (tQ (tI κ 10 (0 : Int32)) 15 Z2) 10 n3) 15 Z21) 10 n22) H := CH.cong hP rfl rfl rfl rfl rfl rfl rfl rfl rfl rfl rfl rfl rfl rfl rfl rfl rfl rfl rfl rfl rfl rfl rfl rfl rfl rfl rfl
                    refine W.widen (k := 0) (n := 0) (Nat.le_of_ble_eq_true rfl) (Nat.le_of_ble_eq_true rfl) ?_
                    exact ih16 x23 Z21 n22 _ _ _ (Nat.lt_of_lt_of_le (vX3_collect_17 κ k1 k2 b4 y5 x8 b12 x14 x17 x23 hi16_2 hi16_3 ex8 bx8_0 bx8_1 c9 ex14 c15 ex17 c18 ex23 tx23) (Nat.le_of_lt_succ hn16)) hr20_0 (vX3_collect_16 κ k1 k2 b4 y5 x8 b12 x14 x17 n22 x23 hi16_2 hi16_3 ex8 bx8_0 bx8_1 c9 ex14 c15 ex17 c18 hr20_1_0 hr20_1_1 ex23 tx23) hP hS (lv_sub hl [0, 2, 3, 4, 5, 6] rfl)
        have hP : CH D cy ad A (tI (tQ (tI (tQ (tI κ 10 (0 : Int32)) 15 Z2) 10 n3) 15 Z2) 10 n3) H := CH.cong hP rfl rfl rfl rfl rfl rfl rfl rfl rfl rfl rfl rfl rfl rfl rfl rfl rfl rfl rfl rfl rfl rfl rfl rfl rfl rfl rfl
        refine W.widen (k := 0) (n := 0) (Nat.le_of_ble_eq_true rfl) (Nat.le_of_ble_eq_true rfl) ?_
        exact lp16 ((6 - (0 : Int32).toInt).toNat + 1) (0 : Int32) Z2 n3 _ _ _ (Nat.lt_succ_self _) hf8_1 (vX3_collect_3 n3 hi8_0 hi8_1) hP hS (lv_sub hl [0, 1, 2, 3, 4, 5] rfl)
  have hP : CH D cy ad A (tI (tQ (tI κ 10 (0 : Int32)) 15 (κ.2.2.2.1 15)) 10 (0 : Int32)) H := CH.cong hP rfl rfl rfl rfl rfl rfl rfl rfl rfl rfl rfl rfl rfl rfl rfl rfl rfl rfl rfl rfl rfl rfl rfl rfl rfl rfl rfl
  refine W.widen (k := 0) (n := 0) (Nat.le_of_ble_eq_true rfl) (Nat.le_of_ble_eq_true rfl) ?_
  exact lp8 ((cto κ.2.2.2.2 (some k0)) + 1) (some k0) (κ.2.2.2.1 15) (0 : Int32) _ _ _ (Nat.lt_succ_self _) (nt_s ht0) hSV (vX3_collect_1  ) hP hS (lv_sub hl [0, 1, 2, 3, 4] rfl)

-- init@2 @2
theorem vX3_exact_1   : 0 ≤ (0 : Int32).toInt ∧ (0 : Int32).toInt ≤ 30 := by
  have q0 : (0 : Int32).toInt = 0 := by decide +kernel
  refine ⟨?_, ?_⟩ <;> first | assumption | omega | (subst_vars; omega) | trivial
-- init2@2 @2
theorem vX3_exact_2 (ad : Nat → Nat) (sa : Nat → Nat) (κ : KS) (k0 : Nat) (k1 : Nat) (ht0 : oT κ.2.2.2.2 k0 = 1) (ht1 : oT κ.2.2.2.2 k1 = 1) (hPV : PV sa κ.2.2.2.2) (hSV : SV ad κ.2.2.2.2 (κ.2.1 0) (κ.2.1 1) (κ.2.2.2.1 6) (κ.2.2.2.1 7) (κ.2.2.2.1 8) (κ.2.2.2.1 13) (κ.2.2.2.1 15) (κ.2.2.2.1 17) (κ.1 1).toInt) : ∀ (q7 q8 : Nat → Option Nat) (H : QT) (v w : QV) (l : List Nat), VALq κ.2.2.2.2 sa q7 q8 k0 v → VALq κ.2.2.2.2 sa q7 q8 k1 w → CDq κ.2.2.2.2 H (κ.2.2.2.1 15) (κ.1 10).toInt l → ∀ j : Nat, (j : Int) < (0 : Int32).toInt → j < l.length → ¬ (v.1 = H 6 (l.getD j 0) ∧ w.1 = H 7 (l.getD j 0)) := by
  have q0 : (0 : Int32).toInt = 0 := by decide +kernel
  intro q7 q8 H v w l h g D j hj hl
  have z0 : (0 : Int32).toInt = 0 := by decide
  exfalso; omega
-- post2 @66
theorem vX3_exact_3 (ad : Nat → Nat) (sa : Nat → Nat) (κ : KS) (k0 : Nat) (k1 : Nat) (y1 : Int32) (ht0 : oT κ.2.2.2.2 k0 = 1) (ht1 : oT κ.2.2.2.2 k1 = 1) (hPV : PV sa κ.2.2.2.2) (hSV : SV ad κ.2.2.2.2 (κ.2.1 0) (κ.2.1 1) (κ.2.2.2.1 6) (κ.2.2.2.1 7) (κ.2.2.2.1 8) (κ.2.2.2.1 13) (κ.2.2.2.1 15) (κ.2.2.2.1 17) (κ.1 1).toInt) (hi2_0 : 0 ≤ y1.toInt) (hi2_1 : y1.toInt ≤ 30) (hi2y : ∀ (q7 q8 : Nat → Option Nat) (H : QT) (v w : QV) (l : List Nat), VALq κ.2.2.2.2 sa q7 q8 k0 v → VALq κ.2.2.2.2 sa q7 q8 k1 w → CDq κ.2.2.2.2 H (κ.2.2.2.1 15) (κ.1 10).toInt l → ∀ j : Nat, (j : Int) < y1.toInt → j < l.length → ¬ (v.1 = H 6 (l.getD j 0) ∧ w.1 = H 7 (l.getD j 0))) (c2 : (κ.1 10).toInt ≤ y1.toInt) : ∀ (q7 q8 : Nat → Option Nat) (H : QT) (v w : QV) (l : List Nat), VALq κ.2.2.2.2 sa q7 q8 k0 v → VALq κ.2.2.2.2 sa q7 q8 k1 w → CDq κ.2.2.2.2 H (κ.2.2.2.1 15) (κ.1 10).toInt l → (none = (none : Option Nat) → ∀ j : Nat, j < l.length → ¬ (v.1 = H 6 (l.getD j 0) ∧ w.1 = H 7 (l.getD j 0))) ∧ (∀ x, none = some x → ∃ i : Nat, i < l.length ∧ (∀ j : Nat, j < i → ¬ (v.1 = H 6 (l.getD j 0) ∧ w.1 = H 7 (l.getD j 0))) ∧ (v.1 = H 6 (l.getD i 0) ∧ w.1 = H 7 (l.getD i 0)) ∧ RTq κ.2.2.2.2 H x (l.getD i 0)) := by
  intro q7 q8 H v w l h g D
  have I := hi2y q7 q8 H v w l h g D
  obtain ⟨d1, d2, d3⟩ := D
  exact ⟨fun _ j hj => I j (by omega) hj, fun x e => (by cases e)⟩
-- post2 @66
theorem vX3_exact_4 (ad : Nat → Nat) (sa : Nat → Nat) (κ : KS) (k0 : Nat) (k1 : Nat) (y1 : Int32) (ht0 : oT κ.2.2.2.2 k0 = 1) (ht1 : oT κ.2.2.2.2 k1 = 1) (hPV : PV sa κ.2.2.2.2) (hSV : SV ad κ.2.2.2.2 (κ.2.1 0) (κ.2.1 1) (κ.2.2.2.1 6) (κ.2.2.2.1 7) (κ.2.2.2.1 8) (κ.2.2.2.1 13) (κ.2.2.2.1 15) (κ.2.2.2.1 17) (κ.1 1).toInt) (hi2_0 : 0 ≤ y1.toInt) (hi2_1 : y1.toInt ≤ 30) (hi2y : ∀ (q7 q8 : Nat → Option Nat) (H : QT) (v w : QV) (l : List Nat), VALq κ.2.2.2.2 sa q7 q8 k0 v → VALq κ.2.2.2.2 sa q7 q8 k1 w → CDq κ.2.2.2.2 H (κ.2.2.2.1 15) (κ.1 10).toInt l → ∀ j : Nat, (j : Int) < y1.toInt → j < l.length → ¬ (v.1 = H 6 (l.getD j 0) ∧ w.1 = H 7 (l.getD j 0))) (c2 : y1.toInt < (κ.1 10).toInt) (c4 : 30 ≤ y1.toInt) : ∀ (q7 q8 : Nat → Option Nat) (H : QT) (v w : QV) (l : List Nat), VALq κ.2.2.2.2 sa q7 q8 k0 v → VALq κ.2.2.2.2 sa q7 q8 k1 w → CDq κ.2.2.2.2 H (κ.2.2.2.1 15) (κ.1 10).toInt l → (none = (none : Option Nat) → ∀ j : Nat, j < l.length → ¬ (v.1 = H 6 (l.getD j 0) ∧ w.1 = H 7 (l.getD j 0))) ∧ (∀ x, none = some x → ∃ i : Nat, i < l.length ∧ (∀ j : Nat, j < i → ¬ (v.1 = H 6 (l.getD j 0) ∧ w.1 = H 7 (l.getD j 0))) ∧ (v.1 = H 6 (l.getD i 0) ∧ w.1 = H 7 (l.getD i 0)) ∧ RTq κ.2.2.2.2 H x (l.getD i 0)) := by
  intro q7 q8 H v w l h g D
  have I := hi2y q7 q8 H v w l h g D
  obtain ⟨d1, d2, d3⟩ := D
  exact ⟨fun _ j hj => I j (by omega) hj, fun x e => (by cases e)⟩
-- in@24 @24
theorem vX3_exact_5 (κ : KS) (y1 : Int32) (hi2_0 : 0 ≤ y1.toInt) (hi2_1 : y1.toInt ≤ 30) (c2 : y1.toInt < (κ.1 10).toInt) (c4 : y1.toInt < 30) : vp_in y1 30 := by
  exact vp_in_iff.mpr ⟨by omega, by omega⟩
-- nw@59 @59
theorem vX3_exact_6 (κ : KS) (y1 : Int32) (x7 : Int32) (hi2_0 : 0 ≤ y1.toInt) (hi2_1 : y1.toInt ≤ 30) (c2 : y1.toInt < (κ.1 10).toInt) (c4 : y1.toInt < 30) (ex5 : none = (κ.2.2.2.1 15) y1.toNatClampNeg) (ex7 : x7 = y1 + (1 : Int32)) : x7.toInt = y1.toInt + 1 := by
  have q1 : (1 : Int32).toInt = 1 := by decide +kernel
  have z9 : (1 : Int32).toInt = 1 := by decide +kernel
  rw [ex7, z_add (by omega) (by omega)]; first | done | omega
-- inv@2 @2
theorem vX3_exact_7 (κ : KS) (y1 : Int32) (x7 : Int32) (hi2_0 : 0 ≤ y1.toInt) (hi2_1 : y1.toInt ≤ 30) (c2 : y1.toInt < (κ.1 10).toInt) (c4 : y1.toInt < 30) (ex5 : none = (κ.2.2.2.1 15) y1.toNatClampNeg) (ex7 : x7 = y1 + (1 : Int32)) (tx7 : x7.toInt = y1.toInt + 1) : 0 ≤ x7.toInt ∧ x7.toInt ≤ 30 := by
  have q1 : (1 : Int32).toInt = 1 := by decide +kernel
  refine ⟨?_, ?_⟩ <;> first | assumption | omega | (subst_vars; omega) | trivial
-- inv2@2 @2
theorem vX3_exact_8 (ad : Nat → Nat) (sa : Nat → Nat) (κ : KS) (k0 : Nat) (k1 : Nat) (y1 : Int32) (x7 : Int32) (ht0 : oT κ.2.2.2.2 k0 = 1) (ht1 : oT κ.2.2.2.2 k1 = 1) (hPV : PV sa κ.2.2.2.2) (hSV : SV ad κ.2.2.2.2 (κ.2.1 0) (κ.2.1 1) (κ.2.2.2.1 6) (κ.2.2.2.1 7) (κ.2.2.2.1 8) (κ.2.2.2.1 13) (κ.2.2.2.1 15) (κ.2.2.2.1 17) (κ.1 1).toInt) (hi2_0 : 0 ≤ y1.toInt) (hi2_1 : y1.toInt ≤ 30) (hi2y : ∀ (q7 q8 : Nat → Option Nat) (H : QT) (v w : QV) (l : List Nat), VALq κ.2.2.2.2 sa q7 q8 k0 v → VALq κ.2.2.2.2 sa q7 q8 k1 w → CDq κ.2.2.2.2 H (κ.2.2.2.1 15) (κ.1 10).toInt l → ∀ j : Nat, (j : Int) < y1.toInt → j < l.length → ¬ (v.1 = H 6 (l.getD j 0) ∧ w.1 = H 7 (l.getD j 0))) (c2 : y1.toInt < (κ.1 10).toInt) (c4 : y1.toInt < 30) (ex5 : none = (κ.2.2.2.1 15) y1.toNatClampNeg) (ex7 : x7 = y1 + (1 : Int32)) (tx7 : x7.toInt = y1.toInt + 1) : ∀ (q7 q8 : Nat → Option Nat) (H : QT) (v w : QV) (l : List Nat), VALq κ.2.2.2.2 sa q7 q8 k0 v → VALq κ.2.2.2.2 sa q7 q8 k1 w → CDq κ.2.2.2.2 H (κ.2.2.2.1 15) (κ.1 10).toInt l → ∀ j : Nat, (j : Int) < x7.toInt → j < l.length → ¬ (v.1 = H 6 (l.getD j 0) ∧ w.1 = H 7 (l.getD j 0)) := by
  have q1 : (1 : Int32).toInt = 1 := by decide +kernel
  intro q7 q8 H v w l h g D j hj hl
  have I := hi2y q7 q8 H v w l h g D
  by_cases q : (j : Int) < y1.toInt
  · exact I j q hl
  obtain ⟨d1, d2, d3⟩ := D
  have e : j = y1.toNatClampNeg := by rw [clampN]; omega
  obtain ⟨x, x1, x2, x3⟩ := d3 j hl
  rw [e, ← ex5] at x1
  cases x1
-- meas@2 @2
theorem vX3_exact_9 (κ : KS) (y1 : Int32) (x7 : Int32) (hi2_0 : 0 ≤ y1.toInt) (hi2_1 : y1.toInt ≤ 30) (c2 : y1.toInt < (κ.1 10).toInt) (c4 : y1.toInt < 30) (ex5 : none = (κ.2.2.2.1 15) y1.toNatClampNeg) (ex7 : x7 = y1 + (1 : Int32)) (tx7 : x7.toInt = y1.toInt + 1) : (30 - x7.toInt).toNat < (30 - y1.toInt).toNat := by
  have q1 : (1 : Int32).toInt = 1 := by decide +kernel
  first | assumption | omega | (subst_vars; omega) | trivial
-- nw@59 @59
theorem vX3_exact_10 (κ : KS) (k0 : Nat) (y1 : Int32) (b6 : Nat) (x8 : Int32) (x9 : Int32) (x11 : Int32) (hi2_0 : 0 ≤ y1.toInt) (hi2_1 : y1.toInt ≤ 30) (c2 : y1.toInt < (κ.1 10).toInt) (c4 : y1.toInt < 30) (ex5 : (some b6) = (κ.2.2.2.1 15) y1.toNatClampNeg) (ex8 : oI κ.2.2.2.2 0 k0 = x8) (ex9 : oI κ.2.2.2.2 14 b6 = x9) (c10 : ¬ x8.toInt = x9.toInt) (ex11 : x11 = y1 + (1 : Int32)) : x11.toInt = y1.toInt + 1 := by
  have q1 : (1 : Int32).toInt = 1 := by decide +kernel
  have z9 : (1 : Int32).toInt = 1 := by decide +kernel
  rw [ex11, z_add (by omega) (by omega)]; first | done | omega
-- inv@2 @2
theorem vX3_exact_11 (κ : KS) (k0 : Nat) (y1 : Int32) (b6 : Nat) (x8 : Int32) (x9 : Int32) (x11 : Int32) (hi2_0 : 0 ≤ y1.toInt) (hi2_1 : y1.toInt ≤ 30) (c2 : y1.toInt < (κ.1 10).toInt) (c4 : y1.toInt < 30) (ex5 : (some b6) = (κ.2.2.2.1 15) y1.toNatClampNeg) (ex8 : oI κ.2.2.2.2 0 k0 = x8) (ex9 : oI κ.2.2.2.2 14 b6 = x9) (c10 : ¬ x8.toInt = x9.toInt) (ex11 : x11 = y1 + (1 : Int32)) (tx11 : x11.toInt = y1.toInt + 1) : 0 ≤ x11.toInt ∧ x11.toInt ≤ 30 := by
  have q1 : (1 : Int32).toInt = 1 := by decide +kernel
  refine ⟨?_, ?_⟩ <;> first | assumption | omega | (subst_vars; omega) | trivial
-- inv2@2 @2
theorem vX3_exact_12 (ad : Nat → Nat) (sa : Nat → Nat) (κ : KS) (k0 : Nat) (k1 : Nat) (y1 : Int32) (b6 : Nat) (x8 : Int32) (x9 : Int32) (x11 : Int32) (ht0 : oT κ.2.2.2.2 k0 = 1) (ht1 : oT κ.2.2.2.2 k1 = 1) (hPV : PV sa κ.2.2.2.2) (hSV : SV ad κ.2.2.2.2 (κ.2.1 0) (κ.2.1 1) (κ.2.2.2.1 6) (κ.2.2.2.1 7) (κ.2.2.2.1 8) (κ.2.2.2.1 13) (κ.2.2.2.1 15) (κ.2.2.2.1 17) (κ.1 1).toInt) (hi2_0 : 0 ≤ y1.toInt) (hi2_1 : y1.toInt ≤ 30) (hi2y : ∀ (q7 q8 : Nat → Option Nat) (H : QT) (v w : QV) (l : List Nat), VALq κ.2.2.2.2 sa q7 q8 k0 v → VALq κ.2.2.2.2 sa q7 q8 k1 w → CDq κ.2.2.2.2 H (κ.2.2.2.1 15) (κ.1 10).toInt l → ∀ j : Nat, (j : Int) < y1.toInt → j < l.length → ¬ (v.1 = H 6 (l.getD j 0) ∧ w.1 = H 7 (l.getD j 0))) (c2 : y1.toInt < (κ.1 10).toInt) (c4 : y1.toInt < 30) (ex5 : (some b6) = (κ.2.2.2.1 15) y1.toNatClampNeg) (ex8 : oI κ.2.2.2.2 0 k0 = x8) (ex9 : oI κ.2.2.2.2 14 b6 = x9) (c10 : ¬ x8.toInt = x9.toInt) (ex11 : x11 = y1 + (1 : Int32)) (tx11 : x11.toInt = y1.toInt + 1) : ∀ (q7 q8 : Nat → Option Nat) (H : QT) (v w : QV) (l : List Nat), VALq κ.2.2.2.2 sa q7 q8 k0 v → VALq κ.2.2.2.2 sa q7 q8 k1 w → CDq κ.2.2.2.2 H (κ.2.2.2.1 15) (κ.1 10).toInt l → ∀ j : Nat, (j : Int) < x11.toInt → j < l.length → ¬ (v.1 = H 6 (l.getD j 0) ∧ w.1 = H 7 (l.getD j 0)) := by
  have q1 : (1 : Int32).toInt = 1 := by decide +kernel
  intro q7 q8 H v w l h g D j hj hl
  have I := hi2y q7 q8 H v w l h g D
  by_cases q : (j : Int) < y1.toInt
  · exact I j q hl
  obtain ⟨d1, d2, d3⟩ := D
  have e : j = y1.toNatClampNeg := by rw [clampN]; omega
  obtain ⟨x, x1, x2, x3⟩ := d3 j hl
  rw [e, ← ex5] at x1
  obtain rfl := Option.some.inj x1
  have a1 := x3.2.1
  rw [ex9] at a1
  have kv := h.k9
  rw [ex8] at kv
  rintro ⟨z1, z2⟩
  omega
-- meas@2 @2
theorem vX3_exact_13 (κ : KS) (k0 : Nat) (y1 : Int32) (b6 : Nat) (x8 : Int32) (x9 : Int32) (x11 : Int32) (hi2_0 : 0 ≤ y1.toInt) (hi2_1 : y1.toInt ≤ 30) (c2 : y1.toInt < (κ.1 10).toInt) (c4 : y1.toInt < 30) (ex5 : (some b6) = (κ.2.2.2.1 15) y1.toNatClampNeg) (ex8 : oI κ.2.2.2.2 0 k0 = x8) (ex9 : oI κ.2.2.2.2 14 b6 = x9) (c10 : ¬ x8.toInt = x9.toInt) (ex11 : x11 = y1 + (1 : Int32)) (tx11 : x11.toInt = y1.toInt + 1) : (30 - x11.toInt).toNat < (30 - y1.toInt).toNat := by
  have q1 : (1 : Int32).toInt = 1 := by decide +kernel
  first | assumption | omega | (subst_vars; omega) | trivial
-- nw@59 @59
theorem vX3_exact_14 (κ : KS) (k0 : Nat) (k1 : Nat) (y1 : Int32) (b6 : Nat) (x8 : Int32) (x9 : Int32) (x12 : Int32) (x13 : Int32) (x15 : Int32) (hi2_0 : 0 ≤ y1.toInt) (hi2_1 : y1.toInt ≤ 30) (c2 : y1.toInt < (κ.1 10).toInt) (c4 : y1.toInt < 30) (ex5 : (some b6) = (κ.2.2.2.1 15) y1.toNatClampNeg) (ex8 : oI κ.2.2.2.2 0 k0 = x8) (ex9 : oI κ.2.2.2.2 14 b6 = x9) (c10 : x8.toInt = x9.toInt) (ex12 : oI κ.2.2.2.2 0 k1 = x12) (ex13 : oI κ.2.2.2.2 15 b6 = x13) (c14 : ¬ x12.toInt = x13.toInt) (ex15 : x15 = y1 + (1 : Int32)) : x15.toInt = y1.toInt + 1 := by
  have q1 : (1 : Int32).toInt = 1 := by decide +kernel
  have z9 : (1 : Int32).toInt = 1 := by decide +kernel
  rw [ex15, z_add (by omega) (by omega)]; first | done | omega
-- inv@2 @2
theorem vX3_exact_15 (κ : KS) (k0 : Nat) (k1 : Nat) (y1 : Int32) (b6 : Nat) (x8 : Int32) (x9 : Int32) (x12 : Int32) (x13 : Int32) (x15 : Int32) (hi2_0 : 0 ≤ y1.toInt) (hi2_1 : y1.toInt ≤ 30) (c2 : y1.toInt < (κ.1 10).toInt) (c4 : y1.toInt < 30) (ex5 : (some b6) = (κ.2.2.2.1 15) y1.toNatClampNeg) (ex8 : oI κ.2.2.2.2 0 k0 = x8) (ex9 : oI κ.2.2.2.2 14 b6 = x9) (c10 : x8.toInt = x9.toInt) (ex12 : oI κ.2.2.2.2 0 k1 = x12) (ex13 : oI κ.2.2.2.2 15 b6 = x13) (c14 : ¬ x12.toInt = x13.toInt) (ex15 : x15 = y1 + (1 : Int32)) (tx15 : x15.toInt = y1.toInt + 1) : 0 ≤ x15.toInt ∧ x15.toInt ≤ 30 := by
  have q1 : (1 : Int32).toInt = 1 := by decide +kernel
  refine ⟨?_, ?_⟩ <;> first | assumption | omega | (subst_vars; omega) | trivial
-- inv2@2 @2
theorem vX3_exact_16 (ad : Nat → Nat) (sa : Nat → Nat) (κ : KS) (k0 : Nat) (k1 : Nat) (y1 : Int32) (b6 : Nat) (x8 : Int32) (x9 : Int32) (x12 : Int32) (x13 : Int32) (x15 : Int32) (ht0 : oT κ.2.2.2.2 k0 = 1) (ht1 : oT κ.2.2.2.2 k1 = 1) (hPV : PV sa κ.2.2.2.2) (hSV : SV ad κ.2.2.2.2 (κ.2.1 0) (κ.2.1 1) (κ.2.2.2.1 6) (κ.2.2.2.1 7) (κ.2.2.2.1 8) (κ.2.2.2.1 13) (κ.2.2.2.1 15) (κ.2.2.2.1 17) (κ.1 1).toInt) (hi2_0 : 0 ≤ y1.toInt) (hi2_1 : y1.toInt ≤ 30) (hi2y : ∀ (q7 q8 : Nat → Option Nat) (H : QT) (v w : QV) (l : List Nat), VALq κ.2.2.2.2 sa q7 q8 k0 v → VALq κ.2.2.2.2 sa q7 q8 k1 w → CDq κ.2.2.2.2 H (κ.2.2.2.1 15) (κ.1 10).toInt l → ∀ j : Nat, (j : Int) < y1.toInt → j < l.length → ¬ (v.1 = H 6 (l.getD j 0) ∧ w.1 = H 7 (l.getD j 0))) (c2 : y1.toInt < (κ.1 10).toInt) (c4 : y1.toInt < 30) (ex5 : (some b6) = (κ.2.2.2.1 15) y1.toNatClampNeg) (ex8 : oI κ.2.2.2.2 0 k0 = x8) (ex9 : oI κ.2.2.2.2 14 b6 = x9) (c10 : x8.toInt = x9.toInt) (ex12 : oI κ.2.2.2.2 0 k1 = x12) (ex13 : oI κ.2.2.2.2 15 b6 = x13) (c14 : ¬ x12.toInt = x13.toInt) (ex15 : x15 = y1 + (1 : Int32)) (tx15 : x15.toInt = y1.toInt + 1) : ∀ (q7 q8 : Nat → Option Nat) (H : QT) (v w : QV) (l : List Nat), VALq κ.2.2.2.2 sa q7 q8 k0 v → VALq κ.2.2.2.2 sa q7 q8 k1 w → CDq κ.2.2.2.2 H (κ.2.2.2.1 15) (κ.1 10).toInt l → ∀ j : Nat, (j : Int) < x15.toInt → j < l.length → ¬ (v.1 = H 6 (l.getD j 0) ∧ w.1 = H 7 (l.getD j 0)) := by
  have q1 : (1 : Int32).toInt = 1 := by decide +kernel
  intro q7 q8 H v w l h g D j hj hl
  have I := hi2y q7 q8 H v w l h g D
  by_cases q : (j : Int) < y1.toInt
  · exact I j q hl
  obtain ⟨d1, d2, d3⟩ := D
  have e : j = y1.toNatClampNeg := by rw [clampN]; omega
  obtain ⟨x, x1, x2, x3⟩ := d3 j hl
  rw [e, ← ex5] at x1
  obtain rfl := Option.some.inj x1
  have a1 := x3.2.1
  rw [ex9] at a1
  have a2 := x3.2.2.1
  rw [ex13] at a2
  have kv := h.k9
  rw [ex8] at kv
  have kw := g.k9
  rw [ex12] at kw
  rintro ⟨z1, z2⟩
  omega
-- meas@2 @2
theorem vX3_exact_17 (κ : KS) (k0 : Nat) (k1 : Nat) (y1 : Int32) (b6 : Nat) (x8 : Int32) (x9 : Int32) (x12 : Int32) (x13 : Int32) (x15 : Int32) (hi2_0 : 0 ≤ y1.toInt) (hi2_1 : y1.toInt ≤ 30) (c2 : y1.toInt < (κ.1 10).toInt) (c4 : y1.toInt < 30) (ex5 : (some b6) = (κ.2.2.2.1 15) y1.toNatClampNeg) (ex8 : oI κ.2.2.2.2 0 k0 = x8) (ex9 : oI κ.2.2.2.2 14 b6 = x9) (c10 : x8.toInt = x9.toInt) (ex12 : oI κ.2.2.2.2 0 k1 = x12) (ex13 : oI κ.2.2.2.2 15 b6 = x13) (c14 : ¬ x12.toInt = x13.toInt) (ex15 : x15 = y1 + (1 : Int32)) (tx15 : x15.toInt = y1.toInt + 1) : (30 - x15.toInt).toNat < (30 - y1.toInt).toNat := by
  have q1 : (1 : Int32).toInt = 1 := by decide +kernel
  first | assumption | omega | (subst_vars; omega) | trivial
-- post2 @58
theorem vX3_exact_18 (ad : Nat → Nat) (sa : Nat → Nat) (κ : KS) (k0 : Nat) (k1 : Nat) (y1 : Int32) (b6 : Nat) (x8 : Int32) (x9 : Int32) (x12 : Int32) (x13 : Int32) (ht0 : oT κ.2.2.2.2 k0 = 1) (ht1 : oT κ.2.2.2.2 k1 = 1) (hPV : PV sa κ.2.2.2.2) (hSV : SV ad κ.2.2.2.2 (κ.2.1 0) (κ.2.1 1) (κ.2.2.2.1 6) (κ.2.2.2.1 7) (κ.2.2.2.1 8) (κ.2.2.2.1 13) (κ.2.2.2.1 15) (κ.2.2.2.1 17) (κ.1 1).toInt) (hi2_0 : 0 ≤ y1.toInt) (hi2_1 : y1.toInt ≤ 30) (hi2y : ∀ (q7 q8 : Nat → Option Nat) (H : QT) (v w : QV) (l : List Nat), VALq κ.2.2.2.2 sa q7 q8 k0 v → VALq κ.2.2.2.2 sa q7 q8 k1 w → CDq κ.2.2.2.2 H (κ.2.2.2.1 15) (κ.1 10).toInt l → ∀ j : Nat, (j : Int) < y1.toInt → j < l.length → ¬ (v.1 = H 6 (l.getD j 0) ∧ w.1 = H 7 (l.getD j 0))) (c2 : y1.toInt < (κ.1 10).toInt) (c4 : y1.toInt < 30) (ex5 : (some b6) = (κ.2.2.2.1 15) y1.toNatClampNeg) (ex8 : oI κ.2.2.2.2 0 k0 = x8) (ex9 : oI κ.2.2.2.2 14 b6 = x9) (c10 : x8.toInt = x9.toInt) (ex12 : oI κ.2.2.2.2 0 k1 = x12) (ex13 : oI κ.2.2.2.2 15 b6 = x13) (c14 : x12.toInt = x13.toInt) : ∀ (q7 q8 : Nat → Option Nat) (H : QT) (v w : QV) (l : List Nat), VALq κ.2.2.2.2 sa q7 q8 k0 v → VALq κ.2.2.2.2 sa q7 q8 k1 w → CDq κ.2.2.2.2 H (κ.2.2.2.1 15) (κ.1 10).toInt l → ((some b6) = (none : Option Nat) → ∀ j : Nat, j < l.length → ¬ (v.1 = H 6 (l.getD j 0) ∧ w.1 = H 7 (l.getD j 0))) ∧ (∀ x, (some b6) = some x → ∃ i : Nat, i < l.length ∧ (∀ j : Nat, j < i → ¬ (v.1 = H 6 (l.getD j 0) ∧ w.1 = H 7 (l.getD j 0))) ∧ (v.1 = H 6 (l.getD i 0) ∧ w.1 = H 7 (l.getD i 0)) ∧ RTq κ.2.2.2.2 H x (l.getD i 0)) := by
  intro q7 q8 H v w l h g D
  have I := hi2y q7 q8 H v w l h g D
  obtain ⟨d1, d2, d3⟩ := D
  refine ⟨fun e => (by cases e), fun x e => ?_⟩
  obtain rfl := Option.some.inj e
  have lt : y1.toNatClampNeg < l.length := by rw [clampN]; omega
  obtain ⟨x, x1, x2, x3⟩ := d3 _ lt
  rw [← ex5] at x1
  obtain rfl := Option.some.inj x1
  have a1 := x3.2.1
  rw [ex9] at a1
  have a2 := x3.2.2.1
  rw [ex13] at a2
  have kv := h.k9
  rw [ex8] at kv
  have kw := g.k9
  rw [ex12] at kw
  exact ⟨y1.toNatClampNeg, lt, fun j hj => I j (by rw [clampN] at hj; omega) (by omega), ⟨by omega, by omega⟩, x3⟩
set_option maxHeartbeats 4000000 in
set_option maxRecDepth 100000 in
theorem NX3_exact (l : Launch) (D : va_G) (cy : Nat → ClassId) (ad : Nat → Nat) (A : Nat → Prop) (sz0 : Nat) (sa : Nat → Nat)  (κ : KS) (sz sl : Nat) (hAF : ∀ q, A q → Fr sz0 q) (hAn : ∀ q : Nat, sz ≤ q → A q) (k0 : Nat) (k1 : Nat) (ht0 : oT κ.2.2.2.2 k0 = 1) (ht1 : oT κ.2.2.2.2 k1 = 1) (hPV : PV sa κ.2.2.2.2) (hSV : SV ad κ.2.2.2.2 (κ.2.1 0) (κ.2.1 1) (κ.2.2.2.1 6) (κ.2.2.2.1 7) (κ.2.2.2.1 8) (κ.2.2.2.1 13) (κ.2.2.2.1 15) (κ.2.2.2.1 17) (κ.1 1).toInt) : Met l yX3_exact (Cond.code yX3_exact cX3_exact 5 (some (.object "PhraseDesk$Routine")) :: GWc) ({ frames := 0, cells := 0, slots := 0, locals := 0 }) (PcC D cy ad A sz0 sa [.ref (ad 5), .ref k0, .ref k1] κ sz sl) (va_Qq (fun (r : Option Nat) (u : Unit) => ((NT κ.2.2.2.2 5 r)) ∧ (∀ (q7 q8 : Nat → Option Nat) (H : QT) (v w : QV) (l : List Nat), VALq κ.2.2.2.2 sa q7 q8 k0 v → VALq κ.2.2.2.2 sa q7 q8 k1 w → CDq κ.2.2.2.2 H (κ.2.2.2.1 15) (κ.1 10).toInt l → (r = (none : Option Nat) → ∀ j : Nat, j < l.length → ¬ (v.1 = H 6 (l.getD j 0) ∧ w.1 = H 7 (l.getD j 0))) ∧ (∀ x, r = some x → ∃ i : Nat, i < l.length ∧ (∀ j : Nat, j < i → ¬ (v.1 = H 6 (l.getD j 0) ∧ w.1 = H 7 (l.getD j 0))) ∧ (v.1 = H 6 (l.getD i 0) ∧ w.1 = H 7 (l.getD i 0)) ∧ RTq κ.2.2.2.2 H x (l.getD i 0)))) (fun (u : Unit) (t : State) => Bx D cy ad A sz sl κ (0) (0) t) A) (0) (0) A := by
  refine CM_of (loc0 := [(0, .ref (ad 5)), (1, .ref k0), (2, .ref k1)]) (own := RX3) (nm := "exact") (by decide) rfl rfl rfl (Nat.le_of_ble_eq_true rfl) hAF hAn ?_
  intro p e s m below meth c ls hsz hsl C hP hS hl
  refine lv_iconst (v := 0) C.x C.b dX3_exact_0 (by decide +kernel) ?_
  refine lv_istore_n (lv' := [(3, .int 0), (0, .ref (ad 5)), (1, .ref k0), (2, .ref k1)]) C.x C.b dX3_exact_1 rfl hl (by decide) rfl (fun ls hl => ?_)
  have lp2 : ∀ (n : Nat) (y1 : Int32) (H : Heap) (locs : List Loc) (ls : Array Slot), (30 - y1.toInt).toNat < n → ((0 ≤ y1.toInt ∧ y1.toInt ≤ 30) ∧ (∀ (q7 q8 : Nat → Option Nat) (H : QT) (v w : QV) (l : List Nat), VALq κ.2.2.2.2 sa q7 q8 k0 v → VALq κ.2.2.2.2 sa q7 q8 k1 w → CDq κ.2.2.2.2 H (κ.2.2.2.1 15) (κ.1 10).toInt l → ∀ j : Nat, (j : Int) < y1.toInt → j < l.length → ¬ (v.1 = H 6 (l.getD j 0) ∧ w.1 = H 7 (l.getD j 0)))) → CH D cy ad A κ H → va_S A s.heap H locs → lv_has ls 5 [(3, .int y1), (0, .ref (ad 5)), (1, .ref k0), (2, .ref k1)] → W p l e (headSpec (Cond.code yX3_exact cX3_exact 5 (some (.object "PhraseDesk$Routine")) :: GWc) ({ frames := 0, cells := 0, slots := 0, locals := 0 })).room s m #[.ref (ad 5), .ref k0, .ref k1] below meth c H locs (0) (0) (MQ below (va_Qq (fun (r : Option Nat) (u : Unit) => ((NT κ.2.2.2.2 5 r)) ∧ (∀ (q7 q8 : Nat → Option Nat) (H : QT) (v w : QV) (l : List Nat), VALq κ.2.2.2.2 sa q7 q8 k0 v → VALq κ.2.2.2.2 sa q7 q8 k1 w → CDq κ.2.2.2.2 H (κ.2.2.2.1 15) (κ.1 10).toInt l → (r = (none : Option Nat) → ∀ j : Nat, j < l.length → ¬ (v.1 = H 6 (l.getD j 0) ∧ w.1 = H 7 (l.getD j 0))) ∧ (∀ x, r = some x → ∃ i : Nat, i < l.length ∧ (∀ j : Nat, j < i → ¬ (v.1 = H 6 (l.getD j 0) ∧ w.1 = H 7 (l.getD j 0))) ∧ (v.1 = H 6 (l.getD i 0) ∧ w.1 = H 7 (l.getD i 0)) ∧ RTq κ.2.2.2.2 H x (l.getD i 0)))) (fun (u : Unit) (t : State) => Bx D cy ad A sz sl κ (0) (0) t) A) #[.ref (ad 5), .ref k0, .ref k1] s (0) (0) A) (F0 m 2 ls []) := by
    intro n
    induction n with
    | zero => intro y1 H locs ls hn; exact absurd hn (Nat.not_lt_zero _)
    | succ n2 ih2 =>
      intro y1 H locs ls hn2  hi2 hP hS hl
      obtain ⟨hi2, hi2y⟩ := hi2
      obtain ⟨hi2_0, hi2_1⟩ := hi2
      refine lv_iload_n C.x C.b dX3_exact_2 rfl (lv_at hl 0 rfl) ?_
      refine lv_aload_n C.x C.b dX3_exact_3 rfl (lv_at hl 1 rfl) ?_
      refine cg_X3_1 (v := (κ.1 10)) C hP rfl cw_424 dX3_exact_4 ?_
      refine lv_icmp_ge (tgt := 65) C.x C.b dX3_exact_7 (by decide) (fun c2 => ?_) (fun c2 => ?_)
      · have c2 : (κ.1 10).toInt ≤ y1.toInt := by have h := z_le c2; exact h
        refine lv_null C.x C.b dX3_exact_65 ?_
        exact c_retq (v := none) (Or.inl ⟨_, rfl⟩) C hsz hsl () ⟨nt_n, (vX3_exact_3 ad sa κ k0 k1 y1 ht0 ht1 hPV hSV hi2_0 hi2_1 hi2y c2)⟩ hP hS ⟨(Nat.le_of_ble_eq_true rfl), (Nat.le_of_ble_eq_true rfl)⟩ ⟨(Nat.le_of_ble_eq_true rfl), (Nat.le_of_ble_eq_true rfl)⟩ dX3_exact_66
      · have c2 : y1.toInt < (κ.1 10).toInt := by have h := z_nle c2; exact h
        refine lv_iload_n C.x C.b dX3_exact_10 rfl (lv_at hl 0 rfl) ?_
        refine lv_aload_n C.x C.b dX3_exact_11 rfl (lv_at hl 1 rfl) ?_
        refine cg_X3_0 C hP cw_409 dX3_exact_12 ?_
        refine cl_15 C hP dX3_exact_15 ?_
        refine lv_icmp_ge (tgt := 65) C.x C.b dX3_exact_16 (by decide) (fun c4 => ?_) (fun c4 => ?_)
        · have c4 : 30 ≤ y1.toInt := by have h := z_le c4; rw [show (30 : Int32).toInt = 30 from by decide +kernel] at h; exact h
          refine lv_null C.x C.b dX3_exact_65 ?_
          exact c_retq (v := none) (Or.inl ⟨_, rfl⟩) C hsz hsl () ⟨nt_n, (vX3_exact_4 ad sa κ k0 k1 y1 ht0 ht1 hPV hSV hi2_0 hi2_1 hi2y c2 c4)⟩ hP hS ⟨(Nat.le_of_ble_eq_true rfl), (Nat.le_of_ble_eq_true rfl)⟩ ⟨(Nat.le_of_ble_eq_true rfl), (Nat.le_of_ble_eq_true rfl)⟩ dX3_exact_66
        · have c4 : y1.toInt < 30 := by have h := z_nle c4; rw [show (30 : Int32).toInt = 30 from by decide +kernel] at h; exact h
          refine lv_aload_n C.x C.b dX3_exact_19 rfl (lv_at hl 1 rfl) ?_
          refine cg_X3_0 C hP cw_409 dX3_exact_20 ?_
          refine lv_iload_n C.x C.b dX3_exact_23 rfl (lv_at hl 0 rfl) ?_
          refine ca_15 (f := (κ.2.2.2.1 15)) C hP rfl (vX3_exact_5 κ y1 hi2_0 hi2_1 c2 c4) dX3_exact_24 (fun x5 ex5 => ?_)
          have tx5 : NT κ.2.2.2.2 5 x5 := by rw [ex5]; exact hSV.n15 _
          refine lq_astore (lv' := [(4, va_rf x5), (3, .int y1), (0, .ref (ad 5)), (1, .ref k0), (2, .ref k1)]) C.x C.b dX3_exact_25 hl (by decide) (by cases x5 <;> rfl) (fun ls hl => ?_)
          refine lq_aload C.x C.b dX3_exact_27 (lv_at hl 0 rfl) ?_
          cases x5 with
          | none =>
            refine lv_ifnullN (tgt := 59) C.x C.b dX3_exact_29 (by decide) ?_
            obtain ⟨x7, ex7⟩ : ∃ y : Int32, y = y1 + (1 : Int32) := ⟨_, rfl⟩
            have tx7 : x7.toInt = y1.toInt + 1 := (vX3_exact_6 κ y1 x7 hi2_0 hi2_1 c2 c4 ex5 ex7)
            refine lv_iinc (v := x7) (lv' := [(3, .int x7), (4, .null), (0, .ref (ad 5)), (1, .ref k0), (2, .ref k1)]) C.x C.b dX3_exact_59 hl (k := 1) rfl (by rw [ex7]; rfl) (by decide) rfl (fun ls hl => ?_)
            refine lv_goto (tgt := 2) C.x C.b dX3_exact_62 (by decide) ?_
            refine W.widen (k := 0) (n := 0) (Nat.le_of_ble_eq_true rfl) (Nat.le_of_ble_eq_true rfl) ?_
            exact ih2 x7 _ _ _ (Nat.lt_of_lt_of_le (vX3_exact_9 κ y1 x7 hi2_0 hi2_1 c2 c4 ex5 ex7 tx7) (Nat.le_of_lt_succ hn2))  ⟨(vX3_exact_7 κ y1 x7 hi2_0 hi2_1 c2 c4 ex5 ex7 tx7), (vX3_exact_8 ad sa κ k0 k1 y1 x7 ht0 ht1 hPV hSV hi2_0 hi2_1 hi2y c2 c4 ex5 ex7 tx7)⟩ hP hS (lv_sub hl [0, 2, 3, 4] rfl)
          | some b6 =>
            have hb6 : oT κ.2.2.2.2 b6 = 5 := tx5 b6 rfl
            refine lv_ifnull C.x C.b dX3_exact_29 ?_
            refine lv_aload_n C.x C.b dX3_exact_32 rfl (lv_at hl 3 rfl) ?_
            obtain ⟨x8, ex8⟩ : ∃ z, oI κ.2.2.2.2 0 k0 = z := ⟨_, rfl⟩
            refine pg_X10_0 (v := x8) C hP (t20 (a := k0) (t := 1) ht0) ex8 cw_442 dX3_exact_33 ?_
            refine lv_aload C.x C.b dX3_exact_36 (lv_at hl 0 rfl) ?_
            obtain ⟨x9, ex9⟩ : ∃ z, oI κ.2.2.2.2 14 b6 = z := ⟨_, rfl⟩
            refine pg_X7_1 (v := x9) C hP (t20 (a := b6) (t := 5) hb6) ex9 cw_436 dX3_exact_38 ?_
            refine lv_icmp_ne (tgt := 59) C.x C.b dX3_exact_41 (by decide) (fun c10 => ?_) (fun c10 => ?_)
            · have c10 : ¬ x8.toInt = x9.toInt := by have h := z_ne c10; exact h
              obtain ⟨x11, ex11⟩ : ∃ y : Int32, y = y1 + (1 : Int32) := ⟨_, rfl⟩
              have tx11 : x11.toInt = y1.toInt + 1 := (vX3_exact_10 κ k0 y1 b6 x8 x9 x11 hi2_0 hi2_1 c2 c4 ex5 ex8 ex9 c10 ex11)
              refine lv_iinc (v := x11) (lv' := [(3, .int x11), (4, .ref b6), (0, .ref (ad 5)), (1, .ref k0), (2, .ref k1)]) C.x C.b dX3_exact_59 hl (k := 1) rfl (by rw [ex11]; rfl) (by decide) rfl (fun ls hl => ?_)
              refine lv_goto (tgt := 2) C.x C.b dX3_exact_62 (by decide) ?_
              refine W.widen (k := 0) (n := 0) (Nat.le_of_ble_eq_true rfl) (Nat.le_of_ble_eq_true rfl) ?_
              exact ih2 x11 _ _ _ (Nat.lt_of_lt_of_le (vX3_exact_13 κ k0 y1 b6 x8 x9 x11 hi2_0 hi2_1 c2 c4 ex5 ex8 ex9 c10 ex11 tx11) (Nat.le_of_lt_succ hn2))  ⟨(vX3_exact_11 κ k0 y1 b6 x8 x9 x11 hi2_0 hi2_1 c2 c4 ex5 ex8 ex9 c10 ex11 tx11), (vX3_exact_12 ad sa κ k0 k1 y1 b6 x8 x9 x11 ht0 ht1 hPV hSV hi2_0 hi2_1 hi2y c2 c4 ex5 ex8 ex9 c10 ex11 tx11)⟩ hP hS (lv_sub hl [0, 2, 3, 4] rfl)
            · have c10 : x8.toInt = x9.toInt := by have h := z_eq c10; exact h
              refine lv_aload_n C.x C.b dX3_exact_44 rfl (lv_at hl 4 rfl) ?_
              obtain ⟨x12, ex12⟩ : ∃ z, oI κ.2.2.2.2 0 k1 = z := ⟨_, rfl⟩
              refine pg_X10_0 (v := x12) C hP (t20 (a := k1) (t := 1) ht1) ex12 cw_442 dX3_exact_45 ?_
              refine lv_aload C.x C.b dX3_exact_48 (lv_at hl 0 rfl) ?_
              obtain ⟨x13, ex13⟩ : ∃ z, oI κ.2.2.2.2 15 b6 = z := ⟨_, rfl⟩
              refine pg_X7_2 (v := x13) C hP (t20 (a := b6) (t := 5) hb6) ex13 cw_437 dX3_exact_50 ?_
              refine lv_icmp_ne (tgt := 59) C.x C.b dX3_exact_53 (by decide) (fun c14 => ?_) (fun c14 => ?_)
              · have c14 : ¬ x12.toInt = x13.toInt := by have h := z_ne c14; exact h
                obtain ⟨x15, ex15⟩ : ∃ y : Int32, y = y1 + (1 : Int32) := ⟨_, rfl⟩
                have tx15 : x15.toInt = y1.toInt + 1 := (vX3_exact_14 κ k0 k1 y1 b6 x8 x9 x12 x13 x15 hi2_0 hi2_1 c2 c4 ex5 ex8 ex9 c10 ex12 ex13 c14 ex15)
                refine lv_iinc (v := x15) (lv' := [(3, .int x15), (4, .ref b6), (0, .ref (ad 5)), (1, .ref k0), (2, .ref k1)]) C.x C.b dX3_exact_59 hl (k := 1) rfl (by rw [ex15]; rfl) (by decide) rfl (fun ls hl => ?_)
                refine lv_goto (tgt := 2) C.x C.b dX3_exact_62 (by decide) ?_
                refine W.widen (k := 0) (n := 0) (Nat.le_of_ble_eq_true rfl) (Nat.le_of_ble_eq_true rfl) ?_
                exact ih2 x15 _ _ _ (Nat.lt_of_lt_of_le (vX3_exact_17 κ k0 k1 y1 b6 x8 x9 x12 x13 x15 hi2_0 hi2_1 c2 c4 ex5 ex8 ex9 c10 ex12 ex13 c14 ex15 tx15) (Nat.le_of_lt_succ hn2))  ⟨(vX3_exact_15 κ k0 k1 y1 b6 x8 x9 x12 x13 x15 hi2_0 hi2_1 c2 c4 ex5 ex8 ex9 c10 ex12 ex13 c14 ex15 tx15), (vX3_exact_16 ad sa κ k0 k1 y1 b6 x8 x9 x12 x13 x15 ht0 ht1 hPV hSV hi2_0 hi2_1 hi2y c2 c4 ex5 ex8 ex9 c10 ex12 ex13 c14 ex15 tx15)⟩ hP hS (lv_sub hl [0, 2, 3, 4] rfl)
              · have c14 : x12.toInt = x13.toInt := by have h := z_eq c14; exact h
                refine lv_aload C.x C.b dX3_exact_56 (lv_at hl 0 rfl) ?_
                exact c_retq (v := (some b6)) (Or.inl ⟨_, rfl⟩) C hsz hsl () ⟨(nt_s hb6), (vX3_exact_18 ad sa κ k0 k1 y1 b6 x8 x9 x12 x13 ht0 ht1 hPV hSV hi2_0 hi2_1 hi2y c2 c4 ex5 ex8 ex9 c10 ex12 ex13 c14)⟩ hP hS ⟨(Nat.le_of_ble_eq_true rfl), (Nat.le_of_ble_eq_true rfl)⟩ ⟨(Nat.le_of_ble_eq_true rfl), (Nat.le_of_ble_eq_true rfl)⟩ dX3_exact_58
  refine W.widen (k := 0) (n := 0) (Nat.le_of_ble_eq_true rfl) (Nat.le_of_ble_eq_true rfl) ?_
  exact lp2 ((30 - (0 : Int32).toInt).toNat + 1) (0 : Int32) _ _ _ (Nat.lt_succ_self _)  ⟨(vX3_exact_1  ), (vX3_exact_2 ad sa κ k0 k1 ht0 ht1 hPV hSV)⟩ hP hS (lv_sub hl [0, 1, 2, 3] rfl)

-- init@8 @8
theorem vX3_closest_1   : 0 ≤ (0 : Int32).toInt ∧ (0 : Int32).toInt ≤ 30 := by
  have q0 : (0 : Int32).toInt = 0 := by decide +kernel
  refine ⟨?_, ?_⟩ <;> first | assumption | omega | (subst_vars; omega) | trivial
-- init2@8 @8
theorem vX3_closest_2 (ad : Nat → Nat) (sa : Nat → Nat) (κ : KS) (k0 : Nat) (k1 : Nat) (ht0 : oT κ.2.2.2.2 k0 = 1) (ht1 : oT κ.2.2.2.2 k1 = 1) (hPV : PV sa κ.2.2.2.2) (hSV : SV ad κ.2.2.2.2 (κ.2.1 0) (κ.2.1 1) (κ.2.2.2.1 6) (κ.2.2.2.1 7) (κ.2.2.2.1 8) (κ.2.2.2.1 13) (κ.2.2.2.1 15) (κ.2.2.2.1 17) (κ.1 1).toInt) : ∀ (q7 q8 : Nat → Option Nat) (H : QT) (n : Int) (v w : QV) (l : List Nat) (as : List QV), FAMq κ.2.2.2.2 q7 H n → VALq κ.2.2.2.2 sa q7 q8 k0 v → VALq κ.2.2.2.2 sa q7 q8 k1 w → CDq κ.2.2.2.2 H (κ.2.2.2.1 15) (κ.1 10).toInt l → qARG as v w → qWF H as l → (∀ j : Nat, j < l.length → ¬ (v.1 = H 6 (l.getD j 0) ∧ w.1 = H 7 (l.getD j 0))) → ∃ bm : Option Nat, qCLO H as l (0 : Int32).toInt.toNat bm (0 : Int32).toInt ∧ ((none : Option Nat) = none → bm = none) ∧ (∀ x, none = some x → ∃ m, bm = some m ∧ RTq κ.2.2.2.2 H x m) := by
  have q0 : (0 : Int32).toInt = 0 := by decide +kernel
  intro q7 q8 H n v w l as F h g D A W N
  refine ⟨none, ?_, fun _ => rfl, fun x e => (by cases e)⟩
  rw [show (0 : Int32).toInt.toNat = 0 by decide]
  exact qCLO.start9
-- post2 @111
theorem vX3_closest_3 (ad : Nat → Nat) (sa : Nat → Nat) (κ : KS) (k0 : Nat) (k1 : Nat) (y1 : Option Nat) (y2 : Int32) (y3 : Int32) (ht0 : oT κ.2.2.2.2 k0 = 1) (ht1 : oT κ.2.2.2.2 k1 = 1) (hPV : PV sa κ.2.2.2.2) (hSV : SV ad κ.2.2.2.2 (κ.2.1 0) (κ.2.1 1) (κ.2.2.2.1 6) (κ.2.2.2.1 7) (κ.2.2.2.1 8) (κ.2.2.2.1 13) (κ.2.2.2.1 15) (κ.2.2.2.1 17) (κ.1 1).toInt) (hi8_0 : 0 ≤ y3.toInt) (hi8_1 : y3.toInt ≤ 30) (hi8y : ∀ (q7 q8 : Nat → Option Nat) (H : QT) (n : Int) (v w : QV) (l : List Nat) (as : List QV), FAMq κ.2.2.2.2 q7 H n → VALq κ.2.2.2.2 sa q7 q8 k0 v → VALq κ.2.2.2.2 sa q7 q8 k1 w → CDq κ.2.2.2.2 H (κ.2.2.2.1 15) (κ.1 10).toInt l → qARG as v w → qWF H as l → (∀ j : Nat, j < l.length → ¬ (v.1 = H 6 (l.getD j 0) ∧ w.1 = H 7 (l.getD j 0))) → ∃ bm : Option Nat, qCLO H as l y3.toInt.toNat bm y2.toInt ∧ ((y1 : Option Nat) = none → bm = none) ∧ (∀ x, y1 = some x → ∃ m, bm = some m ∧ RTq κ.2.2.2.2 H x m)) (c4 : (κ.1 10).toInt ≤ y3.toInt) : ∀ (q7 q8 : Nat → Option Nat) (H : QT) (n : Int) (v w : QV) (l : List Nat) (as : List QV), FAMq κ.2.2.2.2 q7 H n → VALq κ.2.2.2.2 sa q7 q8 k0 v → VALq κ.2.2.2.2 sa q7 q8 k1 w → CDq κ.2.2.2.2 H (κ.2.2.2.1 15) (κ.1 10).toInt l → qARG as v w → qWF H as l → (∀ j : Nat, j < l.length → ¬ (v.1 = H 6 (l.getD j 0) ∧ w.1 = H 7 (l.getD j 0))) → ∃ (bm : Option Nat) (t : Int), qCLO H as l l.length bm t ∧ ((y1 : Option Nat) = none → bm = none) ∧ (∀ x, y1 = some x → ∃ m, bm = some m ∧ RTq κ.2.2.2.2 H x m) := by
  intro q7 q8 H n v w l as F h g D A W N
  obtain ⟨bm, J, b1, b2⟩ := hi8y q7 q8 H n v w l as F h g D A W N
  obtain ⟨d1, d2, d3⟩ := D
  have e : l.take y3.toInt.toNat = l.take l.length := by rw [List.take_of_length_le (by omega), List.take_length]
  refine ⟨bm, _, ?_, b1, b2⟩
  unfold qCLO at J ⊢
  rw [← e]
  exact J
-- post2 @111
theorem vX3_closest_4 (ad : Nat → Nat) (sa : Nat → Nat) (κ : KS) (k0 : Nat) (k1 : Nat) (y1 : Option Nat) (y2 : Int32) (y3 : Int32) (ht0 : oT κ.2.2.2.2 k0 = 1) (ht1 : oT κ.2.2.2.2 k1 = 1) (hPV : PV sa κ.2.2.2.2) (hSV : SV ad κ.2.2.2.2 (κ.2.1 0) (κ.2.1 1) (κ.2.2.2.1 6) (κ.2.2.2.1 7) (κ.2.2.2.1 8) (κ.2.2.2.1 13) (κ.2.2.2.1 15) (κ.2.2.2.1 17) (κ.1 1).toInt) (hi8_0 : 0 ≤ y3.toInt) (hi8_1 : y3.toInt ≤ 30) (hi8y : ∀ (q7 q8 : Nat → Option Nat) (H : QT) (n : Int) (v w : QV) (l : List Nat) (as : List QV), FAMq κ.2.2.2.2 q7 H n → VALq κ.2.2.2.2 sa q7 q8 k0 v → VALq κ.2.2.2.2 sa q7 q8 k1 w → CDq κ.2.2.2.2 H (κ.2.2.2.1 15) (κ.1 10).toInt l → qARG as v w → qWF H as l → (∀ j : Nat, j < l.length → ¬ (v.1 = H 6 (l.getD j 0) ∧ w.1 = H 7 (l.getD j 0))) → ∃ bm : Option Nat, qCLO H as l y3.toInt.toNat bm y2.toInt ∧ ((y1 : Option Nat) = none → bm = none) ∧ (∀ x, y1 = some x → ∃ m, bm = some m ∧ RTq κ.2.2.2.2 H x m)) (c4 : y3.toInt < (κ.1 10).toInt) (c6 : 30 ≤ y3.toInt) : ∀ (q7 q8 : Nat → Option Nat) (H : QT) (n : Int) (v w : QV) (l : List Nat) (as : List QV), FAMq κ.2.2.2.2 q7 H n → VALq κ.2.2.2.2 sa q7 q8 k0 v → VALq κ.2.2.2.2 sa q7 q8 k1 w → CDq κ.2.2.2.2 H (κ.2.2.2.1 15) (κ.1 10).toInt l → qARG as v w → qWF H as l → (∀ j : Nat, j < l.length → ¬ (v.1 = H 6 (l.getD j 0) ∧ w.1 = H 7 (l.getD j 0))) → ∃ (bm : Option Nat) (t : Int), qCLO H as l l.length bm t ∧ ((y1 : Option Nat) = none → bm = none) ∧ (∀ x, y1 = some x → ∃ m, bm = some m ∧ RTq κ.2.2.2.2 H x m) := by
  intro q7 q8 H n v w l as F h g D A W N
  obtain ⟨bm, J, b1, b2⟩ := hi8y q7 q8 H n v w l as F h g D A W N
  obtain ⟨d1, d2, d3⟩ := D
  have e : l.take y3.toInt.toNat = l.take l.length := by rw [List.take_of_length_le (by omega), List.take_length]
  refine ⟨bm, _, ?_, b1, b2⟩
  unfold qCLO at J ⊢
  rw [← e]
  exact J
-- in@33 @33
theorem vX3_closest_5 (κ : KS) (y3 : Int32) (hi8_0 : 0 ≤ y3.toInt) (hi8_1 : y3.toInt ≤ 30) (c4 : y3.toInt < (κ.1 10).toInt) (c6 : y3.toInt < 30) : vp_in y3 30 := by
  exact vp_in_iff.mpr ⟨by omega, by omega⟩
-- nw@104 @104
theorem vX3_closest_6 (κ : KS) (y3 : Int32) (x9 : Int32) (hi8_0 : 0 ≤ y3.toInt) (hi8_1 : y3.toInt ≤ 30) (c4 : y3.toInt < (κ.1 10).toInt) (c6 : y3.toInt < 30) (ex7 : none = (κ.2.2.2.1 15) y3.toNatClampNeg) (ex9 : x9 = y3 + (1 : Int32)) : x9.toInt = y3.toInt + 1 := by
  have q1 : (1 : Int32).toInt = 1 := by decide +kernel
  have z9 : (1 : Int32).toInt = 1 := by decide +kernel
  rw [ex9, z_add (by omega) (by omega)]; first | done | omega
-- inv@8 @8
theorem vX3_closest_7 (κ : KS) (y3 : Int32) (x9 : Int32) (hi8_0 : 0 ≤ y3.toInt) (hi8_1 : y3.toInt ≤ 30) (c4 : y3.toInt < (κ.1 10).toInt) (c6 : y3.toInt < 30) (ex7 : none = (κ.2.2.2.1 15) y3.toNatClampNeg) (ex9 : x9 = y3 + (1 : Int32)) (tx9 : x9.toInt = y3.toInt + 1) : 0 ≤ x9.toInt ∧ x9.toInt ≤ 30 := by
  have q1 : (1 : Int32).toInt = 1 := by decide +kernel
  refine ⟨?_, ?_⟩ <;> first | assumption | omega | (subst_vars; omega) | trivial
-- inv2@8 @8
theorem vX3_closest_8 (ad : Nat → Nat) (sa : Nat → Nat) (κ : KS) (k0 : Nat) (k1 : Nat) (y1 : Option Nat) (y2 : Int32) (y3 : Int32) (x9 : Int32) (ht0 : oT κ.2.2.2.2 k0 = 1) (ht1 : oT κ.2.2.2.2 k1 = 1) (hPV : PV sa κ.2.2.2.2) (hSV : SV ad κ.2.2.2.2 (κ.2.1 0) (κ.2.1 1) (κ.2.2.2.1 6) (κ.2.2.2.1 7) (κ.2.2.2.1 8) (κ.2.2.2.1 13) (κ.2.2.2.1 15) (κ.2.2.2.1 17) (κ.1 1).toInt) (hi8_0 : 0 ≤ y3.toInt) (hi8_1 : y3.toInt ≤ 30) (hi8y : ∀ (q7 q8 : Nat → Option Nat) (H : QT) (n : Int) (v w : QV) (l : List Nat) (as : List QV), FAMq κ.2.2.2.2 q7 H n → VALq κ.2.2.2.2 sa q7 q8 k0 v → VALq κ.2.2.2.2 sa q7 q8 k1 w → CDq κ.2.2.2.2 H (κ.2.2.2.1 15) (κ.1 10).toInt l → qARG as v w → qWF H as l → (∀ j : Nat, j < l.length → ¬ (v.1 = H 6 (l.getD j 0) ∧ w.1 = H 7 (l.getD j 0))) → ∃ bm : Option Nat, qCLO H as l y3.toInt.toNat bm y2.toInt ∧ ((y1 : Option Nat) = none → bm = none) ∧ (∀ x, y1 = some x → ∃ m, bm = some m ∧ RTq κ.2.2.2.2 H x m)) (c4 : y3.toInt < (κ.1 10).toInt) (c6 : y3.toInt < 30) (ex7 : none = (κ.2.2.2.1 15) y3.toNatClampNeg) (ex9 : x9 = y3 + (1 : Int32)) (tx9 : x9.toInt = y3.toInt + 1) : ∀ (q7 q8 : Nat → Option Nat) (H : QT) (n : Int) (v w : QV) (l : List Nat) (as : List QV), FAMq κ.2.2.2.2 q7 H n → VALq κ.2.2.2.2 sa q7 q8 k0 v → VALq κ.2.2.2.2 sa q7 q8 k1 w → CDq κ.2.2.2.2 H (κ.2.2.2.1 15) (κ.1 10).toInt l → qARG as v w → qWF H as l → (∀ j : Nat, j < l.length → ¬ (v.1 = H 6 (l.getD j 0) ∧ w.1 = H 7 (l.getD j 0))) → ∃ bm : Option Nat, qCLO H as l x9.toInt.toNat bm y2.toInt ∧ ((y1 : Option Nat) = none → bm = none) ∧ (∀ x, y1 = some x → ∃ m, bm = some m ∧ RTq κ.2.2.2.2 H x m) := by
  have q1 : (1 : Int32).toInt = 1 := by decide +kernel
  intro q7 q8 H n v w l as F h g D A W N
  obtain ⟨bm, J, b1, b2⟩ := hi8y q7 q8 H n v w l as F h g D A W N
  obtain ⟨d1, d2, d3⟩ := D
  have lt : y3.toNatClampNeg < l.length := by rw [clampN]; omega
  obtain ⟨x, x1, x2, x3⟩ := d3 _ lt
  rw [← ex7] at x1
  cases x1
-- meas@8 @8
theorem vX3_closest_9 (κ : KS) (y3 : Int32) (x9 : Int32) (hi8_0 : 0 ≤ y3.toInt) (hi8_1 : y3.toInt ≤ 30) (c4 : y3.toInt < (κ.1 10).toInt) (c6 : y3.toInt < 30) (ex7 : none = (κ.2.2.2.1 15) y3.toNatClampNeg) (ex9 : x9 = y3 + (1 : Int32)) (tx9 : x9.toInt = y3.toInt + 1) : (30 - x9.toInt).toNat < (30 - y3.toInt).toNat := by
  have q1 : (1 : Int32).toInt = 1 := by decide +kernel
  first | assumption | omega | (subst_vars; omega) | trivial
-- nw@104 @104
theorem vX3_closest_10 (κ : KS) (y3 : Int32) (b8 : Nat) (x10 : Int32) (x13 : Int32) (hi8_0 : 0 ≤ y3.toInt) (hi8_1 : y3.toInt ≤ 30) (c4 : y3.toInt < (κ.1 10).toInt) (c6 : y3.toInt < 30) (ex7 : (some b8) = (κ.2.2.2.1 15) y3.toNatClampNeg) (ex10 : oI κ.2.2.2.2 14 b8 = x10) (ex13 : x13 = y3 + (1 : Int32)) : x13.toInt = y3.toInt + 1 := by
  have q1 : (1 : Int32).toInt = 1 := by decide +kernel
  have z9 : (1 : Int32).toInt = 1 := by decide +kernel
  rw [ex13, z_add (by omega) (by omega)]; first | done | omega
-- inv@8 @8
theorem vX3_closest_11 (κ : KS) (y3 : Int32) (b8 : Nat) (x10 : Int32) (x13 : Int32) (hi8_0 : 0 ≤ y3.toInt) (hi8_1 : y3.toInt ≤ 30) (c4 : y3.toInt < (κ.1 10).toInt) (c6 : y3.toInt < 30) (ex7 : (some b8) = (κ.2.2.2.1 15) y3.toNatClampNeg) (ex10 : oI κ.2.2.2.2 14 b8 = x10) (ex13 : x13 = y3 + (1 : Int32)) (tx13 : x13.toInt = y3.toInt + 1) : 0 ≤ x13.toInt ∧ x13.toInt ≤ 30 := by
  have q1 : (1 : Int32).toInt = 1 := by decide +kernel
  refine ⟨?_, ?_⟩ <;> first | assumption | omega | (subst_vars; omega) | trivial
-- inv2@8 @8
theorem vX3_closest_12 (ad : Nat → Nat) (sa : Nat → Nat) (κ : KS) (k0 : Nat) (k1 : Nat) (y1 : Option Nat) (y2 : Int32) (y3 : Int32) (b8 : Nat) (x10 : Int32) (r11 : Int32) (x13 : Int32) (ht0 : oT κ.2.2.2.2 k0 = 1) (ht1 : oT κ.2.2.2.2 k1 = 1) (hPV : PV sa κ.2.2.2.2) (hSV : SV ad κ.2.2.2.2 (κ.2.1 0) (κ.2.1 1) (κ.2.2.2.1 6) (κ.2.2.2.1 7) (κ.2.2.2.1 8) (κ.2.2.2.1 13) (κ.2.2.2.1 15) (κ.2.2.2.1 17) (κ.1 1).toInt) (hi8_0 : 0 ≤ y3.toInt) (hi8_1 : y3.toInt ≤ 30) (hi8y : ∀ (q7 q8 : Nat → Option Nat) (H : QT) (n : Int) (v w : QV) (l : List Nat) (as : List QV), FAMq κ.2.2.2.2 q7 H n → VALq κ.2.2.2.2 sa q7 q8 k0 v → VALq κ.2.2.2.2 sa q7 q8 k1 w → CDq κ.2.2.2.2 H (κ.2.2.2.1 15) (κ.1 10).toInt l → qARG as v w → qWF H as l → (∀ j : Nat, j < l.length → ¬ (v.1 = H 6 (l.getD j 0) ∧ w.1 = H 7 (l.getD j 0))) → ∃ bm : Option Nat, qCLO H as l y3.toInt.toNat bm y2.toInt ∧ ((y1 : Option Nat) = none → bm = none) ∧ (∀ x, y1 = some x → ∃ m, bm = some m ∧ RTq κ.2.2.2.2 H x m)) (c4 : y3.toInt < (κ.1 10).toInt) (c6 : y3.toInt < 30) (ex7 : (some b8) = (κ.2.2.2.1 15) y3.toNatClampNeg) (ex10 : oI κ.2.2.2.2 14 b8 = x10) (hr11y : ∀ (q7 q8 : Nat → Option Nat) (H : QT) (n : Int) (v : QV), FAMq κ.2.2.2.2 q7 H n → VALq κ.2.2.2.2 sa q7 q8 k0 v → (r11.toInt = 0 → qFits H v x10.toInt = false) ∧ (¬ r11.toInt = 0 → qFits H v x10.toInt = true)) (hr11_0 : 0 ≤ r11.toInt) (hr11_1 : r11.toInt ≤ 1) (c12 : r11.toInt = 0) (ex13 : x13 = y3 + (1 : Int32)) (tx13 : x13.toInt = y3.toInt + 1) : ∀ (q7 q8 : Nat → Option Nat) (H : QT) (n : Int) (v w : QV) (l : List Nat) (as : List QV), FAMq κ.2.2.2.2 q7 H n → VALq κ.2.2.2.2 sa q7 q8 k0 v → VALq κ.2.2.2.2 sa q7 q8 k1 w → CDq κ.2.2.2.2 H (κ.2.2.2.1 15) (κ.1 10).toInt l → qARG as v w → qWF H as l → (∀ j : Nat, j < l.length → ¬ (v.1 = H 6 (l.getD j 0) ∧ w.1 = H 7 (l.getD j 0))) → ∃ bm : Option Nat, qCLO H as l x13.toInt.toNat bm y2.toInt ∧ ((y1 : Option Nat) = none → bm = none) ∧ (∀ x, y1 = some x → ∃ m, bm = some m ∧ RTq κ.2.2.2.2 H x m) := by
  have q1 : (1 : Int32).toInt = 1 := by decide +kernel
  intro q7 q8 H n v w l as F h g D A W N
  obtain ⟨bm, J, b1, b2⟩ := hi8y q7 q8 H n v w l as F h g D A W N
  obtain ⟨d1, d2, d3⟩ := D
  have lt : y3.toNatClampNeg < l.length := by rw [clampN]; omega
  obtain ⟨x, x1, x2, x3⟩ := d3 _ lt
  rw [← ex7] at x1
  obtain rfl := Option.some.inj x1
  rw [show y3.toInt.toNat = y3.toNatClampNeg from clampN.symm] at J
  rw [show x13.toInt.toNat = y3.toNatClampNeg + 1 by rw [clampN]; omega]
  have S := J.step9 A W lt (N _ lt)
  have a1 := x3.2.1
  rw [ex10] at a1
  have Fv := hr11y q7 q8 H n v F h
  rw [a1] at Fv
  exact ⟨bm, S.1 (fun z => by rw [Fv.1 (by omega)] at z; first | cases z.1 | cases z.2), b1, b2⟩
-- meas@8 @8
theorem vX3_closest_13 (κ : KS) (y3 : Int32) (b8 : Nat) (x10 : Int32) (x13 : Int32) (hi8_0 : 0 ≤ y3.toInt) (hi8_1 : y3.toInt ≤ 30) (c4 : y3.toInt < (κ.1 10).toInt) (c6 : y3.toInt < 30) (ex7 : (some b8) = (κ.2.2.2.1 15) y3.toNatClampNeg) (ex10 : oI κ.2.2.2.2 14 b8 = x10) (ex13 : x13 = y3 + (1 : Int32)) (tx13 : x13.toInt = y3.toInt + 1) : (30 - x13.toInt).toNat < (30 - y3.toInt).toNat := by
  have q1 : (1 : Int32).toInt = 1 := by decide +kernel
  first | assumption | omega | (subst_vars; omega) | trivial
-- nw@104 @104
theorem vX3_closest_14 (κ : KS) (y3 : Int32) (b8 : Nat) (x10 : Int32) (x14 : Int32) (x17 : Int32) (hi8_0 : 0 ≤ y3.toInt) (hi8_1 : y3.toInt ≤ 30) (c4 : y3.toInt < (κ.1 10).toInt) (c6 : y3.toInt < 30) (ex7 : (some b8) = (κ.2.2.2.1 15) y3.toNatClampNeg) (ex10 : oI κ.2.2.2.2 14 b8 = x10) (ex14 : oI κ.2.2.2.2 15 b8 = x14) (ex17 : x17 = y3 + (1 : Int32)) : x17.toInt = y3.toInt + 1 := by
  have q1 : (1 : Int32).toInt = 1 := by decide +kernel
  have z9 : (1 : Int32).toInt = 1 := by decide +kernel
  rw [ex17, z_add (by omega) (by omega)]; first | done | omega
-- inv@8 @8
theorem vX3_closest_15 (κ : KS) (y3 : Int32) (b8 : Nat) (x10 : Int32) (x14 : Int32) (x17 : Int32) (hi8_0 : 0 ≤ y3.toInt) (hi8_1 : y3.toInt ≤ 30) (c4 : y3.toInt < (κ.1 10).toInt) (c6 : y3.toInt < 30) (ex7 : (some b8) = (κ.2.2.2.1 15) y3.toNatClampNeg) (ex10 : oI κ.2.2.2.2 14 b8 = x10) (ex14 : oI κ.2.2.2.2 15 b8 = x14) (ex17 : x17 = y3 + (1 : Int32)) (tx17 : x17.toInt = y3.toInt + 1) : 0 ≤ x17.toInt ∧ x17.toInt ≤ 30 := by
  have q1 : (1 : Int32).toInt = 1 := by decide +kernel
  refine ⟨?_, ?_⟩ <;> first | assumption | omega | (subst_vars; omega) | trivial
-- inv2@8 @8
theorem vX3_closest_16 (ad : Nat → Nat) (sa : Nat → Nat) (κ : KS) (k0 : Nat) (k1 : Nat) (y1 : Option Nat) (y2 : Int32) (y3 : Int32) (b8 : Nat) (x10 : Int32) (r11 : Int32) (x14 : Int32) (r15 : Int32) (x17 : Int32) (ht0 : oT κ.2.2.2.2 k0 = 1) (ht1 : oT κ.2.2.2.2 k1 = 1) (hPV : PV sa κ.2.2.2.2) (hSV : SV ad κ.2.2.2.2 (κ.2.1 0) (κ.2.1 1) (κ.2.2.2.1 6) (κ.2.2.2.1 7) (κ.2.2.2.1 8) (κ.2.2.2.1 13) (κ.2.2.2.1 15) (κ.2.2.2.1 17) (κ.1 1).toInt) (hi8_0 : 0 ≤ y3.toInt) (hi8_1 : y3.toInt ≤ 30) (hi8y : ∀ (q7 q8 : Nat → Option Nat) (H : QT) (n : Int) (v w : QV) (l : List Nat) (as : List QV), FAMq κ.2.2.2.2 q7 H n → VALq κ.2.2.2.2 sa q7 q8 k0 v → VALq κ.2.2.2.2 sa q7 q8 k1 w → CDq κ.2.2.2.2 H (κ.2.2.2.1 15) (κ.1 10).toInt l → qARG as v w → qWF H as l → (∀ j : Nat, j < l.length → ¬ (v.1 = H 6 (l.getD j 0) ∧ w.1 = H 7 (l.getD j 0))) → ∃ bm : Option Nat, qCLO H as l y3.toInt.toNat bm y2.toInt ∧ ((y1 : Option Nat) = none → bm = none) ∧ (∀ x, y1 = some x → ∃ m, bm = some m ∧ RTq κ.2.2.2.2 H x m)) (c4 : y3.toInt < (κ.1 10).toInt) (c6 : y3.toInt < 30) (ex7 : (some b8) = (κ.2.2.2.1 15) y3.toNatClampNeg) (ex10 : oI κ.2.2.2.2 14 b8 = x10) (hr11y : ∀ (q7 q8 : Nat → Option Nat) (H : QT) (n : Int) (v : QV), FAMq κ.2.2.2.2 q7 H n → VALq κ.2.2.2.2 sa q7 q8 k0 v → (r11.toInt = 0 → qFits H v x10.toInt = false) ∧ (¬ r11.toInt = 0 → qFits H v x10.toInt = true)) (hr11_0 : 0 ≤ r11.toInt) (hr11_1 : r11.toInt ≤ 1) (c12 : ¬ r11.toInt = 0) (ex14 : oI κ.2.2.2.2 15 b8 = x14) (hr15y : ∀ (q7 q8 : Nat → Option Nat) (H : QT) (n : Int) (v : QV), FAMq κ.2.2.2.2 q7 H n → VALq κ.2.2.2.2 sa q7 q8 k1 v → (r15.toInt = 0 → qFits H v x14.toInt = false) ∧ (¬ r15.toInt = 0 → qFits H v x14.toInt = true)) (hr15_0 : 0 ≤ r15.toInt) (hr15_1 : r15.toInt ≤ 1) (c16 : r15.toInt = 0) (ex17 : x17 = y3 + (1 : Int32)) (tx17 : x17.toInt = y3.toInt + 1) : ∀ (q7 q8 : Nat → Option Nat) (H : QT) (n : Int) (v w : QV) (l : List Nat) (as : List QV), FAMq κ.2.2.2.2 q7 H n → VALq κ.2.2.2.2 sa q7 q8 k0 v → VALq κ.2.2.2.2 sa q7 q8 k1 w → CDq κ.2.2.2.2 H (κ.2.2.2.1 15) (κ.1 10).toInt l → qARG as v w → qWF H as l → (∀ j : Nat, j < l.length → ¬ (v.1 = H 6 (l.getD j 0) ∧ w.1 = H 7 (l.getD j 0))) → ∃ bm : Option Nat, qCLO H as l x17.toInt.toNat bm y2.toInt ∧ ((y1 : Option Nat) = none → bm = none) ∧ (∀ x, y1 = some x → ∃ m, bm = some m ∧ RTq κ.2.2.2.2 H x m) := by
  have q1 : (1 : Int32).toInt = 1 := by decide +kernel
  intro q7 q8 H n v w l as F h g D A W N
  obtain ⟨bm, J, b1, b2⟩ := hi8y q7 q8 H n v w l as F h g D A W N
  obtain ⟨d1, d2, d3⟩ := D
  have lt : y3.toNatClampNeg < l.length := by rw [clampN]; omega
  obtain ⟨x, x1, x2, x3⟩ := d3 _ lt
  rw [← ex7] at x1
  obtain rfl := Option.some.inj x1
  rw [show y3.toInt.toNat = y3.toNatClampNeg from clampN.symm] at J
  rw [show x17.toInt.toNat = y3.toNatClampNeg + 1 by rw [clampN]; omega]
  have S := J.step9 A W lt (N _ lt)
  have a1 := x3.2.1
  rw [ex10] at a1
  have Fv := hr11y q7 q8 H n v F h
  rw [a1] at Fv
  have a2 := x3.2.2.1
  rw [ex14] at a2
  have Fw := hr15y q7 q8 H n w F g
  rw [a2] at Fw
  exact ⟨bm, S.1 (fun z => by rw [Fw.1 (by omega)] at z; first | cases z.1 | cases z.2), b1, b2⟩
-- meas@8 @8
theorem vX3_closest_17 (κ : KS) (y3 : Int32) (b8 : Nat) (x10 : Int32) (x14 : Int32) (x17 : Int32) (hi8_0 : 0 ≤ y3.toInt) (hi8_1 : y3.toInt ≤ 30) (c4 : y3.toInt < (κ.1 10).toInt) (c6 : y3.toInt < 30) (ex7 : (some b8) = (κ.2.2.2.1 15) y3.toNatClampNeg) (ex10 : oI κ.2.2.2.2 14 b8 = x10) (ex14 : oI κ.2.2.2.2 15 b8 = x14) (ex17 : x17 = y3 + (1 : Int32)) (tx17 : x17.toInt = y3.toInt + 1) : (30 - x17.toInt).toNat < (30 - y3.toInt).toNat := by
  have q1 : (1 : Int32).toInt = 1 := by decide +kernel
  first | assumption | omega | (subst_vars; omega) | trivial
-- nw@104 @104
theorem vX3_closest_18 (κ : KS) (y3 : Int32) (b8 : Nat) (x10 : Int32) (x14 : Int32) (x22 : Int32) (hi8_0 : 0 ≤ y3.toInt) (hi8_1 : y3.toInt ≤ 30) (c4 : y3.toInt < (κ.1 10).toInt) (c6 : y3.toInt < 30) (ex7 : (some b8) = (κ.2.2.2.1 15) y3.toNatClampNeg) (ex10 : oI κ.2.2.2.2 14 b8 = x10) (ex14 : oI κ.2.2.2.2 15 b8 = x14) (ex22 : x22 = y3 + (1 : Int32)) : x22.toInt = y3.toInt + 1 := by
  have q1 : (1 : Int32).toInt = 1 := by decide +kernel
  have z9 : (1 : Int32).toInt = 1 := by decide +kernel
  rw [ex22, z_add (by omega) (by omega)]; first | done | omega
-- inv@8 @8
theorem vX3_closest_19 (κ : KS) (y3 : Int32) (b8 : Nat) (x10 : Int32) (x14 : Int32) (x22 : Int32) (hi8_0 : 0 ≤ y3.toInt) (hi8_1 : y3.toInt ≤ 30) (c4 : y3.toInt < (κ.1 10).toInt) (c6 : y3.toInt < 30) (ex7 : (some b8) = (κ.2.2.2.1 15) y3.toNatClampNeg) (ex10 : oI κ.2.2.2.2 14 b8 = x10) (ex14 : oI κ.2.2.2.2 15 b8 = x14) (ex22 : x22 = y3 + (1 : Int32)) (tx22 : x22.toInt = y3.toInt + 1) : 0 ≤ x22.toInt ∧ x22.toInt ≤ 30 := by
  have q1 : (1 : Int32).toInt = 1 := by decide +kernel
  refine ⟨?_, ?_⟩ <;> first | assumption | omega | (subst_vars; omega) | trivial
-- inv2@8 @8
theorem vX3_closest_20 (ad : Nat → Nat) (sa : Nat → Nat) (κ : KS) (k0 : Nat) (k1 : Nat) (y2 : Int32) (y3 : Int32) (b8 : Nat) (x10 : Int32) (r11 : Int32) (x14 : Int32) (r15 : Int32) (r18 : Int32) (r19 : Int32) (x20 : Int32) (x22 : Int32) (ht0 : oT κ.2.2.2.2 k0 = 1) (ht1 : oT κ.2.2.2.2 k1 = 1) (hPV : PV sa κ.2.2.2.2) (hSV : SV ad κ.2.2.2.2 (κ.2.1 0) (κ.2.1 1) (κ.2.2.2.1 6) (κ.2.2.2.1 7) (κ.2.2.2.1 8) (κ.2.2.2.1 13) (κ.2.2.2.1 15) (κ.2.2.2.1 17) (κ.1 1).toInt) (hi8_0 : 0 ≤ y3.toInt) (hi8_1 : y3.toInt ≤ 30) (hi8y : ∀ (q7 q8 : Nat → Option Nat) (H : QT) (n : Int) (v w : QV) (l : List Nat) (as : List QV), FAMq κ.2.2.2.2 q7 H n → VALq κ.2.2.2.2 sa q7 q8 k0 v → VALq κ.2.2.2.2 sa q7 q8 k1 w → CDq κ.2.2.2.2 H (κ.2.2.2.1 15) (κ.1 10).toInt l → qARG as v w → qWF H as l → (∀ j : Nat, j < l.length → ¬ (v.1 = H 6 (l.getD j 0) ∧ w.1 = H 7 (l.getD j 0))) → ∃ bm : Option Nat, qCLO H as l y3.toInt.toNat bm y2.toInt ∧ ((none : Option Nat) = none → bm = none) ∧ (∀ x, none = some x → ∃ m, bm = some m ∧ RTq κ.2.2.2.2 H x m)) (c4 : y3.toInt < (κ.1 10).toInt) (c6 : y3.toInt < 30) (ex7 : (some b8) = (κ.2.2.2.1 15) y3.toNatClampNeg) (ex10 : oI κ.2.2.2.2 14 b8 = x10) (hr11y : ∀ (q7 q8 : Nat → Option Nat) (H : QT) (n : Int) (v : QV), FAMq κ.2.2.2.2 q7 H n → VALq κ.2.2.2.2 sa q7 q8 k0 v → (r11.toInt = 0 → qFits H v x10.toInt = false) ∧ (¬ r11.toInt = 0 → qFits H v x10.toInt = true)) (hr11_0 : 0 ≤ r11.toInt) (hr11_1 : r11.toInt ≤ 1) (c12 : ¬ r11.toInt = 0) (ex14 : oI κ.2.2.2.2 15 b8 = x14) (hr15y : ∀ (q7 q8 : Nat → Option Nat) (H : QT) (n : Int) (v : QV), FAMq κ.2.2.2.2 q7 H n → VALq κ.2.2.2.2 sa q7 q8 k1 v → (r15.toInt = 0 → qFits H v x14.toInt = false) ∧ (¬ r15.toInt = 0 → qFits H v x14.toInt = true)) (hr15_0 : 0 ≤ r15.toInt) (hr15_1 : r15.toInt ≤ 1) (c16 : ¬ r15.toInt = 0) (hr18y : ∀ (q7 q8 : Nat → Option Nat) (H : QT) (n : Int) (v : QV), FAMq κ.2.2.2.2 q7 H n → VALq κ.2.2.2.2 sa q7 q8 k0 v → r18.toInt = qWei H v x10.toInt) (hr19y : ∀ (q7 q8 : Nat → Option Nat) (H : QT) (n : Int) (v : QV), FAMq κ.2.2.2.2 q7 H n → VALq κ.2.2.2.2 sa q7 q8 k1 v → r19.toInt = qWei H v x14.toInt) (ex20 : x20 = r18 + r19) (ex22 : x22 = y3 + (1 : Int32)) (tx22 : x22.toInt = y3.toInt + 1) : ∀ (q7 q8 : Nat → Option Nat) (H : QT) (n : Int) (v w : QV) (l : List Nat) (as : List QV), FAMq κ.2.2.2.2 q7 H n → VALq κ.2.2.2.2 sa q7 q8 k0 v → VALq κ.2.2.2.2 sa q7 q8 k1 w → CDq κ.2.2.2.2 H (κ.2.2.2.1 15) (κ.1 10).toInt l → qARG as v w → qWF H as l → (∀ j : Nat, j < l.length → ¬ (v.1 = H 6 (l.getD j 0) ∧ w.1 = H 7 (l.getD j 0))) → ∃ bm : Option Nat, qCLO H as l x22.toInt.toNat bm x20.toInt ∧ (((some b8) : Option Nat) = none → bm = none) ∧ (∀ x, (some b8) = some x → ∃ m, bm = some m ∧ RTq κ.2.2.2.2 H x m) := by
  have q1 : (1 : Int32).toInt = 1 := by decide +kernel
  intro q7 q8 H n v w l as F h g D A W N
  obtain ⟨bm, J, b1, b2⟩ := hi8y q7 q8 H n v w l as F h g D A W N
  obtain ⟨d1, d2, d3⟩ := D
  have lt : y3.toNatClampNeg < l.length := by rw [clampN]; omega
  obtain ⟨x, x1, x2, x3⟩ := d3 _ lt
  rw [← ex7] at x1
  obtain rfl := Option.some.inj x1
  rw [show y3.toInt.toNat = y3.toNatClampNeg from clampN.symm] at J
  rw [show x22.toInt.toNat = y3.toNatClampNeg + 1 by rw [clampN]; omega]
  have S := J.step9 A W lt (N _ lt)
  have a1 := x3.2.1
  rw [ex10] at a1
  have Fv := hr11y q7 q8 H n v F h
  rw [a1] at Fv
  have a2 := x3.2.2.1
  rw [ex14] at a2
  have Fw := hr15y q7 q8 H n w F g
  rw [a2] at Fw
  have ff := And.intro (Fv.2 (by omega)) (Fw.2 (by omega))
  have Wv := hr18y q7 q8 H n v F h
  have Ww := hr19y q7 q8 H n w F g
  rw [a1] at Wv
  rw [a2] at Ww
  have e1 := qWei_b9 ff.1
  have e2 := qWei_b9 ff.2
  have et : x20.toInt = qWei H v (H 6 (l.getD y3.toNatClampNeg 0)) + qWei H w (H 7 (l.getD y3.toNatClampNeg 0)) := by rw [ex20, z_add (by omega) (by omega), Wv, Ww]
  have T := S.2 ff _ et
  exact ⟨some (l.getD y3.toNatClampNeg 0), T.1 (by first | exact Or.inl (b1 rfl) | exact Or.inr (by omega)), fun e => (by cases e), fun x e => ⟨_, rfl, by obtain rfl := Option.some.inj e; exact x3⟩⟩
-- meas@8 @8
theorem vX3_closest_21 (κ : KS) (y3 : Int32) (b8 : Nat) (x10 : Int32) (x14 : Int32) (x22 : Int32) (hi8_0 : 0 ≤ y3.toInt) (hi8_1 : y3.toInt ≤ 30) (c4 : y3.toInt < (κ.1 10).toInt) (c6 : y3.toInt < 30) (ex7 : (some b8) = (κ.2.2.2.1 15) y3.toNatClampNeg) (ex10 : oI κ.2.2.2.2 14 b8 = x10) (ex14 : oI κ.2.2.2.2 15 b8 = x14) (ex22 : x22 = y3 + (1 : Int32)) (tx22 : x22.toInt = y3.toInt + 1) : (30 - x22.toInt).toNat < (30 - y3.toInt).toNat := by
  have q1 : (1 : Int32).toInt = 1 := by decide +kernel
  first | assumption | omega | (subst_vars; omega) | trivial
-- nw@104 @104
theorem vX3_closest_22 (κ : KS) (y3 : Int32) (b8 : Nat) (x10 : Int32) (x14 : Int32) (x24 : Int32) (hi8_0 : 0 ≤ y3.toInt) (hi8_1 : y3.toInt ≤ 30) (c4 : y3.toInt < (κ.1 10).toInt) (c6 : y3.toInt < 30) (ex7 : (some b8) = (κ.2.2.2.1 15) y3.toNatClampNeg) (ex10 : oI κ.2.2.2.2 14 b8 = x10) (ex14 : oI κ.2.2.2.2 15 b8 = x14) (ex24 : x24 = y3 + (1 : Int32)) : x24.toInt = y3.toInt + 1 := by
  have q1 : (1 : Int32).toInt = 1 := by decide +kernel
  have z9 : (1 : Int32).toInt = 1 := by decide +kernel
  rw [ex24, z_add (by omega) (by omega)]; first | done | omega
-- inv@8 @8
theorem vX3_closest_23 (κ : KS) (y3 : Int32) (b8 : Nat) (x10 : Int32) (x14 : Int32) (x24 : Int32) (hi8_0 : 0 ≤ y3.toInt) (hi8_1 : y3.toInt ≤ 30) (c4 : y3.toInt < (κ.1 10).toInt) (c6 : y3.toInt < 30) (ex7 : (some b8) = (κ.2.2.2.1 15) y3.toNatClampNeg) (ex10 : oI κ.2.2.2.2 14 b8 = x10) (ex14 : oI κ.2.2.2.2 15 b8 = x14) (ex24 : x24 = y3 + (1 : Int32)) (tx24 : x24.toInt = y3.toInt + 1) : 0 ≤ x24.toInt ∧ x24.toInt ≤ 30 := by
  have q1 : (1 : Int32).toInt = 1 := by decide +kernel
  refine ⟨?_, ?_⟩ <;> first | assumption | omega | (subst_vars; omega) | trivial
-- inv2@8 @8
theorem vX3_closest_24 (ad : Nat → Nat) (sa : Nat → Nat) (κ : KS) (k0 : Nat) (k1 : Nat) (y2 : Int32) (y3 : Int32) (b8 : Nat) (x10 : Int32) (r11 : Int32) (x14 : Int32) (r15 : Int32) (r18 : Int32) (r19 : Int32) (x20 : Int32) (b21 : Nat) (x24 : Int32) (ht0 : oT κ.2.2.2.2 k0 = 1) (ht1 : oT κ.2.2.2.2 k1 = 1) (hPV : PV sa κ.2.2.2.2) (hSV : SV ad κ.2.2.2.2 (κ.2.1 0) (κ.2.1 1) (κ.2.2.2.1 6) (κ.2.2.2.1 7) (κ.2.2.2.1 8) (κ.2.2.2.1 13) (κ.2.2.2.1 15) (κ.2.2.2.1 17) (κ.1 1).toInt) (hi8_0 : 0 ≤ y3.toInt) (hi8_1 : y3.toInt ≤ 30) (hi8y : ∀ (q7 q8 : Nat → Option Nat) (H : QT) (n : Int) (v w : QV) (l : List Nat) (as : List QV), FAMq κ.2.2.2.2 q7 H n → VALq κ.2.2.2.2 sa q7 q8 k0 v → VALq κ.2.2.2.2 sa q7 q8 k1 w → CDq κ.2.2.2.2 H (κ.2.2.2.1 15) (κ.1 10).toInt l → qARG as v w → qWF H as l → (∀ j : Nat, j < l.length → ¬ (v.1 = H 6 (l.getD j 0) ∧ w.1 = H 7 (l.getD j 0))) → ∃ bm : Option Nat, qCLO H as l y3.toInt.toNat bm y2.toInt ∧ (((some b21) : Option Nat) = none → bm = none) ∧ (∀ x, (some b21) = some x → ∃ m, bm = some m ∧ RTq κ.2.2.2.2 H x m)) (c4 : y3.toInt < (κ.1 10).toInt) (c6 : y3.toInt < 30) (ex7 : (some b8) = (κ.2.2.2.1 15) y3.toNatClampNeg) (ex10 : oI κ.2.2.2.2 14 b8 = x10) (hr11y : ∀ (q7 q8 : Nat → Option Nat) (H : QT) (n : Int) (v : QV), FAMq κ.2.2.2.2 q7 H n → VALq κ.2.2.2.2 sa q7 q8 k0 v → (r11.toInt = 0 → qFits H v x10.toInt = false) ∧ (¬ r11.toInt = 0 → qFits H v x10.toInt = true)) (hr11_0 : 0 ≤ r11.toInt) (hr11_1 : r11.toInt ≤ 1) (c12 : ¬ r11.toInt = 0) (ex14 : oI κ.2.2.2.2 15 b8 = x14) (hr15y : ∀ (q7 q8 : Nat → Option Nat) (H : QT) (n : Int) (v : QV), FAMq κ.2.2.2.2 q7 H n → VALq κ.2.2.2.2 sa q7 q8 k1 v → (r15.toInt = 0 → qFits H v x14.toInt = false) ∧ (¬ r15.toInt = 0 → qFits H v x14.toInt = true)) (hr15_0 : 0 ≤ r15.toInt) (hr15_1 : r15.toInt ≤ 1) (c16 : ¬ r15.toInt = 0) (hr18y : ∀ (q7 q8 : Nat → Option Nat) (H : QT) (n : Int) (v : QV), FAMq κ.2.2.2.2 q7 H n → VALq κ.2.2.2.2 sa q7 q8 k0 v → r18.toInt = qWei H v x10.toInt) (hr19y : ∀ (q7 q8 : Nat → Option Nat) (H : QT) (n : Int) (v : QV), FAMq κ.2.2.2.2 q7 H n → VALq κ.2.2.2.2 sa q7 q8 k1 v → r19.toInt = qWei H v x14.toInt) (ex20 : x20 = r18 + r19) (c23 : y2.toInt ≤ x20.toInt) (ex24 : x24 = y3 + (1 : Int32)) (tx24 : x24.toInt = y3.toInt + 1) : ∀ (q7 q8 : Nat → Option Nat) (H : QT) (n : Int) (v w : QV) (l : List Nat) (as : List QV), FAMq κ.2.2.2.2 q7 H n → VALq κ.2.2.2.2 sa q7 q8 k0 v → VALq κ.2.2.2.2 sa q7 q8 k1 w → CDq κ.2.2.2.2 H (κ.2.2.2.1 15) (κ.1 10).toInt l → qARG as v w → qWF H as l → (∀ j : Nat, j < l.length → ¬ (v.1 = H 6 (l.getD j 0) ∧ w.1 = H 7 (l.getD j 0))) → ∃ bm : Option Nat, qCLO H as l x24.toInt.toNat bm y2.toInt ∧ (((some b21) : Option Nat) = none → bm = none) ∧ (∀ x, (some b21) = some x → ∃ m, bm = some m ∧ RTq κ.2.2.2.2 H x m) := by
  have q1 : (1 : Int32).toInt = 1 := by decide +kernel
  intro q7 q8 H n v w l as F h g D A W N
  obtain ⟨bm, J, b1, b2⟩ := hi8y q7 q8 H n v w l as F h g D A W N
  obtain ⟨d1, d2, d3⟩ := D
  have lt : y3.toNatClampNeg < l.length := by rw [clampN]; omega
  obtain ⟨x, x1, x2, x3⟩ := d3 _ lt
  rw [← ex7] at x1
  obtain rfl := Option.some.inj x1
  rw [show y3.toInt.toNat = y3.toNatClampNeg from clampN.symm] at J
  rw [show x24.toInt.toNat = y3.toNatClampNeg + 1 by rw [clampN]; omega]
  have S := J.step9 A W lt (N _ lt)
  have a1 := x3.2.1
  rw [ex10] at a1
  have Fv := hr11y q7 q8 H n v F h
  rw [a1] at Fv
  have a2 := x3.2.2.1
  rw [ex14] at a2
  have Fw := hr15y q7 q8 H n w F g
  rw [a2] at Fw
  have ff := And.intro (Fv.2 (by omega)) (Fw.2 (by omega))
  have Wv := hr18y q7 q8 H n v F h
  have Ww := hr19y q7 q8 H n w F g
  rw [a1] at Wv
  rw [a2] at Ww
  have e1 := qWei_b9 ff.1
  have e2 := qWei_b9 ff.2
  have et : x20.toInt = qWei H v (H 6 (l.getD y3.toNatClampNeg 0)) + qWei H w (H 7 (l.getD y3.toNatClampNeg 0)) := by rw [ex20, z_add (by omega) (by omega), Wv, Ww]
  have T := S.2 ff _ et
  obtain ⟨m9, m1, m2⟩ := b2 _ rfl
  exact ⟨bm, T.2 (by rw [m1]; intro e; cases e) (by omega), b1, b2⟩
-- meas@8 @8
theorem vX3_closest_25 (κ : KS) (y3 : Int32) (b8 : Nat) (x10 : Int32) (x14 : Int32) (x24 : Int32) (hi8_0 : 0 ≤ y3.toInt) (hi8_1 : y3.toInt ≤ 30) (c4 : y3.toInt < (κ.1 10).toInt) (c6 : y3.toInt < 30) (ex7 : (some b8) = (κ.2.2.2.1 15) y3.toNatClampNeg) (ex10 : oI κ.2.2.2.2 14 b8 = x10) (ex14 : oI κ.2.2.2.2 15 b8 = x14) (ex24 : x24 = y3 + (1 : Int32)) (tx24 : x24.toInt = y3.toInt + 1) : (30 - x24.toInt).toNat < (30 - y3.toInt).toNat := by
  have q1 : (1 : Int32).toInt = 1 := by decide +kernel
  first | assumption | omega | (subst_vars; omega) | trivial
-- nw@104 @104
theorem vX3_closest_26 (κ : KS) (y3 : Int32) (b8 : Nat) (x10 : Int32) (x14 : Int32) (x25 : Int32) (hi8_0 : 0 ≤ y3.toInt) (hi8_1 : y3.toInt ≤ 30) (c4 : y3.toInt < (κ.1 10).toInt) (c6 : y3.toInt < 30) (ex7 : (some b8) = (κ.2.2.2.1 15) y3.toNatClampNeg) (ex10 : oI κ.2.2.2.2 14 b8 = x10) (ex14 : oI κ.2.2.2.2 15 b8 = x14) (ex25 : x25 = y3 + (1 : Int32)) : x25.toInt = y3.toInt + 1 := by
  have q1 : (1 : Int32).toInt = 1 := by decide +kernel
  have z9 : (1 : Int32).toInt = 1 := by decide +kernel
  rw [ex25, z_add (by omega) (by omega)]; first | done | omega
-- inv@8 @8
theorem vX3_closest_27 (κ : KS) (y3 : Int32) (b8 : Nat) (x10 : Int32) (x14 : Int32) (x25 : Int32) (hi8_0 : 0 ≤ y3.toInt) (hi8_1 : y3.toInt ≤ 30) (c4 : y3.toInt < (κ.1 10).toInt) (c6 : y3.toInt < 30) (ex7 : (some b8) = (κ.2.2.2.1 15) y3.toNatClampNeg) (ex10 : oI κ.2.2.2.2 14 b8 = x10) (ex14 : oI κ.2.2.2.2 15 b8 = x14) (ex25 : x25 = y3 + (1 : Int32)) (tx25 : x25.toInt = y3.toInt + 1) : 0 ≤ x25.toInt ∧ x25.toInt ≤ 30 := by
  have q1 : (1 : Int32).toInt = 1 := by decide +kernel
  refine ⟨?_, ?_⟩ <;> first | assumption | omega | (subst_vars; omega) | trivial
-- inv2@8 @8
theorem vX3_closest_28 (ad : Nat → Nat) (sa : Nat → Nat) (κ : KS) (k0 : Nat) (k1 : Nat) (y2 : Int32) (y3 : Int32) (b8 : Nat) (x10 : Int32) (r11 : Int32) (x14 : Int32) (r15 : Int32) (r18 : Int32) (r19 : Int32) (x20 : Int32) (b21 : Nat) (x25 : Int32) (ht0 : oT κ.2.2.2.2 k0 = 1) (ht1 : oT κ.2.2.2.2 k1 = 1) (hPV : PV sa κ.2.2.2.2) (hSV : SV ad κ.2.2.2.2 (κ.2.1 0) (κ.2.1 1) (κ.2.2.2.1 6) (κ.2.2.2.1 7) (κ.2.2.2.1 8) (κ.2.2.2.1 13) (κ.2.2.2.1 15) (κ.2.2.2.1 17) (κ.1 1).toInt) (hi8_0 : 0 ≤ y3.toInt) (hi8_1 : y3.toInt ≤ 30) (hi8y : ∀ (q7 q8 : Nat → Option Nat) (H : QT) (n : Int) (v w : QV) (l : List Nat) (as : List QV), FAMq κ.2.2.2.2 q7 H n → VALq κ.2.2.2.2 sa q7 q8 k0 v → VALq κ.2.2.2.2 sa q7 q8 k1 w → CDq κ.2.2.2.2 H (κ.2.2.2.1 15) (κ.1 10).toInt l → qARG as v w → qWF H as l → (∀ j : Nat, j < l.length → ¬ (v.1 = H 6 (l.getD j 0) ∧ w.1 = H 7 (l.getD j 0))) → ∃ bm : Option Nat, qCLO H as l y3.toInt.toNat bm y2.toInt ∧ (((some b21) : Option Nat) = none → bm = none) ∧ (∀ x, (some b21) = some x → ∃ m, bm = some m ∧ RTq κ.2.2.2.2 H x m)) (c4 : y3.toInt < (κ.1 10).toInt) (c6 : y3.toInt < 30) (ex7 : (some b8) = (κ.2.2.2.1 15) y3.toNatClampNeg) (ex10 : oI κ.2.2.2.2 14 b8 = x10) (hr11y : ∀ (q7 q8 : Nat → Option Nat) (H : QT) (n : Int) (v : QV), FAMq κ.2.2.2.2 q7 H n → VALq κ.2.2.2.2 sa q7 q8 k0 v → (r11.toInt = 0 → qFits H v x10.toInt = false) ∧ (¬ r11.toInt = 0 → qFits H v x10.toInt = true)) (hr11_0 : 0 ≤ r11.toInt) (hr11_1 : r11.toInt ≤ 1) (c12 : ¬ r11.toInt = 0) (ex14 : oI κ.2.2.2.2 15 b8 = x14) (hr15y : ∀ (q7 q8 : Nat → Option Nat) (H : QT) (n : Int) (v : QV), FAMq κ.2.2.2.2 q7 H n → VALq κ.2.2.2.2 sa q7 q8 k1 v → (r15.toInt = 0 → qFits H v x14.toInt = false) ∧ (¬ r15.toInt = 0 → qFits H v x14.toInt = true)) (hr15_0 : 0 ≤ r15.toInt) (hr15_1 : r15.toInt ≤ 1) (c16 : ¬ r15.toInt = 0) (hr18y : ∀ (q7 q8 : Nat → Option Nat) (H : QT) (n : Int) (v : QV), FAMq κ.2.2.2.2 q7 H n → VALq κ.2.2.2.2 sa q7 q8 k0 v → r18.toInt = qWei H v x10.toInt) (hr19y : ∀ (q7 q8 : Nat → Option Nat) (H : QT) (n : Int) (v : QV), FAMq κ.2.2.2.2 q7 H n → VALq κ.2.2.2.2 sa q7 q8 k1 v → r19.toInt = qWei H v x14.toInt) (ex20 : x20 = r18 + r19) (c23 : x20.toInt < y2.toInt) (ex25 : x25 = y3 + (1 : Int32)) (tx25 : x25.toInt = y3.toInt + 1) : ∀ (q7 q8 : Nat → Option Nat) (H : QT) (n : Int) (v w : QV) (l : List Nat) (as : List QV), FAMq κ.2.2.2.2 q7 H n → VALq κ.2.2.2.2 sa q7 q8 k0 v → VALq κ.2.2.2.2 sa q7 q8 k1 w → CDq κ.2.2.2.2 H (κ.2.2.2.1 15) (κ.1 10).toInt l → qARG as v w → qWF H as l → (∀ j : Nat, j < l.length → ¬ (v.1 = H 6 (l.getD j 0) ∧ w.1 = H 7 (l.getD j 0))) → ∃ bm : Option Nat, qCLO H as l x25.toInt.toNat bm x20.toInt ∧ (((some b8) : Option Nat) = none → bm = none) ∧ (∀ x, (some b8) = some x → ∃ m, bm = some m ∧ RTq κ.2.2.2.2 H x m) := by
  have q1 : (1 : Int32).toInt = 1 := by decide +kernel
  intro q7 q8 H n v w l as F h g D A W N
  obtain ⟨bm, J, b1, b2⟩ := hi8y q7 q8 H n v w l as F h g D A W N
  obtain ⟨d1, d2, d3⟩ := D
  have lt : y3.toNatClampNeg < l.length := by rw [clampN]; omega
  obtain ⟨x, x1, x2, x3⟩ := d3 _ lt
  rw [← ex7] at x1
  obtain rfl := Option.some.inj x1
  rw [show y3.toInt.toNat = y3.toNatClampNeg from clampN.symm] at J
  rw [show x25.toInt.toNat = y3.toNatClampNeg + 1 by rw [clampN]; omega]
  have S := J.step9 A W lt (N _ lt)
  have a1 := x3.2.1
  rw [ex10] at a1
  have Fv := hr11y q7 q8 H n v F h
  rw [a1] at Fv
  have a2 := x3.2.2.1
  rw [ex14] at a2
  have Fw := hr15y q7 q8 H n w F g
  rw [a2] at Fw
  have ff := And.intro (Fv.2 (by omega)) (Fw.2 (by omega))
  have Wv := hr18y q7 q8 H n v F h
  have Ww := hr19y q7 q8 H n w F g
  rw [a1] at Wv
  rw [a2] at Ww
  have e1 := qWei_b9 ff.1
  have e2 := qWei_b9 ff.2
  have et : x20.toInt = qWei H v (H 6 (l.getD y3.toNatClampNeg 0)) + qWei H w (H 7 (l.getD y3.toNatClampNeg 0)) := by rw [ex20, z_add (by omega) (by omega), Wv, Ww]
  have T := S.2 ff _ et
  exact ⟨some (l.getD y3.toNatClampNeg 0), T.1 (by first | exact Or.inl (b1 rfl) | exact Or.inr (by omega)), fun e => (by cases e), fun x e => ⟨_, rfl, by obtain rfl := Option.some.inj e; exact x3⟩⟩
-- meas@8 @8
theorem vX3_closest_29 (κ : KS) (y3 : Int32) (b8 : Nat) (x10 : Int32) (x14 : Int32) (x25 : Int32) (hi8_0 : 0 ≤ y3.toInt) (hi8_1 : y3.toInt ≤ 30) (c4 : y3.toInt < (κ.1 10).toInt) (c6 : y3.toInt < 30) (ex7 : (some b8) = (κ.2.2.2.1 15) y3.toNatClampNeg) (ex10 : oI κ.2.2.2.2 14 b8 = x10) (ex14 : oI κ.2.2.2.2 15 b8 = x14) (ex25 : x25 = y3 + (1 : Int32)) (tx25 : x25.toInt = y3.toInt + 1) : (30 - x25.toInt).toNat < (30 - y3.toInt).toNat := by
  have q1 : (1 : Int32).toInt = 1 := by decide +kernel
  first | assumption | omega | (subst_vars; omega) | trivial
set_option maxHeartbeats 4000000 in
set_option maxRecDepth 100000 in
theorem NX3_closest (l : Launch) (D : va_G) (cy : Nat → ClassId) (ad : Nat → Nat) (A : Nat → Prop) (sz0 : Nat) (sa : Nat → Nat)  (κ : KS) (sz sl : Nat) (hAF : ∀ q, A q → Fr sz0 q) (hAn : ∀ q : Nat, sz ≤ q → A q) (k0 : Nat) (k1 : Nat) (ht0 : oT κ.2.2.2.2 k0 = 1) (ht1 : oT κ.2.2.2.2 k1 = 1) (hPV : PV sa κ.2.2.2.2) (hSV : SV ad κ.2.2.2.2 (κ.2.1 0) (κ.2.1 1) (κ.2.2.2.1 6) (κ.2.2.2.1 7) (κ.2.2.2.1 8) (κ.2.2.2.1 13) (κ.2.2.2.1 15) (κ.2.2.2.1 17) (κ.1 1).toInt) : Met l yX3_closest (Cond.code yX3_closest cX3_closest 8 (some (.object "PhraseDesk$Routine")) :: GWc) ({ frames := 2, cells := 0, slots := 0, locals := 44 }) (PcC D cy ad A sz0 sa [.ref (ad 5), .ref k0, .ref k1] κ sz sl) (va_Qq (fun (r : Option Nat) (u : Unit) => ((NT κ.2.2.2.2 5 r)) ∧ (∀ (q7 q8 : Nat → Option Nat) (H : QT) (n : Int) (v w : QV) (l : List Nat) (as : List QV), FAMq κ.2.2.2.2 q7 H n → VALq κ.2.2.2.2 sa q7 q8 k0 v → VALq κ.2.2.2.2 sa q7 q8 k1 w → CDq κ.2.2.2.2 H (κ.2.2.2.1 15) (κ.1 10).toInt l → qARG as v w → qWF H as l → (∀ j : Nat, j < l.length → ¬ (v.1 = H 6 (l.getD j 0) ∧ w.1 = H 7 (l.getD j 0))) → ∃ (bm : Option Nat) (t : Int), qCLO H as l l.length bm t ∧ ((r : Option Nat) = none → bm = none) ∧ (∀ x, r = some x → ∃ m, bm = some m ∧ RTq κ.2.2.2.2 H x m))) (fun (u : Unit) (t : State) => Bx D cy ad A sz sl κ (0) (0) t) A) (0) (0) A := by
  refine CM_of (loc0 := [(0, .ref (ad 5)), (1, .ref k0), (2, .ref k1)]) (own := RX3) (nm := "closest") (by decide) rfl rfl rfl (Nat.le_of_ble_eq_true rfl) hAF hAn ?_
  intro p e s m below meth c ls hsz hsl C hP hS hl
  refine lv_null C.x C.b dX3_closest_0 ?_
  refine lv_astore_nN (lv' := [(3, .null), (0, .ref (ad 5)), (1, .ref k0), (2, .ref k1)]) C.x C.b dX3_closest_1 rfl hl (by decide) rfl (fun ls hl => ?_)
  refine lv_iconst (v := 0) C.x C.b dX3_closest_2 (by decide +kernel) ?_
  refine lv_istore (lv' := [(4, .int 0), (3, .null), (0, .ref (ad 5)), (1, .ref k0), (2, .ref k1)]) C.x C.b dX3_closest_3 hl (by decide) rfl (fun ls hl => ?_)
  refine lv_iconst (v := 0) C.x C.b dX3_closest_5 (by decide +kernel) ?_
  refine lv_istore (lv' := [(5, .int 0), (4, .int 0), (3, .null), (0, .ref (ad 5)), (1, .ref k0), (2, .ref k1)]) C.x C.b dX3_closest_6 hl (by decide) rfl (fun ls hl => ?_)
  have lp8 : ∀ (n : Nat) (y1 : Option Nat) (y2 : Int32) (y3 : Int32) (H : Heap) (locs : List Loc) (ls : Array Slot), (30 - y3.toInt).toNat < n → (NT κ.2.2.2.2 5 y1) → ((0 ≤ y3.toInt ∧ y3.toInt ≤ 30) ∧ (∀ (q7 q8 : Nat → Option Nat) (H : QT) (n : Int) (v w : QV) (l : List Nat) (as : List QV), FAMq κ.2.2.2.2 q7 H n → VALq κ.2.2.2.2 sa q7 q8 k0 v → VALq κ.2.2.2.2 sa q7 q8 k1 w → CDq κ.2.2.2.2 H (κ.2.2.2.1 15) (κ.1 10).toInt l → qARG as v w → qWF H as l → (∀ j : Nat, j < l.length → ¬ (v.1 = H 6 (l.getD j 0) ∧ w.1 = H 7 (l.getD j 0))) → ∃ bm : Option Nat, qCLO H as l y3.toInt.toNat bm y2.toInt ∧ ((y1 : Option Nat) = none → bm = none) ∧ (∀ x, y1 = some x → ∃ m, bm = some m ∧ RTq κ.2.2.2.2 H x m))) → CH D cy ad A κ H → va_S A s.heap H locs → lv_has ls 8 [(5, .int y3), (4, .int y2), (3, va_rf y1), (0, .ref (ad 5)), (1, .ref k0), (2, .ref k1)] → W p l e (headSpec (Cond.code yX3_closest cX3_closest 8 (some (.object "PhraseDesk$Routine")) :: GWc) ({ frames := 2, cells := 0, slots := 0, locals := 44 })).room s m #[.ref (ad 5), .ref k0, .ref k1] below meth c H locs (0) (0) (MQ below (va_Qq (fun (r : Option Nat) (u : Unit) => ((NT κ.2.2.2.2 5 r)) ∧ (∀ (q7 q8 : Nat → Option Nat) (H : QT) (n : Int) (v w : QV) (l : List Nat) (as : List QV), FAMq κ.2.2.2.2 q7 H n → VALq κ.2.2.2.2 sa q7 q8 k0 v → VALq κ.2.2.2.2 sa q7 q8 k1 w → CDq κ.2.2.2.2 H (κ.2.2.2.1 15) (κ.1 10).toInt l → qARG as v w → qWF H as l → (∀ j : Nat, j < l.length → ¬ (v.1 = H 6 (l.getD j 0) ∧ w.1 = H 7 (l.getD j 0))) → ∃ (bm : Option Nat) (t : Int), qCLO H as l l.length bm t ∧ ((r : Option Nat) = none → bm = none) ∧ (∀ x, r = some x → ∃ m, bm = some m ∧ RTq κ.2.2.2.2 H x m))) (fun (u : Unit) (t : State) => Bx D cy ad A sz sl κ (0) (0) t) A) #[.ref (ad 5), .ref k0, .ref k1] s (0) (0) A) (F0 m 8 ls []) := by
    intro n
    induction n with
    | zero => intro y1 y2 y3 H locs ls hn; exact absurd hn (Nat.not_lt_zero _)
    | succ n8 ih8 =>
      intro y1 y2 y3 H locs ls hn8 hf8_0 hi8 hP hS hl
      obtain ⟨hi8, hi8y⟩ := hi8
      obtain ⟨hi8_0, hi8_1⟩ := hi8
      refine lv_iload C.x C.b dX3_closest_8 (lv_at hl 0 rfl) ?_
      refine lv_aload_n C.x C.b dX3_closest_10 rfl (lv_at hl 3 rfl) ?_
      refine cg_X3_1 (v := (κ.1 10)) C hP rfl cw_424 dX3_closest_11 ?_
      refine lv_icmp_ge (tgt := 110) C.x C.b dX3_closest_14 (by decide) (fun c4 => ?_) (fun c4 => ?_)
      · have c4 : (κ.1 10).toInt ≤ y3.toInt := by have h := z_le c4; exact h
        refine lq_aload_n C.x C.b dX3_closest_110 rfl (lv_at hl 2 rfl) ?_
        exact c_retq (v := y1) (Or.inl ⟨_, rfl⟩) C hsz hsl () ⟨hf8_0, (vX3_closest_3 ad sa κ k0 k1 y1 y2 y3 ht0 ht1 hPV hSV hi8_0 hi8_1 hi8y c4)⟩ hP hS ⟨(Nat.le_of_ble_eq_true rfl), (Nat.le_of_ble_eq_true rfl)⟩ ⟨(Nat.le_of_ble_eq_true rfl), (Nat.le_of_ble_eq_true rfl)⟩ dX3_closest_111
      · have c4 : y3.toInt < (κ.1 10).toInt := by have h := z_nle c4; exact h
        refine lv_iload C.x C.b dX3_closest_17 (lv_at hl 0 rfl) ?_
        refine lv_aload_n C.x C.b dX3_closest_19 rfl (lv_at hl 3 rfl) ?_
        refine cg_X3_0 C hP cw_409 dX3_closest_20 ?_
        refine cl_15 C hP dX3_closest_23 ?_
        refine lv_icmp_ge (tgt := 110) C.x C.b dX3_closest_24 (by decide) (fun c6 => ?_) (fun c6 => ?_)
        · have c6 : 30 ≤ y3.toInt := by have h := z_le c6; rw [show (30 : Int32).toInt = 30 from by decide +kernel] at h; exact h
          refine lq_aload_n C.x C.b dX3_closest_110 rfl (lv_at hl 2 rfl) ?_
          exact c_retq (v := y1) (Or.inl ⟨_, rfl⟩) C hsz hsl () ⟨hf8_0, (vX3_closest_4 ad sa κ k0 k1 y1 y2 y3 ht0 ht1 hPV hSV hi8_0 hi8_1 hi8y c4 c6)⟩ hP hS ⟨(Nat.le_of_ble_eq_true rfl), (Nat.le_of_ble_eq_true rfl)⟩ ⟨(Nat.le_of_ble_eq_true rfl), (Nat.le_of_ble_eq_true rfl)⟩ dX3_closest_111
        · have c6 : y3.toInt < 30 := by have h := z_nle c6; rw [show (30 : Int32).toInt = 30 from by decide +kernel] at h; exact h
          refine lv_aload_n C.x C.b dX3_closest_27 rfl (lv_at hl 3 rfl) ?_
          refine cg_X3_0 C hP cw_409 dX3_closest_28 ?_
          refine lv_iload C.x C.b dX3_closest_31 (lv_at hl 0 rfl) ?_
          refine ca_15 (f := (κ.2.2.2.1 15)) C hP rfl (vX3_closest_5 κ y3 hi8_0 hi8_1 c4 c6) dX3_closest_33 (fun x7 ex7 => ?_)
          have tx7 : NT κ.2.2.2.2 5 x7 := by rw [ex7]; exact hSV.n15 _
          refine lq_astore (lv' := [(6, va_rf x7), (5, .int y3), (4, .int y2), (3, va_rf y1), (0, .ref (ad 5)), (1, .ref k0), (2, .ref k1)]) C.x C.b dX3_closest_34 hl (by decide) (by cases x7 <;> cases y1 <;> rfl) (fun ls hl => ?_)
          refine lq_aload C.x C.b dX3_closest_36 (lv_at hl 0 rfl) ?_
          cases x7 with
          | none =>
            refine lv_ifnullN (tgt := 104) C.x C.b dX3_closest_38 (by decide) ?_
            obtain ⟨x9, ex9⟩ : ∃ y : Int32, y = y3 + (1 : Int32) := ⟨_, rfl⟩
            have tx9 : x9.toInt = y3.toInt + 1 := (vX3_closest_6 κ y3 x9 hi8_0 hi8_1 c4 c6 ex7 ex9)
            refine lv_iinc (v := x9) (lv' := [(5, .int x9), (6, .null), (4, .int y2), (3, va_rf y1), (0, .ref (ad 5)), (1, .ref k0), (2, .ref k1)]) C.x C.b dX3_closest_104 hl (k := 1) rfl (by rw [ex9]; rfl) (by decide) (by cases y1 <;> rfl) (fun ls hl => ?_)
            refine lv_goto (tgt := 8) C.x C.b dX3_closest_107 (by decide) ?_
            refine W.widen (k := 0) (n := 0) (Nat.le_of_ble_eq_true rfl) (Nat.le_of_ble_eq_true rfl) ?_
            exact ih8 y1 y2 x9 _ _ _ (Nat.lt_of_lt_of_le (vX3_closest_9 κ y3 x9 hi8_0 hi8_1 c4 c6 ex7 ex9 tx9) (Nat.le_of_lt_succ hn8)) hf8_0 ⟨(vX3_closest_7 κ y3 x9 hi8_0 hi8_1 c4 c6 ex7 ex9 tx9), (vX3_closest_8 ad sa κ k0 k1 y1 y2 y3 x9 ht0 ht1 hPV hSV hi8_0 hi8_1 hi8y c4 c6 ex7 ex9 tx9)⟩ hP hS (lv_sub hl [0, 2, 3, 4, 5, 6] rfl)
          | some b8 =>
            have hb8 : oT κ.2.2.2.2 b8 = 5 := tx7 b8 rfl
            refine lv_ifnull C.x C.b dX3_closest_38 ?_
            refine lv_aload_n C.x C.b dX3_closest_41 rfl (lv_at hl 5 rfl) ?_
            refine lv_aload C.x C.b dX3_closest_42 (lv_at hl 0 rfl) ?_
            obtain ⟨x10, ex10⟩ : ∃ z, oI κ.2.2.2.2 14 b8 = z := ⟨_, rfl⟩
            refine pg_X7_1 (v := x10) C hP (t20 (a := b8) (t := 5) hb8) ex10 cw_436 dX3_closest_44 ?_
            refine c_callVi (n := 1) (As := [.int x10]) (rest := []) C hP hS hl.1 (NX10_fits l D cy ad A sz0 sa κ H.size (SLT H) C.f (fun q h => C.a q (Nat.le_trans hS.1 h)) k0 x10 ht0 hPV) ⟨cw_447, cw_41, by decide +kernel⟩ ⟨cw_38, cw_39, cw_40⟩ rfl (hP.recvP (t := 1) (ci := 12) C.K (t20 (a := k0) (t := 1) ht0) (by decide) rfl rfl) rfl rfl (lv_room (Nat.le_of_ble_eq_true rfl)) ⟨Nat.le_of_ble_eq_true rfl, Nat.le_of_ble_eq_true rfl⟩ ⟨(Nat.le_of_ble_eq_true rfl), (Nat.le_of_ble_eq_true rfl)⟩ dX3_closest_47 (fun r11 u H locs hr11 hP hS => ?_)
            obtain ⟨hr11, hr11y⟩ := hr11
            have hr11y : ∀ (q7 q8 : Nat → Option Nat) (H : QT) (n : Int) (v : QV), FAMq κ.2.2.2.2 q7 H n → VALq κ.2.2.2.2 sa q7 q8 k0 v → (r11.toInt = 0 → qFits H v x10.toInt = false) ∧ (¬ r11.toInt = 0 → qFits H v x10.toInt = true) := hr11y
            have hr11 : (0 ≤ r11.toInt ∧ r11.toInt ≤ 1) := hr11
            obtain ⟨hr11_0, hr11_1⟩ := hr11
            refine lv_if_eq (tgt := 104) C.x C.b dX3_closest_50 (by decide) (fun c12 => ?_) (fun c12 => ?_)
            · have c12 : r11.toInt = 0 := by have h := z_eq c12; rw [show (0 : Int32).toInt = 0 from by decide +kernel] at h; exact h
              obtain ⟨x13, ex13⟩ : ∃ y : Int32, y = y3 + (1 : Int32) := ⟨_, rfl⟩
              have tx13 : x13.toInt = y3.toInt + 1 := (vX3_closest_10 κ y3 b8 x10 x13 hi8_0 hi8_1 c4 c6 ex7 ex10 ex13)
              refine lv_iinc (v := x13) (lv' := [(5, .int x13), (6, .ref b8), (4, .int y2), (3, va_rf y1), (0, .ref (ad 5)), (1, .ref k0), (2, .ref k1)]) C.x C.b dX3_closest_104 hl (k := 1) rfl (by rw [ex13]; rfl) (by decide) (by cases y1 <;> rfl) (fun ls hl => ?_)
              refine lv_goto (tgt := 8) C.x C.b dX3_closest_107 (by decide) ?_
              refine W.widen (k := 0) (n := 0) (Nat.le_of_ble_eq_true rfl) (Nat.le_of_ble_eq_true rfl) ?_
              exact ih8 y1 y2 x13 _ _ _ (Nat.lt_of_lt_of_le (vX3_closest_13 κ y3 b8 x10 x13 hi8_0 hi8_1 c4 c6 ex7 ex10 ex13 tx13) (Nat.le_of_lt_succ hn8)) hf8_0 ⟨(vX3_closest_11 κ y3 b8 x10 x13 hi8_0 hi8_1 c4 c6 ex7 ex10 ex13 tx13), (vX3_closest_12 ad sa κ k0 k1 y1 y2 y3 b8 x10 r11 x13 ht0 ht1 hPV hSV hi8_0 hi8_1 hi8y c4 c6 ex7 ex10 hr11y hr11_0 hr11_1 c12 ex13 tx13)⟩ hP hS (lv_sub hl [0, 2, 3, 4, 5, 6] rfl)
            · have c12 : ¬ r11.toInt = 0 := by have h := z_ne c12; rw [show (0 : Int32).toInt = 0 from by decide +kernel] at h; exact h
              refine lv_aload_n C.x C.b dX3_closest_53 rfl (lv_at hl 6 rfl) ?_
              refine lv_aload C.x C.b dX3_closest_54 (lv_at hl 0 rfl) ?_
              obtain ⟨x14, ex14⟩ : ∃ z, oI κ.2.2.2.2 15 b8 = z := ⟨_, rfl⟩
              refine pg_X7_2 (v := x14) C hP (t20 (a := b8) (t := 5) hb8) ex14 cw_437 dX3_closest_56 ?_
              refine c_callVi (n := 1) (As := [.int x14]) (rest := []) C hP hS hl.1 (NX10_fits l D cy ad A sz0 sa κ H.size (SLT H) C.f (fun q h => C.a q (Nat.le_trans hS.1 h)) k1 x14 ht1 hPV) ⟨cw_447, cw_41, by decide +kernel⟩ ⟨cw_38, cw_39, cw_40⟩ rfl (hP.recvP (t := 1) (ci := 12) C.K (t20 (a := k1) (t := 1) ht1) (by decide) rfl rfl) rfl rfl (lv_room (Nat.le_of_ble_eq_true rfl)) ⟨Nat.le_of_ble_eq_true rfl, Nat.le_of_ble_eq_true rfl⟩ ⟨(Nat.le_of_ble_eq_true rfl), (Nat.le_of_ble_eq_true rfl)⟩ dX3_closest_59 (fun r15 u H locs hr15 hP hS => ?_)
              obtain ⟨hr15, hr15y⟩ := hr15
              have hr15y : ∀ (q7 q8 : Nat → Option Nat) (H : QT) (n : Int) (v : QV), FAMq κ.2.2.2.2 q7 H n → VALq κ.2.2.2.2 sa q7 q8 k1 v → (r15.toInt = 0 → qFits H v x14.toInt = false) ∧ (¬ r15.toInt = 0 → qFits H v x14.toInt = true) := hr15y
              have hr15 : (0 ≤ r15.toInt ∧ r15.toInt ≤ 1) := hr15
              obtain ⟨hr15_0, hr15_1⟩ := hr15
              refine lv_if_eq (tgt := 104) C.x C.b dX3_closest_62 (by decide) (fun c16 => ?_) (fun c16 => ?_)
              · have c16 : r15.toInt = 0 := by have h := z_eq c16; rw [show (0 : Int32).toInt = 0 from by decide +kernel] at h; exact h
                obtain ⟨x17, ex17⟩ : ∃ y : Int32, y = y3 + (1 : Int32) := ⟨_, rfl⟩
                have tx17 : x17.toInt = y3.toInt + 1 := (vX3_closest_14 κ y3 b8 x10 x14 x17 hi8_0 hi8_1 c4 c6 ex7 ex10 ex14 ex17)
                refine lv_iinc (v := x17) (lv' := [(5, .int x17), (6, .ref b8), (4, .int y2), (3, va_rf y1), (0, .ref (ad 5)), (1, .ref k0), (2, .ref k1)]) C.x C.b dX3_closest_104 hl (k := 1) rfl (by rw [ex17]; rfl) (by decide) (by cases y1 <;> rfl) (fun ls hl => ?_)
                refine lv_goto (tgt := 8) C.x C.b dX3_closest_107 (by decide) ?_
                refine W.widen (k := 0) (n := 0) (Nat.le_of_ble_eq_true rfl) (Nat.le_of_ble_eq_true rfl) ?_
                exact ih8 y1 y2 x17 _ _ _ (Nat.lt_of_lt_of_le (vX3_closest_17 κ y3 b8 x10 x14 x17 hi8_0 hi8_1 c4 c6 ex7 ex10 ex14 ex17 tx17) (Nat.le_of_lt_succ hn8)) hf8_0 ⟨(vX3_closest_15 κ y3 b8 x10 x14 x17 hi8_0 hi8_1 c4 c6 ex7 ex10 ex14 ex17 tx17), (vX3_closest_16 ad sa κ k0 k1 y1 y2 y3 b8 x10 r11 x14 r15 x17 ht0 ht1 hPV hSV hi8_0 hi8_1 hi8y c4 c6 ex7 ex10 hr11y hr11_0 hr11_1 c12 ex14 hr15y hr15_0 hr15_1 c16 ex17 tx17)⟩ hP hS (lv_sub hl [0, 2, 3, 4, 5, 6] rfl)
              · have c16 : ¬ r15.toInt = 0 := by have h := z_ne c16; rw [show (0 : Int32).toInt = 0 from by decide +kernel] at h; exact h
                refine lv_aload_n C.x C.b dX3_closest_65 rfl (lv_at hl 5 rfl) ?_
                refine lv_aload C.x C.b dX3_closest_66 (lv_at hl 0 rfl) ?_
                refine pg_X7_1 (v := x10) C hP (t20 (a := b8) (t := 5) hb8) ex10 cw_436 dX3_closest_68 ?_
                refine c_callVi (n := 1) (As := [.int x10]) (rest := []) C hP hS hl.1 (NX10_weight l D cy ad A sz0 sa κ H.size (SLT H) C.f (fun q h => C.a q (Nat.le_trans hS.1 h)) k0 x10 ht0 hPV) ⟨cw_448, cw_451, by decide +kernel⟩ ⟨cw_449, cw_450, cw_40⟩ rfl (hP.recvP (t := 1) (ci := 12) C.K (t20 (a := k0) (t := 1) ht0) (by decide) rfl rfl) rfl rfl (lv_room (Nat.le_of_ble_eq_true rfl)) ⟨Nat.le_of_ble_eq_true rfl, Nat.le_of_ble_eq_true rfl⟩ ⟨(Nat.le_of_ble_eq_true rfl), (Nat.le_of_ble_eq_true rfl)⟩ dX3_closest_71 (fun r18 u H locs hr18 hP hS => ?_)
                obtain ⟨hr18, hr18y⟩ := hr18
                have hr18y : ∀ (q7 q8 : Nat → Option Nat) (H : QT) (n : Int) (v : QV), FAMq κ.2.2.2.2 q7 H n → VALq κ.2.2.2.2 sa q7 q8 k0 v → r18.toInt = qWei H v x10.toInt := hr18y
                have hr18 : True := hr18
                refine lv_aload_n C.x C.b dX3_closest_74 rfl (lv_at hl 6 rfl) ?_
                refine lv_aload C.x C.b dX3_closest_75 (lv_at hl 0 rfl) ?_
                refine pg_X7_2 (v := x14) C hP (t20 (a := b8) (t := 5) hb8) ex14 cw_437 dX3_closest_77 ?_
                refine c_callVi (n := 1) (As := [.int x14]) (rest := [.int r18]) C hP hS hl.1 (NX10_weight l D cy ad A sz0 sa κ H.size (SLT H) C.f (fun q h => C.a q (Nat.le_trans hS.1 h)) k1 x14 ht1 hPV) ⟨cw_448, cw_451, by decide +kernel⟩ ⟨cw_449, cw_450, cw_40⟩ rfl (hP.recvP (t := 1) (ci := 12) C.K (t20 (a := k1) (t := 1) ht1) (by decide) rfl rfl) rfl rfl (lv_room (Nat.le_of_ble_eq_true rfl)) ⟨Nat.le_of_ble_eq_true rfl, Nat.le_of_ble_eq_true rfl⟩ ⟨(Nat.le_of_ble_eq_true rfl), (Nat.le_of_ble_eq_true rfl)⟩ dX3_closest_80 (fun r19 u H locs hr19 hP hS => ?_)
                obtain ⟨hr19, hr19y⟩ := hr19
                have hr19y : ∀ (q7 q8 : Nat → Option Nat) (H : QT) (n : Int) (v : QV), FAMq κ.2.2.2.2 q7 H n → VALq κ.2.2.2.2 sa q7 q8 k1 v → r19.toInt = qWei H v x14.toInt := hr19y
                have hr19 : True := hr19
                refine lv_iadd C.x C.b dX3_closest_83 ?_
                refine lv_topi (fun x20 ex20 => ?_)
                refine lv_istore (lv' := [(7, .int x20), (6, .ref b8), (5, .int y3), (4, .int y2), (3, va_rf y1), (0, .ref (ad 5)), (1, .ref k0), (2, .ref k1)]) C.x C.b dX3_closest_84 hl (by decide) (by cases y1 <;> rfl) (fun ls hl => ?_)
                refine lq_aload_n C.x C.b dX3_closest_86 rfl (lv_at hl 4 rfl) ?_
                cases y1 with
                | none =>
                  refine lv_ifnullN (tgt := 97) C.x C.b dX3_closest_87 (by decide) ?_
                  refine lv_aload C.x C.b dX3_closest_97 (lv_at hl 1 rfl) ?_
                  refine lv_astore_n (lv' := [(3, .ref b8), (7, .int x20), (6, .ref b8), (5, .int y3), (4, .int y2), (0, .ref (ad 5)), (1, .ref k0), (2, .ref k1)]) C.x C.b dX3_closest_99 rfl hl (by decide) rfl (fun ls hl => ?_)
                  refine lv_iload C.x C.b dX3_closest_100 (lv_at hl 1 rfl) ?_
                  refine lv_istore (lv' := [(4, .int x20), (3, .ref b8), (7, .int x20), (6, .ref b8), (5, .int y3), (0, .ref (ad 5)), (1, .ref k0), (2, .ref k1)]) C.x C.b dX3_closest_102 hl (by decide) rfl (fun ls hl => ?_)
                  obtain ⟨x22, ex22⟩ : ∃ y : Int32, y = y3 + (1 : Int32) := ⟨_, rfl⟩
                  have tx22 : x22.toInt = y3.toInt + 1 := (vX3_closest_18 κ y3 b8 x10 x14 x22 hi8_0 hi8_1 c4 c6 ex7 ex10 ex14 ex22)
                  refine lv_iinc (v := x22) (lv' := [(5, .int x22), (4, .int x20), (3, .ref b8), (7, .int x20), (6, .ref b8), (0, .ref (ad 5)), (1, .ref k0), (2, .ref k1)]) C.x C.b dX3_closest_104 hl (k := 4) rfl (by rw [ex22]; rfl) (by decide) rfl (fun ls hl => ?_)
                  refine lv_goto (tgt := 8) C.x C.b dX3_closest_107 (by decide) ?_
                  refine W.widen (k := 0) (n := 0) (Nat.le_of_ble_eq_true rfl) (Nat.le_of_ble_eq_true rfl) ?_
                  exact ih8 (some b8) x20 x22 _ _ _ (Nat.lt_of_lt_of_le (vX3_closest_21 κ y3 b8 x10 x14 x22 hi8_0 hi8_1 c4 c6 ex7 ex10 ex14 ex22 tx22) (Nat.le_of_lt_succ hn8)) (nt_s hb8) ⟨(vX3_closest_19 κ y3 b8 x10 x14 x22 hi8_0 hi8_1 c4 c6 ex7 ex10 ex14 ex22 tx22), (vX3_closest_20 ad sa κ k0 k1 y2 y3 b8 x10 r11 x14 r15 r18 r19 x20 x22 ht0 ht1 hPV hSV hi8_0 hi8_1 hi8y c4 c6 ex7 ex10 hr11y hr11_0 hr11_1 c12 ex14 hr15y hr15_0 hr15_1 c16 hr18y hr19y ex20 ex22 tx22)⟩ hP hS (lv_sub hl [0, 1, 2, 5, 6, 7] rfl)
                | some b21 =>
                  have hb21 : oT κ.2.2.2.2 b21 = 5 := hf8_0 b21 rfl
                  refine lv_ifnull C.x C.b dX3_closest_87 ?_
                  refine lv_iload C.x C.b dX3_closest_90 (lv_at hl 0 rfl) ?_
                  refine lv_iload C.x C.b dX3_closest_92 (lv_at hl 3 rfl) ?_
                  refine lv_icmp_ge (tgt := 104) C.x C.b dX3_closest_94 (by decide) (fun c23 => ?_) (fun c23 => ?_)
                  · have c23 : y2.toInt ≤ x20.toInt := by have h := z_le c23; exact h
                    obtain ⟨x24, ex24⟩ : ∃ y : Int32, y = y3 + (1 : Int32) := ⟨_, rfl⟩
                    have tx24 : x24.toInt = y3.toInt + 1 := (vX3_closest_22 κ y3 b8 x10 x14 x24 hi8_0 hi8_1 c4 c6 ex7 ex10 ex14 ex24)
                    refine lv_iinc (v := x24) (lv' := [(5, .int x24), (7, .int x20), (6, .ref b8), (4, .int y2), (3, .ref b21), (0, .ref (ad 5)), (1, .ref k0), (2, .ref k1)]) C.x C.b dX3_closest_104 hl (k := 2) rfl (by rw [ex24]; rfl) (by decide) rfl (fun ls hl => ?_)
                    refine lv_goto (tgt := 8) C.x C.b dX3_closest_107 (by decide) ?_
                    refine W.widen (k := 0) (n := 0) (Nat.le_of_ble_eq_true rfl) (Nat.le_of_ble_eq_true rfl) ?_
                    exact ih8 (some b21) y2 x24 _ _ _ (Nat.lt_of_lt_of_le (vX3_closest_25 κ y3 b8 x10 x14 x24 hi8_0 hi8_1 c4 c6 ex7 ex10 ex14 ex24 tx24) (Nat.le_of_lt_succ hn8)) (nt_s hb21) ⟨(vX3_closest_23 κ y3 b8 x10 x14 x24 hi8_0 hi8_1 c4 c6 ex7 ex10 ex14 ex24 tx24), (vX3_closest_24 ad sa κ k0 k1 y2 y3 b8 x10 r11 x14 r15 r18 r19 x20 b21 x24 ht0 ht1 hPV hSV hi8_0 hi8_1 hi8y c4 c6 ex7 ex10 hr11y hr11_0 hr11_1 c12 ex14 hr15y hr15_0 hr15_1 c16 hr18y hr19y ex20 c23 ex24 tx24)⟩ hP hS (lv_sub hl [0, 3, 4, 5, 6, 7] rfl)
                  · have c23 : x20.toInt < y2.toInt := by have h := z_nle c23; exact h
                    refine lv_aload C.x C.b dX3_closest_97 (lv_at hl 1 rfl) ?_
                    refine lv_astore_n (lv' := [(3, .ref b8), (7, .int x20), (6, .ref b8), (5, .int y3), (4, .int y2), (0, .ref (ad 5)), (1, .ref k0), (2, .ref k1)]) C.x C.b dX3_closest_99 rfl hl (by decide) rfl (fun ls hl => ?_)
                    refine lv_iload C.x C.b dX3_closest_100 (lv_at hl 1 rfl) ?_
                    refine lv_istore (lv' := [(4, .int x20), (3, .ref b8), (7, .int x20), (6, .ref b8), (5, .int y3), (0, .ref (ad 5)), (1, .ref k0), (2, .ref k1)]) C.x C.b dX3_closest_102 hl (by decide) rfl (fun ls hl => ?_)
                    obtain ⟨x25, ex25⟩ : ∃ y : Int32, y = y3 + (1 : Int32) := ⟨_, rfl⟩
                    have tx25 : x25.toInt = y3.toInt + 1 := (vX3_closest_26 κ y3 b8 x10 x14 x25 hi8_0 hi8_1 c4 c6 ex7 ex10 ex14 ex25)
                    refine lv_iinc (v := x25) (lv' := [(5, .int x25), (4, .int x20), (3, .ref b8), (7, .int x20), (6, .ref b8), (0, .ref (ad 5)), (1, .ref k0), (2, .ref k1)]) C.x C.b dX3_closest_104 hl (k := 4) rfl (by rw [ex25]; rfl) (by decide) rfl (fun ls hl => ?_)
                    refine lv_goto (tgt := 8) C.x C.b dX3_closest_107 (by decide) ?_
                    refine W.widen (k := 0) (n := 0) (Nat.le_of_ble_eq_true rfl) (Nat.le_of_ble_eq_true rfl) ?_
                    exact ih8 (some b8) x20 x25 _ _ _ (Nat.lt_of_lt_of_le (vX3_closest_29 κ y3 b8 x10 x14 x25 hi8_0 hi8_1 c4 c6 ex7 ex10 ex14 ex25 tx25) (Nat.le_of_lt_succ hn8)) (nt_s hb8) ⟨(vX3_closest_27 κ y3 b8 x10 x14 x25 hi8_0 hi8_1 c4 c6 ex7 ex10 ex14 ex25 tx25), (vX3_closest_28 ad sa κ k0 k1 y2 y3 b8 x10 r11 x14 r15 r18 r19 x20 b21 x25 ht0 ht1 hPV hSV hi8_0 hi8_1 hi8y c4 c6 ex7 ex10 hr11y hr11_0 hr11_1 c12 ex14 hr15y hr15_0 hr15_1 c16 hr18y hr19y ex20 c23 ex25 tx25)⟩ hP hS (lv_sub hl [0, 1, 2, 5, 6, 7] rfl)
  refine W.widen (k := 0) (n := 0) (Nat.le_of_ble_eq_true rfl) (Nat.le_of_ble_eq_true rfl) ?_
  exact lp8 ((30 - (0 : Int32).toInt).toNat + 1) none (0 : Int32) (0 : Int32) _ _ _ (Nat.lt_succ_self _) nt_n ⟨(vX3_closest_1  ), (vX3_closest_2 ad sa κ k0 k1 ht0 ht1 hPV hSV)⟩ hP hS (lv_sub hl [0, 1, 2, 3, 4, 5] rfl)

-- init@6 @6
theorem vX3_convertible_1   : 0 ≤ (0 : Int32).toInt ∧ (0 : Int32).toInt ≤ 30 := by
  have q0 : (0 : Int32).toInt = 0 := by decide +kernel
  refine ⟨?_, ?_⟩ <;> first | assumption | omega | (subst_vars; omega) | trivial
-- in@31 @31
theorem vX3_convertible_2 (κ : KS) (y2 : Int32) (hi6_0 : 0 ≤ y2.toInt) (hi6_1 : y2.toInt ≤ 30) (c3 : y2.toInt < (κ.1 10).toInt) (c5 : y2.toInt < 30) : vp_in y2 30 := by
  exact vp_in_iff.mpr ⟨by omega, by omega⟩
-- nw@82 @82
theorem vX3_convertible_3 (κ : KS) (y2 : Int32) (x8 : Int32) (hi6_0 : 0 ≤ y2.toInt) (hi6_1 : y2.toInt ≤ 30) (c3 : y2.toInt < (κ.1 10).toInt) (c5 : y2.toInt < 30) (ex6 : none = (κ.2.2.2.1 15) y2.toNatClampNeg) (ex8 : x8 = y2 + (1 : Int32)) : x8.toInt = y2.toInt + 1 := by
  have q1 : (1 : Int32).toInt = 1 := by decide +kernel
  have z9 : (1 : Int32).toInt = 1 := by decide +kernel
  rw [ex8, z_add (by omega) (by omega)]; first | done | omega
-- inv@6 @6
theorem vX3_convertible_4 (κ : KS) (y2 : Int32) (x8 : Int32) (hi6_0 : 0 ≤ y2.toInt) (hi6_1 : y2.toInt ≤ 30) (c3 : y2.toInt < (κ.1 10).toInt) (c5 : y2.toInt < 30) (ex6 : none = (κ.2.2.2.1 15) y2.toNatClampNeg) (ex8 : x8 = y2 + (1 : Int32)) (tx8 : x8.toInt = y2.toInt + 1) : 0 ≤ x8.toInt ∧ x8.toInt ≤ 30 := by
  have q1 : (1 : Int32).toInt = 1 := by decide +kernel
  refine ⟨?_, ?_⟩ <;> first | assumption | omega | (subst_vars; omega) | trivial
-- meas@6 @6
theorem vX3_convertible_5 (κ : KS) (y2 : Int32) (x8 : Int32) (hi6_0 : 0 ≤ y2.toInt) (hi6_1 : y2.toInt ≤ 30) (c3 : y2.toInt < (κ.1 10).toInt) (c5 : y2.toInt < 30) (ex6 : none = (κ.2.2.2.1 15) y2.toNatClampNeg) (ex8 : x8 = y2 + (1 : Int32)) (tx8 : x8.toInt = y2.toInt + 1) : (30 - x8.toInt).toNat < (30 - y2.toInt).toNat := by
  have q1 : (1 : Int32).toInt = 1 := by decide +kernel
  first | assumption | omega | (subst_vars; omega) | trivial
-- nw@82 @82
theorem vX3_convertible_6 (κ : KS) (y2 : Int32) (b7 : Nat) (x9 : Int32) (x12 : Int32) (hi6_0 : 0 ≤ y2.toInt) (hi6_1 : y2.toInt ≤ 30) (c3 : y2.toInt < (κ.1 10).toInt) (c5 : y2.toInt < 30) (ex6 : (some b7) = (κ.2.2.2.1 15) y2.toNatClampNeg) (ex9 : oI κ.2.2.2.2 14 b7 = x9) (ex12 : x12 = y2 + (1 : Int32)) : x12.toInt = y2.toInt + 1 := by
  have q1 : (1 : Int32).toInt = 1 := by decide +kernel
  have z9 : (1 : Int32).toInt = 1 := by decide +kernel
  rw [ex12, z_add (by omega) (by omega)]; first | done | omega
-- inv@6 @6
theorem vX3_convertible_7 (κ : KS) (y2 : Int32) (b7 : Nat) (x9 : Int32) (x12 : Int32) (hi6_0 : 0 ≤ y2.toInt) (hi6_1 : y2.toInt ≤ 30) (c3 : y2.toInt < (κ.1 10).toInt) (c5 : y2.toInt < 30) (ex6 : (some b7) = (κ.2.2.2.1 15) y2.toNatClampNeg) (ex9 : oI κ.2.2.2.2 14 b7 = x9) (ex12 : x12 = y2 + (1 : Int32)) (tx12 : x12.toInt = y2.toInt + 1) : 0 ≤ x12.toInt ∧ x12.toInt ≤ 30 := by
  have q1 : (1 : Int32).toInt = 1 := by decide +kernel
  refine ⟨?_, ?_⟩ <;> first | assumption | omega | (subst_vars; omega) | trivial
-- meas@6 @6
theorem vX3_convertible_8 (κ : KS) (y2 : Int32) (b7 : Nat) (x9 : Int32) (x12 : Int32) (hi6_0 : 0 ≤ y2.toInt) (hi6_1 : y2.toInt ≤ 30) (c3 : y2.toInt < (κ.1 10).toInt) (c5 : y2.toInt < 30) (ex6 : (some b7) = (κ.2.2.2.1 15) y2.toNatClampNeg) (ex9 : oI κ.2.2.2.2 14 b7 = x9) (ex12 : x12 = y2 + (1 : Int32)) (tx12 : x12.toInt = y2.toInt + 1) : (30 - x12.toInt).toNat < (30 - y2.toInt).toNat := by
  have q1 : (1 : Int32).toInt = 1 := by decide +kernel
  first | assumption | omega | (subst_vars; omega) | trivial
-- nw@82 @82
theorem vX3_convertible_9 (κ : KS) (y2 : Int32) (b7 : Nat) (x9 : Int32) (x13 : Int32) (x16 : Int32) (hi6_0 : 0 ≤ y2.toInt) (hi6_1 : y2.toInt ≤ 30) (c3 : y2.toInt < (κ.1 10).toInt) (c5 : y2.toInt < 30) (ex6 : (some b7) = (κ.2.2.2.1 15) y2.toNatClampNeg) (ex9 : oI κ.2.2.2.2 14 b7 = x9) (ex13 : oI κ.2.2.2.2 15 b7 = x13) (ex16 : x16 = y2 + (1 : Int32)) : x16.toInt = y2.toInt + 1 := by
  have q1 : (1 : Int32).toInt = 1 := by decide +kernel
  have z9 : (1 : Int32).toInt = 1 := by decide +kernel
  rw [ex16, z_add (by omega) (by omega)]; first | done | omega
-- inv@6 @6
theorem vX3_convertible_10 (κ : KS) (y2 : Int32) (b7 : Nat) (x9 : Int32) (x13 : Int32) (x16 : Int32) (hi6_0 : 0 ≤ y2.toInt) (hi6_1 : y2.toInt ≤ 30) (c3 : y2.toInt < (κ.1 10).toInt) (c5 : y2.toInt < 30) (ex6 : (some b7) = (κ.2.2.2.1 15) y2.toNatClampNeg) (ex9 : oI κ.2.2.2.2 14 b7 = x9) (ex13 : oI κ.2.2.2.2 15 b7 = x13) (ex16 : x16 = y2 + (1 : Int32)) (tx16 : x16.toInt = y2.toInt + 1) : 0 ≤ x16.toInt ∧ x16.toInt ≤ 30 := by
  have q1 : (1 : Int32).toInt = 1 := by decide +kernel
  refine ⟨?_, ?_⟩ <;> first | assumption | omega | (subst_vars; omega) | trivial
-- meas@6 @6
theorem vX3_convertible_11 (κ : KS) (y2 : Int32) (b7 : Nat) (x9 : Int32) (x13 : Int32) (x16 : Int32) (hi6_0 : 0 ≤ y2.toInt) (hi6_1 : y2.toInt ≤ 30) (c3 : y2.toInt < (κ.1 10).toInt) (c5 : y2.toInt < 30) (ex6 : (some b7) = (κ.2.2.2.1 15) y2.toNatClampNeg) (ex9 : oI κ.2.2.2.2 14 b7 = x9) (ex13 : oI κ.2.2.2.2 15 b7 = x13) (ex16 : x16 = y2 + (1 : Int32)) (tx16 : x16.toInt = y2.toInt + 1) : (30 - x16.toInt).toNat < (30 - y2.toInt).toNat := by
  have q1 : (1 : Int32).toInt = 1 := by decide +kernel
  first | assumption | omega | (subst_vars; omega) | trivial
-- nw@82 @82
theorem vX3_convertible_12 (κ : KS) (y2 : Int32) (b7 : Nat) (x9 : Int32) (x13 : Int32) (x18 : Int32) (hi6_0 : 0 ≤ y2.toInt) (hi6_1 : y2.toInt ≤ 30) (c3 : y2.toInt < (κ.1 10).toInt) (c5 : y2.toInt < 30) (ex6 : (some b7) = (κ.2.2.2.1 15) y2.toNatClampNeg) (ex9 : oI κ.2.2.2.2 14 b7 = x9) (ex13 : oI κ.2.2.2.2 15 b7 = x13) (ex18 : x18 = y2 + (1 : Int32)) : x18.toInt = y2.toInt + 1 := by
  have q1 : (1 : Int32).toInt = 1 := by decide +kernel
  have z9 : (1 : Int32).toInt = 1 := by decide +kernel
  rw [ex18, z_add (by omega) (by omega)]; first | done | omega
-- inv@6 @6
theorem vX3_convertible_13 (κ : KS) (y2 : Int32) (b7 : Nat) (x9 : Int32) (x13 : Int32) (x18 : Int32) (hi6_0 : 0 ≤ y2.toInt) (hi6_1 : y2.toInt ≤ 30) (c3 : y2.toInt < (κ.1 10).toInt) (c5 : y2.toInt < 30) (ex6 : (some b7) = (κ.2.2.2.1 15) y2.toNatClampNeg) (ex9 : oI κ.2.2.2.2 14 b7 = x9) (ex13 : oI κ.2.2.2.2 15 b7 = x13) (ex18 : x18 = y2 + (1 : Int32)) (tx18 : x18.toInt = y2.toInt + 1) : 0 ≤ x18.toInt ∧ x18.toInt ≤ 30 := by
  have q1 : (1 : Int32).toInt = 1 := by decide +kernel
  refine ⟨?_, ?_⟩ <;> first | assumption | omega | (subst_vars; omega) | trivial
-- meas@6 @6
theorem vX3_convertible_14 (κ : KS) (y2 : Int32) (b7 : Nat) (x9 : Int32) (x13 : Int32) (x18 : Int32) (hi6_0 : 0 ≤ y2.toInt) (hi6_1 : y2.toInt ≤ 30) (c3 : y2.toInt < (κ.1 10).toInt) (c5 : y2.toInt < 30) (ex6 : (some b7) = (κ.2.2.2.1 15) y2.toNatClampNeg) (ex9 : oI κ.2.2.2.2 14 b7 = x9) (ex13 : oI κ.2.2.2.2 15 b7 = x13) (ex18 : x18 = y2 + (1 : Int32)) (tx18 : x18.toInt = y2.toInt + 1) : (30 - x18.toInt).toNat < (30 - y2.toInt).toNat := by
  have q1 : (1 : Int32).toInt = 1 := by decide +kernel
  first | assumption | omega | (subst_vars; omega) | trivial
set_option maxHeartbeats 4000000 in
set_option maxRecDepth 100000 in
theorem NX3_convertible (l : Launch) (D : va_G) (cy : Nat → ClassId) (ad : Nat → Nat) (A : Nat → Prop) (sz0 : Nat) (sa : Nat → Nat)  (κ : KS) (sz sl : Nat) (hAF : ∀ q, A q → Fr sz0 q) (hAn : ∀ q : Nat, sz ≤ q → A q) (k0 : Nat) (k1 : Nat) (ht0 : oT κ.2.2.2.2 k0 = 1) (ht1 : oT κ.2.2.2.2 k1 = 1) (hPV : PV sa κ.2.2.2.2) (hSV : SV ad κ.2.2.2.2 (κ.2.1 0) (κ.2.1 1) (κ.2.2.2.1 6) (κ.2.2.2.1 7) (κ.2.2.2.1 8) (κ.2.2.2.1 13) (κ.2.2.2.1 15) (κ.2.2.2.1 17) (κ.1 1).toInt) : Met l yX3_convertible (Cond.code yX3_convertible cX3_convertible 7 (some (.object "PhraseDesk$Routine")) :: GWc) ({ frames := 3, cells := 0, slots := 0, locals := 68 }) (PcC D cy ad A sz0 sa [.ref (ad 5), .ref k0, .ref k1, .ref (ad 4)] κ sz sl) (va_Qq (fun (r : Option Nat) (u : Int32) => (NT κ.2.2.2.2 5 r)) (fun (u : Int32) (t : State) => Bx D cy ad A sz sl (tI κ 11 u) (0) (0) t) A) (0) (0) A := by
  refine CM_of (loc0 := [(0, .ref (ad 5)), (1, .ref k0), (2, .ref k1), (3, .ref (ad 4))]) (own := RX3) (nm := "convertible") (by decide) rfl rfl rfl (Nat.le_of_ble_eq_true rfl) hAF hAn ?_
  intro p e s m below meth c ls hsz hsl C hP hS hl
  refine lv_null C.x C.b dX3_convertible_0 ?_
  refine lv_astoreN (lv' := [(4, .null), (0, .ref (ad 5)), (1, .ref k0), (2, .ref k1), (3, .ref (ad 4))]) C.x C.b dX3_convertible_1 hl (by decide) rfl (fun ls hl => ?_)
  refine lv_iconst (v := 0) C.x C.b dX3_convertible_3 (by decide +kernel) ?_
  refine lv_istore (lv' := [(5, .int 0), (4, .null), (0, .ref (ad 5)), (1, .ref k0), (2, .ref k1), (3, .ref (ad 4))]) C.x C.b dX3_convertible_4 hl (by decide) rfl (fun ls hl => ?_)
  have lp6 : ∀ (n : Nat) (y1 : Option Nat) (y2 : Int32) (H : Heap) (locs : List Loc) (ls : Array Slot), (30 - y2.toInt).toNat < n → (NT κ.2.2.2.2 5 y1) → (0 ≤ y2.toInt ∧ y2.toInt ≤ 30) → CH D cy ad A κ H → va_S A s.heap H locs → lv_has ls 7 [(5, .int y2), (4, va_rf y1), (0, .ref (ad 5)), (1, .ref k0), (2, .ref k1), (3, .ref (ad 4))] → W p l e (headSpec (Cond.code yX3_convertible cX3_convertible 7 (some (.object "PhraseDesk$Routine")) :: GWc) ({ frames := 3, cells := 0, slots := 0, locals := 68 })).room s m #[.ref (ad 5), .ref k0, .ref k1, .ref (ad 4)] below meth c H locs (0) (0) (MQ below (va_Qq (fun (r : Option Nat) (u : Int32) => (NT κ.2.2.2.2 5 r)) (fun (u : Int32) (t : State) => Bx D cy ad A sz sl (tI κ 11 u) (0) (0) t) A) #[.ref (ad 5), .ref k0, .ref k1, .ref (ad 4)] s (0) (0) A) (F0 m 6 ls []) := by
    intro n
    induction n with
    | zero => intro y1 y2 H locs ls hn; exact absurd hn (Nat.not_lt_zero _)
    | succ n6 ih6 =>
      intro y1 y2 H locs ls hn6 hf6_0 hi6 hP hS hl
      obtain ⟨hi6_0, hi6_1⟩ := hi6
      refine lv_iload C.x C.b dX3_convertible_6 (lv_at hl 0 rfl) ?_
      refine lv_aload_n C.x C.b dX3_convertible_8 rfl (lv_at hl 2 rfl) ?_
      refine cg_X3_1 (v := (κ.1 10)) C hP rfl cw_424 dX3_convertible_9 ?_
      refine lv_icmp_ge (tgt := 88) C.x C.b dX3_convertible_12 (by decide) (fun c3 => ?_) (fun c3 => ?_)
      · have c3 : (κ.1 10).toInt ≤ y2.toInt := by have h := z_le c3; exact h
        refine lv_aload_n C.x C.b dX3_convertible_88 rfl (lv_at hl 2 rfl) ?_
        refine lv_bipush (v := 8) C.x C.b dX3_convertible_89 (by decide +kernel) ?_
        refine cp_X3_2 (v := 8) C hP hS cw_456 dX3_convertible_91 (fun H locs hP hS => ?_)
        refine lq_aload C.x C.b dX3_convertible_94 (lv_at hl 1 rfl) ?_
        exact c_retq (v := y1) (Or.inl ⟨_, rfl⟩) C hsz hsl (8 : Int32) hf6_0 hP hS ⟨(Nat.le_of_ble_eq_true rfl), (Nat.le_of_ble_eq_true rfl)⟩ ⟨(Nat.le_of_ble_eq_true rfl), (Nat.le_of_ble_eq_true rfl)⟩ dX3_convertible_96
      · have c3 : y2.toInt < (κ.1 10).toInt := by have h := z_nle c3; exact h
        refine lv_iload C.x C.b dX3_convertible_15 (lv_at hl 0 rfl) ?_
        refine lv_aload_n C.x C.b dX3_convertible_17 rfl (lv_at hl 2 rfl) ?_
        refine cg_X3_0 C hP cw_409 dX3_convertible_18 ?_
        refine cl_15 C hP dX3_convertible_21 ?_
        refine lv_icmp_ge (tgt := 88) C.x C.b dX3_convertible_22 (by decide) (fun c5 => ?_) (fun c5 => ?_)
        · have c5 : 30 ≤ y2.toInt := by have h := z_le c5; rw [show (30 : Int32).toInt = 30 from by decide +kernel] at h; exact h
          refine lv_aload_n C.x C.b dX3_convertible_88 rfl (lv_at hl 2 rfl) ?_
          refine lv_bipush (v := 8) C.x C.b dX3_convertible_89 (by decide +kernel) ?_
          refine cp_X3_2 (v := 8) C hP hS cw_456 dX3_convertible_91 (fun H locs hP hS => ?_)
          refine lq_aload C.x C.b dX3_convertible_94 (lv_at hl 1 rfl) ?_
          exact c_retq (v := y1) (Or.inl ⟨_, rfl⟩) C hsz hsl (8 : Int32) hf6_0 hP hS ⟨(Nat.le_of_ble_eq_true rfl), (Nat.le_of_ble_eq_true rfl)⟩ ⟨(Nat.le_of_ble_eq_true rfl), (Nat.le_of_ble_eq_true rfl)⟩ dX3_convertible_96
        · have c5 : y2.toInt < 30 := by have h := z_nle c5; rw [show (30 : Int32).toInt = 30 from by decide +kernel] at h; exact h
          refine lv_aload_n C.x C.b dX3_convertible_25 rfl (lv_at hl 2 rfl) ?_
          refine cg_X3_0 C hP cw_409 dX3_convertible_26 ?_
          refine lv_iload C.x C.b dX3_convertible_29 (lv_at hl 0 rfl) ?_
          refine ca_15 (f := (κ.2.2.2.1 15)) C hP rfl (vX3_convertible_2 κ y2 hi6_0 hi6_1 c3 c5) dX3_convertible_31 (fun x6 ex6 => ?_)
          have tx6 : NT κ.2.2.2.2 5 x6 := by rw [ex6]; exact hSV.n15 _
          refine lq_astore (lv' := [(6, va_rf x6), (5, .int y2), (4, va_rf y1), (0, .ref (ad 5)), (1, .ref k0), (2, .ref k1), (3, .ref (ad 4))]) C.x C.b dX3_convertible_32 hl (by decide) (by cases x6 <;> cases y1 <;> rfl) (fun ls hl => ?_)
          refine lq_aload C.x C.b dX3_convertible_34 (lv_at hl 0 rfl) ?_
          cases x6 with
          | none =>
            refine lv_ifnullN (tgt := 82) C.x C.b dX3_convertible_36 (by decide) ?_
            obtain ⟨x8, ex8⟩ : ∃ y : Int32, y = y2 + (1 : Int32) := ⟨_, rfl⟩
            have tx8 : x8.toInt = y2.toInt + 1 := (vX3_convertible_3 κ y2 x8 hi6_0 hi6_1 c3 c5 ex6 ex8)
            refine lv_iinc (v := x8) (lv' := [(5, .int x8), (6, .null), (4, va_rf y1), (0, .ref (ad 5)), (1, .ref k0), (2, .ref k1), (3, .ref (ad 4))]) C.x C.b dX3_convertible_82 hl (k := 1) rfl (by rw [ex8]; rfl) (by decide) (by cases y1 <;> rfl) (fun ls hl => ?_)
            refine lv_goto (tgt := 6) C.x C.b dX3_convertible_85 (by decide) ?_
            refine W.widen (k := 0) (n := 0) (Nat.le_of_ble_eq_true rfl) (Nat.le_of_ble_eq_true rfl) ?_
            exact ih6 y1 x8 _ _ _ (Nat.lt_of_lt_of_le (vX3_convertible_5 κ y2 x8 hi6_0 hi6_1 c3 c5 ex6 ex8 tx8) (Nat.le_of_lt_succ hn6)) hf6_0 (vX3_convertible_4 κ y2 x8 hi6_0 hi6_1 c3 c5 ex6 ex8 tx8) hP hS (lv_sub hl [0, 2, 3, 4, 5, 6] rfl)
          | some b7 =>
            have hb7 : oT κ.2.2.2.2 b7 = 5 := tx6 b7 rfl
            refine lv_ifnull C.x C.b dX3_convertible_36 ?_
            refine lv_aload_n C.x C.b dX3_convertible_39 rfl (lv_at hl 6 rfl) ?_
            refine lv_aload_n C.x C.b dX3_convertible_40 rfl (lv_at hl 4 rfl) ?_
            refine lv_aload C.x C.b dX3_convertible_41 (lv_at hl 0 rfl) ?_
            obtain ⟨x9, ex9⟩ : ∃ z, oI κ.2.2.2.2 14 b7 = z := ⟨_, rfl⟩
            refine pg_X7_1 (v := x9) C hP (t20 (a := b7) (t := 5) hb7) ex9 cw_436 dX3_convertible_43 ?_
            refine c_callVi (n := 2) (As := [.ref k0, .int x9]) (rest := []) C hP hS hl.1 (NX0_suit l D cy ad A sz0 sa κ H.size (SLT H) C.f (fun q h => C.a q (Nat.le_trans hS.1 h)) k0 x9 ht0 hPV) ⟨cw_457, cw_36, by decide +kernel⟩ ⟨cw_458, cw_459, cw_34⟩ rfl (hP.recvS (k := 4) (ci := 2) C.K rfl rfl) rfl rfl (lv_room (Nat.le_of_ble_eq_true rfl)) ⟨Nat.le_of_ble_eq_true rfl, Nat.le_of_ble_eq_true rfl⟩ ⟨(Nat.le_of_ble_eq_true rfl), (Nat.le_of_ble_eq_true rfl)⟩ dX3_convertible_46 (fun r10 u H locs hr10 hP hS => ?_)
            obtain ⟨hr10, hr10y⟩ := hr10
            have hr10y : ∀ (q7 q8 : Nat → Option Nat) (H : QT) (n : Int) (v : QV), FAMq κ.2.2.2.2 q7 H n → VALq κ.2.2.2.2 sa q7 q8 k0 v → CVq (κ.2.2.1 14) H → 1 ≤ x9.toInt → (r10.toInt = 0 → (qFits H v x9.toInt || qReach H v x9.toInt) = false) ∧ (¬ r10.toInt = 0 → (qFits H v x9.toInt || qReach H v x9.toInt) = true) := hr10y
            have hr10 : (0 ≤ r10.toInt ∧ r10.toInt ≤ 1) := hr10
            obtain ⟨hr10_0, hr10_1⟩ := hr10
            refine lv_if_eq (tgt := 82) C.x C.b dX3_convertible_49 (by decide) (fun c11 => ?_) (fun c11 => ?_)
            · have c11 : r10.toInt = 0 := by have h := z_eq c11; rw [show (0 : Int32).toInt = 0 from by decide +kernel] at h; exact h
              obtain ⟨x12, ex12⟩ : ∃ y : Int32, y = y2 + (1 : Int32) := ⟨_, rfl⟩
              have tx12 : x12.toInt = y2.toInt + 1 := (vX3_convertible_6 κ y2 b7 x9 x12 hi6_0 hi6_1 c3 c5 ex6 ex9 ex12)
              refine lv_iinc (v := x12) (lv' := [(5, .int x12), (6, .ref b7), (4, va_rf y1), (0, .ref (ad 5)), (1, .ref k0), (2, .ref k1), (3, .ref (ad 4))]) C.x C.b dX3_convertible_82 hl (k := 1) rfl (by rw [ex12]; rfl) (by decide) (by cases y1 <;> rfl) (fun ls hl => ?_)
              refine lv_goto (tgt := 6) C.x C.b dX3_convertible_85 (by decide) ?_
              refine W.widen (k := 0) (n := 0) (Nat.le_of_ble_eq_true rfl) (Nat.le_of_ble_eq_true rfl) ?_
              exact ih6 y1 x12 _ _ _ (Nat.lt_of_lt_of_le (vX3_convertible_8 κ y2 b7 x9 x12 hi6_0 hi6_1 c3 c5 ex6 ex9 ex12 tx12) (Nat.le_of_lt_succ hn6)) hf6_0 (vX3_convertible_7 κ y2 b7 x9 x12 hi6_0 hi6_1 c3 c5 ex6 ex9 ex12 tx12) hP hS (lv_sub hl [0, 2, 3, 4, 5, 6] rfl)
            · have c11 : ¬ r10.toInt = 0 := by have h := z_ne c11; rw [show (0 : Int32).toInt = 0 from by decide +kernel] at h; exact h
              refine lv_aload_n C.x C.b dX3_convertible_52 rfl (lv_at hl 6 rfl) ?_
              refine lv_aload_n C.x C.b dX3_convertible_53 rfl (lv_at hl 5 rfl) ?_
              refine lv_aload C.x C.b dX3_convertible_54 (lv_at hl 0 rfl) ?_
              obtain ⟨x13, ex13⟩ : ∃ z, oI κ.2.2.2.2 15 b7 = z := ⟨_, rfl⟩
              refine pg_X7_2 (v := x13) C hP (t20 (a := b7) (t := 5) hb7) ex13 cw_437 dX3_convertible_56 ?_
              refine c_callVi (n := 2) (As := [.ref k1, .int x13]) (rest := []) C hP hS hl.1 (NX0_suit l D cy ad A sz0 sa κ H.size (SLT H) C.f (fun q h => C.a q (Nat.le_trans hS.1 h)) k1 x13 ht1 hPV) ⟨cw_457, cw_36, by decide +kernel⟩ ⟨cw_458, cw_459, cw_34⟩ rfl (hP.recvS (k := 4) (ci := 2) C.K rfl rfl) rfl rfl (lv_room (Nat.le_of_ble_eq_true rfl)) ⟨Nat.le_of_ble_eq_true rfl, Nat.le_of_ble_eq_true rfl⟩ ⟨(Nat.le_of_ble_eq_true rfl), (Nat.le_of_ble_eq_true rfl)⟩ dX3_convertible_59 (fun r14 u H locs hr14 hP hS => ?_)
              obtain ⟨hr14, hr14y⟩ := hr14
              have hr14y : ∀ (q7 q8 : Nat → Option Nat) (H : QT) (n : Int) (v : QV), FAMq κ.2.2.2.2 q7 H n → VALq κ.2.2.2.2 sa q7 q8 k1 v → CVq (κ.2.2.1 14) H → 1 ≤ x13.toInt → (r14.toInt = 0 → (qFits H v x13.toInt || qReach H v x13.toInt) = false) ∧ (¬ r14.toInt = 0 → (qFits H v x13.toInt || qReach H v x13.toInt) = true) := hr14y
              have hr14 : (0 ≤ r14.toInt ∧ r14.toInt ≤ 1) := hr14
              obtain ⟨hr14_0, hr14_1⟩ := hr14
              refine lv_if_eq (tgt := 82) C.x C.b dX3_convertible_62 (by decide) (fun c15 => ?_) (fun c15 => ?_)
              · have c15 : r14.toInt = 0 := by have h := z_eq c15; rw [show (0 : Int32).toInt = 0 from by decide +kernel] at h; exact h
                obtain ⟨x16, ex16⟩ : ∃ y : Int32, y = y2 + (1 : Int32) := ⟨_, rfl⟩
                have tx16 : x16.toInt = y2.toInt + 1 := (vX3_convertible_9 κ y2 b7 x9 x13 x16 hi6_0 hi6_1 c3 c5 ex6 ex9 ex13 ex16)
                refine lv_iinc (v := x16) (lv' := [(5, .int x16), (6, .ref b7), (4, va_rf y1), (0, .ref (ad 5)), (1, .ref k0), (2, .ref k1), (3, .ref (ad 4))]) C.x C.b dX3_convertible_82 hl (k := 1) rfl (by rw [ex16]; rfl) (by decide) (by cases y1 <;> rfl) (fun ls hl => ?_)
                refine lv_goto (tgt := 6) C.x C.b dX3_convertible_85 (by decide) ?_
                refine W.widen (k := 0) (n := 0) (Nat.le_of_ble_eq_true rfl) (Nat.le_of_ble_eq_true rfl) ?_
                exact ih6 y1 x16 _ _ _ (Nat.lt_of_lt_of_le (vX3_convertible_11 κ y2 b7 x9 x13 x16 hi6_0 hi6_1 c3 c5 ex6 ex9 ex13 ex16 tx16) (Nat.le_of_lt_succ hn6)) hf6_0 (vX3_convertible_10 κ y2 b7 x9 x13 x16 hi6_0 hi6_1 c3 c5 ex6 ex9 ex13 ex16 tx16) hP hS (lv_sub hl [0, 2, 3, 4, 5, 6] rfl)
              · have c15 : ¬ r14.toInt = 0 := by have h := z_ne c15; rw [show (0 : Int32).toInt = 0 from by decide +kernel] at h; exact h
                refine lq_aload C.x C.b dX3_convertible_65 (lv_at hl 2 rfl) ?_
                cases y1 with
                | none =>
                  refine lv_ifnullN (tgt := 78) C.x C.b dX3_convertible_67 (by decide) ?_
                  refine lv_aload C.x C.b dX3_convertible_78 (lv_at hl 0 rfl) ?_
                  refine lv_astore (lv' := [(4, .ref b7), (6, .ref b7), (5, .int y2), (0, .ref (ad 5)), (1, .ref k0), (2, .ref k1), (3, .ref (ad 4))]) C.x C.b dX3_convertible_80 hl (by decide) rfl (fun ls hl => ?_)
                  obtain ⟨x18, ex18⟩ : ∃ y : Int32, y = y2 + (1 : Int32) := ⟨_, rfl⟩
                  have tx18 : x18.toInt = y2.toInt + 1 := (vX3_convertible_12 κ y2 b7 x9 x13 x18 hi6_0 hi6_1 c3 c5 ex6 ex9 ex13 ex18)
                  refine lv_iinc (v := x18) (lv' := [(5, .int x18), (4, .ref b7), (6, .ref b7), (0, .ref (ad 5)), (1, .ref k0), (2, .ref k1), (3, .ref (ad 4))]) C.x C.b dX3_convertible_82 hl (k := 2) rfl (by rw [ex18]; rfl) (by decide) rfl (fun ls hl => ?_)
                  refine lv_goto (tgt := 6) C.x C.b dX3_convertible_85 (by decide) ?_
                  refine W.widen (k := 0) (n := 0) (Nat.le_of_ble_eq_true rfl) (Nat.le_of_ble_eq_true rfl) ?_
                  exact ih6 (some b7) x18 _ _ _ (Nat.lt_of_lt_of_le (vX3_convertible_14 κ y2 b7 x9 x13 x18 hi6_0 hi6_1 c3 c5 ex6 ex9 ex13 ex18 tx18) (Nat.le_of_lt_succ hn6)) (nt_s hb7) (vX3_convertible_13 κ y2 b7 x9 x13 x18 hi6_0 hi6_1 c3 c5 ex6 ex9 ex13 ex18 tx18) hP hS (lv_sub hl [0, 1, 3, 4, 5, 6] rfl)
                | some b17 =>
                  have hb17 : oT κ.2.2.2.2 b17 = 5 := hf6_0 b17 rfl
                  refine lv_ifnull C.x C.b dX3_convertible_67 ?_
                  refine lv_aload_n C.x C.b dX3_convertible_70 rfl (lv_at hl 3 rfl) ?_
                  refine lv_bipush (v := 7) C.x C.b dX3_convertible_71 (by decide +kernel) ?_
                  refine cp_X3_2 (v := 7) C hP hS cw_456 dX3_convertible_73 (fun H locs hP hS => ?_)
                  refine lv_null C.x C.b dX3_convertible_76 ?_
                  exact c_retq (v := none) (Or.inl ⟨_, rfl⟩) C hsz hsl (7 : Int32) nt_n hP hS ⟨(Nat.le_of_ble_eq_true rfl), (Nat.le_of_ble_eq_true rfl)⟩ ⟨(Nat.le_of_ble_eq_true rfl), (Nat.le_of_ble_eq_true rfl)⟩ dX3_convertible_77
  refine W.widen (k := 0) (n := 0) (Nat.le_of_ble_eq_true rfl) (Nat.le_of_ble_eq_true rfl) ?_
  exact lp6 ((30 - (0 : Int32).toInt).toNat + 1) none (0 : Int32) _ _ _ (Nat.lt_succ_self _) nt_n (vX3_convertible_1  ) hP hS (lv_sub hl [0, 1, 2, 3, 4, 5] rfl)

set_option maxHeartbeats 4000000 in
set_option maxRecDepth 100000 in
theorem NX3_find (l : Launch) (D : va_G) (cy : Nat → ClassId) (ad : Nat → Nat) (A : Nat → Prop) (sz0 : Nat) (sa : Nat → Nat)  (κ : KS) (sz sl : Nat) (hAF : ∀ q, A q → Fr sz0 q) (hAn : ∀ q : Nat, sz ≤ q → A q) (k0 : Nat) (k1 : Nat) (k2 : Nat) (k3 : Nat) (ht0 : oT κ.2.2.2.2 k0 = 3) (ht1 : oT κ.2.2.2.2 k1 = 2) (ht2 : oT κ.2.2.2.2 k2 = 1) (ht3 : oT κ.2.2.2.2 k3 = 1) (hPV : PV sa κ.2.2.2.2) (hSV : SV ad κ.2.2.2.2 (κ.2.1 0) (κ.2.1 1) (κ.2.2.2.1 6) (κ.2.2.2.1 7) (κ.2.2.2.1 8) (κ.2.2.2.1 13) (κ.2.2.2.1 15) (κ.2.2.2.1 17) (κ.1 1).toInt) : Met l yX3_find (Cond.code yX3_find cX3_find 7 (some (.object "PhraseDesk$Routine")) :: GWc) ({ frames := 4, cells := 0, slots := 0, locals := 94 }) (PcC D cy ad A sz0 sa [.ref (ad 5), .ref k0, .ref k1, .ref k2, .ref k3, .ref (ad 4)] κ sz sl) (va_Qq (fun (r : Option Nat) (u : (Nat → Option Nat) × Int32 × Int32) => (SV ad κ.2.2.2.2 (κ.2.1 0) (κ.2.1 1) (κ.2.2.2.1 6) (κ.2.2.2.1 7) (κ.2.2.2.1 8) (κ.2.2.2.1 13) u.1 (κ.2.2.2.1 17) (κ.1 1).toInt) ∧ (NT κ.2.2.2.2 5 r)) (fun (u : (Nat → Option Nat) × Int32 × Int32) (t : State) => Bx D cy ad A sz sl (tI (tI (tQ κ 15 u.1) 10 u.2.1) 11 u.2.2) (0) (0) t) A) (0) (0) A := by
  refine CM_of (loc0 := [(0, .ref (ad 5)), (1, .ref k0), (2, .ref k1), (3, .ref k2), (4, .ref k3), (5, .ref (ad 4))]) (own := RX3) (nm := "find") (by decide) rfl rfl rfl (Nat.le_of_ble_eq_true rfl) hAF hAn ?_
  intro p e s m below meth c ls hsz hsl C hP hS hl
  refine lv_aload_n C.x C.b dX3_find_0 rfl (lv_at hl 0 rfl) ?_
  refine lv_aload_n C.x C.b dX3_find_1 rfl (lv_at hl 1 rfl) ?_
  refine lv_aload_n C.x C.b dX3_find_2 rfl (lv_at hl 2 rfl) ?_
  obtain ⟨x1, ex1⟩ : ∃ z, oI κ.2.2.2.2 3 k1 = z := ⟨_, rfl⟩
  refine pg_X5_1 (v := x1) C hP (t20 (a := k1) (t := 2) ht1) ex1 cw_411 dX3_find_3 ?_
  refine lv_aload_n C.x C.b dX3_find_6 rfl (lv_at hl 2 rfl) ?_
  refine c_callVi (n := 0) (As := []) (rest := [.int x1, .ref k0, .ref (ad 5)]) C hP hS hl.1 (NX5_arguments l D cy ad A sz0 sa κ s.heap.size (SLT s.heap) C.f (fun q h => C.a q (Nat.le_trans hS.1 h)) k1 ht1 hPV) ⟨cw_412, cw_416, by decide +kernel⟩ ⟨cw_413, cw_414, cw_415⟩ rfl (hP.recvP (t := 2) (ci := 7) C.K (t20 (a := k1) (t := 2) ht1) (by decide) rfl rfl) rfl rfl (lv_room (Nat.le_of_ble_eq_true rfl)) ⟨Nat.le_of_ble_eq_true rfl, Nat.le_of_ble_eq_true rfl⟩ ⟨(Nat.le_of_ble_eq_true rfl), (Nat.le_of_ble_eq_true rfl)⟩ dX3_find_7 (fun r2 u H locs hr2 hP hS => ?_)
  have hr2 : True := hr2
  refine c_callVv (n := 3) (As := [.ref k0, .int x1, .int r2]) (rest := []) C hP hS hl.1 (NX3_collect l D cy ad A sz0 sa κ H.size (SLT H) C.f (fun q h => C.a q (Nat.le_trans hS.1 h)) k0 x1 r2 ht0 hPV hSV) ⟨cw_419, cw_423, by decide +kernel⟩ ⟨cw_420, cw_421, cw_422⟩ rfl (hP.recvS (k := 5) (ci := 5) C.K rfl rfl) rfl rfl (lv_room (Nat.le_of_ble_eq_true rfl)) ⟨Nat.le_of_ble_eq_true rfl, Nat.le_of_ble_eq_true rfl⟩ ⟨(Nat.le_of_ble_eq_true rfl), (Nat.le_of_ble_eq_true rfl)⟩ dX3_find_10 (fun u H locs hr3 hP hS => ?_)
  obtain ⟨Z4, n5⟩ := u
  have hP : CH D cy ad A (tI (tQ κ 15 Z4) 10 n5) H := hP
  have hr3 : (SV ad κ.2.2.2.2 (κ.2.1 0) (κ.2.1 1) (κ.2.2.2.1 6) (κ.2.2.2.1 7) (κ.2.2.2.1 8) (κ.2.2.2.1 13) Z4 (κ.2.2.2.1 17) (κ.1 1).toInt) ∧ (0 ≤ n5.toInt ∧ n5.toInt ≤ 30) := hr3
  obtain ⟨hr3_0, hr3_1⟩ := hr3
  obtain ⟨hr3_1_0, hr3_1_1⟩ := hr3_1
  refine lv_aload_n C.x C.b dX3_find_13 rfl (lv_at hl 0 rfl) ?_
  refine lv_aload_n C.x C.b dX3_find_14 rfl (lv_at hl 3 rfl) ?_
  refine lv_aload C.x C.b dX3_find_15 (lv_at hl 4 rfl) ?_
  refine c_callVq (n := 2) (As := [.ref k2, .ref k3]) (rest := []) C hP hS hl.1 (NX3_exact l D cy ad A sz0 sa (tI (tQ κ 15 Z4) 10 n5) H.size (SLT H) C.f (fun q h => C.a q (Nat.le_trans hS.1 h)) k2 k3 ht2 ht3 hPV hr3_0) ⟨cw_438, cw_441, by decide +kernel⟩ ⟨cw_439, cw_440, cw_422⟩ rfl (hP.recvS (k := 5) (ci := 5) C.K rfl rfl) rfl rfl (lv_room (Nat.le_of_ble_eq_true rfl)) ⟨Nat.le_of_ble_eq_true rfl, Nat.le_of_ble_eq_true rfl⟩ ⟨(Nat.le_of_ble_eq_true rfl), (Nat.le_of_ble_eq_true rfl)⟩ dX3_find_17 (fun r6 u H locs hr6 hP hS => ?_)
  obtain ⟨hr6, hr6y⟩ := hr6
  have hr6y : ∀ (q7 q8 : Nat → Option Nat) (H : QT) (v w : QV) (l : List Nat), VALq κ.2.2.2.2 sa q7 q8 k2 v → VALq κ.2.2.2.2 sa q7 q8 k3 w → CDq κ.2.2.2.2 H Z4 n5.toInt l → (r6 = (none : Option Nat) → ∀ j : Nat, j < l.length → ¬ (v.1 = H 6 (l.getD j 0) ∧ w.1 = H 7 (l.getD j 0))) ∧ (∀ x, r6 = some x → ∃ i : Nat, i < l.length ∧ (∀ j : Nat, j < i → ¬ (v.1 = H 6 (l.getD j 0) ∧ w.1 = H 7 (l.getD j 0))) ∧ (v.1 = H 6 (l.getD i 0) ∧ w.1 = H 7 (l.getD i 0)) ∧ RTq κ.2.2.2.2 H x (l.getD i 0)) := hr6y
  have hr6 : (NT κ.2.2.2.2 5 r6) := hr6
  refine lq_astore (lv' := [(6, va_rf r6), (0, .ref (ad 5)), (1, .ref k0), (2, .ref k1), (3, .ref k2), (4, .ref k3), (5, .ref (ad 4))]) C.x C.b dX3_find_20 hl (by decide) (by cases r6 <;> rfl) (fun ls hl => ?_)
  refine lq_aload C.x C.b dX3_find_22 (lv_at hl 0 rfl) ?_
  cases r6 with
  | none =>
    refine lv_ifnonnullN C.x C.b dX3_find_24 ?_
    refine lv_aload_n C.x C.b dX3_find_27 rfl (lv_at hl 1 rfl) ?_
    refine lv_aload_n C.x C.b dX3_find_28 rfl (lv_at hl 4 rfl) ?_
    refine lv_aload C.x C.b dX3_find_29 (lv_at hl 5 rfl) ?_
    refine c_callVq (n := 2) (As := [.ref k2, .ref k3]) (rest := []) C hP hS hl.1 (NX3_closest l D cy ad A sz0 sa (tI (tQ κ 15 Z4) 10 n5) H.size (SLT H) C.f (fun q h => C.a q (Nat.le_trans hS.1 h)) k2 k3 ht2 ht3 hPV hr3_0) ⟨cw_443, cw_446, by decide +kernel⟩ ⟨cw_444, cw_445, cw_422⟩ rfl (hP.recvS (k := 5) (ci := 5) C.K rfl rfl) rfl rfl (lv_room (Nat.le_of_ble_eq_true rfl)) ⟨Nat.le_of_ble_eq_true rfl, Nat.le_of_ble_eq_true rfl⟩ ⟨(Nat.le_of_ble_eq_true rfl), (Nat.le_of_ble_eq_true rfl)⟩ dX3_find_31 (fun r8 u H locs hr8 hP hS => ?_)
    obtain ⟨hr8, hr8y⟩ := hr8
    have hr8y : ∀ (q7 q8 : Nat → Option Nat) (H : QT) (n : Int) (v w : QV) (l : List Nat) (as : List QV), FAMq κ.2.2.2.2 q7 H n → VALq κ.2.2.2.2 sa q7 q8 k2 v → VALq κ.2.2.2.2 sa q7 q8 k3 w → CDq κ.2.2.2.2 H Z4 n5.toInt l → qARG as v w → qWF H as l → (∀ j : Nat, j < l.length → ¬ (v.1 = H 6 (l.getD j 0) ∧ w.1 = H 7 (l.getD j 0))) → ∃ (bm : Option Nat) (t : Int), qCLO H as l l.length bm t ∧ ((r8 : Option Nat) = none → bm = none) ∧ (∀ x, r8 = some x → ∃ m, bm = some m ∧ RTq κ.2.2.2.2 H x m) := hr8y
    have hr8 : (NT κ.2.2.2.2 5 r8) := hr8
    refine lq_astore (lv' := [(6, va_rf r8), (0, .ref (ad 5)), (1, .ref k0), (2, .ref k1), (3, .ref k2), (4, .ref k3), (5, .ref (ad 4))]) C.x C.b dX3_find_34 hl (by decide) (by cases r8 <;> rfl) (fun ls hl => ?_)
    refine lq_aload C.x C.b dX3_find_36 (lv_at hl 0 rfl) ?_
    cases r8 with
    | none =>
      refine lv_ifnonnullN C.x C.b dX3_find_38 ?_
      refine lv_aload_n C.x C.b dX3_find_41 rfl (lv_at hl 1 rfl) ?_
      refine lv_aload_n C.x C.b dX3_find_42 rfl (lv_at hl 4 rfl) ?_
      refine lv_aload C.x C.b dX3_find_43 (lv_at hl 5 rfl) ?_
      refine lv_aload C.x C.b dX3_find_45 (lv_at hl 6 rfl) ?_
      refine c_callVq (n := 3) (As := [.ref k2, .ref k3, .ref (ad 4)]) (rest := []) C hP hS hl.1 (NX3_convertible l D cy ad A sz0 sa (tI (tQ κ 15 Z4) 10 n5) H.size (SLT H) C.f (fun q h => C.a q (Nat.le_trans hS.1 h)) k2 k3 ht2 ht3 hPV hr3_0) ⟨cw_452, cw_455, by decide +kernel⟩ ⟨cw_453, cw_454, cw_422⟩ rfl (hP.recvS (k := 5) (ci := 5) C.K rfl rfl) rfl rfl (lv_room (Nat.le_of_ble_eq_true rfl)) ⟨Nat.le_of_ble_eq_true rfl, Nat.le_of_ble_eq_true rfl⟩ ⟨(Nat.le_of_ble_eq_true rfl), (Nat.le_of_ble_eq_true rfl)⟩ dX3_find_47 (fun r10 u H locs hr10 hP hS => ?_)
      obtain ⟨n11, rfl⟩ : ∃ z, z = u := ⟨_, rfl⟩
      have hP : CH D cy ad A (tI (tI (tQ κ 15 Z4) 10 n5) 11 n11) H := hP
      have hr10 : (NT κ.2.2.2.2 5 r10) := hr10
      refine lv_goto (tgt := 55) C.x C.b dX3_find_50 (by decide) ?_
      exact c_retq (v := r10) (Or.inl ⟨_, rfl⟩) C hsz hsl ⟨Z4, n5, n11⟩ ⟨hr3_0, hr10⟩ hP hS ⟨(Nat.le_of_ble_eq_true rfl), (Nat.le_of_ble_eq_true rfl)⟩ ⟨(Nat.le_of_ble_eq_true rfl), (Nat.le_of_ble_eq_true rfl)⟩ dX3_find_55
    | some b9 =>
      have hb9 : oT κ.2.2.2.2 b9 = 5 := hr8 b9 rfl
      refine lv_ifnonnull (tgt := 53) C.x C.b dX3_find_38 (by decide) ?_
      refine lv_aload C.x C.b dX3_find_53 (lv_at hl 0 rfl) ?_
      have hP : CH D cy ad A (tI (tI (tQ κ 15 Z4) 10 n5) 11 (κ.1 11)) H := CH.cong hP rfl rfl rfl rfl rfl rfl rfl rfl rfl rfl rfl rfl rfl rfl rfl rfl rfl rfl rfl rfl rfl rfl rfl rfl rfl rfl rfl
      exact c_retq (v := (some b9)) (Or.inl ⟨_, rfl⟩) C hsz hsl ⟨Z4, n5, (κ.1 11)⟩ ⟨hr3_0, (nt_s hb9)⟩ hP hS ⟨(Nat.le_of_ble_eq_true rfl), (Nat.le_of_ble_eq_true rfl)⟩ ⟨(Nat.le_of_ble_eq_true rfl), (Nat.le_of_ble_eq_true rfl)⟩ dX3_find_55
  | some b7 =>
    have hb7 : oT κ.2.2.2.2 b7 = 5 := hr6 b7 rfl
    refine lv_ifnonnull (tgt := 36) C.x C.b dX3_find_24 (by decide) ?_
    refine lv_aload C.x C.b dX3_find_36 (lv_at hl 0 rfl) ?_
    refine lv_ifnonnull (tgt := 53) C.x C.b dX3_find_38 (by decide) ?_
    refine lv_aload C.x C.b dX3_find_53 (lv_at hl 0 rfl) ?_
    have hP : CH D cy ad A (tI (tI (tQ κ 15 Z4) 10 n5) 11 (κ.1 11)) H := CH.cong hP rfl rfl rfl rfl rfl rfl rfl rfl rfl rfl rfl rfl rfl rfl rfl rfl rfl rfl rfl rfl rfl rfl rfl rfl rfl rfl rfl
    exact c_retq (v := (some b7)) (Or.inl ⟨_, rfl⟩) C hsz hsl ⟨Z4, n5, (κ.1 11)⟩ ⟨hr3_0, (nt_s hb7)⟩ hP hS ⟨(Nat.le_of_ble_eq_true rfl), (Nat.le_of_ble_eq_true rfl)⟩ ⟨(Nat.le_of_ble_eq_true rfl), (Nat.le_of_ble_eq_true rfl)⟩ dX3_find_55
