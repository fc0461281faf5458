-- pre:lengthOf@2 @2
theorem v_spells_1 (k0 : Int32) (hpre_0 : 0 ≤ k0.toInt) (hpre_1 : k0.toInt < 980) : 0 ≤ k0.toInt ∧ k0.toInt < 980 := by
  refine ⟨?_, ?_⟩ <;> first | assumption | omega | (subst_vars; omega) | trivial
-- post2 @93
theorem v_spells_2 (σ : RS) (k0 : Int32) (k1 : Int32) (k2 : Int32) (k3 : Int32) (k4 : Int32) (k5 : Int32) (r1 : Int32) (hpre_0 : 0 ≤ k0.toInt) (hpre_1 : k0.toInt < 980) (hr1 : r1 = LENF ((σ.2.2.1 52) k0.toNatClampNeg)) (c2 : k5.toInt ≤ 0) (c3 : ¬ r1.toInt = 4) : ∀ s9 : List Int, QTT ((σ.2.2.1 52) k0.toNatClampNeg) ((σ.2.2.1 53) k0.toNatClampNeg) s9 → 0 ≤ k5.toInt → ((0 : Int32).toInt = 0 → ¬ s9 = (if 0 < k5.toInt then [k1.toInt, k2.toInt, k3.toInt, k4.toInt, k5.toInt] else [k1.toInt, k2.toInt, k3.toInt, k4.toInt])) ∧ (¬ (0 : Int32).toInt = 0 → s9 = (if 0 < k5.toInt then [k1.toInt, k2.toInt, k3.toInt, k4.toInt, k5.toInt] else [k1.toInt, k2.toInt, k3.toInt, k4.toInt])) := by
  have q0 : (0 : Int32).toInt = 0 := by decide +kernel
  intro s9 ht h5
  have e := q_len ht.1 ht.2.2.1 ht.2.2.2
  rw [← hr1] at e
  rw [if_neg (by omega)]
  have q := q_eq4 (s := s9) (a := k1.toInt) (b := k2.toInt) (c := k3.toInt) (d := k4.toInt)
  refine ⟨fun h9 h8 => ?_, fun h9 => ?_⟩
  · have q := q.mp h8
    omega
  · first | (exfalso; omega) | exact q.mpr (by omega)
-- bool@ret @93
theorem v_spells_3   : (0 : Int32) = 0 ∨ (0 : Int32) = 1 := by
  have q0 : (0 : Int32).toInt = 0 := by decide +kernel
  first | exact Or.inl rfl | exact Or.inr rfl | exact bool_of (by omega)
-- pre:sign8@21 @21
theorem v_spells_4 (σ : RS) (k0 : Int32) (r1 : Int32) (hpre_0 : 0 ≤ k0.toInt) (hpre_1 : k0.toInt < 980) (hr1 : r1 = LENF ((σ.2.2.1 52) k0.toNatClampNeg)) (c3 : r1.toInt = 4) : 0 ≤ k0.toInt ∧ k0.toInt < 980 ∧ 0 ≤ (0 : Int32).toInt ∧ (0 : Int32).toInt ≤ 200 := by
  have q0 : (0 : Int32).toInt = 0 := by decide +kernel
  refine ⟨?_, ?_, ?_, ?_⟩ <;> first | assumption | omega | (subst_vars; omega) | trivial
-- post2 @93
theorem v_spells_5 (σ : RS) (k0 : Int32) (k1 : Int32) (k2 : Int32) (k3 : Int32) (k4 : Int32) (k5 : Int32) (r1 : Int32) (r5 : Int32) (hpre_0 : 0 ≤ k0.toInt) (hpre_1 : k0.toInt < 980) (hr1 : r1 = LENF ((σ.2.2.1 52) k0.toNatClampNeg)) (c2 : k5.toInt ≤ 0) (c3 : r1.toInt = 4) (hr5y : ∀ s9 : List Int, QTT ((σ.2.2.1 52) k0.toNatClampNeg) ((σ.2.2.1 53) k0.toNatClampNeg) s9 → 0 ≤ (0 : Int32).toInt → (0 : Int32).toInt < 17 → r5.toInt = s9.getD (0 : Int32).toInt.toNat 0) (c6 : ¬ r5.toInt = k1.toInt) : ∀ s9 : List Int, QTT ((σ.2.2.1 52) k0.toNatClampNeg) ((σ.2.2.1 53) k0.toNatClampNeg) s9 → 0 ≤ k5.toInt → ((0 : Int32).toInt = 0 → ¬ s9 = (if 0 < k5.toInt then [k1.toInt, k2.toInt, k3.toInt, k4.toInt, k5.toInt] else [k1.toInt, k2.toInt, k3.toInt, k4.toInt])) ∧ (¬ (0 : Int32).toInt = 0 → s9 = (if 0 < k5.toInt then [k1.toInt, k2.toInt, k3.toInt, k4.toInt, k5.toInt] else [k1.toInt, k2.toInt, k3.toInt, k4.toInt])) := by
  have q0 : (0 : Int32).toInt = 0 := by decide +kernel
  intro s9 ht h5
  have e := q_len ht.1 ht.2.2.1 ht.2.2.2
  rw [← hr1] at e
  have g0 := hr5y s9 ht (by omega) (by omega)
  rw [show (0 : Int32).toInt.toNat = 0 by decide +kernel] at g0
  rw [if_neg (by omega)]
  have q := q_eq4 (s := s9) (a := k1.toInt) (b := k2.toInt) (c := k3.toInt) (d := k4.toInt)
  refine ⟨fun h9 h8 => ?_, fun h9 => ?_⟩
  · have q := q.mp h8
    omega
  · first | (exfalso; omega) | exact q.mpr (by omega)
-- pre:sign8@31 @31
theorem v_spells_6 (σ : RS) (k0 : Int32) (r1 : Int32) (hpre_0 : 0 ≤ k0.toInt) (hpre_1 : k0.toInt < 980) (hr1 : r1 = LENF ((σ.2.2.1 52) k0.toNatClampNeg)) (c3 : r1.toInt = 4) : 0 ≤ k0.toInt ∧ k0.toInt < 980 ∧ 0 ≤ (1 : Int32).toInt ∧ (1 : Int32).toInt ≤ 200 := by
  have q1 : (1 : Int32).toInt = 1 := by decide +kernel
  refine ⟨?_, ?_, ?_, ?_⟩ <;> first | assumption | omega | (subst_vars; omega) | trivial
-- post2 @93
theorem v_spells_7 (σ : RS) (k0 : Int32) (k1 : Int32) (k2 : Int32) (k3 : Int32) (k4 : Int32) (k5 : Int32) (r1 : Int32) (r5 : Int32) (r8 : Int32) (hpre_0 : 0 ≤ k0.toInt) (hpre_1 : k0.toInt < 980) (hr1 : r1 = LENF ((σ.2.2.1 52) k0.toNatClampNeg)) (c2 : k5.toInt ≤ 0) (c3 : r1.toInt = 4) (hr5y : ∀ s9 : List Int, QTT ((σ.2.2.1 52) k0.toNatClampNeg) ((σ.2.2.1 53) k0.toNatClampNeg) s9 → 0 ≤ (0 : Int32).toInt → (0 : Int32).toInt < 17 → r5.toInt = s9.getD (0 : Int32).toInt.toNat 0) (c6 : r5.toInt = k1.toInt) (hr8y : ∀ s9 : List Int, QTT ((σ.2.2.1 52) k0.toNatClampNeg) ((σ.2.2.1 53) k0.toNatClampNeg) s9 → 0 ≤ (1 : Int32).toInt → (1 : Int32).toInt < 17 → r8.toInt = s9.getD (1 : Int32).toInt.toNat 0) (c9 : ¬ r8.toInt = k2.toInt) : ∀ s9 : List Int, QTT ((σ.2.2.1 52) k0.toNatClampNeg) ((σ.2.2.1 53) k0.toNatClampNeg) s9 → 0 ≤ k5.toInt → ((0 : Int32).toInt = 0 → ¬ s9 = (if 0 < k5.toInt then [k1.toInt, k2.toInt, k3.toInt, k4.toInt, k5.toInt] else [k1.toInt, k2.toInt, k3.toInt, k4.toInt])) ∧ (¬ (0 : Int32).toInt = 0 → s9 = (if 0 < k5.toInt then [k1.toInt, k2.toInt, k3.toInt, k4.toInt, k5.toInt] else [k1.toInt, k2.toInt, k3.toInt, k4.toInt])) := by
  have q0 : (0 : Int32).toInt = 0 := by decide +kernel
  have q1 : (1 : Int32).toInt = 1 := by decide +kernel
  intro s9 ht h5
  have e := q_len ht.1 ht.2.2.1 ht.2.2.2
  rw [← hr1] at e
  have g0 := hr5y s9 ht (by omega) (by omega)
  rw [show (0 : Int32).toInt.toNat = 0 by decide +kernel] at g0
  have g1 := hr8y s9 ht (by omega) (by omega)
  rw [show (1 : Int32).toInt.toNat = 1 by decide +kernel] at g1
  rw [if_neg (by omega)]
  have q := q_eq4 (s := s9) (a := k1.toInt) (b := k2.toInt) (c := k3.toInt) (d := k4.toInt)
  refine ⟨fun h9 h8 => ?_, fun h9 => ?_⟩
  · have q := q.mp h8
    omega
  · first | (exfalso; omega) | exact q.mpr (by omega)
-- pre:sign8@41 @41
theorem v_spells_8 (σ : RS) (k0 : Int32) (r1 : Int32) (hpre_0 : 0 ≤ k0.toInt) (hpre_1 : k0.toInt < 980) (hr1 : r1 = LENF ((σ.2.2.1 52) k0.toNatClampNeg)) (c3 : r1.toInt = 4) : 0 ≤ k0.toInt ∧ k0.toInt < 980 ∧ 0 ≤ (2 : Int32).toInt ∧ (2 : Int32).toInt ≤ 200 := by
  have q2 : (2 : Int32).toInt = 2 := by decide +kernel
  refine ⟨?_, ?_, ?_, ?_⟩ <;> first | assumption | omega | (subst_vars; omega) | trivial
-- post2 @93
theorem v_spells_9 (σ : RS) (k0 : Int32) (k1 : Int32) (k2 : Int32) (k3 : Int32) (k4 : Int32) (k5 : Int32) (r1 : Int32) (r5 : Int32) (r8 : Int32) (r11 : Int32) (hpre_0 : 0 ≤ k0.toInt) (hpre_1 : k0.toInt < 980) (hr1 : r1 = LENF ((σ.2.2.1 52) k0.toNatClampNeg)) (c2 : k5.toInt ≤ 0) (c3 : r1.toInt = 4) (hr5y : ∀ s9 : List Int, QTT ((σ.2.2.1 52) k0.toNatClampNeg) ((σ.2.2.1 53) k0.toNatClampNeg) s9 → 0 ≤ (0 : Int32).toInt → (0 : Int32).toInt < 17 → r5.toInt = s9.getD (0 : Int32).toInt.toNat 0) (c6 : r5.toInt = k1.toInt) (hr8y : ∀ s9 : List Int, QTT ((σ.2.2.1 52) k0.toNatClampNeg) ((σ.2.2.1 53) k0.toNatClampNeg) s9 → 0 ≤ (1 : Int32).toInt → (1 : Int32).toInt < 17 → r8.toInt = s9.getD (1 : Int32).toInt.toNat 0) (c9 : r8.toInt = k2.toInt) (hr11y : ∀ s9 : List Int, QTT ((σ.2.2.1 52) k0.toNatClampNeg) ((σ.2.2.1 53) k0.toNatClampNeg) s9 → 0 ≤ (2 : Int32).toInt → (2 : Int32).toInt < 17 → r11.toInt = s9.getD (2 : Int32).toInt.toNat 0) (c12 : ¬ r11.toInt = k3.toInt) : ∀ s9 : List Int, QTT ((σ.2.2.1 52) k0.toNatClampNeg) ((σ.2.2.1 53) k0.toNatClampNeg) s9 → 0 ≤ k5.toInt → ((0 : Int32).toInt = 0 → ¬ s9 = (if 0 < k5.toInt then [k1.toInt, k2.toInt, k3.toInt, k4.toInt, k5.toInt] else [k1.toInt, k2.toInt, k3.toInt, k4.toInt])) ∧ (¬ (0 : Int32).toInt = 0 → s9 = (if 0 < k5.toInt then [k1.toInt, k2.toInt, k3.toInt, k4.toInt, k5.toInt] else [k1.toInt, k2.toInt, k3.toInt, k4.toInt])) := by
  have q0 : (0 : Int32).toInt = 0 := by decide +kernel
  have q1 : (1 : Int32).toInt = 1 := by decide +kernel
  have q2 : (2 : Int32).toInt = 2 := by decide +kernel
  intro s9 ht h5
  have e := q_len ht.1 ht.2.2.1 ht.2.2.2
  rw [← hr1] at e
  have g0 := hr5y s9 ht (by omega) (by omega)
  rw [show (0 : Int32).toInt.toNat = 0 by decide +kernel] at g0
  have g1 := hr8y s9 ht (by omega) (by omega)
  rw [show (1 : Int32).toInt.toNat = 1 by decide +kernel] at g1
  have g2 := hr11y s9 ht (by omega) (by omega)
  rw [show (2 : Int32).toInt.toNat = 2 by decide +kernel] at g2
  rw [if_neg (by omega)]
  have q := q_eq4 (s := s9) (a := k1.toInt) (b := k2.toInt) (c := k3.toInt) (d := k4.toInt)
  refine ⟨fun h9 h8 => ?_, fun h9 => ?_⟩
  · have q := q.mp h8
    omega
  · first | (exfalso; omega) | exact q.mpr (by omega)
-- pre:sign8@52 @52
theorem v_spells_10 (σ : RS) (k0 : Int32) (r1 : Int32) (hpre_0 : 0 ≤ k0.toInt) (hpre_1 : k0.toInt < 980) (hr1 : r1 = LENF ((σ.2.2.1 52) k0.toNatClampNeg)) (c3 : r1.toInt = 4) : 0 ≤ k0.toInt ∧ k0.toInt < 980 ∧ 0 ≤ (3 : Int32).toInt ∧ (3 : Int32).toInt ≤ 200 := by
  have q3 : (3 : Int32).toInt = 3 := by decide +kernel
  refine ⟨?_, ?_, ?_, ?_⟩ <;> first | assumption | omega | (subst_vars; omega) | trivial
-- post2 @93
theorem v_spells_11 (σ : RS) (k0 : Int32) (k1 : Int32) (k2 : Int32) (k3 : Int32) (k4 : Int32) (k5 : Int32) (r1 : Int32) (r5 : Int32) (r8 : Int32) (r11 : Int32) (r14 : Int32) (hpre_0 : 0 ≤ k0.toInt) (hpre_1 : k0.toInt < 980) (hr1 : r1 = LENF ((σ.2.2.1 52) k0.toNatClampNeg)) (c2 : k5.toInt ≤ 0) (c3 : r1.toInt = 4) (hr5y : ∀ s9 : List Int, QTT ((σ.2.2.1 52) k0.toNatClampNeg) ((σ.2.2.1 53) k0.toNatClampNeg) s9 → 0 ≤ (0 : Int32).toInt → (0 : Int32).toInt < 17 → r5.toInt = s9.getD (0 : Int32).toInt.toNat 0) (c6 : r5.toInt = k1.toInt) (hr8y : ∀ s9 : List Int, QTT ((σ.2.2.1 52) k0.toNatClampNeg) ((σ.2.2.1 53) k0.toNatClampNeg) s9 → 0 ≤ (1 : Int32).toInt → (1 : Int32).toInt < 17 → r8.toInt = s9.getD (1 : Int32).toInt.toNat 0) (c9 : r8.toInt = k2.toInt) (hr11y : ∀ s9 : List Int, QTT ((σ.2.2.1 52) k0.toNatClampNeg) ((σ.2.2.1 53) k0.toNatClampNeg) s9 → 0 ≤ (2 : Int32).toInt → (2 : Int32).toInt < 17 → r11.toInt = s9.getD (2 : Int32).toInt.toNat 0) (c12 : r11.toInt = k3.toInt) (hr14y : ∀ s9 : List Int, QTT ((σ.2.2.1 52) k0.toNatClampNeg) ((σ.2.2.1 53) k0.toNatClampNeg) s9 → 0 ≤ (3 : Int32).toInt → (3 : Int32).toInt < 17 → r14.toInt = s9.getD (3 : Int32).toInt.toNat 0) (c15 : ¬ r14.toInt = k4.toInt) : ∀ s9 : List Int, QTT ((σ.2.2.1 52) k0.toNatClampNeg) ((σ.2.2.1 53) k0.toNatClampNeg) s9 → 0 ≤ k5.toInt → ((0 : Int32).toInt = 0 → ¬ s9 = (if 0 < k5.toInt then [k1.toInt, k2.toInt, k3.toInt, k4.toInt, k5.toInt] else [k1.toInt, k2.toInt, k3.toInt, k4.toInt])) ∧ (¬ (0 : Int32).toInt = 0 → s9 = (if 0 < k5.toInt then [k1.toInt, k2.toInt, k3.toInt, k4.toInt, k5.toInt] else [k1.toInt, k2.toInt, k3.toInt, k4.toInt])) := by
  have q0 : (0 : Int32).toInt = 0 := by decide +kernel
  have q1 : (1 : Int32).toInt = 1 := by decide +kernel
  have q2 : (2 : Int32).toInt = 2 := by decide +kernel
  have q3 : (3 : Int32).toInt = 3 := by decide +kernel
  intro s9 ht h5
  have e := q_len ht.1 ht.2.2.1 ht.2.2.2
  rw [← hr1] at e
  have g0 := hr5y s9 ht (by omega) (by omega)
  rw [show (0 : Int32).toInt.toNat = 0 by decide +kernel] at g0
  have g1 := hr8y s9 ht (by omega) (by omega)
  rw [show (1 : Int32).toInt.toNat = 1 by decide +kernel] at g1
  have g2 := hr11y s9 ht (by omega) (by omega)
  rw [show (2 : Int32).toInt.toNat = 2 by decide +kernel] at g2
  have g3 := hr14y s9 ht (by omega) (by omega)
  rw [show (3 : Int32).toInt.toNat = 3 by decide +kernel] at g3
  rw [if_neg (by omega)]
  have q := q_eq4 (s := s9) (a := k1.toInt) (b := k2.toInt) (c := k3.toInt) (d := k4.toInt)
  refine ⟨fun h9 h8 => ?_, fun h9 => ?_⟩
  · have q := q.mp h8
    omega
  · first | (exfalso; omega) | exact q.mpr (by omega)
-- post2 @93
theorem v_spells_12 (σ : RS) (k0 : Int32) (k1 : Int32) (k2 : Int32) (k3 : Int32) (k4 : Int32) (k5 : Int32) (r1 : Int32) (r5 : Int32) (r8 : Int32) (r11 : Int32) (r14 : Int32) (hpre_0 : 0 ≤ k0.toInt) (hpre_1 : k0.toInt < 980) (hr1 : r1 = LENF ((σ.2.2.1 52) k0.toNatClampNeg)) (c2 : k5.toInt ≤ 0) (c3 : r1.toInt = 4) (hr5y : ∀ s9 : List Int, QTT ((σ.2.2.1 52) k0.toNatClampNeg) ((σ.2.2.1 53) k0.toNatClampNeg) s9 → 0 ≤ (0 : Int32).toInt → (0 : Int32).toInt < 17 → r5.toInt = s9.getD (0 : Int32).toInt.toNat 0) (c6 : r5.toInt = k1.toInt) (hr8y : ∀ s9 : List Int, QTT ((σ.2.2.1 52) k0.toNatClampNeg) ((σ.2.2.1 53) k0.toNatClampNeg) s9 → 0 ≤ (1 : Int32).toInt → (1 : Int32).toInt < 17 → r8.toInt = s9.getD (1 : Int32).toInt.toNat 0) (c9 : r8.toInt = k2.toInt) (hr11y : ∀ s9 : List Int, QTT ((σ.2.2.1 52) k0.toNatClampNeg) ((σ.2.2.1 53) k0.toNatClampNeg) s9 → 0 ≤ (2 : Int32).toInt → (2 : Int32).toInt < 17 → r11.toInt = s9.getD (2 : Int32).toInt.toNat 0) (c12 : r11.toInt = k3.toInt) (hr14y : ∀ s9 : List Int, QTT ((σ.2.2.1 52) k0.toNatClampNeg) ((σ.2.2.1 53) k0.toNatClampNeg) s9 → 0 ≤ (3 : Int32).toInt → (3 : Int32).toInt < 17 → r14.toInt = s9.getD (3 : Int32).toInt.toNat 0) (c15 : r14.toInt = k4.toInt) (c18 : k5.toInt = 0) : ∀ s9 : List Int, QTT ((σ.2.2.1 52) k0.toNatClampNeg) ((σ.2.2.1 53) k0.toNatClampNeg) s9 → 0 ≤ k5.toInt → ((1 : Int32).toInt = 0 → ¬ s9 = (if 0 < k5.toInt then [k1.toInt, k2.toInt, k3.toInt, k4.toInt, k5.toInt] else [k1.toInt, k2.toInt, k3.toInt, k4.toInt])) ∧ (¬ (1 : Int32).toInt = 0 → s9 = (if 0 < k5.toInt then [k1.toInt, k2.toInt, k3.toInt, k4.toInt, k5.toInt] else [k1.toInt, k2.toInt, k3.toInt, k4.toInt])) := by
  have q0 : (0 : Int32).toInt = 0 := by decide +kernel
  have q1 : (1 : Int32).toInt = 1 := by decide +kernel
  have q2 : (2 : Int32).toInt = 2 := by decide +kernel
  have q3 : (3 : Int32).toInt = 3 := by decide +kernel
  intro s9 ht h5
  have e := q_len ht.1 ht.2.2.1 ht.2.2.2
  rw [← hr1] at e
  have g0 := hr5y s9 ht (by omega) (by omega)
  rw [show (0 : Int32).toInt.toNat = 0 by decide +kernel] at g0
  have g1 := hr8y s9 ht (by omega) (by omega)
  rw [show (1 : Int32).toInt.toNat = 1 by decide +kernel] at g1
  have g2 := hr11y s9 ht (by omega) (by omega)
  rw [show (2 : Int32).toInt.toNat = 2 by decide +kernel] at g2
  have g3 := hr14y s9 ht (by omega) (by omega)
  rw [show (3 : Int32).toInt.toNat = 3 by decide +kernel] at g3
  rw [if_neg (by omega)]
  have q := q_eq4 (s := s9) (a := k1.toInt) (b := k2.toInt) (c := k3.toInt) (d := k4.toInt)
  refine ⟨fun h9 h8 => ?_, fun h9 => ?_⟩
  · have q := q.mp h8
    omega
  · first | (exfalso; omega) | exact q.mpr (by omega)
-- bool@ret @93
theorem v_spells_13   : (1 : Int32) = 0 ∨ (1 : Int32) = 1 := by
  have q1 : (1 : Int32).toInt = 1 := by decide +kernel
  first | exact Or.inl rfl | exact Or.inr rfl | exact bool_of (by omega)
-- pre:sign8@80 @80
theorem v_spells_14 (σ : RS) (k0 : Int32) (r1 : Int32) (hpre_0 : 0 ≤ k0.toInt) (hpre_1 : k0.toInt < 980) (hr1 : r1 = LENF ((σ.2.2.1 52) k0.toNatClampNeg)) (c3 : r1.toInt = 4) : 0 ≤ k0.toInt ∧ k0.toInt < 980 ∧ 0 ≤ (4 : Int32).toInt ∧ (4 : Int32).toInt ≤ 200 := by
  have q4 : (4 : Int32).toInt = 4 := by decide +kernel
  refine ⟨?_, ?_, ?_, ?_⟩ <;> first | assumption | omega | (subst_vars; omega) | trivial
-- post2 @93
theorem v_spells_15 (σ : RS) (k0 : Int32) (k1 : Int32) (k2 : Int32) (k3 : Int32) (k4 : Int32) (k5 : Int32) (r1 : Int32) (r5 : Int32) (r8 : Int32) (r11 : Int32) (r14 : Int32) (r19 : Int32) (hpre_0 : 0 ≤ k0.toInt) (hpre_1 : k0.toInt < 980) (hr1 : r1 = LENF ((σ.2.2.1 52) k0.toNatClampNeg)) (c2 : k5.toInt ≤ 0) (c3 : r1.toInt = 4) (hr5y : ∀ s9 : List Int, QTT ((σ.2.2.1 52) k0.toNatClampNeg) ((σ.2.2.1 53) k0.toNatClampNeg) s9 → 0 ≤ (0 : Int32).toInt → (0 : Int32).toInt < 17 → r5.toInt = s9.getD (0 : Int32).toInt.toNat 0) (c6 : r5.toInt = k1.toInt) (hr8y : ∀ s9 : List Int, QTT ((σ.2.2.1 52) k0.toNatClampNeg) ((σ.2.2.1 53) k0.toNatClampNeg) s9 → 0 ≤ (1 : Int32).toInt → (1 : Int32).toInt < 17 → r8.toInt = s9.getD (1 : Int32).toInt.toNat 0) (c9 : r8.toInt = k2.toInt) (hr11y : ∀ s9 : List Int, QTT ((σ.2.2.1 52) k0.toNatClampNeg) ((σ.2.2.1 53) k0.toNatClampNeg) s9 → 0 ≤ (2 : Int32).toInt → (2 : Int32).toInt < 17 → r11.toInt = s9.getD (2 : Int32).toInt.toNat 0) (c12 : r11.toInt = k3.toInt) (hr14y : ∀ s9 : List Int, QTT ((σ.2.2.1 52) k0.toNatClampNeg) ((σ.2.2.1 53) k0.toNatClampNeg) s9 → 0 ≤ (3 : Int32).toInt → (3 : Int32).toInt < 17 → r14.toInt = s9.getD (3 : Int32).toInt.toNat 0) (c15 : r14.toInt = k4.toInt) (c18 : ¬ k5.toInt = 0) (hr19y : ∀ s9 : List Int, QTT ((σ.2.2.1 52) k0.toNatClampNeg) ((σ.2.2.1 53) k0.toNatClampNeg) s9 → 0 ≤ (4 : Int32).toInt → (4 : Int32).toInt < 17 → r19.toInt = s9.getD (4 : Int32).toInt.toNat 0) (c20 : ¬ r19.toInt = k5.toInt) : ∀ s9 : List Int, QTT ((σ.2.2.1 52) k0.toNatClampNeg) ((σ.2.2.1 53) k0.toNatClampNeg) s9 → 0 ≤ k5.toInt → ((0 : Int32).toInt = 0 → ¬ s9 = (if 0 < k5.toInt then [k1.toInt, k2.toInt, k3.toInt, k4.toInt, k5.toInt] else [k1.toInt, k2.toInt, k3.toInt, k4.toInt])) ∧ (¬ (0 : Int32).toInt = 0 → s9 = (if 0 < k5.toInt then [k1.toInt, k2.toInt, k3.toInt, k4.toInt, k5.toInt] else [k1.toInt, k2.toInt, k3.toInt, k4.toInt])) := by
  have q0 : (0 : Int32).toInt = 0 := by decide +kernel
  have q1 : (1 : Int32).toInt = 1 := by decide +kernel
  have q2 : (2 : Int32).toInt = 2 := by decide +kernel
  have q3 : (3 : Int32).toInt = 3 := by decide +kernel
  have q4 : (4 : Int32).toInt = 4 := by decide +kernel
  intro s9 ht h5
  have e := q_len ht.1 ht.2.2.1 ht.2.2.2
  rw [← hr1] at e
  have g0 := hr5y s9 ht (by omega) (by omega)
  rw [show (0 : Int32).toInt.toNat = 0 by decide +kernel] at g0
  have g1 := hr8y s9 ht (by omega) (by omega)
  rw [show (1 : Int32).toInt.toNat = 1 by decide +kernel] at g1
  have g2 := hr11y s9 ht (by omega) (by omega)
  rw [show (2 : Int32).toInt.toNat = 2 by decide +kernel] at g2
  have g3 := hr14y s9 ht (by omega) (by omega)
  rw [show (3 : Int32).toInt.toNat = 3 by decide +kernel] at g3
  have g4 := hr19y s9 ht (by omega) (by omega)
  rw [show (4 : Int32).toInt.toNat = 4 by decide +kernel] at g4
  rw [if_neg (by omega)]
  have q := q_eq4 (s := s9) (a := k1.toInt) (b := k2.toInt) (c := k3.toInt) (d := k4.toInt)
  refine ⟨fun h9 h8 => ?_, fun h9 => ?_⟩
  · have q := q.mp h8
    omega
  · first | (exfalso; omega) | exact q.mpr (by omega)
-- post2 @93
theorem v_spells_16 (σ : RS) (k0 : Int32) (k1 : Int32) (k2 : Int32) (k3 : Int32) (k4 : Int32) (k5 : Int32) (r1 : Int32) (r5 : Int32) (r8 : Int32) (r11 : Int32) (r14 : Int32) (r19 : Int32) (hpre_0 : 0 ≤ k0.toInt) (hpre_1 : k0.toInt < 980) (hr1 : r1 = LENF ((σ.2.2.1 52) k0.toNatClampNeg)) (c2 : k5.toInt ≤ 0) (c3 : r1.toInt = 4) (hr5y : ∀ s9 : List Int, QTT ((σ.2.2.1 52) k0.toNatClampNeg) ((σ.2.2.1 53) k0.toNatClampNeg) s9 → 0 ≤ (0 : Int32).toInt → (0 : Int32).toInt < 17 → r5.toInt = s9.getD (0 : Int32).toInt.toNat 0) (c6 : r5.toInt = k1.toInt) (hr8y : ∀ s9 : List Int, QTT ((σ.2.2.1 52) k0.toNatClampNeg) ((σ.2.2.1 53) k0.toNatClampNeg) s9 → 0 ≤ (1 : Int32).toInt → (1 : Int32).toInt < 17 → r8.toInt = s9.getD (1 : Int32).toInt.toNat 0) (c9 : r8.toInt = k2.toInt) (hr11y : ∀ s9 : List Int, QTT ((σ.2.2.1 52) k0.toNatClampNeg) ((σ.2.2.1 53) k0.toNatClampNeg) s9 → 0 ≤ (2 : Int32).toInt → (2 : Int32).toInt < 17 → r11.toInt = s9.getD (2 : Int32).toInt.toNat 0) (c12 : r11.toInt = k3.toInt) (hr14y : ∀ s9 : List Int, QTT ((σ.2.2.1 52) k0.toNatClampNeg) ((σ.2.2.1 53) k0.toNatClampNeg) s9 → 0 ≤ (3 : Int32).toInt → (3 : Int32).toInt < 17 → r14.toInt = s9.getD (3 : Int32).toInt.toNat 0) (c15 : r14.toInt = k4.toInt) (c18 : ¬ k5.toInt = 0) (hr19y : ∀ s9 : List Int, QTT ((σ.2.2.1 52) k0.toNatClampNeg) ((σ.2.2.1 53) k0.toNatClampNeg) s9 → 0 ≤ (4 : Int32).toInt → (4 : Int32).toInt < 17 → r19.toInt = s9.getD (4 : Int32).toInt.toNat 0) (c20 : r19.toInt = k5.toInt) : ∀ s9 : List Int, QTT ((σ.2.2.1 52) k0.toNatClampNeg) ((σ.2.2.1 53) k0.toNatClampNeg) s9 → 0 ≤ k5.toInt → ((1 : Int32).toInt = 0 → ¬ s9 = (if 0 < k5.toInt then [k1.toInt, k2.toInt, k3.toInt, k4.toInt, k5.toInt] else [k1.toInt, k2.toInt, k3.toInt, k4.toInt])) ∧ (¬ (1 : Int32).toInt = 0 → s9 = (if 0 < k5.toInt then [k1.toInt, k2.toInt, k3.toInt, k4.toInt, k5.toInt] else [k1.toInt, k2.toInt, k3.toInt, k4.toInt])) := by
  have q0 : (0 : Int32).toInt = 0 := by decide +kernel
  have q1 : (1 : Int32).toInt = 1 := by decide +kernel
  have q2 : (2 : Int32).toInt = 2 := by decide +kernel
  have q3 : (3 : Int32).toInt = 3 := by decide +kernel
  have q4 : (4 : Int32).toInt = 4 := by decide +kernel
  intro s9 ht h5
  have e := q_len ht.1 ht.2.2.1 ht.2.2.2
  rw [← hr1] at e
  have g0 := hr5y s9 ht (by omega) (by omega)
  rw [show (0 : Int32).toInt.toNat = 0 by decide +kernel] at g0
  have g1 := hr8y s9 ht (by omega) (by omega)
  rw [show (1 : Int32).toInt.toNat = 1 by decide +kernel] at g1
  have g2 := hr11y s9 ht (by omega) (by omega)
  rw [show (2 : Int32).toInt.toNat = 2 by decide +kernel] at g2
  have g3 := hr14y s9 ht (by omega) (by omega)
  rw [show (3 : Int32).toInt.toNat = 3 by decide +kernel] at g3
  have g4 := hr19y s9 ht (by omega) (by omega)
  rw [show (4 : Int32).toInt.toNat = 4 by decide +kernel] at g4
  rw [if_neg (by omega)]
  have q := q_eq4 (s := s9) (a := k1.toInt) (b := k2.toInt) (c := k3.toInt) (d := k4.toInt)
  refine ⟨fun h9 h8 => ?_, fun h9 => ?_⟩
  · have q := q.mp h8
    omega
  · first | (exfalso; omega) | exact q.mpr (by omega)
-- post2 @93
theorem v_spells_17 (σ : RS) (k0 : Int32) (k1 : Int32) (k2 : Int32) (k3 : Int32) (k4 : Int32) (k5 : Int32) (r1 : Int32) (hpre_0 : 0 ≤ k0.toInt) (hpre_1 : k0.toInt < 980) (hr1 : r1 = LENF ((σ.2.2.1 52) k0.toNatClampNeg)) (c2 : 0 < k5.toInt) (c21 : ¬ r1.toInt = 5) : ∀ s9 : List Int, QTT ((σ.2.2.1 52) k0.toNatClampNeg) ((σ.2.2.1 53) k0.toNatClampNeg) s9 → 0 ≤ k5.toInt → ((0 : Int32).toInt = 0 → ¬ s9 = (if 0 < k5.toInt then [k1.toInt, k2.toInt, k3.toInt, k4.toInt, k5.toInt] else [k1.toInt, k2.toInt, k3.toInt, k4.toInt])) ∧ (¬ (0 : Int32).toInt = 0 → s9 = (if 0 < k5.toInt then [k1.toInt, k2.toInt, k3.toInt, k4.toInt, k5.toInt] else [k1.toInt, k2.toInt, k3.toInt, k4.toInt])) := by
  have q0 : (0 : Int32).toInt = 0 := by decide +kernel
  intro s9 ht h5
  have e := q_len ht.1 ht.2.2.1 ht.2.2.2
  rw [← hr1] at e
  rw [if_pos (by omega)]
  have q := q_eq5 (s := s9) (a := k1.toInt) (b := k2.toInt) (c := k3.toInt) (d := k4.toInt) (e := k5.toInt)
  refine ⟨fun h9 h8 => ?_, fun h9 => ?_⟩
  · have q := q.mp h8
    omega
  · first | (exfalso; omega) | exact q.mpr (by omega)
-- pre:sign8@21 @21
theorem v_spells_18 (σ : RS) (k0 : Int32) (r1 : Int32) (hpre_0 : 0 ≤ k0.toInt) (hpre_1 : k0.toInt < 980) (hr1 : r1 = LENF ((σ.2.2.1 52) k0.toNatClampNeg)) (c21 : r1.toInt = 5) : 0 ≤ k0.toInt ∧ k0.toInt < 980 ∧ 0 ≤ (0 : Int32).toInt ∧ (0 : Int32).toInt ≤ 200 := by
  have q0 : (0 : Int32).toInt = 0 := by decide +kernel
  refine ⟨?_, ?_, ?_, ?_⟩ <;> first | assumption | omega | (subst_vars; omega) | trivial
-- post2 @93
theorem v_spells_19 (σ : RS) (k0 : Int32) (k1 : Int32) (k2 : Int32) (k3 : Int32) (k4 : Int32) (k5 : Int32) (r1 : Int32) (r23 : Int32) (hpre_0 : 0 ≤ k0.toInt) (hpre_1 : k0.toInt < 980) (hr1 : r1 = LENF ((σ.2.2.1 52) k0.toNatClampNeg)) (c2 : 0 < k5.toInt) (c21 : r1.toInt = 5) (hr23y : ∀ s9 : List Int, QTT ((σ.2.2.1 52) k0.toNatClampNeg) ((σ.2.2.1 53) k0.toNatClampNeg) s9 → 0 ≤ (0 : Int32).toInt → (0 : Int32).toInt < 17 → r23.toInt = s9.getD (0 : Int32).toInt.toNat 0) (c24 : ¬ r23.toInt = k1.toInt) : ∀ s9 : List Int, QTT ((σ.2.2.1 52) k0.toNatClampNeg) ((σ.2.2.1 53) k0.toNatClampNeg) s9 → 0 ≤ k5.toInt → ((0 : Int32).toInt = 0 → ¬ s9 = (if 0 < k5.toInt then [k1.toInt, k2.toInt, k3.toInt, k4.toInt, k5.toInt] else [k1.toInt, k2.toInt, k3.toInt, k4.toInt])) ∧ (¬ (0 : Int32).toInt = 0 → s9 = (if 0 < k5.toInt then [k1.toInt, k2.toInt, k3.toInt, k4.toInt, k5.toInt] else [k1.toInt, k2.toInt, k3.toInt, k4.toInt])) := by
  have q0 : (0 : Int32).toInt = 0 := by decide +kernel
  intro s9 ht h5
  have e := q_len ht.1 ht.2.2.1 ht.2.2.2
  rw [← hr1] at e
  have g0 := hr23y s9 ht (by omega) (by omega)
  rw [show (0 : Int32).toInt.toNat = 0 by decide +kernel] at g0
  rw [if_pos (by omega)]
  have q := q_eq5 (s := s9) (a := k1.toInt) (b := k2.toInt) (c := k3.toInt) (d := k4.toInt) (e := k5.toInt)
  refine ⟨fun h9 h8 => ?_, fun h9 => ?_⟩
  · have q := q.mp h8
    omega
  · first | (exfalso; omega) | exact q.mpr (by omega)
-- pre:sign8@31 @31
theorem v_spells_20 (σ : RS) (k0 : Int32) (r1 : Int32) (hpre_0 : 0 ≤ k0.toInt) (hpre_1 : k0.toInt < 980) (hr1 : r1 = LENF ((σ.2.2.1 52) k0.toNatClampNeg)) (c21 : r1.toInt = 5) : 0 ≤ k0.toInt ∧ k0.toInt < 980 ∧ 0 ≤ (1 : Int32).toInt ∧ (1 : Int32).toInt ≤ 200 := by
  have q1 : (1 : Int32).toInt = 1 := by decide +kernel
  refine ⟨?_, ?_, ?_, ?_⟩ <;> first | assumption | omega | (subst_vars; omega) | trivial
-- post2 @93
theorem v_spells_21 (σ : RS) (k0 : Int32) (k1 : Int32) (k2 : Int32) (k3 : Int32) (k4 : Int32) (k5 : Int32) (r1 : Int32) (r23 : Int32) (r26 : Int32) (hpre_0 : 0 ≤ k0.toInt) (hpre_1 : k0.toInt < 980) (hr1 : r1 = LENF ((σ.2.2.1 52) k0.toNatClampNeg)) (c2 : 0 < k5.toInt) (c21 : r1.toInt = 5) (hr23y : ∀ s9 : List Int, QTT ((σ.2.2.1 52) k0.toNatClampNeg) ((σ.2.2.1 53) k0.toNatClampNeg) s9 → 0 ≤ (0 : Int32).toInt → (0 : Int32).toInt < 17 → r23.toInt = s9.getD (0 : Int32).toInt.toNat 0) (c24 : r23.toInt = k1.toInt) (hr26y : ∀ s9 : List Int, QTT ((σ.2.2.1 52) k0.toNatClampNeg) ((σ.2.2.1 53) k0.toNatClampNeg) s9 → 0 ≤ (1 : Int32).toInt → (1 : Int32).toInt < 17 → r26.toInt = s9.getD (1 : Int32).toInt.toNat 0) (c27 : ¬ r26.toInt = k2.toInt) : ∀ s9 : List Int, QTT ((σ.2.2.1 52) k0.toNatClampNeg) ((σ.2.2.1 53) k0.toNatClampNeg) s9 → 0 ≤ k5.toInt → ((0 : Int32).toInt = 0 → ¬ s9 = (if 0 < k5.toInt then [k1.toInt, k2.toInt, k3.toInt, k4.toInt, k5.toInt] else [k1.toInt, k2.toInt, k3.toInt, k4.toInt])) ∧ (¬ (0 : Int32).toInt = 0 → s9 = (if 0 < k5.toInt then [k1.toInt, k2.toInt, k3.toInt, k4.toInt, k5.toInt] else [k1.toInt, k2.toInt, k3.toInt, k4.toInt])) := by
  have q0 : (0 : Int32).toInt = 0 := by decide +kernel
  have q1 : (1 : Int32).toInt = 1 := by decide +kernel
  intro s9 ht h5
  have e := q_len ht.1 ht.2.2.1 ht.2.2.2
  rw [← hr1] at e
  have g0 := hr23y s9 ht (by omega) (by omega)
  rw [show (0 : Int32).toInt.toNat = 0 by decide +kernel] at g0
  have g1 := hr26y s9 ht (by omega) (by omega)
  rw [show (1 : Int32).toInt.toNat = 1 by decide +kernel] at g1
  rw [if_pos (by omega)]
  have q := q_eq5 (s := s9) (a := k1.toInt) (b := k2.toInt) (c := k3.toInt) (d := k4.toInt) (e := k5.toInt)
  refine ⟨fun h9 h8 => ?_, fun h9 => ?_⟩
  · have q := q.mp h8
    omega
  · first | (exfalso; omega) | exact q.mpr (by omega)
-- pre:sign8@41 @41
theorem v_spells_22 (σ : RS) (k0 : Int32) (r1 : Int32) (hpre_0 : 0 ≤ k0.toInt) (hpre_1 : k0.toInt < 980) (hr1 : r1 = LENF ((σ.2.2.1 52) k0.toNatClampNeg)) (c21 : r1.toInt = 5) : 0 ≤ k0.toInt ∧ k0.toInt < 980 ∧ 0 ≤ (2 : Int32).toInt ∧ (2 : Int32).toInt ≤ 200 := by
  have q2 : (2 : Int32).toInt = 2 := by decide +kernel
  refine ⟨?_, ?_, ?_, ?_⟩ <;> first | assumption | omega | (subst_vars; omega) | trivial
-- post2 @93
theorem v_spells_23 (σ : RS) (k0 : Int32) (k1 : Int32) (k2 : Int32) (k3 : Int32) (k4 : Int32) (k5 : Int32) (r1 : Int32) (r23 : Int32) (r26 : Int32) (r29 : Int32) (hpre_0 : 0 ≤ k0.toInt) (hpre_1 : k0.toInt < 980) (hr1 : r1 = LENF ((σ.2.2.1 52) k0.toNatClampNeg)) (c2 : 0 < k5.toInt) (c21 : r1.toInt = 5) (hr23y : ∀ s9 : List Int, QTT ((σ.2.2.1 52) k0.toNatClampNeg) ((σ.2.2.1 53) k0.toNatClampNeg) s9 → 0 ≤ (0 : Int32).toInt → (0 : Int32).toInt < 17 → r23.toInt = s9.getD (0 : Int32).toInt.toNat 0) (c24 : r23.toInt = k1.toInt) (hr26y : ∀ s9 : List Int, QTT ((σ.2.2.1 52) k0.toNatClampNeg) ((σ.2.2.1 53) k0.toNatClampNeg) s9 → 0 ≤ (1 : Int32).toInt → (1 : Int32).toInt < 17 → r26.toInt = s9.getD (1 : Int32).toInt.toNat 0) (c27 : r26.toInt = k2.toInt) (hr29y : ∀ s9 : List Int, QTT ((σ.2.2.1 52) k0.toNatClampNeg) ((σ.2.2.1 53) k0.toNatClampNeg) s9 → 0 ≤ (2 : Int32).toInt → (2 : Int32).toInt < 17 → r29.toInt = s9.getD (2 : Int32).toInt.toNat 0) (c30 : ¬ r29.toInt = k3.toInt) : ∀ s9 : List Int, QTT ((σ.2.2.1 52) k0.toNatClampNeg) ((σ.2.2.1 53) k0.toNatClampNeg) s9 → 0 ≤ k5.toInt → ((0 : Int32).toInt = 0 → ¬ s9 = (if 0 < k5.toInt then [k1.toInt, k2.toInt, k3.toInt, k4.toInt, k5.toInt] else [k1.toInt, k2.toInt, k3.toInt, k4.toInt])) ∧ (¬ (0 : Int32).toInt = 0 → s9 = (if 0 < k5.toInt then [k1.toInt, k2.toInt, k3.toInt, k4.toInt, k5.toInt] else [k1.toInt, k2.toInt, k3.toInt, k4.toInt])) := by
  have q0 : (0 : Int32).toInt = 0 := by decide +kernel
  have q1 : (1 : Int32).toInt = 1 := by decide +kernel
  have q2 : (2 : Int32).toInt = 2 := by decide +kernel
  intro s9 ht h5
  have e := q_len ht.1 ht.2.2.1 ht.2.2.2
  rw [← hr1] at e
  have g0 := hr23y s9 ht (by omega) (by omega)
  rw [show (0 : Int32).toInt.toNat = 0 by decide +kernel] at g0
  have g1 := hr26y s9 ht (by omega) (by omega)
  rw [show (1 : Int32).toInt.toNat = 1 by decide +kernel] at g1
  have g2 := hr29y s9 ht (by omega) (by omega)
  rw [show (2 : Int32).toInt.toNat = 2 by decide +kernel] at g2
  rw [if_pos (by omega)]
  have q := q_eq5 (s := s9) (a := k1.toInt) (b := k2.toInt) (c := k3.toInt) (d := k4.toInt) (e := k5.toInt)
  refine ⟨fun h9 h8 => ?_, fun h9 => ?_⟩
  · have q := q.mp h8
    omega
  · first | (exfalso; omega) | exact q.mpr (by omega)
-- pre:sign8@52 @52
theorem v_spells_24 (σ : RS) (k0 : Int32) (r1 : Int32) (hpre_0 : 0 ≤ k0.toInt) (hpre_1 : k0.toInt < 980) (hr1 : r1 = LENF ((σ.2.2.1 52) k0.toNatClampNeg)) (c21 : r1.toInt = 5) : 0 ≤ k0.toInt ∧ k0.toInt < 980 ∧ 0 ≤ (3 : Int32).toInt ∧ (3 : Int32).toInt ≤ 200 := by
  have q3 : (3 : Int32).toInt = 3 := by decide +kernel
  refine ⟨?_, ?_, ?_, ?_⟩ <;> first | assumption | omega | (subst_vars; omega) | trivial
-- post2 @93
theorem v_spells_25 (σ : RS) (k0 : Int32) (k1 : Int32) (k2 : Int32) (k3 : Int32) (k4 : Int32) (k5 : Int32) (r1 : Int32) (r23 : Int32) (r26 : Int32) (r29 : Int32) (r32 : Int32) (hpre_0 : 0 ≤ k0.toInt) (hpre_1 : k0.toInt < 980) (hr1 : r1 = LENF ((σ.2.2.1 52) k0.toNatClampNeg)) (c2 : 0 < k5.toInt) (c21 : r1.toInt = 5) (hr23y : ∀ s9 : List Int, QTT ((σ.2.2.1 52) k0.toNatClampNeg) ((σ.2.2.1 53) k0.toNatClampNeg) s9 → 0 ≤ (0 : Int32).toInt → (0 : Int32).toInt < 17 → r23.toInt = s9.getD (0 : Int32).toInt.toNat 0) (c24 : r23.toInt = k1.toInt) (hr26y : ∀ s9 : List Int, QTT ((σ.2.2.1 52) k0.toNatClampNeg) ((σ.2.2.1 53) k0.toNatClampNeg) s9 → 0 ≤ (1 : Int32).toInt → (1 : Int32).toInt < 17 → r26.toInt = s9.getD (1 : Int32).toInt.toNat 0) (c27 : r26.toInt = k2.toInt) (hr29y : ∀ s9 : List Int, QTT ((σ.2.2.1 52) k0.toNatClampNeg) ((σ.2.2.1 53) k0.toNatClampNeg) s9 → 0 ≤ (2 : Int32).toInt → (2 : Int32).toInt < 17 → r29.toInt = s9.getD (2 : Int32).toInt.toNat 0) (c30 : r29.toInt = k3.toInt) (hr32y : ∀ s9 : List Int, QTT ((σ.2.2.1 52) k0.toNatClampNeg) ((σ.2.2.1 53) k0.toNatClampNeg) s9 → 0 ≤ (3 : Int32).toInt → (3 : Int32).toInt < 17 → r32.toInt = s9.getD (3 : Int32).toInt.toNat 0) (c33 : ¬ r32.toInt = k4.toInt) : ∀ s9 : List Int, QTT ((σ.2.2.1 52) k0.toNatClampNeg) ((σ.2.2.1 53) k0.toNatClampNeg) s9 → 0 ≤ k5.toInt → ((0 : Int32).toInt = 0 → ¬ s9 = (if 0 < k5.toInt then [k1.toInt, k2.toInt, k3.toInt, k4.toInt, k5.toInt] else [k1.toInt, k2.toInt, k3.toInt, k4.toInt])) ∧ (¬ (0 : Int32).toInt = 0 → s9 = (if 0 < k5.toInt then [k1.toInt, k2.toInt, k3.toInt, k4.toInt, k5.toInt] else [k1.toInt, k2.toInt, k3.toInt, k4.toInt])) := by
  have q0 : (0 : Int32).toInt = 0 := by decide +kernel
  have q1 : (1 : Int32).toInt = 1 := by decide +kernel
  have q2 : (2 : Int32).toInt = 2 := by decide +kernel
  have q3 : (3 : Int32).toInt = 3 := by decide +kernel
  intro s9 ht h5
  have e := q_len ht.1 ht.2.2.1 ht.2.2.2
  rw [← hr1] at e
  have g0 := hr23y s9 ht (by omega) (by omega)
  rw [show (0 : Int32).toInt.toNat = 0 by decide +kernel] at g0
  have g1 := hr26y s9 ht (by omega) (by omega)
  rw [show (1 : Int32).toInt.toNat = 1 by decide +kernel] at g1
  have g2 := hr29y s9 ht (by omega) (by omega)
  rw [show (2 : Int32).toInt.toNat = 2 by decide +kernel] at g2
  have g3 := hr32y s9 ht (by omega) (by omega)
  rw [show (3 : Int32).toInt.toNat = 3 by decide +kernel] at g3
  rw [if_pos (by omega)]
  have q := q_eq5 (s := s9) (a := k1.toInt) (b := k2.toInt) (c := k3.toInt) (d := k4.toInt) (e := k5.toInt)
  refine ⟨fun h9 h8 => ?_, fun h9 => ?_⟩
  · have q := q.mp h8
    omega
  · first | (exfalso; omega) | exact q.mpr (by omega)
-- dead@74 @88
theorem v_spells_26 (k5 : Int32) (c2 : 0 < k5.toInt) (c36 : k5.toInt = 0) : False := by
  first | assumption | omega | (subst_vars; omega) | trivial
-- pre:sign8@80 @80
theorem v_spells_27 (σ : RS) (k0 : Int32) (r1 : Int32) (hpre_0 : 0 ≤ k0.toInt) (hpre_1 : k0.toInt < 980) (hr1 : r1 = LENF ((σ.2.2.1 52) k0.toNatClampNeg)) (c21 : r1.toInt = 5) : 0 ≤ k0.toInt ∧ k0.toInt < 980 ∧ 0 ≤ (4 : Int32).toInt ∧ (4 : Int32).toInt ≤ 200 := by
  have q4 : (4 : Int32).toInt = 4 := by decide +kernel
  refine ⟨?_, ?_, ?_, ?_⟩ <;> first | assumption | omega | (subst_vars; omega) | trivial
-- post2 @93
theorem v_spells_28 (σ : RS) (k0 : Int32) (k1 : Int32) (k2 : Int32) (k3 : Int32) (k4 : Int32) (k5 : Int32) (r1 : Int32) (r23 : Int32) (r26 : Int32) (r29 : Int32) (r32 : Int32) (r37 : Int32) (hpre_0 : 0 ≤ k0.toInt) (hpre_1 : k0.toInt < 980) (hr1 : r1 = LENF ((σ.2.2.1 52) k0.toNatClampNeg)) (c2 : 0 < k5.toInt) (c21 : r1.toInt = 5) (hr23y : ∀ s9 : List Int, QTT ((σ.2.2.1 52) k0.toNatClampNeg) ((σ.2.2.1 53) k0.toNatClampNeg) s9 → 0 ≤ (0 : Int32).toInt → (0 : Int32).toInt < 17 → r23.toInt = s9.getD (0 : Int32).toInt.toNat 0) (c24 : r23.toInt = k1.toInt) (hr26y : ∀ s9 : List Int, QTT ((σ.2.2.1 52) k0.toNatClampNeg) ((σ.2.2.1 53) k0.toNatClampNeg) s9 → 0 ≤ (1 : Int32).toInt → (1 : Int32).toInt < 17 → r26.toInt = s9.getD (1 : Int32).toInt.toNat 0) (c27 : r26.toInt = k2.toInt) (hr29y : ∀ s9 : List Int, QTT ((σ.2.2.1 52) k0.toNatClampNeg) ((σ.2.2.1 53) k0.toNatClampNeg) s9 → 0 ≤ (2 : Int32).toInt → (2 : Int32).toInt < 17 → r29.toInt = s9.getD (2 : Int32).toInt.toNat 0) (c30 : r29.toInt = k3.toInt) (hr32y : ∀ s9 : List Int, QTT ((σ.2.2.1 52) k0.toNatClampNeg) ((σ.2.2.1 53) k0.toNatClampNeg) s9 → 0 ≤ (3 : Int32).toInt → (3 : Int32).toInt < 17 → r32.toInt = s9.getD (3 : Int32).toInt.toNat 0) (c33 : r32.toInt = k4.toInt) (c36 : ¬ k5.toInt = 0) (hr37y : ∀ s9 : List Int, QTT ((σ.2.2.1 52) k0.toNatClampNeg) ((σ.2.2.1 53) k0.toNatClampNeg) s9 → 0 ≤ (4 : Int32).toInt → (4 : Int32).toInt < 17 → r37.toInt = s9.getD (4 : Int32).toInt.toNat 0) (c38 : ¬ r37.toInt = k5.toInt) : ∀ s9 : List Int, QTT ((σ.2.2.1 52) k0.toNatClampNeg) ((σ.2.2.1 53) k0.toNatClampNeg) s9 → 0 ≤ k5.toInt → ((0 : Int32).toInt = 0 → ¬ s9 = (if 0 < k5.toInt then [k1.toInt, k2.toInt, k3.toInt, k4.toInt, k5.toInt] else [k1.toInt, k2.toInt, k3.toInt, k4.toInt])) ∧ (¬ (0 : Int32).toInt = 0 → s9 = (if 0 < k5.toInt then [k1.toInt, k2.toInt, k3.toInt, k4.toInt, k5.toInt] else [k1.toInt, k2.toInt, k3.toInt, k4.toInt])) := by
  have q0 : (0 : Int32).toInt = 0 := by decide +kernel
  have q1 : (1 : Int32).toInt = 1 := by decide +kernel
  have q2 : (2 : Int32).toInt = 2 := by decide +kernel
  have q3 : (3 : Int32).toInt = 3 := by decide +kernel
  have q4 : (4 : Int32).toInt = 4 := by decide +kernel
  intro s9 ht h5
  have e := q_len ht.1 ht.2.2.1 ht.2.2.2
  rw [← hr1] at e
  have g0 := hr23y s9 ht (by omega) (by omega)
  rw [show (0 : Int32).toInt.toNat = 0 by decide +kernel] at g0
  have g1 := hr26y s9 ht (by omega) (by omega)
  rw [show (1 : Int32).toInt.toNat = 1 by decide +kernel] at g1
  have g2 := hr29y s9 ht (by omega) (by omega)
  rw [show (2 : Int32).toInt.toNat = 2 by decide +kernel] at g2
  have g3 := hr32y s9 ht (by omega) (by omega)
  rw [show (3 : Int32).toInt.toNat = 3 by decide +kernel] at g3
  have g4 := hr37y s9 ht (by omega) (by omega)
  rw [show (4 : Int32).toInt.toNat = 4 by decide +kernel] at g4
  rw [if_pos (by omega)]
  have q := q_eq5 (s := s9) (a := k1.toInt) (b := k2.toInt) (c := k3.toInt) (d := k4.toInt) (e := k5.toInt)
  refine ⟨fun h9 h8 => ?_, fun h9 => ?_⟩
  · have q := q.mp h8
    omega
  · first | (exfalso; omega) | exact q.mpr (by omega)
-- post2 @93
theorem v_spells_29 (σ : RS) (k0 : Int32) (k1 : Int32) (k2 : Int32) (k3 : Int32) (k4 : Int32) (k5 : Int32) (r1 : Int32) (r23 : Int32) (r26 : Int32) (r29 : Int32) (r32 : Int32) (r37 : Int32) (hpre_0 : 0 ≤ k0.toInt) (hpre_1 : k0.toInt < 980) (hr1 : r1 = LENF ((σ.2.2.1 52) k0.toNatClampNeg)) (c2 : 0 < k5.toInt) (c21 : r1.toInt = 5) (hr23y : ∀ s9 : List Int, QTT ((σ.2.2.1 52) k0.toNatClampNeg) ((σ.2.2.1 53) k0.toNatClampNeg) s9 → 0 ≤ (0 : Int32).toInt → (0 : Int32).toInt < 17 → r23.toInt = s9.getD (0 : Int32).toInt.toNat 0) (c24 : r23.toInt = k1.toInt) (hr26y : ∀ s9 : List Int, QTT ((σ.2.2.1 52) k0.toNatClampNeg) ((σ.2.2.1 53) k0.toNatClampNeg) s9 → 0 ≤ (1 : Int32).toInt → (1 : Int32).toInt < 17 → r26.toInt = s9.getD (1 : Int32).toInt.toNat 0) (c27 : r26.toInt = k2.toInt) (hr29y : ∀ s9 : List Int, QTT ((σ.2.2.1 52) k0.toNatClampNeg) ((σ.2.2.1 53) k0.toNatClampNeg) s9 → 0 ≤ (2 : Int32).toInt → (2 : Int32).toInt < 17 → r29.toInt = s9.getD (2 : Int32).toInt.toNat 0) (c30 : r29.toInt = k3.toInt) (hr32y : ∀ s9 : List Int, QTT ((σ.2.2.1 52) k0.toNatClampNeg) ((σ.2.2.1 53) k0.toNatClampNeg) s9 → 0 ≤ (3 : Int32).toInt → (3 : Int32).toInt < 17 → r32.toInt = s9.getD (3 : Int32).toInt.toNat 0) (c33 : r32.toInt = k4.toInt) (c36 : ¬ k5.toInt = 0) (hr37y : ∀ s9 : List Int, QTT ((σ.2.2.1 52) k0.toNatClampNeg) ((σ.2.2.1 53) k0.toNatClampNeg) s9 → 0 ≤ (4 : Int32).toInt → (4 : Int32).toInt < 17 → r37.toInt = s9.getD (4 : Int32).toInt.toNat 0) (c38 : r37.toInt = k5.toInt) : ∀ s9 : List Int, QTT ((σ.2.2.1 52) k0.toNatClampNeg) ((σ.2.2.1 53) k0.toNatClampNeg) s9 → 0 ≤ k5.toInt → ((1 : Int32).toInt = 0 → ¬ s9 = (if 0 < k5.toInt then [k1.toInt, k2.toInt, k3.toInt, k4.toInt, k5.toInt] else [k1.toInt, k2.toInt, k3.toInt, k4.toInt])) ∧ (¬ (1 : Int32).toInt = 0 → s9 = (if 0 < k5.toInt then [k1.toInt, k2.toInt, k3.toInt, k4.toInt, k5.toInt] else [k1.toInt, k2.toInt, k3.toInt, k4.toInt])) := by
  have q0 : (0 : Int32).toInt = 0 := by decide +kernel
  have q1 : (1 : Int32).toInt = 1 := by decide +kernel
  have q2 : (2 : Int32).toInt = 2 := by decide +kernel
  have q3 : (3 : Int32).toInt = 3 := by decide +kernel
  have q4 : (4 : Int32).toInt = 4 := by decide +kernel
  intro s9 ht h5
  have e := q_len ht.1 ht.2.2.1 ht.2.2.2
  rw [← hr1] at e
  have g0 := hr23y s9 ht (by omega) (by omega)
  rw [show (0 : Int32).toInt.toNat = 0 by decide +kernel] at g0
  have g1 := hr26y s9 ht (by omega) (by omega)
  rw [show (1 : Int32).toInt.toNat = 1 by decide +kernel] at g1
  have g2 := hr29y s9 ht (by omega) (by omega)
  rw [show (2 : Int32).toInt.toNat = 2 by decide +kernel] at g2
  have g3 := hr32y s9 ht (by omega) (by omega)
  rw [show (3 : Int32).toInt.toNat = 3 by decide +kernel] at g3
  have g4 := hr37y s9 ht (by omega) (by omega)
  rw [show (4 : Int32).toInt.toNat = 4 by decide +kernel] at g4
  rw [if_pos (by omega)]
  have q := q_eq5 (s := s9) (a := k1.toInt) (b := k2.toInt) (c := k3.toInt) (d := k4.toInt) (e := k5.toInt)
  refine ⟨fun h9 h8 => ?_, fun h9 => ?_⟩
  · have q := q.mp h8
    omega
  · first | (exfalso; omega) | exact q.mpr (by omega)
set_option maxHeartbeats 4000000 in
set_option maxRecDepth 100000 in
theorem M_spells (l : Launch) (D : va_G) (cy : Nat → ClassId) (sz0 : Nat) (sa : Nat → Nat) (ad : Nat → Nat) (σ : RS) (sz : Nat) (k0 : Int32) (k1 : Int32) (k2 : Int32) (k3 : Int32) (k4 : Int32) (k5 : Int32) (hpre : 0 ≤ k0.toInt ∧ k0.toInt < 980) : Met l yX12_spells (Cond.code yX12_spells cX12_spells 8 (some .boolean) :: GWm) ({ frames := 1, cells := 0, slots := 0, locals := 22 }) (PcR D cy sz0 sa ad [.ref (ad 0), .int k0, .int k1, .int k2, .int k3, .int k4, .int k5] σ sz) (va_Qi (fun (r : Int32) (u : Unit) => (True) ∧ (∀ s9 : List Int, QTT ((σ.2.2.1 52) k0.toNatClampNeg) ((σ.2.2.1 53) k0.toNatClampNeg) s9 → 0 ≤ k5.toInt → (r.toInt = 0 → ¬ s9 = (if 0 < k5.toInt then [k1.toInt, k2.toInt, k3.toInt, k4.toInt, k5.toInt] else [k1.toInt, k2.toInt, k3.toInt, k4.toInt])) ∧ (¬ r.toInt = 0 → s9 = (if 0 < k5.toInt then [k1.toInt, k2.toInt, k3.toInt, k4.toInt, k5.toInt] else [k1.toInt, k2.toInt, k3.toInt, k4.toInt])))) (fun (u : Unit) (t : State) => RP D cy ad σ t.heap) (AR cy ad sz)) 0 0 (AR cy ad sz) := by
  refine RM_of (loc0 := [(0, .ref (ad 0)), (1, .int k0), (2, .int k1), (3, .int k2), (4, .int k3), (5, .int k4), (6, .int k5)]) (by decide) rfl rfl (Nat.le_of_ble_eq_true rfl) ?_
  intro p e s m below meth c ls hsz C hP hS hl
  have hx := C.1
  have hb := C.2.1
  have hown := C.2.2.2.2.1
  have hw := C.2.2.2.2.2.1
  clear hsz
  obtain ⟨hpre_0, hpre_1⟩ := hpre
  refine lv_aload_n hx hb dX12_spells_0 rfl (lv_at hl 0 rfl) ?_
  refine lv_iload_n hx hb dX12_spells_1 rfl (lv_at hl 1 rfl) ?_
  refine r_callVi (As := [.int k0]) (rest := []) C hP hS hl.1 ⟨Nat.zero_le _, Nat.zero_le _⟩ (M_lengthOf l D cy sz0 sa ad σ s.heap.size k0 (v_spells_1 k0 hpre_0 hpre_1)) (n := 1) ⟨wm_228, wm_216, by decide +kernel⟩ ⟨wm_229, wm_230, wm_10⟩ rfl rfl (lv_room (Nat.le_of_ble_eq_true rfl)) ⟨Nat.le_of_ble_eq_true rfl, Nat.le_of_ble_eq_true rfl⟩ dX12_spells_2 (fun r1 u H locs hr1 hP hS => ?_)
  have hr1 : r1 = LENF ((σ.2.2.1 52) k0.toNatClampNeg) := hr1
  refine lv_iload hx hb dX12_spells_5 (lv_at hl 6 rfl) ?_
  refine lv_if_le (tgt := 14) hx hb dX12_spells_7 (by decide) (fun c2 => ?_) (fun c2 => ?_)
  · have c2 : k5.toInt ≤ 0 := by have h := z_le c2; rw [show (0 : Int32).toInt = 0 from by decide +kernel] at h; exact h
    refine lv_iconst (v := 4) hx hb dX12_spells_14 (by decide +kernel) ?_
    refine lv_icmp_ne (tgt := 64) hx hb dX12_spells_15 (by decide) (fun c3 => ?_) (fun c3 => ?_)
    · have c3 : ¬ r1.toInt = 4 := by have h := z_ne c3; rw [show (4 : Int32).toInt = 4 from by decide +kernel] at h; exact h
      refine lv_iconst (v := 0) hx hb dX12_spells_64 (by decide +kernel) ?_
      refine lv_istore (lv' := [(7, .int 0), (0, .ref (ad 0)), (1, .int k0), (2, .int k1), (3, .int k2), (4, .int k3), (5, .int k4), (6, .int k5)]) hx hb dX12_spells_65 hl (by decide) rfl (fun ls hl => ?_)
      refine lv_iload hx hb dX12_spells_67 (lv_at hl 0 rfl) ?_
      refine lv_if_eq (tgt := 92) hx hb dX12_spells_69 (by decide) (fun _ => ?_) (fun c4 => absurd (by decide +kernel) c4)
      refine lv_iconst (v := 0) hx hb dX12_spells_92 (by decide +kernel) ?_
      exact r_retz C () (v_spells_3  ) ⟨trivial, (v_spells_2 σ k0 k1 k2 k3 k4 k5 r1 hpre_0 hpre_1 hr1 c2 c3)⟩ hP hS dX12_spells_93
    · have c3 : r1.toInt = 4 := by have h := z_eq c3; rw [show (4 : Int32).toInt = 4 from by decide +kernel] at h; exact h
      refine lv_aload_n hx hb dX12_spells_18 rfl (lv_at hl 0 rfl) ?_
      refine lv_iload_n hx hb dX12_spells_19 rfl (lv_at hl 1 rfl) ?_
      refine lv_iconst (v := 0) hx hb dX12_spells_20 (by decide +kernel) ?_
      refine r_callVi (As := [.int k0, .int 0]) (rest := []) C hP hS hl.1 ⟨Nat.zero_le _, Nat.zero_le _⟩ (M_sign8 l D cy sz0 sa ad σ H.size k0 (0 : Int32) (v_spells_4 σ k0 r1 hpre_0 hpre_1 hr1 c3)) (n := 2) ⟨wm_231, wm_217, by decide +kernel⟩ ⟨wm_232, wm_233, wm_10⟩ rfl rfl (lv_room (Nat.le_of_ble_eq_true rfl)) ⟨Nat.le_of_ble_eq_true rfl, Nat.le_of_ble_eq_true rfl⟩ dX12_spells_21 (fun r5 u H locs hr5 hP hS => ?_)
      obtain ⟨hr5, hr5y⟩ := hr5
      have hr5y : ∀ s9 : List Int, QTT ((σ.2.2.1 52) k0.toNatClampNeg) ((σ.2.2.1 53) k0.toNatClampNeg) s9 → 0 ≤ (0 : Int32).toInt → (0 : Int32).toInt < 17 → r5.toInt = s9.getD (0 : Int32).toInt.toNat 0 := hr5y
      have hr5 : True := hr5
      refine lv_iload_n hx hb dX12_spells_24 rfl (lv_at hl 2 rfl) ?_
      refine lv_icmp_ne (tgt := 64) hx hb dX12_spells_25 (by decide) (fun c6 => ?_) (fun c6 => ?_)
      · have c6 : ¬ r5.toInt = k1.toInt := by have h := z_ne c6; exact h
        refine lv_iconst (v := 0) hx hb dX12_spells_64 (by decide +kernel) ?_
        refine lv_istore (lv' := [(7, .int 0), (0, .ref (ad 0)), (1, .int k0), (2, .int k1), (3, .int k2), (4, .int k3), (5, .int k4), (6, .int k5)]) hx hb dX12_spells_65 hl (by decide) rfl (fun ls hl => ?_)
        refine lv_iload hx hb dX12_spells_67 (lv_at hl 0 rfl) ?_
        refine lv_if_eq (tgt := 92) hx hb dX12_spells_69 (by decide) (fun _ => ?_) (fun c7 => absurd (by decide +kernel) c7)
        refine lv_iconst (v := 0) hx hb dX12_spells_92 (by decide +kernel) ?_
        exact r_retz C () (v_spells_3  ) ⟨trivial, (v_spells_5 σ k0 k1 k2 k3 k4 k5 r1 r5 hpre_0 hpre_1 hr1 c2 c3 hr5y c6)⟩ hP hS dX12_spells_93
      · have c6 : r5.toInt = k1.toInt := by have h := z_eq c6; exact h
        refine lv_aload_n hx hb dX12_spells_28 rfl (lv_at hl 0 rfl) ?_
        refine lv_iload_n hx hb dX12_spells_29 rfl (lv_at hl 1 rfl) ?_
        refine lv_iconst (v := 1) hx hb dX12_spells_30 (by decide +kernel) ?_
        refine r_callVi (As := [.int k0, .int 1]) (rest := []) C hP hS hl.1 ⟨Nat.zero_le _, Nat.zero_le _⟩ (M_sign8 l D cy sz0 sa ad σ H.size k0 (1 : Int32) (v_spells_6 σ k0 r1 hpre_0 hpre_1 hr1 c3)) (n := 2) ⟨wm_231, wm_217, by decide +kernel⟩ ⟨wm_232, wm_233, wm_10⟩ rfl rfl (lv_room (Nat.le_of_ble_eq_true rfl)) ⟨Nat.le_of_ble_eq_true rfl, Nat.le_of_ble_eq_true rfl⟩ dX12_spells_31 (fun r8 u H locs hr8 hP hS => ?_)
        obtain ⟨hr8, hr8y⟩ := hr8
        have hr8y : ∀ s9 : List Int, QTT ((σ.2.2.1 52) k0.toNatClampNeg) ((σ.2.2.1 53) k0.toNatClampNeg) s9 → 0 ≤ (1 : Int32).toInt → (1 : Int32).toInt < 17 → r8.toInt = s9.getD (1 : Int32).toInt.toNat 0 := hr8y
        have hr8 : True := hr8
        refine lv_iload_n hx hb dX12_spells_34 rfl (lv_at hl 3 rfl) ?_
        refine lv_icmp_ne (tgt := 64) hx hb dX12_spells_35 (by decide) (fun c9 => ?_) (fun c9 => ?_)
        · have c9 : ¬ r8.toInt = k2.toInt := by have h := z_ne c9; exact h
          refine lv_iconst (v := 0) hx hb dX12_spells_64 (by decide +kernel) ?_
          refine lv_istore (lv' := [(7, .int 0), (0, .ref (ad 0)), (1, .int k0), (2, .int k1), (3, .int k2), (4, .int k3), (5, .int k4), (6, .int k5)]) hx hb dX12_spells_65 hl (by decide) rfl (fun ls hl => ?_)
          refine lv_iload hx hb dX12_spells_67 (lv_at hl 0 rfl) ?_
          refine lv_if_eq (tgt := 92) hx hb dX12_spells_69 (by decide) (fun _ => ?_) (fun c10 => absurd (by decide +kernel) c10)
          refine lv_iconst (v := 0) hx hb dX12_spells_92 (by decide +kernel) ?_
          exact r_retz C () (v_spells_3  ) ⟨trivial, (v_spells_7 σ k0 k1 k2 k3 k4 k5 r1 r5 r8 hpre_0 hpre_1 hr1 c2 c3 hr5y c6 hr8y c9)⟩ hP hS dX12_spells_93
        · have c9 : r8.toInt = k2.toInt := by have h := z_eq c9; exact h
          refine lv_aload_n hx hb dX12_spells_38 rfl (lv_at hl 0 rfl) ?_
          refine lv_iload_n hx hb dX12_spells_39 rfl (lv_at hl 1 rfl) ?_
          refine lv_iconst (v := 2) hx hb dX12_spells_40 (by decide +kernel) ?_
          refine r_callVi (As := [.int k0, .int 2]) (rest := []) C hP hS hl.1 ⟨Nat.zero_le _, Nat.zero_le _⟩ (M_sign8 l D cy sz0 sa ad σ H.size k0 (2 : Int32) (v_spells_8 σ k0 r1 hpre_0 hpre_1 hr1 c3)) (n := 2) ⟨wm_231, wm_217, by decide +kernel⟩ ⟨wm_232, wm_233, wm_10⟩ rfl rfl (lv_room (Nat.le_of_ble_eq_true rfl)) ⟨Nat.le_of_ble_eq_true rfl, Nat.le_of_ble_eq_true rfl⟩ dX12_spells_41 (fun r11 u H locs hr11 hP hS => ?_)
          obtain ⟨hr11, hr11y⟩ := hr11
          have hr11y : ∀ s9 : List Int, QTT ((σ.2.2.1 52) k0.toNatClampNeg) ((σ.2.2.1 53) k0.toNatClampNeg) s9 → 0 ≤ (2 : Int32).toInt → (2 : Int32).toInt < 17 → r11.toInt = s9.getD (2 : Int32).toInt.toNat 0 := hr11y
          have hr11 : True := hr11
          refine lv_iload hx hb dX12_spells_44 (lv_at hl 4 rfl) ?_
          refine lv_icmp_ne (tgt := 64) hx hb dX12_spells_46 (by decide) (fun c12 => ?_) (fun c12 => ?_)
          · have c12 : ¬ r11.toInt = k3.toInt := by have h := z_ne c12; exact h
            refine lv_iconst (v := 0) hx hb dX12_spells_64 (by decide +kernel) ?_
            refine lv_istore (lv' := [(7, .int 0), (0, .ref (ad 0)), (1, .int k0), (2, .int k1), (3, .int k2), (4, .int k3), (5, .int k4), (6, .int k5)]) hx hb dX12_spells_65 hl (by decide) rfl (fun ls hl => ?_)
            refine lv_iload hx hb dX12_spells_67 (lv_at hl 0 rfl) ?_
            refine lv_if_eq (tgt := 92) hx hb dX12_spells_69 (by decide) (fun _ => ?_) (fun c13 => absurd (by decide +kernel) c13)
            refine lv_iconst (v := 0) hx hb dX12_spells_92 (by decide +kernel) ?_
            exact r_retz C () (v_spells_3  ) ⟨trivial, (v_spells_9 σ k0 k1 k2 k3 k4 k5 r1 r5 r8 r11 hpre_0 hpre_1 hr1 c2 c3 hr5y c6 hr8y c9 hr11y c12)⟩ hP hS dX12_spells_93
          · have c12 : r11.toInt = k3.toInt := by have h := z_eq c12; exact h
            refine lv_aload_n hx hb dX12_spells_49 rfl (lv_at hl 0 rfl) ?_
            refine lv_iload_n hx hb dX12_spells_50 rfl (lv_at hl 1 rfl) ?_
            refine lv_iconst (v := 3) hx hb dX12_spells_51 (by decide +kernel) ?_
            refine r_callVi (As := [.int k0, .int 3]) (rest := []) C hP hS hl.1 ⟨Nat.zero_le _, Nat.zero_le _⟩ (M_sign8 l D cy sz0 sa ad σ H.size k0 (3 : Int32) (v_spells_10 σ k0 r1 hpre_0 hpre_1 hr1 c3)) (n := 2) ⟨wm_231, wm_217, by decide +kernel⟩ ⟨wm_232, wm_233, wm_10⟩ rfl rfl (lv_room (Nat.le_of_ble_eq_true rfl)) ⟨Nat.le_of_ble_eq_true rfl, Nat.le_of_ble_eq_true rfl⟩ dX12_spells_52 (fun r14 u H locs hr14 hP hS => ?_)
            obtain ⟨hr14, hr14y⟩ := hr14
            have hr14y : ∀ s9 : List Int, QTT ((σ.2.2.1 52) k0.toNatClampNeg) ((σ.2.2.1 53) k0.toNatClampNeg) s9 → 0 ≤ (3 : Int32).toInt → (3 : Int32).toInt < 17 → r14.toInt = s9.getD (3 : Int32).toInt.toNat 0 := hr14y
            have hr14 : True := hr14
            refine lv_iload hx hb dX12_spells_55 (lv_at hl 5 rfl) ?_
            refine lv_icmp_ne (tgt := 64) hx hb dX12_spells_57 (by decide) (fun c15 => ?_) (fun c15 => ?_)
            · have c15 : ¬ r14.toInt = k4.toInt := by have h := z_ne c15; exact h
              refine lv_iconst (v := 0) hx hb dX12_spells_64 (by decide +kernel) ?_
              refine lv_istore (lv' := [(7, .int 0), (0, .ref (ad 0)), (1, .int k0), (2, .int k1), (3, .int k2), (4, .int k3), (5, .int k4), (6, .int k5)]) hx hb dX12_spells_65 hl (by decide) rfl (fun ls hl => ?_)
              refine lv_iload hx hb dX12_spells_67 (lv_at hl 0 rfl) ?_
              refine lv_if_eq (tgt := 92) hx hb dX12_spells_69 (by decide) (fun _ => ?_) (fun c16 => absurd (by decide +kernel) c16)
              refine lv_iconst (v := 0) hx hb dX12_spells_92 (by decide +kernel) ?_
              exact r_retz C () (v_spells_3  ) ⟨trivial, (v_spells_11 σ k0 k1 k2 k3 k4 k5 r1 r5 r8 r11 r14 hpre_0 hpre_1 hr1 c2 c3 hr5y c6 hr8y c9 hr11y c12 hr14y c15)⟩ hP hS dX12_spells_93
            · have c15 : r14.toInt = k4.toInt := by have h := z_eq c15; exact h
              refine lv_iconst (v := 1) hx hb dX12_spells_60 (by decide +kernel) ?_
              refine lv_goto (tgt := 65) hx hb dX12_spells_61 (by decide) ?_
              refine lv_istore (lv' := [(7, .int 1), (0, .ref (ad 0)), (1, .int k0), (2, .int k1), (3, .int k2), (4, .int k3), (5, .int k4), (6, .int k5)]) hx hb dX12_spells_65 hl (by decide) rfl (fun ls hl => ?_)
              refine lv_iload hx hb dX12_spells_67 (lv_at hl 0 rfl) ?_
              refine lv_if_eq (tgt := 92) hx hb dX12_spells_69 (by decide) (fun c17 => absurd c17 (by decide +kernel)) (fun _ => ?_)
              refine lv_iload hx hb dX12_spells_72 (lv_at hl 7 rfl) ?_
              refine lv_if_eq (tgt := 88) hx hb dX12_spells_74 (by decide) (fun c18 => ?_) (fun c18 => ?_)
              · have c18 : k5.toInt = 0 := by have h := z_eq c18; rw [show (0 : Int32).toInt = 0 from by decide +kernel] at h; exact h
                refine lv_iconst (v := 1) hx hb dX12_spells_88 (by decide +kernel) ?_
                refine lv_goto (tgt := 93) hx hb dX12_spells_89 (by decide) ?_
                exact r_retz C () (v_spells_13  ) ⟨trivial, (v_spells_12 σ k0 k1 k2 k3 k4 k5 r1 r5 r8 r11 r14 hpre_0 hpre_1 hr1 c2 c3 hr5y c6 hr8y c9 hr11y c12 hr14y c15 c18)⟩ hP hS dX12_spells_93
              · have c18 : ¬ k5.toInt = 0 := by have h := z_ne c18; rw [show (0 : Int32).toInt = 0 from by decide +kernel] at h; exact h
                refine lv_aload_n hx hb dX12_spells_77 rfl (lv_at hl 1 rfl) ?_
                refine lv_iload_n hx hb dX12_spells_78 rfl (lv_at hl 2 rfl) ?_
                refine lv_iconst (v := 4) hx hb dX12_spells_79 (by decide +kernel) ?_
                refine r_callVi (As := [.int k0, .int 4]) (rest := []) C hP hS hl.1 ⟨Nat.zero_le _, Nat.zero_le _⟩ (M_sign8 l D cy sz0 sa ad σ H.size k0 (4 : Int32) (v_spells_14 σ k0 r1 hpre_0 hpre_1 hr1 c3)) (n := 2) ⟨wm_231, wm_217, by decide +kernel⟩ ⟨wm_232, wm_233, wm_10⟩ rfl rfl (lv_room (Nat.le_of_ble_eq_true rfl)) ⟨Nat.le_of_ble_eq_true rfl, Nat.le_of_ble_eq_true rfl⟩ dX12_spells_80 (fun r19 u H locs hr19 hP hS => ?_)
                obtain ⟨hr19, hr19y⟩ := hr19
                have hr19y : ∀ s9 : List Int, QTT ((σ.2.2.1 52) k0.toNatClampNeg) ((σ.2.2.1 53) k0.toNatClampNeg) s9 → 0 ≤ (4 : Int32).toInt → (4 : Int32).toInt < 17 → r19.toInt = s9.getD (4 : Int32).toInt.toNat 0 := hr19y
                have hr19 : True := hr19
                refine lv_iload hx hb dX12_spells_83 (lv_at hl 7 rfl) ?_
                refine lv_icmp_ne (tgt := 92) hx hb dX12_spells_85 (by decide) (fun c20 => ?_) (fun c20 => ?_)
                · have c20 : ¬ r19.toInt = k5.toInt := by have h := z_ne c20; exact h
                  refine lv_iconst (v := 0) hx hb dX12_spells_92 (by decide +kernel) ?_
                  exact r_retz C () (v_spells_3  ) ⟨trivial, (v_spells_15 σ k0 k1 k2 k3 k4 k5 r1 r5 r8 r11 r14 r19 hpre_0 hpre_1 hr1 c2 c3 hr5y c6 hr8y c9 hr11y c12 hr14y c15 c18 hr19y c20)⟩ hP hS dX12_spells_93
                · have c20 : r19.toInt = k5.toInt := by have h := z_eq c20; exact h
                  refine lv_iconst (v := 1) hx hb dX12_spells_88 (by decide +kernel) ?_
                  refine lv_goto (tgt := 93) hx hb dX12_spells_89 (by decide) ?_
                  exact r_retz C () (v_spells_13  ) ⟨trivial, (v_spells_16 σ k0 k1 k2 k3 k4 k5 r1 r5 r8 r11 r14 r19 hpre_0 hpre_1 hr1 c2 c3 hr5y c6 hr8y c9 hr11y c12 hr14y c15 c18 hr19y c20)⟩ hP hS dX12_spells_93
  · have c2 : 0 < k5.toInt := by have h := z_nle c2; rw [show (0 : Int32).toInt = 0 from by decide +kernel] at h; exact h
    refine lv_iconst (v := 5) hx hb dX12_spells_10 (by decide +kernel) ?_
    refine lv_goto (tgt := 15) hx hb dX12_spells_11 (by decide) ?_
    refine lv_icmp_ne (tgt := 64) hx hb dX12_spells_15 (by decide) (fun c21 => ?_) (fun c21 => ?_)
    · have c21 : ¬ r1.toInt = 5 := by have h := z_ne c21; rw [show (5 : Int32).toInt = 5 from by decide +kernel] at h; exact h
      refine lv_iconst (v := 0) hx hb dX12_spells_64 (by decide +kernel) ?_
      refine lv_istore (lv' := [(7, .int 0), (0, .ref (ad 0)), (1, .int k0), (2, .int k1), (3, .int k2), (4, .int k3), (5, .int k4), (6, .int k5)]) hx hb dX12_spells_65 hl (by decide) rfl (fun ls hl => ?_)
      refine lv_iload hx hb dX12_spells_67 (lv_at hl 0 rfl) ?_
      refine lv_if_eq (tgt := 92) hx hb dX12_spells_69 (by decide) (fun _ => ?_) (fun c22 => absurd (by decide +kernel) c22)
      refine lv_iconst (v := 0) hx hb dX12_spells_92 (by decide +kernel) ?_
      exact r_retz C () (v_spells_3  ) ⟨trivial, (v_spells_17 σ k0 k1 k2 k3 k4 k5 r1 hpre_0 hpre_1 hr1 c2 c21)⟩ hP hS dX12_spells_93
    · have c21 : r1.toInt = 5 := by have h := z_eq c21; rw [show (5 : Int32).toInt = 5 from by decide +kernel] at h; exact h
      refine lv_aload_n hx hb dX12_spells_18 rfl (lv_at hl 0 rfl) ?_
      refine lv_iload_n hx hb dX12_spells_19 rfl (lv_at hl 1 rfl) ?_
      refine lv_iconst (v := 0) hx hb dX12_spells_20 (by decide +kernel) ?_
      refine r_callVi (As := [.int k0, .int 0]) (rest := []) C hP hS hl.1 ⟨Nat.zero_le _, Nat.zero_le _⟩ (M_sign8 l D cy sz0 sa ad σ H.size k0 (0 : Int32) (v_spells_18 σ k0 r1 hpre_0 hpre_1 hr1 c21)) (n := 2) ⟨wm_231, wm_217, by decide +kernel⟩ ⟨wm_232, wm_233, wm_10⟩ rfl rfl (lv_room (Nat.le_of_ble_eq_true rfl)) ⟨Nat.le_of_ble_eq_true rfl, Nat.le_of_ble_eq_true rfl⟩ dX12_spells_21 (fun r23 u H locs hr23 hP hS => ?_)
      obtain ⟨hr23, hr23y⟩ := hr23
      have hr23y : ∀ s9 : List Int, QTT ((σ.2.2.1 52) k0.toNatClampNeg) ((σ.2.2.1 53) k0.toNatClampNeg) s9 → 0 ≤ (0 : Int32).toInt → (0 : Int32).toInt < 17 → r23.toInt = s9.getD (0 : Int32).toInt.toNat 0 := hr23y
      have hr23 : True := hr23
      refine lv_iload_n hx hb dX12_spells_24 rfl (lv_at hl 2 rfl) ?_
      refine lv_icmp_ne (tgt := 64) hx hb dX12_spells_25 (by decide) (fun c24 => ?_) (fun c24 => ?_)
      · have c24 : ¬ r23.toInt = k1.toInt := by have h := z_ne c24; exact h
        refine lv_iconst (v := 0) hx hb dX12_spells_64 (by decide +kernel) ?_
        refine lv_istore (lv' := [(7, .int 0), (0, .ref (ad 0)), (1, .int k0), (2, .int k1), (3, .int k2), (4, .int k3), (5, .int k4), (6, .int k5)]) hx hb dX12_spells_65 hl (by decide) rfl (fun ls hl => ?_)
        refine lv_iload hx hb dX12_spells_67 (lv_at hl 0 rfl) ?_
        refine lv_if_eq (tgt := 92) hx hb dX12_spells_69 (by decide) (fun _ => ?_) (fun c25 => absurd (by decide +kernel) c25)
        refine lv_iconst (v := 0) hx hb dX12_spells_92 (by decide +kernel) ?_
        exact r_retz C () (v_spells_3  ) ⟨trivial, (v_spells_19 σ k0 k1 k2 k3 k4 k5 r1 r23 hpre_0 hpre_1 hr1 c2 c21 hr23y c24)⟩ hP hS dX12_spells_93
      · have c24 : r23.toInt = k1.toInt := by have h := z_eq c24; exact h
        refine lv_aload_n hx hb dX12_spells_28 rfl (lv_at hl 0 rfl) ?_
        refine lv_iload_n hx hb dX12_spells_29 rfl (lv_at hl 1 rfl) ?_
        refine lv_iconst (v := 1) hx hb dX12_spells_30 (by decide +kernel) ?_
        refine r_callVi (As := [.int k0, .int 1]) (rest := []) C hP hS hl.1 ⟨Nat.zero_le _, Nat.zero_le _⟩ (M_sign8 l D cy sz0 sa ad σ H.size k0 (1 : Int32) (v_spells_20 σ k0 r1 hpre_0 hpre_1 hr1 c21)) (n := 2) ⟨wm_231, wm_217, by decide +kernel⟩ ⟨wm_232, wm_233, wm_10⟩ rfl rfl (lv_room (Nat.le_of_ble_eq_true rfl)) ⟨Nat.le_of_ble_eq_true rfl, Nat.le_of_ble_eq_true rfl⟩ dX12_spells_31 (fun r26 u H locs hr26 hP hS => ?_)
        obtain ⟨hr26, hr26y⟩ := hr26
        have hr26y : ∀ s9 : List Int, QTT ((σ.2.2.1 52) k0.toNatClampNeg) ((σ.2.2.1 53) k0.toNatClampNeg) s9 → 0 ≤ (1 : Int32).toInt → (1 : Int32).toInt < 17 → r26.toInt = s9.getD (1 : Int32).toInt.toNat 0 := hr26y
        have hr26 : True := hr26
        refine lv_iload_n hx hb dX12_spells_34 rfl (lv_at hl 3 rfl) ?_
        refine lv_icmp_ne (tgt := 64) hx hb dX12_spells_35 (by decide) (fun c27 => ?_) (fun c27 => ?_)
        · have c27 : ¬ r26.toInt = k2.toInt := by have h := z_ne c27; exact h
          refine lv_iconst (v := 0) hx hb dX12_spells_64 (by decide +kernel) ?_
          refine lv_istore (lv' := [(7, .int 0), (0, .ref (ad 0)), (1, .int k0), (2, .int k1), (3, .int k2), (4, .int k3), (5, .int k4), (6, .int k5)]) hx hb dX12_spells_65 hl (by decide) rfl (fun ls hl => ?_)
          refine lv_iload hx hb dX12_spells_67 (lv_at hl 0 rfl) ?_
          refine lv_if_eq (tgt := 92) hx hb dX12_spells_69 (by decide) (fun _ => ?_) (fun c28 => absurd (by decide +kernel) c28)
          refine lv_iconst (v := 0) hx hb dX12_spells_92 (by decide +kernel) ?_
          exact r_retz C () (v_spells_3  ) ⟨trivial, (v_spells_21 σ k0 k1 k2 k3 k4 k5 r1 r23 r26 hpre_0 hpre_1 hr1 c2 c21 hr23y c24 hr26y c27)⟩ hP hS dX12_spells_93
        · have c27 : r26.toInt = k2.toInt := by have h := z_eq c27; exact h
          refine lv_aload_n hx hb dX12_spells_38 rfl (lv_at hl 0 rfl) ?_
          refine lv_iload_n hx hb dX12_spells_39 rfl (lv_at hl 1 rfl) ?_
          refine lv_iconst (v := 2) hx hb dX12_spells_40 (by decide +kernel) ?_
          refine r_callVi (As := [.int k0, .int 2]) (rest := []) C hP hS hl.1 ⟨Nat.zero_le _, Nat.zero_le _⟩ (M_sign8 l D cy sz0 sa ad σ H.size k0 (2 : Int32) (v_spells_22 σ k0 r1 hpre_0 hpre_1 hr1 c21)) (n := 2) ⟨wm_231, wm_217, by decide +kernel⟩ ⟨wm_232, wm_233, wm_10⟩ rfl rfl (lv_room (Nat.le_of_ble_eq_true rfl)) ⟨Nat.le_of_ble_eq_true rfl, Nat.le_of_ble_eq_true rfl⟩ dX12_spells_41 (fun r29 u H locs hr29 hP hS => ?_)
          obtain ⟨hr29, hr29y⟩ := hr29
          have hr29y : ∀ s9 : List Int, QTT ((σ.2.2.1 52) k0.toNatClampNeg) ((σ.2.2.1 53) k0.toNatClampNeg) s9 → 0 ≤ (2 : Int32).toInt → (2 : Int32).toInt < 17 → r29.toInt = s9.getD (2 : Int32).toInt.toNat 0 := hr29y
          have hr29 : True := hr29
          refine lv_iload hx hb dX12_spells_44 (lv_at hl 4 rfl) ?_
          refine lv_icmp_ne (tgt := 64) hx hb dX12_spells_46 (by decide) (fun c30 => ?_) (fun c30 => ?_)
          · have c30 : ¬ r29.toInt = k3.toInt := by have h := z_ne c30; exact h
            refine lv_iconst (v := 0) hx hb dX12_spells_64 (by decide +kernel) ?_
            refine lv_istore (lv' := [(7, .int 0), (0, .ref (ad 0)), (1, .int k0), (2, .int k1), (3, .int k2), (4, .int k3), (5, .int k4), (6, .int k5)]) hx hb dX12_spells_65 hl (by decide) rfl (fun ls hl => ?_)
            refine lv_iload hx hb dX12_spells_67 (lv_at hl 0 rfl) ?_
            refine lv_if_eq (tgt := 92) hx hb dX12_spells_69 (by decide) (fun _ => ?_) (fun c31 => absurd (by decide +kernel) c31)
            refine lv_iconst (v := 0) hx hb dX12_spells_92 (by decide +kernel) ?_
            exact r_retz C () (v_spells_3  ) ⟨trivial, (v_spells_23 σ k0 k1 k2 k3 k4 k5 r1 r23 r26 r29 hpre_0 hpre_1 hr1 c2 c21 hr23y c24 hr26y c27 hr29y c30)⟩ hP hS dX12_spells_93
          · have c30 : r29.toInt = k3.toInt := by have h := z_eq c30; exact h
            refine lv_aload_n hx hb dX12_spells_49 rfl (lv_at hl 0 rfl) ?_
            refine lv_iload_n hx hb dX12_spells_50 rfl (lv_at hl 1 rfl) ?_
            refine lv_iconst (v := 3) hx hb dX12_spells_51 (by decide +kernel) ?_
            refine r_callVi (As := [.int k0, .int 3]) (rest := []) C hP hS hl.1 ⟨Nat.zero_le _, Nat.zero_le _⟩ (M_sign8 l D cy sz0 sa ad σ H.size k0 (3 : Int32) (v_spells_24 σ k0 r1 hpre_0 hpre_1 hr1 c21)) (n := 2) ⟨wm_231, wm_217, by decide +kernel⟩ ⟨wm_232, wm_233, wm_10⟩ rfl rfl (lv_room (Nat.le_of_ble_eq_true rfl)) ⟨Nat.le_of_ble_eq_true rfl, Nat.le_of_ble_eq_true rfl⟩ dX12_spells_52 (fun r32 u H locs hr32 hP hS => ?_)
            obtain ⟨hr32, hr32y⟩ := hr32
            have hr32y : ∀ s9 : List Int, QTT ((σ.2.2.1 52) k0.toNatClampNeg) ((σ.2.2.1 53) k0.toNatClampNeg) s9 → 0 ≤ (3 : Int32).toInt → (3 : Int32).toInt < 17 → r32.toInt = s9.getD (3 : Int32).toInt.toNat 0 := hr32y
            have hr32 : True := hr32
            refine lv_iload hx hb dX12_spells_55 (lv_at hl 5 rfl) ?_
            refine lv_icmp_ne (tgt := 64) hx hb dX12_spells_57 (by decide) (fun c33 => ?_) (fun c33 => ?_)
            · have c33 : ¬ r32.toInt = k4.toInt := by have h := z_ne c33; exact h
              refine lv_iconst (v := 0) hx hb dX12_spells_64 (by decide +kernel) ?_
              refine lv_istore (lv' := [(7, .int 0), (0, .ref (ad 0)), (1, .int k0), (2, .int k1), (3, .int k2), (4, .int k3), (5, .int k4), (6, .int k5)]) hx hb dX12_spells_65 hl (by decide) rfl (fun ls hl => ?_)
              refine lv_iload hx hb dX12_spells_67 (lv_at hl 0 rfl) ?_
              refine lv_if_eq (tgt := 92) hx hb dX12_spells_69 (by decide) (fun _ => ?_) (fun c34 => absurd (by decide +kernel) c34)
              refine lv_iconst (v := 0) hx hb dX12_spells_92 (by decide +kernel) ?_
              exact r_retz C () (v_spells_3  ) ⟨trivial, (v_spells_25 σ k0 k1 k2 k3 k4 k5 r1 r23 r26 r29 r32 hpre_0 hpre_1 hr1 c2 c21 hr23y c24 hr26y c27 hr29y c30 hr32y c33)⟩ hP hS dX12_spells_93
            · have c33 : r32.toInt = k4.toInt := by have h := z_eq c33; exact h
              refine lv_iconst (v := 1) hx hb dX12_spells_60 (by decide +kernel) ?_
              refine lv_goto (tgt := 65) hx hb dX12_spells_61 (by decide) ?_
              refine lv_istore (lv' := [(7, .int 1), (0, .ref (ad 0)), (1, .int k0), (2, .int k1), (3, .int k2), (4, .int k3), (5, .int k4), (6, .int k5)]) hx hb dX12_spells_65 hl (by decide) rfl (fun ls hl => ?_)
              refine lv_iload hx hb dX12_spells_67 (lv_at hl 0 rfl) ?_
              refine lv_if_eq (tgt := 92) hx hb dX12_spells_69 (by decide) (fun c35 => absurd c35 (by decide +kernel)) (fun _ => ?_)
              refine lv_iload hx hb dX12_spells_72 (lv_at hl 7 rfl) ?_
              refine lv_if_eq (tgt := 88) hx hb dX12_spells_74 (by decide) (fun c36 => ?_) (fun c36 => ?_)
              · have c36 : k5.toInt = 0 := by have h := z_eq c36; rw [show (0 : Int32).toInt = 0 from by decide +kernel] at h; exact h
                exact absurd (v_spells_26 k5 c2 c36) id
              · have c36 : ¬ k5.toInt = 0 := by have h := z_ne c36; rw [show (0 : Int32).toInt = 0 from by decide +kernel] at h; exact h
                refine lv_aload_n hx hb dX12_spells_77 rfl (lv_at hl 1 rfl) ?_
                refine lv_iload_n hx hb dX12_spells_78 rfl (lv_at hl 2 rfl) ?_
                refine lv_iconst (v := 4) hx hb dX12_spells_79 (by decide +kernel) ?_
                refine r_callVi (As := [.int k0, .int 4]) (rest := []) C hP hS hl.1 ⟨Nat.zero_le _, Nat.zero_le _⟩ (M_sign8 l D cy sz0 sa ad σ H.size k0 (4 : Int32) (v_spells_27 σ k0 r1 hpre_0 hpre_1 hr1 c21)) (n := 2) ⟨wm_231, wm_217, by decide +kernel⟩ ⟨wm_232, wm_233, wm_10⟩ rfl rfl (lv_room (Nat.le_of_ble_eq_true rfl)) ⟨Nat.le_of_ble_eq_true rfl, Nat.le_of_ble_eq_true rfl⟩ dX12_spells_80 (fun r37 u H locs hr37 hP hS => ?_)
                obtain ⟨hr37, hr37y⟩ := hr37
                have hr37y : ∀ s9 : List Int, QTT ((σ.2.2.1 52) k0.toNatClampNeg) ((σ.2.2.1 53) k0.toNatClampNeg) s9 → 0 ≤ (4 : Int32).toInt → (4 : Int32).toInt < 17 → r37.toInt = s9.getD (4 : Int32).toInt.toNat 0 := hr37y
                have hr37 : True := hr37
                refine lv_iload hx hb dX12_spells_83 (lv_at hl 7 rfl) ?_
                refine lv_icmp_ne (tgt := 92) hx hb dX12_spells_85 (by decide) (fun c38 => ?_) (fun c38 => ?_)
                · have c38 : ¬ r37.toInt = k5.toInt := by have h := z_ne c38; exact h
                  refine lv_iconst (v := 0) hx hb dX12_spells_92 (by decide +kernel) ?_
                  exact r_retz C () (v_spells_3  ) ⟨trivial, (v_spells_28 σ k0 k1 k2 k3 k4 k5 r1 r23 r26 r29 r32 r37 hpre_0 hpre_1 hr1 c2 c21 hr23y c24 hr26y c27 hr29y c30 hr32y c33 c36 hr37y c38)⟩ hP hS dX12_spells_93
                · have c38 : r37.toInt = k5.toInt := by have h := z_eq c38; exact h
                  refine lv_iconst (v := 1) hx hb dX12_spells_88 (by decide +kernel) ?_
                  refine lv_goto (tgt := 93) hx hb dX12_spells_89 (by decide) ?_
                  exact r_retz C () (v_spells_13  ) ⟨trivial, (v_spells_29 σ k0 k1 k2 k3 k4 k5 r1 r23 r26 r29 r32 r37 hpre_0 hpre_1 hr1 c2 c21 hr23y c24 hr26y c27 hr29y c30 hr32y c33 c36 hr37y c38)⟩ hP hS dX12_spells_93

-- in@5 @5
theorem v_toBool_1 (k0 : Int32) (hpre_0 : 0 ≤ k0.toInt) (hpre_1 : k0.toInt < 980) : vp_in k0 980 := by
  exact vp_in_iff.mpr ⟨by omega, by omega⟩
-- in@53 @53
theorem v_toBool_2 (σ : RS) (k0 : Int32) (x1 : Int32) (hpre_0 : 0 ≤ k0.toInt) (hpre_1 : k0.toInt < 980) (ex1 : x1 = (σ.2.1 51) k0.toNatClampNeg) (tx1 : x1.toInt = ((σ.2.1 51) k0.toNatClampNeg).toInt) (c2 : 8 ≤ x1.toInt) : vp_in k0 980 := by
  exact vp_in_iff.mpr ⟨by omega, by omega⟩
-- in@83 @83
theorem v_toBool_3 (σ : RS) (k0 : Int32) (x1 : Int32) (x3 : Int32) (hpre_0 : 0 ≤ k0.toInt) (hpre_1 : k0.toInt < 980) (ex1 : x1 = (σ.2.1 51) k0.toNatClampNeg) (tx1 : x1.toInt = ((σ.2.1 51) k0.toNatClampNeg).toInt) (c2 : 8 ≤ x1.toInt) (ex3 : x3 = (σ.2.1 51) k0.toNatClampNeg) (tx3 : x3.toInt = ((σ.2.1 51) k0.toNatClampNeg).toInt) (c4 : ¬ x3.toInt = 3) : vp_in k0 980 := by
  exact vp_in_iff.mpr ⟨by omega, by omega⟩
-- pre:set@151 @151
theorem v_toBool_4 (σ : RS) (k0 : Int32) (x1 : Int32) (x3 : Int32) (x5 : Int32) (hpre_0 : 0 ≤ k0.toInt) (hpre_1 : k0.toInt < 980) (ex1 : x1 = (σ.2.1 51) k0.toNatClampNeg) (tx1 : x1.toInt = ((σ.2.1 51) k0.toNatClampNeg).toInt) (c2 : 8 ≤ x1.toInt) (ex3 : x3 = (σ.2.1 51) k0.toNatClampNeg) (tx3 : x3.toInt = ((σ.2.1 51) k0.toNatClampNeg).toInt) (c4 : ¬ x3.toInt = 3) (ex5 : x5 = (σ.2.1 51) k0.toNatClampNeg) (tx5 : x5.toInt = ((σ.2.1 51) k0.toNatClampNeg).toInt) (c6 : ¬ x5.toInt = 4) : 0 ≤ k0.toInt ∧ k0.toInt < 980 := by
  refine ⟨?_, ?_⟩ <;> first | assumption | omega | (subst_vars; omega) | trivial
-- post @154
theorem v_toBool_5 (σ : RS) (k0 : Int32) (x1 : Int32) (x3 : Int32) (x5 : Int32) (hpre_0 : 0 ≤ k0.toInt) (hpre_1 : k0.toInt < 980) (hpre_2 : 0 ≤ (σ.1 56).toInt) (hpre_3 : (σ.1 56).toInt ≤ 11) (ex1 : x1 = (σ.2.1 51) k0.toNatClampNeg) (tx1 : x1.toInt = ((σ.2.1 51) k0.toNatClampNeg).toInt) (c2 : 8 ≤ x1.toInt) (ex3 : x3 = (σ.2.1 51) k0.toNatClampNeg) (tx3 : x3.toInt = ((σ.2.1 51) k0.toNatClampNeg).toInt) (c4 : ¬ x3.toInt = 3) (ex5 : x5 = (σ.2.1 51) k0.toNatClampNeg) (tx5 : x5.toInt = ((σ.2.1 51) k0.toNatClampNeg).toInt) (c6 : ¬ x5.toInt = 4) : 0 ≤ (σ.1 56).toInt ∧ (σ.1 56).toInt ≤ 11 ∧ Cell1 (σ.2.1 51) (upd (σ.2.1 51) k0.toNatClampNeg (1 : Int32)) (σ.2.2.1 52) (vp_updL (σ.2.2.1 52) k0.toNatClampNeg (1 : Int64)) (σ.2.2.2) (vf_upd (σ.2.2.2) k0.toNatClampNeg FP.dconst0) k0.toNatClampNeg (fun k v r => k = 1) := by
  have q1 : (1 : Int32).toInt = 1 := by decide +kernel
  have ql1 : (1 : Int64).toInt = 1 := by decide +kernel
  refine ⟨?_, ?_, ?_⟩ <;> first | assumption | omega | exact ⟨_, _, _, rfl, rfl, rfl, by omega⟩ | exact ⟨_, _, _, rfl, rfl, rfl, by decide +kernel⟩
-- post2 @154
theorem v_toBool_6 (σ : RS) (k0 : Int32) (x1 : Int32) (x3 : Int32) (x5 : Int32) (hpre_0 : 0 ≤ k0.toInt) (hpre_1 : k0.toInt < 980) (hpre_2 : 0 ≤ (σ.1 56).toInt) (hpre_3 : (σ.1 56).toInt ≤ 11) (ex1 : x1 = (σ.2.1 51) k0.toNatClampNeg) (tx1 : x1.toInt = ((σ.2.1 51) k0.toNatClampNeg).toInt) (c2 : 8 ≤ x1.toInt) (ex3 : x3 = (σ.2.1 51) k0.toNatClampNeg) (tx3 : x3.toInt = ((σ.2.1 51) k0.toNatClampNeg).toInt) (c4 : ¬ x3.toInt = 3) (ex5 : x5 = (σ.2.1 51) k0.toNatClampNeg) (tx5 : x5.toInt = ((σ.2.1 51) k0.toNatClampNeg).toInt) (c6 : ¬ x5.toInt = 4) : ∀ v9 : QV, QAT (qH (σ.2.1 36) (σ.2.1 37) (σ.2.1 38) (σ.2.1 39) (σ.2.1 40) (σ.2.1 41) (σ.2.1 42) (σ.2.1 43) (σ.2.1 44) (σ.2.1 45) (σ.2.1 46) (σ.2.1 48)) (σ.1 47).toInt ((σ.2.1 51), (σ.2.2.1 52), (σ.2.2.1 53), (σ.2.2.2)) k0.toNatClampNeg v9 → (σ.1 56).toInt = 0 → QRES (qH (σ.2.1 36) (σ.2.1 37) (σ.2.1 38) (σ.2.1 39) (σ.2.1 40) (σ.2.1 41) (σ.2.1 42) (σ.2.1 43) (σ.2.1 44) (σ.2.1 45) (σ.2.1 46) (σ.2.1 48)) (σ.1 47).toInt ((σ.2.1 51), (σ.2.2.1 52), (σ.2.2.1 53), (σ.2.2.2)) ((upd (σ.2.1 51) k0.toNatClampNeg (1 : Int32)), (vp_updL (σ.2.2.1 52) k0.toNatClampNeg (1 : Int64)), (vp_updL (σ.2.2.1 53) k0.toNatClampNeg (0 : Int64)), (vf_upd (σ.2.2.2) k0.toNatClampNeg FP.dconst0)) k0.toNatClampNeg (σ.1 56).toInt (qCvB v9) := by
  have q1 : (1 : Int32).toInt = 1 := by decide +kernel
  have ql0 : (0 : Int64).toInt = 0 := by decide +kernel
  have ql1 : (1 : Int64).toInt = 1 := by decide +kernel
  intro v9 h9 h0
  have kd := h9.kd
  dsimp only at kd
  rw [qCvB_x (by omega) (by omega)]
  have a9 := (h9.2.2.2.2 (by omega) (by omega)).1
  dsimp only at a9
  refine ⟨h0, ?_⟩
  rw [decide_eq_true (by omega)]
  exact QW.bool q1 (by decide +kernel) (by decide +kernel)
-- pre:spells@99 @99
theorem v_toBool_7 (σ : RS) (k0 : Int32) (x1 : Int32) (x3 : Int32) (x5 : Int32) (hpre_0 : 0 ≤ k0.toInt) (hpre_1 : k0.toInt < 980) (ex1 : x1 = (σ.2.1 51) k0.toNatClampNeg) (tx1 : x1.toInt = ((σ.2.1 51) k0.toNatClampNeg).toInt) (c2 : 8 ≤ x1.toInt) (ex3 : x3 = (σ.2.1 51) k0.toNatClampNeg) (tx3 : x3.toInt = ((σ.2.1 51) k0.toNatClampNeg).toInt) (c4 : ¬ x3.toInt = 3) (ex5 : x5 = (σ.2.1 51) k0.toNatClampNeg) (tx5 : x5.toInt = ((σ.2.1 51) k0.toNatClampNeg).toInt) (c6 : x5.toInt = 4) : 0 ≤ k0.toInt ∧ k0.toInt < 980 := by
  refine ⟨?_, ?_⟩ <;> first | assumption | omega | (subst_vars; omega) | trivial
-- dead@142 @149
theorem v_toBool_8 (r9 : Int32) (c10 : ¬ r9.toInt = 0) (c11 : r9.toInt = 0) : False := by
  first | assumption | omega | (subst_vars; omega) | trivial
-- post @154
theorem v_toBool_9 (σ : RS) (k0 : Int32) (x1 : Int32) (x3 : Int32) (x5 : Int32) (hpre_0 : 0 ≤ k0.toInt) (hpre_1 : k0.toInt < 980) (hpre_2 : 0 ≤ (σ.1 56).toInt) (hpre_3 : (σ.1 56).toInt ≤ 11) (ex1 : x1 = (σ.2.1 51) k0.toNatClampNeg) (tx1 : x1.toInt = ((σ.2.1 51) k0.toNatClampNeg).toInt) (c2 : 8 ≤ x1.toInt) (ex3 : x3 = (σ.2.1 51) k0.toNatClampNeg) (tx3 : x3.toInt = ((σ.2.1 51) k0.toNatClampNeg).toInt) (c4 : ¬ x3.toInt = 3) (ex5 : x5 = (σ.2.1 51) k0.toNatClampNeg) (tx5 : x5.toInt = ((σ.2.1 51) k0.toNatClampNeg).toInt) (c6 : x5.toInt = 4) : 0 ≤ (σ.1 56).toInt ∧ (σ.1 56).toInt ≤ 11 ∧ Cell1 (σ.2.1 51) (upd (σ.2.1 51) k0.toNatClampNeg (1 : Int32)) (σ.2.2.1 52) (vp_updL (σ.2.2.1 52) k0.toNatClampNeg (1 : Int64)) (σ.2.2.2) (vf_upd (σ.2.2.2) k0.toNatClampNeg FP.dconst0) k0.toNatClampNeg (fun k v r => k = 1) := by
  have q1 : (1 : Int32).toInt = 1 := by decide +kernel
  have ql1 : (1 : Int64).toInt = 1 := by decide +kernel
  refine ⟨?_, ?_, ?_⟩ <;> first | assumption | omega | exact ⟨_, _, _, rfl, rfl, rfl, by omega⟩ | exact ⟨_, _, _, rfl, rfl, rfl, by decide +kernel⟩
-- post2 @154
theorem v_toBool_10 (σ : RS) (k0 : Int32) (x1 : Int32) (x3 : Int32) (x5 : Int32) (r9 : Int32) (hpre_0 : 0 ≤ k0.toInt) (hpre_1 : k0.toInt < 980) (hpre_2 : 0 ≤ (σ.1 56).toInt) (hpre_3 : (σ.1 56).toInt ≤ 11) (ex1 : x1 = (σ.2.1 51) k0.toNatClampNeg) (tx1 : x1.toInt = ((σ.2.1 51) k0.toNatClampNeg).toInt) (c2 : 8 ≤ x1.toInt) (ex3 : x3 = (σ.2.1 51) k0.toNatClampNeg) (tx3 : x3.toInt = ((σ.2.1 51) k0.toNatClampNeg).toInt) (c4 : ¬ x3.toInt = 3) (ex5 : x5 = (σ.2.1 51) k0.toNatClampNeg) (tx5 : x5.toInt = ((σ.2.1 51) k0.toNatClampNeg).toInt) (c6 : x5.toInt = 4) (hr9y : ∀ s9 : List Int, QTT ((σ.2.2.1 52) k0.toNatClampNeg) ((σ.2.2.1 53) k0.toNatClampNeg) s9 → 0 ≤ (0 : Int32).toInt → (r9.toInt = 0 → ¬ s9 = (if 0 < (0 : Int32).toInt then [(116 : Int32).toInt, (114 : Int32).toInt, (117 : Int32).toInt, (101 : Int32).toInt, (0 : Int32).toInt] else [(116 : Int32).toInt, (114 : Int32).toInt, (117 : Int32).toInt, (101 : Int32).toInt])) ∧ (¬ r9.toInt = 0 → s9 = (if 0 < (0 : Int32).toInt then [(116 : Int32).toInt, (114 : Int32).toInt, (117 : Int32).toInt, (101 : Int32).toInt, (0 : Int32).toInt] else [(116 : Int32).toInt, (114 : Int32).toInt, (117 : Int32).toInt, (101 : Int32).toInt]))) (c10 : ¬ r9.toInt = 0) (c11 : ¬ r9.toInt = 0) : ∀ v9 : QV, QAT (qH (σ.2.1 36) (σ.2.1 37) (σ.2.1 38) (σ.2.1 39) (σ.2.1 40) (σ.2.1 41) (σ.2.1 42) (σ.2.1 43) (σ.2.1 44) (σ.2.1 45) (σ.2.1 46) (σ.2.1 48)) (σ.1 47).toInt ((σ.2.1 51), (σ.2.2.1 52), (σ.2.2.1 53), (σ.2.2.2)) k0.toNatClampNeg v9 → (σ.1 56).toInt = 0 → QRES (qH (σ.2.1 36) (σ.2.1 37) (σ.2.1 38) (σ.2.1 39) (σ.2.1 40) (σ.2.1 41) (σ.2.1 42) (σ.2.1 43) (σ.2.1 44) (σ.2.1 45) (σ.2.1 46) (σ.2.1 48)) (σ.1 47).toInt ((σ.2.1 51), (σ.2.2.1 52), (σ.2.2.1 53), (σ.2.2.2)) ((upd (σ.2.1 51) k0.toNatClampNeg (1 : Int32)), (vp_updL (σ.2.2.1 52) k0.toNatClampNeg (1 : Int64)), (vp_updL (σ.2.2.1 53) k0.toNatClampNeg (0 : Int64)), (vf_upd (σ.2.2.2) k0.toNatClampNeg FP.dconst0)) k0.toNatClampNeg (σ.1 56).toInt (qCvB v9) := by
  have q0 : (0 : Int32).toInt = 0 := by decide +kernel
  have q1 : (1 : Int32).toInt = 1 := by decide +kernel
  have q101 : (101 : Int32).toInt = 101 := by decide +kernel
  have q114 : (114 : Int32).toInt = 114 := by decide +kernel
  have q116 : (116 : Int32).toInt = 116 := by decide +kernel
  have q117 : (117 : Int32).toInt = 117 := by decide +kernel
  have ql0 : (0 : Int64).toInt = 0 := by decide +kernel
  have ql1 : (1 : Int64).toInt = 1 := by decide +kernel
  exfalso; omega
-- post @154
theorem v_toBool_11 (σ : RS) (k0 : Int32) (x1 : Int32) (x3 : Int32) (x5 : Int32) (hpre_0 : 0 ≤ k0.toInt) (hpre_1 : k0.toInt < 980) (ex1 : x1 = (σ.2.1 51) k0.toNatClampNeg) (tx1 : x1.toInt = ((σ.2.1 51) k0.toNatClampNeg).toInt) (c2 : 8 ≤ x1.toInt) (ex3 : x3 = (σ.2.1 51) k0.toNatClampNeg) (tx3 : x3.toInt = ((σ.2.1 51) k0.toNatClampNeg).toInt) (c4 : ¬ x3.toInt = 3) (ex5 : x5 = (σ.2.1 51) k0.toNatClampNeg) (tx5 : x5.toInt = ((σ.2.1 51) k0.toNatClampNeg).toInt) (c6 : x5.toInt = 4) : 0 ≤ (10 : Int32).toInt ∧ (10 : Int32).toInt ≤ 11 ∧ Cell1 (σ.2.1 51) (upd (σ.2.1 51) k0.toNatClampNeg (1 : Int32)) (σ.2.2.1 52) (vp_updL (σ.2.2.1 52) k0.toNatClampNeg (0 : Int64)) (σ.2.2.2) (vf_upd (σ.2.2.2) k0.toNatClampNeg FP.dconst0) k0.toNatClampNeg (fun k v r => k = 1) := by
  have q1 : (1 : Int32).toInt = 1 := by decide +kernel
  have q10 : (10 : Int32).toInt = 10 := by decide +kernel
  have ql0 : (0 : Int64).toInt = 0 := by decide +kernel
  refine ⟨?_, ?_, ?_⟩ <;> first | assumption | omega | exact ⟨_, _, _, rfl, rfl, rfl, by omega⟩ | exact ⟨_, _, _, rfl, rfl, rfl, by decide +kernel⟩
-- post2 @154
theorem v_toBool_12 (σ : RS) (k0 : Int32) (x1 : Int32) (x3 : Int32) (x5 : Int32) (r9 : Int32) (r13 : Int32) (hpre_0 : 0 ≤ k0.toInt) (hpre_1 : k0.toInt < 980) (hpre_2 : 0 ≤ (σ.1 56).toInt) (hpre_3 : (σ.1 56).toInt ≤ 11) (ex1 : x1 = (σ.2.1 51) k0.toNatClampNeg) (tx1 : x1.toInt = ((σ.2.1 51) k0.toNatClampNeg).toInt) (c2 : 8 ≤ x1.toInt) (ex3 : x3 = (σ.2.1 51) k0.toNatClampNeg) (tx3 : x3.toInt = ((σ.2.1 51) k0.toNatClampNeg).toInt) (c4 : ¬ x3.toInt = 3) (ex5 : x5 = (σ.2.1 51) k0.toNatClampNeg) (tx5 : x5.toInt = ((σ.2.1 51) k0.toNatClampNeg).toInt) (c6 : x5.toInt = 4) (hr9y : ∀ s9 : List Int, QTT ((σ.2.2.1 52) k0.toNatClampNeg) ((σ.2.2.1 53) k0.toNatClampNeg) s9 → 0 ≤ (0 : Int32).toInt → (r9.toInt = 0 → ¬ s9 = (if 0 < (0 : Int32).toInt then [(116 : Int32).toInt, (114 : Int32).toInt, (117 : Int32).toInt, (101 : Int32).toInt, (0 : Int32).toInt] else [(116 : Int32).toInt, (114 : Int32).toInt, (117 : Int32).toInt, (101 : Int32).toInt])) ∧ (¬ r9.toInt = 0 → s9 = (if 0 < (0 : Int32).toInt then [(116 : Int32).toInt, (114 : Int32).toInt, (117 : Int32).toInt, (101 : Int32).toInt, (0 : Int32).toInt] else [(116 : Int32).toInt, (114 : Int32).toInt, (117 : Int32).toInt, (101 : Int32).toInt]))) (c10 : r9.toInt = 0) (hr13y : ∀ s9 : List Int, QTT ((σ.2.2.1 52) k0.toNatClampNeg) ((σ.2.2.1 53) k0.toNatClampNeg) s9 → 0 ≤ (101 : Int32).toInt → (r13.toInt = 0 → ¬ s9 = (if 0 < (101 : Int32).toInt then [(102 : Int32).toInt, (97 : Int32).toInt, (108 : Int32).toInt, (115 : Int32).toInt, (101 : Int32).toInt] else [(102 : Int32).toInt, (97 : Int32).toInt, (108 : Int32).toInt, (115 : Int32).toInt])) ∧ (¬ r13.toInt = 0 → s9 = (if 0 < (101 : Int32).toInt then [(102 : Int32).toInt, (97 : Int32).toInt, (108 : Int32).toInt, (115 : Int32).toInt, (101 : Int32).toInt] else [(102 : Int32).toInt, (97 : Int32).toInt, (108 : Int32).toInt, (115 : Int32).toInt]))) (c14 : r13.toInt = 0) (c15 : r9.toInt = 0) : ∀ v9 : QV, QAT (qH (σ.2.1 36) (σ.2.1 37) (σ.2.1 38) (σ.2.1 39) (σ.2.1 40) (σ.2.1 41) (σ.2.1 42) (σ.2.1 43) (σ.2.1 44) (σ.2.1 45) (σ.2.1 46) (σ.2.1 48)) (σ.1 47).toInt ((σ.2.1 51), (σ.2.2.1 52), (σ.2.2.1 53), (σ.2.2.2)) k0.toNatClampNeg v9 → (σ.1 56).toInt = 0 → QRES (qH (σ.2.1 36) (σ.2.1 37) (σ.2.1 38) (σ.2.1 39) (σ.2.1 40) (σ.2.1 41) (σ.2.1 42) (σ.2.1 43) (σ.2.1 44) (σ.2.1 45) (σ.2.1 46) (σ.2.1 48)) (σ.1 47).toInt ((σ.2.1 51), (σ.2.2.1 52), (σ.2.2.1 53), (σ.2.2.2)) ((upd (σ.2.1 51) k0.toNatClampNeg (1 : Int32)), (vp_updL (σ.2.2.1 52) k0.toNatClampNeg (0 : Int64)), (vp_updL (σ.2.2.1 53) k0.toNatClampNeg (0 : Int64)), (vf_upd (σ.2.2.2) k0.toNatClampNeg FP.dconst0)) k0.toNatClampNeg (10 : Int32).toInt (qCvB v9) := by
  have q0 : (0 : Int32).toInt = 0 := by decide +kernel
  have q1 : (1 : Int32).toInt = 1 := by decide +kernel
  have q10 : (10 : Int32).toInt = 10 := by decide +kernel
  have q97 : (97 : Int32).toInt = 97 := by decide +kernel
  have q101 : (101 : Int32).toInt = 101 := by decide +kernel
  have q102 : (102 : Int32).toInt = 102 := by decide +kernel
  have q108 : (108 : Int32).toInt = 108 := by decide +kernel
  have q114 : (114 : Int32).toInt = 114 := by decide +kernel
  have q115 : (115 : Int32).toInt = 115 := by decide +kernel
  have q116 : (116 : Int32).toInt = 116 := by decide +kernel
  have q117 : (117 : Int32).toInt = 117 := by decide +kernel
  have ql0 : (0 : Int64).toInt = 0 := by decide +kernel
  exfalso; omega
-- dead@142 @145
theorem v_toBool_13 (r9 : Int32) (c10 : r9.toInt = 0) (c15 : ¬ r9.toInt = 0) : False := by
  first | assumption | omega | (subst_vars; omega) | trivial
-- post @154
theorem v_toBool_14 (σ : RS) (k0 : Int32) (x1 : Int32) (x3 : Int32) (x5 : Int32) (hpre_0 : 0 ≤ k0.toInt) (hpre_1 : k0.toInt < 980) (hpre_2 : 0 ≤ (σ.1 56).toInt) (hpre_3 : (σ.1 56).toInt ≤ 11) (ex1 : x1 = (σ.2.1 51) k0.toNatClampNeg) (tx1 : x1.toInt = ((σ.2.1 51) k0.toNatClampNeg).toInt) (c2 : 8 ≤ x1.toInt) (ex3 : x3 = (σ.2.1 51) k0.toNatClampNeg) (tx3 : x3.toInt = ((σ.2.1 51) k0.toNatClampNeg).toInt) (c4 : ¬ x3.toInt = 3) (ex5 : x5 = (σ.2.1 51) k0.toNatClampNeg) (tx5 : x5.toInt = ((σ.2.1 51) k0.toNatClampNeg).toInt) (c6 : x5.toInt = 4) : 0 ≤ (σ.1 56).toInt ∧ (σ.1 56).toInt ≤ 11 ∧ Cell1 (σ.2.1 51) (upd (σ.2.1 51) k0.toNatClampNeg (1 : Int32)) (σ.2.2.1 52) (vp_updL (σ.2.2.1 52) k0.toNatClampNeg (0 : Int64)) (σ.2.2.2) (vf_upd (σ.2.2.2) k0.toNatClampNeg FP.dconst0) k0.toNatClampNeg (fun k v r => k = 1) := by
  have q1 : (1 : Int32).toInt = 1 := by decide +kernel
  have ql0 : (0 : Int64).toInt = 0 := by decide +kernel
  refine ⟨?_, ?_, ?_⟩ <;> first | assumption | omega | exact ⟨_, _, _, rfl, rfl, rfl, by omega⟩ | exact ⟨_, _, _, rfl, rfl, rfl, by decide +kernel⟩
-- post2 @154
theorem v_toBool_15 (σ : RS) (k0 : Int32) (x1 : Int32) (x3 : Int32) (x5 : Int32) (r9 : Int32) (r13 : Int32) (hpre_0 : 0 ≤ k0.toInt) (hpre_1 : k0.toInt < 980) (hpre_2 : 0 ≤ (σ.1 56).toInt) (hpre_3 : (σ.1 56).toInt ≤ 11) (ex1 : x1 = (σ.2.1 51) k0.toNatClampNeg) (tx1 : x1.toInt = ((σ.2.1 51) k0.toNatClampNeg).toInt) (c2 : 8 ≤ x1.toInt) (ex3 : x3 = (σ.2.1 51) k0.toNatClampNeg) (tx3 : x3.toInt = ((σ.2.1 51) k0.toNatClampNeg).toInt) (c4 : ¬ x3.toInt = 3) (ex5 : x5 = (σ.2.1 51) k0.toNatClampNeg) (tx5 : x5.toInt = ((σ.2.1 51) k0.toNatClampNeg).toInt) (c6 : x5.toInt = 4) (hr9y : ∀ s9 : List Int, QTT ((σ.2.2.1 52) k0.toNatClampNeg) ((σ.2.2.1 53) k0.toNatClampNeg) s9 → 0 ≤ (0 : Int32).toInt → (r9.toInt = 0 → ¬ s9 = (if 0 < (0 : Int32).toInt then [(116 : Int32).toInt, (114 : Int32).toInt, (117 : Int32).toInt, (101 : Int32).toInt, (0 : Int32).toInt] else [(116 : Int32).toInt, (114 : Int32).toInt, (117 : Int32).toInt, (101 : Int32).toInt])) ∧ (¬ r9.toInt = 0 → s9 = (if 0 < (0 : Int32).toInt then [(116 : Int32).toInt, (114 : Int32).toInt, (117 : Int32).toInt, (101 : Int32).toInt, (0 : Int32).toInt] else [(116 : Int32).toInt, (114 : Int32).toInt, (117 : Int32).toInt, (101 : Int32).toInt]))) (c10 : r9.toInt = 0) (hr13y : ∀ s9 : List Int, QTT ((σ.2.2.1 52) k0.toNatClampNeg) ((σ.2.2.1 53) k0.toNatClampNeg) s9 → 0 ≤ (101 : Int32).toInt → (r13.toInt = 0 → ¬ s9 = (if 0 < (101 : Int32).toInt then [(102 : Int32).toInt, (97 : Int32).toInt, (108 : Int32).toInt, (115 : Int32).toInt, (101 : Int32).toInt] else [(102 : Int32).toInt, (97 : Int32).toInt, (108 : Int32).toInt, (115 : Int32).toInt])) ∧ (¬ r13.toInt = 0 → s9 = (if 0 < (101 : Int32).toInt then [(102 : Int32).toInt, (97 : Int32).toInt, (108 : Int32).toInt, (115 : Int32).toInt, (101 : Int32).toInt] else [(102 : Int32).toInt, (97 : Int32).toInt, (108 : Int32).toInt, (115 : Int32).toInt]))) (c14 : ¬ r13.toInt = 0) (c17 : r9.toInt = 0) : ∀ v9 : QV, QAT (qH (σ.2.1 36) (σ.2.1 37) (σ.2.1 38) (σ.2.1 39) (σ.2.1 40) (σ.2.1 41) (σ.2.1 42) (σ.2.1 43) (σ.2.1 44) (σ.2.1 45) (σ.2.1 46) (σ.2.1 48)) (σ.1 47).toInt ((σ.2.1 51), (σ.2.2.1 52), (σ.2.2.1 53), (σ.2.2.2)) k0.toNatClampNeg v9 → (σ.1 56).toInt = 0 → QRES (qH (σ.2.1 36) (σ.2.1 37) (σ.2.1 38) (σ.2.1 39) (σ.2.1 40) (σ.2.1 41) (σ.2.1 42) (σ.2.1 43) (σ.2.1 44) (σ.2.1 45) (σ.2.1 46) (σ.2.1 48)) (σ.1 47).toInt ((σ.2.1 51), (σ.2.2.1 52), (σ.2.2.1 53), (σ.2.2.2)) ((upd (σ.2.1 51) k0.toNatClampNeg (1 : Int32)), (vp_updL (σ.2.2.1 52) k0.toNatClampNeg (0 : Int64)), (vp_updL (σ.2.2.1 53) k0.toNatClampNeg (0 : Int64)), (vf_upd (σ.2.2.2) k0.toNatClampNeg FP.dconst0)) k0.toNatClampNeg (σ.1 56).toInt (qCvB v9) := by
  have q0 : (0 : Int32).toInt = 0 := by decide +kernel
  have q1 : (1 : Int32).toInt = 1 := by decide +kernel
  have q97 : (97 : Int32).toInt = 97 := by decide +kernel
  have q101 : (101 : Int32).toInt = 101 := by decide +kernel
  have q102 : (102 : Int32).toInt = 102 := by decide +kernel
  have q108 : (108 : Int32).toInt = 108 := by decide +kernel
  have q114 : (114 : Int32).toInt = 114 := by decide +kernel
  have q115 : (115 : Int32).toInt = 115 := by decide +kernel
  have q116 : (116 : Int32).toInt = 116 := by decide +kernel
  have q117 : (117 : Int32).toInt = 117 := by decide +kernel
  have ql0 : (0 : Int64).toInt = 0 := by decide +kernel
  exfalso; omega
-- dead@142 @145
theorem v_toBool_16 (r9 : Int32) (c10 : r9.toInt = 0) (c17 : ¬ r9.toInt = 0) : False := by
  first | assumption | omega | (subst_vars; omega) | trivial
-- in@63 @63
theorem v_toBool_17 (σ : RS) (k0 : Int32) (x1 : Int32) (x3 : Int32) (hpre_0 : 0 ≤ k0.toInt) (hpre_1 : k0.toInt < 980) (ex1 : x1 = (σ.2.1 51) k0.toNatClampNeg) (tx1 : x1.toInt = ((σ.2.1 51) k0.toNatClampNeg).toInt) (c2 : 8 ≤ x1.toInt) (ex3 : x3 = (σ.2.1 51) k0.toNatClampNeg) (tx3 : x3.toInt = ((σ.2.1 51) k0.toNatClampNeg).toInt) (c4 : x3.toInt = 3) : vp_in k0 980 := by
  exact vp_in_iff.mpr ⟨by omega, by omega⟩
-- pre:set@151 @151
theorem v_toBool_18 (σ : RS) (k0 : Int32) (x1 : Int32) (x3 : Int32) (x19 : UInt64) (x20 : Int32) (hpre_0 : 0 ≤ k0.toInt) (hpre_1 : k0.toInt < 980) (ex1 : x1 = (σ.2.1 51) k0.toNatClampNeg) (tx1 : x1.toInt = ((σ.2.1 51) k0.toNatClampNeg).toInt) (c2 : 8 ≤ x1.toInt) (ex3 : x3 = (σ.2.1 51) k0.toNatClampNeg) (tx3 : x3.toInt = ((σ.2.1 51) k0.toNatClampNeg).toInt) (c4 : x3.toInt = 3) (ex19 : x19 = (σ.2.2.2) k0.toNatClampNeg) (ex20 : x20 = Op.cmpValue (FP.dcmp x19 FP.dconst0) .l) (c21 : x20.toInt = 0) : 0 ≤ k0.toInt ∧ k0.toInt < 980 := by
  refine ⟨?_, ?_⟩ <;> first | assumption | omega | (subst_vars; omega) | trivial
-- post @154
theorem v_toBool_19 (σ : RS) (k0 : Int32) (x1 : Int32) (x3 : Int32) (x19 : UInt64) (x20 : Int32) (hpre_0 : 0 ≤ k0.toInt) (hpre_1 : k0.toInt < 980) (hpre_2 : 0 ≤ (σ.1 56).toInt) (hpre_3 : (σ.1 56).toInt ≤ 11) (ex1 : x1 = (σ.2.1 51) k0.toNatClampNeg) (tx1 : x1.toInt = ((σ.2.1 51) k0.toNatClampNeg).toInt) (c2 : 8 ≤ x1.toInt) (ex3 : x3 = (σ.2.1 51) k0.toNatClampNeg) (tx3 : x3.toInt = ((σ.2.1 51) k0.toNatClampNeg).toInt) (c4 : x3.toInt = 3) (ex19 : x19 = (σ.2.2.2) k0.toNatClampNeg) (ex20 : x20 = Op.cmpValue (FP.dcmp x19 FP.dconst0) .l) (c21 : x20.toInt = 0) : 0 ≤ (σ.1 56).toInt ∧ (σ.1 56).toInt ≤ 11 ∧ Cell1 (σ.2.1 51) (upd (σ.2.1 51) k0.toNatClampNeg (1 : Int32)) (σ.2.2.1 52) (vp_updL (σ.2.2.1 52) k0.toNatClampNeg (0 : Int64)) (σ.2.2.2) (vf_upd (σ.2.2.2) k0.toNatClampNeg FP.dconst0) k0.toNatClampNeg (fun k v r => k = 1) := by
  have q1 : (1 : Int32).toInt = 1 := by decide +kernel
  have ql0 : (0 : Int64).toInt = 0 := by decide +kernel
  refine ⟨?_, ?_, ?_⟩ <;> first | assumption | omega | exact ⟨_, _, _, rfl, rfl, rfl, by omega⟩ | exact ⟨_, _, _, rfl, rfl, rfl, by decide +kernel⟩
-- post2 @154
theorem v_toBool_20 (σ : RS) (k0 : Int32) (x1 : Int32) (x3 : Int32) (x19 : UInt64) (x20 : Int32) (hpre_0 : 0 ≤ k0.toInt) (hpre_1 : k0.toInt < 980) (hpre_2 : 0 ≤ (σ.1 56).toInt) (hpre_3 : (σ.1 56).toInt ≤ 11) (ex1 : x1 = (σ.2.1 51) k0.toNatClampNeg) (tx1 : x1.toInt = ((σ.2.1 51) k0.toNatClampNeg).toInt) (c2 : 8 ≤ x1.toInt) (ex3 : x3 = (σ.2.1 51) k0.toNatClampNeg) (tx3 : x3.toInt = ((σ.2.1 51) k0.toNatClampNeg).toInt) (c4 : x3.toInt = 3) (ex19 : x19 = (σ.2.2.2) k0.toNatClampNeg) (ex20 : x20 = Op.cmpValue (FP.dcmp x19 FP.dconst0) .l) (c21 : x20.toInt = 0) : ∀ v9 : QV, QAT (qH (σ.2.1 36) (σ.2.1 37) (σ.2.1 38) (σ.2.1 39) (σ.2.1 40) (σ.2.1 41) (σ.2.1 42) (σ.2.1 43) (σ.2.1 44) (σ.2.1 45) (σ.2.1 46) (σ.2.1 48)) (σ.1 47).toInt ((σ.2.1 51), (σ.2.2.1 52), (σ.2.2.1 53), (σ.2.2.2)) k0.toNatClampNeg v9 → (σ.1 56).toInt = 0 → QRES (qH (σ.2.1 36) (σ.2.1 37) (σ.2.1 38) (σ.2.1 39) (σ.2.1 40) (σ.2.1 41) (σ.2.1 42) (σ.2.1 43) (σ.2.1 44) (σ.2.1 45) (σ.2.1 46) (σ.2.1 48)) (σ.1 47).toInt ((σ.2.1 51), (σ.2.2.1 52), (σ.2.2.1 53), (σ.2.2.2)) ((upd (σ.2.1 51) k0.toNatClampNeg (1 : Int32)), (vp_updL (σ.2.2.1 52) k0.toNatClampNeg (0 : Int64)), (vp_updL (σ.2.2.1 53) k0.toNatClampNeg (0 : Int64)), (vf_upd (σ.2.2.2) k0.toNatClampNeg FP.dconst0)) k0.toNatClampNeg (σ.1 56).toInt (qCvB v9) := by
  have q1 : (1 : Int32).toInt = 1 := by decide +kernel
  have ql0 : (0 : Int64).toInt = 0 := by decide +kernel
  exfalso; omega
-- pre:set@151 @151
theorem v_toBool_21 (σ : RS) (k0 : Int32) (x1 : Int32) (x3 : Int32) (x19 : UInt64) (x20 : Int32) (hpre_0 : 0 ≤ k0.toInt) (hpre_1 : k0.toInt < 980) (ex1 : x1 = (σ.2.1 51) k0.toNatClampNeg) (tx1 : x1.toInt = ((σ.2.1 51) k0.toNatClampNeg).toInt) (c2 : 8 ≤ x1.toInt) (ex3 : x3 = (σ.2.1 51) k0.toNatClampNeg) (tx3 : x3.toInt = ((σ.2.1 51) k0.toNatClampNeg).toInt) (c4 : x3.toInt = 3) (ex19 : x19 = (σ.2.2.2) k0.toNatClampNeg) (ex20 : x20 = Op.cmpValue (FP.dcmp x19 FP.dconst0) .l) (c21 : ¬ x20.toInt = 0) : 0 ≤ k0.toInt ∧ k0.toInt < 980 := by
  refine ⟨?_, ?_⟩ <;> first | assumption | omega | (subst_vars; omega) | trivial
-- post @154
theorem v_toBool_22 (σ : RS) (k0 : Int32) (x1 : Int32) (x3 : Int32) (x19 : UInt64) (x20 : Int32) (hpre_0 : 0 ≤ k0.toInt) (hpre_1 : k0.toInt < 980) (hpre_2 : 0 ≤ (σ.1 56).toInt) (hpre_3 : (σ.1 56).toInt ≤ 11) (ex1 : x1 = (σ.2.1 51) k0.toNatClampNeg) (tx1 : x1.toInt = ((σ.2.1 51) k0.toNatClampNeg).toInt) (c2 : 8 ≤ x1.toInt) (ex3 : x3 = (σ.2.1 51) k0.toNatClampNeg) (tx3 : x3.toInt = ((σ.2.1 51) k0.toNatClampNeg).toInt) (c4 : x3.toInt = 3) (ex19 : x19 = (σ.2.2.2) k0.toNatClampNeg) (ex20 : x20 = Op.cmpValue (FP.dcmp x19 FP.dconst0) .l) (c21 : ¬ x20.toInt = 0) : 0 ≤ (σ.1 56).toInt ∧ (σ.1 56).toInt ≤ 11 ∧ Cell1 (σ.2.1 51) (upd (σ.2.1 51) k0.toNatClampNeg (1 : Int32)) (σ.2.2.1 52) (vp_updL (σ.2.2.1 52) k0.toNatClampNeg (1 : Int64)) (σ.2.2.2) (vf_upd (σ.2.2.2) k0.toNatClampNeg FP.dconst0) k0.toNatClampNeg (fun k v r => k = 1) := by
  have q1 : (1 : Int32).toInt = 1 := by decide +kernel
  have ql1 : (1 : Int64).toInt = 1 := by decide +kernel
  refine ⟨?_, ?_, ?_⟩ <;> first | assumption | omega | exact ⟨_, _, _, rfl, rfl, rfl, by omega⟩ | exact ⟨_, _, _, rfl, rfl, rfl, by decide +kernel⟩
-- post2 @154
theorem v_toBool_23 (σ : RS) (k0 : Int32) (x1 : Int32) (x3 : Int32) (x19 : UInt64) (x20 : Int32) (hpre_0 : 0 ≤ k0.toInt) (hpre_1 : k0.toInt < 980) (hpre_2 : 0 ≤ (σ.1 56).toInt) (hpre_3 : (σ.1 56).toInt ≤ 11) (ex1 : x1 = (σ.2.1 51) k0.toNatClampNeg) (tx1 : x1.toInt = ((σ.2.1 51) k0.toNatClampNeg).toInt) (c2 : 8 ≤ x1.toInt) (ex3 : x3 = (σ.2.1 51) k0.toNatClampNeg) (tx3 : x3.toInt = ((σ.2.1 51) k0.toNatClampNeg).toInt) (c4 : x3.toInt = 3) (ex19 : x19 = (σ.2.2.2) k0.toNatClampNeg) (ex20 : x20 = Op.cmpValue (FP.dcmp x19 FP.dconst0) .l) (c21 : ¬ x20.toInt = 0) : ∀ v9 : QV, QAT (qH (σ.2.1 36) (σ.2.1 37) (σ.2.1 38) (σ.2.1 39) (σ.2.1 40) (σ.2.1 41) (σ.2.1 42) (σ.2.1 43) (σ.2.1 44) (σ.2.1 45) (σ.2.1 46) (σ.2.1 48)) (σ.1 47).toInt ((σ.2.1 51), (σ.2.2.1 52), (σ.2.2.1 53), (σ.2.2.2)) k0.toNatClampNeg v9 → (σ.1 56).toInt = 0 → QRES (qH (σ.2.1 36) (σ.2.1 37) (σ.2.1 38) (σ.2.1 39) (σ.2.1 40) (σ.2.1 41) (σ.2.1 42) (σ.2.1 43) (σ.2.1 44) (σ.2.1 45) (σ.2.1 46) (σ.2.1 48)) (σ.1 47).toInt ((σ.2.1 51), (σ.2.2.1 52), (σ.2.2.1 53), (σ.2.2.2)) ((upd (σ.2.1 51) k0.toNatClampNeg (1 : Int32)), (vp_updL (σ.2.2.1 52) k0.toNatClampNeg (1 : Int64)), (vp_updL (σ.2.2.1 53) k0.toNatClampNeg (0 : Int64)), (vf_upd (σ.2.2.2) k0.toNatClampNeg FP.dconst0)) k0.toNatClampNeg (σ.1 56).toInt (qCvB v9) := by
  have q1 : (1 : Int32).toInt = 1 := by decide +kernel
  have ql0 : (0 : Int64).toInt = 0 := by decide +kernel
  have ql1 : (1 : Int64).toInt = 1 := by decide +kernel
  exfalso; omega
-- in@16 @16
theorem v_toBool_24 (σ : RS) (k0 : Int32) (x1 : Int32) (hpre_0 : 0 ≤ k0.toInt) (hpre_1 : k0.toInt < 980) (ex1 : x1 = (σ.2.1 51) k0.toNatClampNeg) (tx1 : x1.toInt = ((σ.2.1 51) k0.toNatClampNeg).toInt) (c2 : x1.toInt < 8) : vp_in k0 980 := by
  exact vp_in_iff.mpr ⟨by omega, by omega⟩
-- in@53 @53
theorem v_toBool_25 (σ : RS) (k0 : Int32) (x1 : Int32) (x26 : Int32) (hpre_0 : 0 ≤ k0.toInt) (hpre_1 : k0.toInt < 980) (ex1 : x1 = (σ.2.1 51) k0.toNatClampNeg) (tx1 : x1.toInt = ((σ.2.1 51) k0.toNatClampNeg).toInt) (c2 : x1.toInt < 8) (ex26 : x26 = (σ.2.1 51) k0.toNatClampNeg) (tx26 : x26.toInt = ((σ.2.1 51) k0.toNatClampNeg).toInt) (c27 : x26.toInt = 3) : vp_in k0 980 := by
  exact vp_in_iff.mpr ⟨by omega, by omega⟩
-- in@83 @83
theorem v_toBool_26 (σ : RS) (k0 : Int32) (x1 : Int32) (x26 : Int32) (x28 : Int32) (hpre_0 : 0 ≤ k0.toInt) (hpre_1 : k0.toInt < 980) (ex1 : x1 = (σ.2.1 51) k0.toNatClampNeg) (tx1 : x1.toInt = ((σ.2.1 51) k0.toNatClampNeg).toInt) (c2 : x1.toInt < 8) (ex26 : x26 = (σ.2.1 51) k0.toNatClampNeg) (tx26 : x26.toInt = ((σ.2.1 51) k0.toNatClampNeg).toInt) (c27 : x26.toInt = 3) (ex28 : x28 = (σ.2.1 51) k0.toNatClampNeg) (tx28 : x28.toInt = ((σ.2.1 51) k0.toNatClampNeg).toInt) (c29 : ¬ x28.toInt = 3) : vp_in k0 980 := by
  exact vp_in_iff.mpr ⟨by omega, by omega⟩
-- pre:set@151 @151
theorem v_toBool_27 (σ : RS) (k0 : Int32) (x1 : Int32) (x26 : Int32) (x28 : Int32) (x30 : Int32) (hpre_0 : 0 ≤ k0.toInt) (hpre_1 : k0.toInt < 980) (ex1 : x1 = (σ.2.1 51) k0.toNatClampNeg) (tx1 : x1.toInt = ((σ.2.1 51) k0.toNatClampNeg).toInt) (c2 : x1.toInt < 8) (ex26 : x26 = (σ.2.1 51) k0.toNatClampNeg) (tx26 : x26.toInt = ((σ.2.1 51) k0.toNatClampNeg).toInt) (c27 : x26.toInt = 3) (ex28 : x28 = (σ.2.1 51) k0.toNatClampNeg) (tx28 : x28.toInt = ((σ.2.1 51) k0.toNatClampNeg).toInt) (c29 : ¬ x28.toInt = 3) (ex30 : x30 = (σ.2.1 51) k0.toNatClampNeg) (tx30 : x30.toInt = ((σ.2.1 51) k0.toNatClampNeg).toInt) (c31 : ¬ x30.toInt = 4) : 0 ≤ k0.toInt ∧ k0.toInt < 980 := by
  refine ⟨?_, ?_⟩ <;> first | assumption | omega | (subst_vars; omega) | trivial
-- post @154
theorem v_toBool_28 (σ : RS) (k0 : Int32) (x1 : Int32) (x26 : Int32) (x28 : Int32) (x30 : Int32) (hpre_0 : 0 ≤ k0.toInt) (hpre_1 : k0.toInt < 980) (hpre_2 : 0 ≤ (σ.1 56).toInt) (hpre_3 : (σ.1 56).toInt ≤ 11) (ex1 : x1 = (σ.2.1 51) k0.toNatClampNeg) (tx1 : x1.toInt = ((σ.2.1 51) k0.toNatClampNeg).toInt) (c2 : x1.toInt < 8) (ex26 : x26 = (σ.2.1 51) k0.toNatClampNeg) (tx26 : x26.toInt = ((σ.2.1 51) k0.toNatClampNeg).toInt) (c27 : x26.toInt = 3) (ex28 : x28 = (σ.2.1 51) k0.toNatClampNeg) (tx28 : x28.toInt = ((σ.2.1 51) k0.toNatClampNeg).toInt) (c29 : ¬ x28.toInt = 3) (ex30 : x30 = (σ.2.1 51) k0.toNatClampNeg) (tx30 : x30.toInt = ((σ.2.1 51) k0.toNatClampNeg).toInt) (c31 : ¬ x30.toInt = 4) : 0 ≤ (σ.1 56).toInt ∧ (σ.1 56).toInt ≤ 11 ∧ Cell1 (σ.2.1 51) (upd (σ.2.1 51) k0.toNatClampNeg (1 : Int32)) (σ.2.2.1 52) (vp_updL (σ.2.2.1 52) k0.toNatClampNeg (0 : Int64)) (σ.2.2.2) (vf_upd (σ.2.2.2) k0.toNatClampNeg FP.dconst0) k0.toNatClampNeg (fun k v r => k = 1) := by
  have q1 : (1 : Int32).toInt = 1 := by decide +kernel
  have ql0 : (0 : Int64).toInt = 0 := by decide +kernel
  refine ⟨?_, ?_, ?_⟩ <;> first | assumption | omega | exact ⟨_, _, _, rfl, rfl, rfl, by omega⟩ | exact ⟨_, _, _, rfl, rfl, rfl, by decide +kernel⟩
-- post2 @154
theorem v_toBool_29 (σ : RS) (k0 : Int32) (x1 : Int32) (x26 : Int32) (x28 : Int32) (x30 : Int32) (hpre_0 : 0 ≤ k0.toInt) (hpre_1 : k0.toInt < 980) (hpre_2 : 0 ≤ (σ.1 56).toInt) (hpre_3 : (σ.1 56).toInt ≤ 11) (ex1 : x1 = (σ.2.1 51) k0.toNatClampNeg) (tx1 : x1.toInt = ((σ.2.1 51) k0.toNatClampNeg).toInt) (c2 : x1.toInt < 8) (ex26 : x26 = (σ.2.1 51) k0.toNatClampNeg) (tx26 : x26.toInt = ((σ.2.1 51) k0.toNatClampNeg).toInt) (c27 : x26.toInt = 3) (ex28 : x28 = (σ.2.1 51) k0.toNatClampNeg) (tx28 : x28.toInt = ((σ.2.1 51) k0.toNatClampNeg).toInt) (c29 : ¬ x28.toInt = 3) (ex30 : x30 = (σ.2.1 51) k0.toNatClampNeg) (tx30 : x30.toInt = ((σ.2.1 51) k0.toNatClampNeg).toInt) (c31 : ¬ x30.toInt = 4) : ∀ v9 : QV, QAT (qH (σ.2.1 36) (σ.2.1 37) (σ.2.1 38) (σ.2.1 39) (σ.2.1 40) (σ.2.1 41) (σ.2.1 42) (σ.2.1 43) (σ.2.1 44) (σ.2.1 45) (σ.2.1 46) (σ.2.1 48)) (σ.1 47).toInt ((σ.2.1 51), (σ.2.2.1 52), (σ.2.2.1 53), (σ.2.2.2)) k0.toNatClampNeg v9 → (σ.1 56).toInt = 0 → QRES (qH (σ.2.1 36) (σ.2.1 37) (σ.2.1 38) (σ.2.1 39) (σ.2.1 40) (σ.2.1 41) (σ.2.1 42) (σ.2.1 43) (σ.2.1 44) (σ.2.1 45) (σ.2.1 46) (σ.2.1 48)) (σ.1 47).toInt ((σ.2.1 51), (σ.2.2.1 52), (σ.2.2.1 53), (σ.2.2.2)) ((upd (σ.2.1 51) k0.toNatClampNeg (1 : Int32)), (vp_updL (σ.2.2.1 52) k0.toNatClampNeg (0 : Int64)), (vp_updL (σ.2.2.1 53) k0.toNatClampNeg (0 : Int64)), (vf_upd (σ.2.2.2) k0.toNatClampNeg FP.dconst0)) k0.toNatClampNeg (σ.1 56).toInt (qCvB v9) := by
  have q1 : (1 : Int32).toInt = 1 := by decide +kernel
  have ql0 : (0 : Int64).toInt = 0 := by decide +kernel
  exfalso; omega
-- pre:spells@99 @99
theorem v_toBool_30 (σ : RS) (k0 : Int32) (x1 : Int32) (x26 : Int32) (x28 : Int32) (x30 : Int32) (hpre_0 : 0 ≤ k0.toInt) (hpre_1 : k0.toInt < 980) (ex1 : x1 = (σ.2.1 51) k0.toNatClampNeg) (tx1 : x1.toInt = ((σ.2.1 51) k0.toNatClampNeg).toInt) (c2 : x1.toInt < 8) (ex26 : x26 = (σ.2.1 51) k0.toNatClampNeg) (tx26 : x26.toInt = ((σ.2.1 51) k0.toNatClampNeg).toInt) (c27 : x26.toInt = 3) (ex28 : x28 = (σ.2.1 51) k0.toNatClampNeg) (tx28 : x28.toInt = ((σ.2.1 51) k0.toNatClampNeg).toInt) (c29 : ¬ x28.toInt = 3) (ex30 : x30 = (σ.2.1 51) k0.toNatClampNeg) (tx30 : x30.toInt = ((σ.2.1 51) k0.toNatClampNeg).toInt) (c31 : x30.toInt = 4) : 0 ≤ k0.toInt ∧ k0.toInt < 980 := by
  refine ⟨?_, ?_⟩ <;> first | assumption | omega | (subst_vars; omega) | trivial
-- dead@142 @149
theorem v_toBool_31 (r34 : Int32) (c35 : ¬ r34.toInt = 0) (c36 : r34.toInt = 0) : False := by
  first | assumption | omega | (subst_vars; omega) | trivial
-- post @154
theorem v_toBool_32 (σ : RS) (k0 : Int32) (x1 : Int32) (x26 : Int32) (x28 : Int32) (x30 : Int32) (hpre_0 : 0 ≤ k0.toInt) (hpre_1 : k0.toInt < 980) (hpre_2 : 0 ≤ (σ.1 56).toInt) (hpre_3 : (σ.1 56).toInt ≤ 11) (ex1 : x1 = (σ.2.1 51) k0.toNatClampNeg) (tx1 : x1.toInt = ((σ.2.1 51) k0.toNatClampNeg).toInt) (c2 : x1.toInt < 8) (ex26 : x26 = (σ.2.1 51) k0.toNatClampNeg) (tx26 : x26.toInt = ((σ.2.1 51) k0.toNatClampNeg).toInt) (c27 : x26.toInt = 3) (ex28 : x28 = (σ.2.1 51) k0.toNatClampNeg) (tx28 : x28.toInt = ((σ.2.1 51) k0.toNatClampNeg).toInt) (c29 : ¬ x28.toInt = 3) (ex30 : x30 = (σ.2.1 51) k0.toNatClampNeg) (tx30 : x30.toInt = ((σ.2.1 51) k0.toNatClampNeg).toInt) (c31 : x30.toInt = 4) : 0 ≤ (σ.1 56).toInt ∧ (σ.1 56).toInt ≤ 11 ∧ Cell1 (σ.2.1 51) (upd (σ.2.1 51) k0.toNatClampNeg (1 : Int32)) (σ.2.2.1 52) (vp_updL (σ.2.2.1 52) k0.toNatClampNeg (1 : Int64)) (σ.2.2.2) (vf_upd (σ.2.2.2) k0.toNatClampNeg FP.dconst0) k0.toNatClampNeg (fun k v r => k = 1) := by
  have q1 : (1 : Int32).toInt = 1 := by decide +kernel
  have ql1 : (1 : Int64).toInt = 1 := by decide +kernel
  refine ⟨?_, ?_, ?_⟩ <;> first | assumption | omega | exact ⟨_, _, _, rfl, rfl, rfl, by omega⟩ | exact ⟨_, _, _, rfl, rfl, rfl, by decide +kernel⟩
-- post2 @154
theorem v_toBool_33 (σ : RS) (k0 : Int32) (x1 : Int32) (x26 : Int32) (x28 : Int32) (x30 : Int32) (r34 : Int32) (hpre_0 : 0 ≤ k0.toInt) (hpre_1 : k0.toInt < 980) (hpre_2 : 0 ≤ (σ.1 56).toInt) (hpre_3 : (σ.1 56).toInt ≤ 11) (ex1 : x1 = (σ.2.1 51) k0.toNatClampNeg) (tx1 : x1.toInt = ((σ.2.1 51) k0.toNatClampNeg).toInt) (c2 : x1.toInt < 8) (ex26 : x26 = (σ.2.1 51) k0.toNatClampNeg) (tx26 : x26.toInt = ((σ.2.1 51) k0.toNatClampNeg).toInt) (c27 : x26.toInt = 3) (ex28 : x28 = (σ.2.1 51) k0.toNatClampNeg) (tx28 : x28.toInt = ((σ.2.1 51) k0.toNatClampNeg).toInt) (c29 : ¬ x28.toInt = 3) (ex30 : x30 = (σ.2.1 51) k0.toNatClampNeg) (tx30 : x30.toInt = ((σ.2.1 51) k0.toNatClampNeg).toInt) (c31 : x30.toInt = 4) (hr34y : ∀ s9 : List Int, QTT ((σ.2.2.1 52) k0.toNatClampNeg) ((σ.2.2.1 53) k0.toNatClampNeg) s9 → 0 ≤ (0 : Int32).toInt → (r34.toInt = 0 → ¬ s9 = (if 0 < (0 : Int32).toInt then [(116 : Int32).toInt, (114 : Int32).toInt, (117 : Int32).toInt, (101 : Int32).toInt, (0 : Int32).toInt] else [(116 : Int32).toInt, (114 : Int32).toInt, (117 : Int32).toInt, (101 : Int32).toInt])) ∧ (¬ r34.toInt = 0 → s9 = (if 0 < (0 : Int32).toInt then [(116 : Int32).toInt, (114 : Int32).toInt, (117 : Int32).toInt, (101 : Int32).toInt, (0 : Int32).toInt] else [(116 : Int32).toInt, (114 : Int32).toInt, (117 : Int32).toInt, (101 : Int32).toInt]))) (c35 : ¬ r34.toInt = 0) (c36 : ¬ r34.toInt = 0) : ∀ v9 : QV, QAT (qH (σ.2.1 36) (σ.2.1 37) (σ.2.1 38) (σ.2.1 39) (σ.2.1 40) (σ.2.1 41) (σ.2.1 42) (σ.2.1 43) (σ.2.1 44) (σ.2.1 45) (σ.2.1 46) (σ.2.1 48)) (σ.1 47).toInt ((σ.2.1 51), (σ.2.2.1 52), (σ.2.2.1 53), (σ.2.2.2)) k0.toNatClampNeg v9 → (σ.1 56).toInt = 0 → QRES (qH (σ.2.1 36) (σ.2.1 37) (σ.2.1 38) (σ.2.1 39) (σ.2.1 40) (σ.2.1 41) (σ.2.1 42) (σ.2.1 43) (σ.2.1 44) (σ.2.1 45) (σ.2.1 46) (σ.2.1 48)) (σ.1 47).toInt ((σ.2.1 51), (σ.2.2.1 52), (σ.2.2.1 53), (σ.2.2.2)) ((upd (σ.2.1 51) k0.toNatClampNeg (1 : Int32)), (vp_updL (σ.2.2.1 52) k0.toNatClampNeg (1 : Int64)), (vp_updL (σ.2.2.1 53) k0.toNatClampNeg (0 : Int64)), (vf_upd (σ.2.2.2) k0.toNatClampNeg FP.dconst0)) k0.toNatClampNeg (σ.1 56).toInt (qCvB v9) := by
  have q0 : (0 : Int32).toInt = 0 := by decide +kernel
  have q1 : (1 : Int32).toInt = 1 := by decide +kernel
  have q101 : (101 : Int32).toInt = 101 := by decide +kernel
  have q114 : (114 : Int32).toInt = 114 := by decide +kernel
  have q116 : (116 : Int32).toInt = 116 := by decide +kernel
  have q117 : (117 : Int32).toInt = 117 := by decide +kernel
  have ql0 : (0 : Int64).toInt = 0 := by decide +kernel
  have ql1 : (1 : Int64).toInt = 1 := by decide +kernel
  exfalso; omega
-- post @154
theorem v_toBool_34 (σ : RS) (k0 : Int32) (x1 : Int32) (x26 : Int32) (x28 : Int32) (x30 : Int32) (hpre_0 : 0 ≤ k0.toInt) (hpre_1 : k0.toInt < 980) (ex1 : x1 = (σ.2.1 51) k0.toNatClampNeg) (tx1 : x1.toInt = ((σ.2.1 51) k0.toNatClampNeg).toInt) (c2 : x1.toInt < 8) (ex26 : x26 = (σ.2.1 51) k0.toNatClampNeg) (tx26 : x26.toInt = ((σ.2.1 51) k0.toNatClampNeg).toInt) (c27 : x26.toInt = 3) (ex28 : x28 = (σ.2.1 51) k0.toNatClampNeg) (tx28 : x28.toInt = ((σ.2.1 51) k0.toNatClampNeg).toInt) (c29 : ¬ x28.toInt = 3) (ex30 : x30 = (σ.2.1 51) k0.toNatClampNeg) (tx30 : x30.toInt = ((σ.2.1 51) k0.toNatClampNeg).toInt) (c31 : x30.toInt = 4) : 0 ≤ (10 : Int32).toInt ∧ (10 : Int32).toInt ≤ 11 ∧ Cell1 (σ.2.1 51) (upd (σ.2.1 51) k0.toNatClampNeg (1 : Int32)) (σ.2.2.1 52) (vp_updL (σ.2.2.1 52) k0.toNatClampNeg (0 : Int64)) (σ.2.2.2) (vf_upd (σ.2.2.2) k0.toNatClampNeg FP.dconst0) k0.toNatClampNeg (fun k v r => k = 1) := by
  have q1 : (1 : Int32).toInt = 1 := by decide +kernel
  have q10 : (10 : Int32).toInt = 10 := by decide +kernel
  have ql0 : (0 : Int64).toInt = 0 := by decide +kernel
  refine ⟨?_, ?_, ?_⟩ <;> first | assumption | omega | exact ⟨_, _, _, rfl, rfl, rfl, by omega⟩ | exact ⟨_, _, _, rfl, rfl, rfl, by decide +kernel⟩
-- post2 @154
theorem v_toBool_35 (σ : RS) (k0 : Int32) (x1 : Int32) (x26 : Int32) (x28 : Int32) (x30 : Int32) (r34 : Int32) (r38 : Int32) (hpre_0 : 0 ≤ k0.toInt) (hpre_1 : k0.toInt < 980) (hpre_2 : 0 ≤ (σ.1 56).toInt) (hpre_3 : (σ.1 56).toInt ≤ 11) (ex1 : x1 = (σ.2.1 51) k0.toNatClampNeg) (tx1 : x1.toInt = ((σ.2.1 51) k0.toNatClampNeg).toInt) (c2 : x1.toInt < 8) (ex26 : x26 = (σ.2.1 51) k0.toNatClampNeg) (tx26 : x26.toInt = ((σ.2.1 51) k0.toNatClampNeg).toInt) (c27 : x26.toInt = 3) (ex28 : x28 = (σ.2.1 51) k0.toNatClampNeg) (tx28 : x28.toInt = ((σ.2.1 51) k0.toNatClampNeg).toInt) (c29 : ¬ x28.toInt = 3) (ex30 : x30 = (σ.2.1 51) k0.toNatClampNeg) (tx30 : x30.toInt = ((σ.2.1 51) k0.toNatClampNeg).toInt) (c31 : x30.toInt = 4) (hr34y : ∀ s9 : List Int, QTT ((σ.2.2.1 52) k0.toNatClampNeg) ((σ.2.2.1 53) k0.toNatClampNeg) s9 → 0 ≤ (0 : Int32).toInt → (r34.toInt = 0 → ¬ s9 = (if 0 < (0 : Int32).toInt then [(116 : Int32).toInt, (114 : Int32).toInt, (117 : Int32).toInt, (101 : Int32).toInt, (0 : Int32).toInt] else [(116 : Int32).toInt, (114 : Int32).toInt, (117 : Int32).toInt, (101 : Int32).toInt])) ∧ (¬ r34.toInt = 0 → s9 = (if 0 < (0 : Int32).toInt then [(116 : Int32).toInt, (114 : Int32).toInt, (117 : Int32).toInt, (101 : Int32).toInt, (0 : Int32).toInt] else [(116 : Int32).toInt, (114 : Int32).toInt, (117 : Int32).toInt, (101 : Int32).toInt]))) (c35 : r34.toInt = 0) (hr38y : ∀ s9 : List Int, QTT ((σ.2.2.1 52) k0.toNatClampNeg) ((σ.2.2.1 53) k0.toNatClampNeg) s9 → 0 ≤ (101 : Int32).toInt → (r38.toInt = 0 → ¬ s9 = (if 0 < (101 : Int32).toInt then [(102 : Int32).toInt, (97 : Int32).toInt, (108 : Int32).toInt, (115 : Int32).toInt, (101 : Int32).toInt] else [(102 : Int32).toInt, (97 : Int32).toInt, (108 : Int32).toInt, (115 : Int32).toInt])) ∧ (¬ r38.toInt = 0 → s9 = (if 0 < (101 : Int32).toInt then [(102 : Int32).toInt, (97 : Int32).toInt, (108 : Int32).toInt, (115 : Int32).toInt, (101 : Int32).toInt] else [(102 : Int32).toInt, (97 : Int32).toInt, (108 : Int32).toInt, (115 : Int32).toInt]))) (c39 : r38.toInt = 0) (c40 : r34.toInt = 0) : ∀ v9 : QV, QAT (qH (σ.2.1 36) (σ.2.1 37) (σ.2.1 38) (σ.2.1 39) (σ.2.1 40) (σ.2.1 41) (σ.2.1 42) (σ.2.1 43) (σ.2.1 44) (σ.2.1 45) (σ.2.1 46) (σ.2.1 48)) (σ.1 47).toInt ((σ.2.1 51), (σ.2.2.1 52), (σ.2.2.1 53), (σ.2.2.2)) k0.toNatClampNeg v9 → (σ.1 56).toInt = 0 → QRES (qH (σ.2.1 36) (σ.2.1 37) (σ.2.1 38) (σ.2.1 39) (σ.2.1 40) (σ.2.1 41) (σ.2.1 42) (σ.2.1 43) (σ.2.1 44) (σ.2.1 45) (σ.2.1 46) (σ.2.1 48)) (σ.1 47).toInt ((σ.2.1 51), (σ.2.2.1 52), (σ.2.2.1 53), (σ.2.2.2)) ((upd (σ.2.1 51) k0.toNatClampNeg (1 : Int32)), (vp_updL (σ.2.2.1 52) k0.toNatClampNeg (0 : Int64)), (vp_updL (σ.2.2.1 53) k0.toNatClampNeg (0 : Int64)), (vf_upd (σ.2.2.2) k0.toNatClampNeg FP.dconst0)) k0.toNatClampNeg (10 : Int32).toInt (qCvB v9) := by
  have q0 : (0 : Int32).toInt = 0 := by decide +kernel
  have q1 : (1 : Int32).toInt = 1 := by decide +kernel
  have q10 : (10 : Int32).toInt = 10 := by decide +kernel
  have q97 : (97 : Int32).toInt = 97 := by decide +kernel
  have q101 : (101 : Int32).toInt = 101 := by decide +kernel
  have q102 : (102 : Int32).toInt = 102 := by decide +kernel
  have q108 : (108 : Int32).toInt = 108 := by decide +kernel
  have q114 : (114 : Int32).toInt = 114 := by decide +kernel
  have q115 : (115 : Int32).toInt = 115 := by decide +kernel
  have q116 : (116 : Int32).toInt = 116 := by decide +kernel
  have q117 : (117 : Int32).toInt = 117 := by decide +kernel
  have ql0 : (0 : Int64).toInt = 0 := by decide +kernel
  exfalso; omega
-- dead@142 @145
theorem v_toBool_36 (r34 : Int32) (c35 : r34.toInt = 0) (c40 : ¬ r34.toInt = 0) : False := by
  first | assumption | omega | (subst_vars; omega) | trivial
-- post @154
theorem v_toBool_37 (σ : RS) (k0 : Int32) (x1 : Int32) (x26 : Int32) (x28 : Int32) (x30 : Int32) (hpre_0 : 0 ≤ k0.toInt) (hpre_1 : k0.toInt < 980) (hpre_2 : 0 ≤ (σ.1 56).toInt) (hpre_3 : (σ.1 56).toInt ≤ 11) (ex1 : x1 = (σ.2.1 51) k0.toNatClampNeg) (tx1 : x1.toInt = ((σ.2.1 51) k0.toNatClampNeg).toInt) (c2 : x1.toInt < 8) (ex26 : x26 = (σ.2.1 51) k0.toNatClampNeg) (tx26 : x26.toInt = ((σ.2.1 51) k0.toNatClampNeg).toInt) (c27 : x26.toInt = 3) (ex28 : x28 = (σ.2.1 51) k0.toNatClampNeg) (tx28 : x28.toInt = ((σ.2.1 51) k0.toNatClampNeg).toInt) (c29 : ¬ x28.toInt = 3) (ex30 : x30 = (σ.2.1 51) k0.toNatClampNeg) (tx30 : x30.toInt = ((σ.2.1 51) k0.toNatClampNeg).toInt) (c31 : x30.toInt = 4) : 0 ≤ (σ.1 56).toInt ∧ (σ.1 56).toInt ≤ 11 ∧ Cell1 (σ.2.1 51) (upd (σ.2.1 51) k0.toNatClampNeg (1 : Int32)) (σ.2.2.1 52) (vp_updL (σ.2.2.1 52) k0.toNatClampNeg (0 : Int64)) (σ.2.2.2) (vf_upd (σ.2.2.2) k0.toNatClampNeg FP.dconst0) k0.toNatClampNeg (fun k v r => k = 1) := by
  have q1 : (1 : Int32).toInt = 1 := by decide +kernel
  have ql0 : (0 : Int64).toInt = 0 := by decide +kernel
  refine ⟨?_, ?_, ?_⟩ <;> first | assumption | omega | exact ⟨_, _, _, rfl, rfl, rfl, by omega⟩ | exact ⟨_, _, _, rfl, rfl, rfl, by decide +kernel⟩
-- post2 @154
theorem v_toBool_38 (σ : RS) (k0 : Int32) (x1 : Int32) (x26 : Int32) (x28 : Int32) (x30 : Int32) (r34 : Int32) (r38 : Int32) (hpre_0 : 0 ≤ k0.toInt) (hpre_1 : k0.toInt < 980) (hpre_2 : 0 ≤ (σ.1 56).toInt) (hpre_3 : (σ.1 56).toInt ≤ 11) (ex1 : x1 = (σ.2.1 51) k0.toNatClampNeg) (tx1 : x1.toInt = ((σ.2.1 51) k0.toNatClampNeg).toInt) (c2 : x1.toInt < 8) (ex26 : x26 = (σ.2.1 51) k0.toNatClampNeg) (tx26 : x26.toInt = ((σ.2.1 51) k0.toNatClampNeg).toInt) (c27 : x26.toInt = 3) (ex28 : x28 = (σ.2.1 51) k0.toNatClampNeg) (tx28 : x28.toInt = ((σ.2.1 51) k0.toNatClampNeg).toInt) (c29 : ¬ x28.toInt = 3) (ex30 : x30 = (σ.2.1 51) k0.toNatClampNeg) (tx30 : x30.toInt = ((σ.2.1 51) k0.toNatClampNeg).toInt) (c31 : x30.toInt = 4) (hr34y : ∀ s9 : List Int, QTT ((σ.2.2.1 52) k0.toNatClampNeg) ((σ.2.2.1 53) k0.toNatClampNeg) s9 → 0 ≤ (0 : Int32).toInt → (r34.toInt = 0 → ¬ s9 = (if 0 < (0 : Int32).toInt then [(116 : Int32).toInt, (114 : Int32).toInt, (117 : Int32).toInt, (101 : Int32).toInt, (0 : Int32).toInt] else [(116 : Int32).toInt, (114 : Int32).toInt, (117 : Int32).toInt, (101 : Int32).toInt])) ∧ (¬ r34.toInt = 0 → s9 = (if 0 < (0 : Int32).toInt then [(116 : Int32).toInt, (114 : Int32).toInt, (117 : Int32).toInt, (101 : Int32).toInt, (0 : Int32).toInt] else [(116 : Int32).toInt, (114 : Int32).toInt, (117 : Int32).toInt, (101 : Int32).toInt]))) (c35 : r34.toInt = 0) (hr38y : ∀ s9 : List Int, QTT ((σ.2.2.1 52) k0.toNatClampNeg) ((σ.2.2.1 53) k0.toNatClampNeg) s9 → 0 ≤ (101 : Int32).toInt → (r38.toInt = 0 → ¬ s9 = (if 0 < (101 : Int32).toInt then [(102 : Int32).toInt, (97 : Int32).toInt, (108 : Int32).toInt, (115 : Int32).toInt, (101 : Int32).toInt] else [(102 : Int32).toInt, (97 : Int32).toInt, (108 : Int32).toInt, (115 : Int32).toInt])) ∧ (¬ r38.toInt = 0 → s9 = (if 0 < (101 : Int32).toInt then [(102 : Int32).toInt, (97 : Int32).toInt, (108 : Int32).toInt, (115 : Int32).toInt, (101 : Int32).toInt] else [(102 : Int32).toInt, (97 : Int32).toInt, (108 : Int32).toInt, (115 : Int32).toInt]))) (c39 : ¬ r38.toInt = 0) (c42 : r34.toInt = 0) : ∀ v9 : QV, QAT (qH (σ.2.1 36) (σ.2.1 37) (σ.2.1 38) (σ.2.1 39) (σ.2.1 40) (σ.2.1 41) (σ.2.1 42) (σ.2.1 43) (σ.2.1 44) (σ.2.1 45) (σ.2.1 46) (σ.2.1 48)) (σ.1 47).toInt ((σ.2.1 51), (σ.2.2.1 52), (σ.2.2.1 53), (σ.2.2.2)) k0.toNatClampNeg v9 → (σ.1 56).toInt = 0 → QRES (qH (σ.2.1 36) (σ.2.1 37) (σ.2.1 38) (σ.2.1 39) (σ.2.1 40) (σ.2.1 41) (σ.2.1 42) (σ.2.1 43) (σ.2.1 44) (σ.2.1 45) (σ.2.1 46) (σ.2.1 48)) (σ.1 47).toInt ((σ.2.1 51), (σ.2.2.1 52), (σ.2.2.1 53), (σ.2.2.2)) ((upd (σ.2.1 51) k0.toNatClampNeg (1 : Int32)), (vp_updL (σ.2.2.1 52) k0.toNatClampNeg (0 : Int64)), (vp_updL (σ.2.2.1 53) k0.toNatClampNeg (0 : Int64)), (vf_upd (σ.2.2.2) k0.toNatClampNeg FP.dconst0)) k0.toNatClampNeg (σ.1 56).toInt (qCvB v9) := by
  have q0 : (0 : Int32).toInt = 0 := by decide +kernel
  have q1 : (1 : Int32).toInt = 1 := by decide +kernel
  have q97 : (97 : Int32).toInt = 97 := by decide +kernel
  have q101 : (101 : Int32).toInt = 101 := by decide +kernel
  have q102 : (102 : Int32).toInt = 102 := by decide +kernel
  have q108 : (108 : Int32).toInt = 108 := by decide +kernel
  have q114 : (114 : Int32).toInt = 114 := by decide +kernel
  have q115 : (115 : Int32).toInt = 115 := by decide +kernel
  have q116 : (116 : Int32).toInt = 116 := by decide +kernel
  have q117 : (117 : Int32).toInt = 117 := by decide +kernel
  have ql0 : (0 : Int64).toInt = 0 := by decide +kernel
  exfalso; omega
-- dead@142 @145
theorem v_toBool_39 (r34 : Int32) (c35 : r34.toInt = 0) (c42 : ¬ r34.toInt = 0) : False := by
  first | assumption | omega | (subst_vars; omega) | trivial
-- in@63 @63
theorem v_toBool_40 (σ : RS) (k0 : Int32) (x1 : Int32) (x26 : Int32) (x28 : Int32) (hpre_0 : 0 ≤ k0.toInt) (hpre_1 : k0.toInt < 980) (ex1 : x1 = (σ.2.1 51) k0.toNatClampNeg) (tx1 : x1.toInt = ((σ.2.1 51) k0.toNatClampNeg).toInt) (c2 : x1.toInt < 8) (ex26 : x26 = (σ.2.1 51) k0.toNatClampNeg) (tx26 : x26.toInt = ((σ.2.1 51) k0.toNatClampNeg).toInt) (c27 : x26.toInt = 3) (ex28 : x28 = (σ.2.1 51) k0.toNatClampNeg) (tx28 : x28.toInt = ((σ.2.1 51) k0.toNatClampNeg).toInt) (c29 : x28.toInt = 3) : vp_in k0 980 := by
  exact vp_in_iff.mpr ⟨by omega, by omega⟩
-- pre:set@151 @151
theorem v_toBool_41 (σ : RS) (k0 : Int32) (x1 : Int32) (x26 : Int32) (x28 : Int32) (x44 : UInt64) (x45 : Int32) (hpre_0 : 0 ≤ k0.toInt) (hpre_1 : k0.toInt < 980) (ex1 : x1 = (σ.2.1 51) k0.toNatClampNeg) (tx1 : x1.toInt = ((σ.2.1 51) k0.toNatClampNeg).toInt) (c2 : x1.toInt < 8) (ex26 : x26 = (σ.2.1 51) k0.toNatClampNeg) (tx26 : x26.toInt = ((σ.2.1 51) k0.toNatClampNeg).toInt) (c27 : x26.toInt = 3) (ex28 : x28 = (σ.2.1 51) k0.toNatClampNeg) (tx28 : x28.toInt = ((σ.2.1 51) k0.toNatClampNeg).toInt) (c29 : x28.toInt = 3) (ex44 : x44 = (σ.2.2.2) k0.toNatClampNeg) (ex45 : x45 = Op.cmpValue (FP.dcmp x44 FP.dconst0) .l) (c46 : x45.toInt = 0) : 0 ≤ k0.toInt ∧ k0.toInt < 980 := by
  refine ⟨?_, ?_⟩ <;> first | assumption | omega | (subst_vars; omega) | trivial
-- post @154
theorem v_toBool_42 (σ : RS) (k0 : Int32) (x1 : Int32) (x26 : Int32) (x28 : Int32) (x44 : UInt64) (x45 : Int32) (hpre_0 : 0 ≤ k0.toInt) (hpre_1 : k0.toInt < 980) (hpre_2 : 0 ≤ (σ.1 56).toInt) (hpre_3 : (σ.1 56).toInt ≤ 11) (ex1 : x1 = (σ.2.1 51) k0.toNatClampNeg) (tx1 : x1.toInt = ((σ.2.1 51) k0.toNatClampNeg).toInt) (c2 : x1.toInt < 8) (ex26 : x26 = (σ.2.1 51) k0.toNatClampNeg) (tx26 : x26.toInt = ((σ.2.1 51) k0.toNatClampNeg).toInt) (c27 : x26.toInt = 3) (ex28 : x28 = (σ.2.1 51) k0.toNatClampNeg) (tx28 : x28.toInt = ((σ.2.1 51) k0.toNatClampNeg).toInt) (c29 : x28.toInt = 3) (ex44 : x44 = (σ.2.2.2) k0.toNatClampNeg) (ex45 : x45 = Op.cmpValue (FP.dcmp x44 FP.dconst0) .l) (c46 : x45.toInt = 0) : 0 ≤ (σ.1 56).toInt ∧ (σ.1 56).toInt ≤ 11 ∧ Cell1 (σ.2.1 51) (upd (σ.2.1 51) k0.toNatClampNeg (1 : Int32)) (σ.2.2.1 52) (vp_updL (σ.2.2.1 52) k0.toNatClampNeg (0 : Int64)) (σ.2.2.2) (vf_upd (σ.2.2.2) k0.toNatClampNeg FP.dconst0) k0.toNatClampNeg (fun k v r => k = 1) := by
  have q1 : (1 : Int32).toInt = 1 := by decide +kernel
  have ql0 : (0 : Int64).toInt = 0 := by decide +kernel
  refine ⟨?_, ?_, ?_⟩ <;> first | assumption | omega | exact ⟨_, _, _, rfl, rfl, rfl, by omega⟩ | exact ⟨_, _, _, rfl, rfl, rfl, by decide +kernel⟩
-- post2 @154
theorem v_toBool_43 (σ : RS) (k0 : Int32) (x1 : Int32) (x26 : Int32) (x28 : Int32) (x44 : UInt64) (x45 : Int32) (hpre_0 : 0 ≤ k0.toInt) (hpre_1 : k0.toInt < 980) (hpre_2 : 0 ≤ (σ.1 56).toInt) (hpre_3 : (σ.1 56).toInt ≤ 11) (ex1 : x1 = (σ.2.1 51) k0.toNatClampNeg) (tx1 : x1.toInt = ((σ.2.1 51) k0.toNatClampNeg).toInt) (c2 : x1.toInt < 8) (ex26 : x26 = (σ.2.1 51) k0.toNatClampNeg) (tx26 : x26.toInt = ((σ.2.1 51) k0.toNatClampNeg).toInt) (c27 : x26.toInt = 3) (ex28 : x28 = (σ.2.1 51) k0.toNatClampNeg) (tx28 : x28.toInt = ((σ.2.1 51) k0.toNatClampNeg).toInt) (c29 : x28.toInt = 3) (ex44 : x44 = (σ.2.2.2) k0.toNatClampNeg) (ex45 : x45 = Op.cmpValue (FP.dcmp x44 FP.dconst0) .l) (c46 : x45.toInt = 0) : ∀ v9 : QV, QAT (qH (σ.2.1 36) (σ.2.1 37) (σ.2.1 38) (σ.2.1 39) (σ.2.1 40) (σ.2.1 41) (σ.2.1 42) (σ.2.1 43) (σ.2.1 44) (σ.2.1 45) (σ.2.1 46) (σ.2.1 48)) (σ.1 47).toInt ((σ.2.1 51), (σ.2.2.1 52), (σ.2.2.1 53), (σ.2.2.2)) k0.toNatClampNeg v9 → (σ.1 56).toInt = 0 → QRES (qH (σ.2.1 36) (σ.2.1 37) (σ.2.1 38) (σ.2.1 39) (σ.2.1 40) (σ.2.1 41) (σ.2.1 42) (σ.2.1 43) (σ.2.1 44) (σ.2.1 45) (σ.2.1 46) (σ.2.1 48)) (σ.1 47).toInt ((σ.2.1 51), (σ.2.2.1 52), (σ.2.2.1 53), (σ.2.2.2)) ((upd (σ.2.1 51) k0.toNatClampNeg (1 : Int32)), (vp_updL (σ.2.2.1 52) k0.toNatClampNeg (0 : Int64)), (vp_updL (σ.2.2.1 53) k0.toNatClampNeg (0 : Int64)), (vf_upd (σ.2.2.2) k0.toNatClampNeg FP.dconst0)) k0.toNatClampNeg (σ.1 56).toInt (qCvB v9) := by
  have q1 : (1 : Int32).toInt = 1 := by decide +kernel
  have ql0 : (0 : Int64).toInt = 0 := by decide +kernel
  intro v9 h9 h0
  have kd := h9.kd
  dsimp only at kd
  obtain ⟨r, hr, rfl, e⟩ := h9.k3 (show ((σ.2.1 51) k0.toNatClampNeg).toInt = 3 by omega)
  dsimp only at e
  have z := ex45
  rw [ex44, e] at z
  have zb : qEq r FP.dconst0 = true := decide_eq_true (by rw [← z]; omega)
  rw [show qCvB (qReal r) = .inl (qBool (!(qEq r FP.dconst0))) from rfl]
  refine ⟨h0, ?_⟩
  rw [zb]
  exact QW.bool q1 (by decide +kernel) (by decide +kernel)
-- pre:set@151 @151
theorem v_toBool_44 (σ : RS) (k0 : Int32) (x1 : Int32) (x26 : Int32) (x28 : Int32) (x44 : UInt64) (x45 : Int32) (hpre_0 : 0 ≤ k0.toInt) (hpre_1 : k0.toInt < 980) (ex1 : x1 = (σ.2.1 51) k0.toNatClampNeg) (tx1 : x1.toInt = ((σ.2.1 51) k0.toNatClampNeg).toInt) (c2 : x1.toInt < 8) (ex26 : x26 = (σ.2.1 51) k0.toNatClampNeg) (tx26 : x26.toInt = ((σ.2.1 51) k0.toNatClampNeg).toInt) (c27 : x26.toInt = 3) (ex28 : x28 = (σ.2.1 51) k0.toNatClampNeg) (tx28 : x28.toInt = ((σ.2.1 51) k0.toNatClampNeg).toInt) (c29 : x28.toInt = 3) (ex44 : x44 = (σ.2.2.2) k0.toNatClampNeg) (ex45 : x45 = Op.cmpValue (FP.dcmp x44 FP.dconst0) .l) (c46 : ¬ x45.toInt = 0) : 0 ≤ k0.toInt ∧ k0.toInt < 980 := by
  refine ⟨?_, ?_⟩ <;> first | assumption | omega | (subst_vars; omega) | trivial
-- post @154
theorem v_toBool_45 (σ : RS) (k0 : Int32) (x1 : Int32) (x26 : Int32) (x28 : Int32) (x44 : UInt64) (x45 : Int32) (hpre_0 : 0 ≤ k0.toInt) (hpre_1 : k0.toInt < 980) (hpre_2 : 0 ≤ (σ.1 56).toInt) (hpre_3 : (σ.1 56).toInt ≤ 11) (ex1 : x1 = (σ.2.1 51) k0.toNatClampNeg) (tx1 : x1.toInt = ((σ.2.1 51) k0.toNatClampNeg).toInt) (c2 : x1.toInt < 8) (ex26 : x26 = (σ.2.1 51) k0.toNatClampNeg) (tx26 : x26.toInt = ((σ.2.1 51) k0.toNatClampNeg).toInt) (c27 : x26.toInt = 3) (ex28 : x28 = (σ.2.1 51) k0.toNatClampNeg) (tx28 : x28.toInt = ((σ.2.1 51) k0.toNatClampNeg).toInt) (c29 : x28.toInt = 3) (ex44 : x44 = (σ.2.2.2) k0.toNatClampNeg) (ex45 : x45 = Op.cmpValue (FP.dcmp x44 FP.dconst0) .l) (c46 : ¬ x45.toInt = 0) : 0 ≤ (σ.1 56).toInt ∧ (σ.1 56).toInt ≤ 11 ∧ Cell1 (σ.2.1 51) (upd (σ.2.1 51) k0.toNatClampNeg (1 : Int32)) (σ.2.2.1 52) (vp_updL (σ.2.2.1 52) k0.toNatClampNeg (1 : Int64)) (σ.2.2.2) (vf_upd (σ.2.2.2) k0.toNatClampNeg FP.dconst0) k0.toNatClampNeg (fun k v r => k = 1) := by
  have q1 : (1 : Int32).toInt = 1 := by decide +kernel
  have ql1 : (1 : Int64).toInt = 1 := by decide +kernel
  refine ⟨?_, ?_, ?_⟩ <;> first | assumption | omega | exact ⟨_, _, _, rfl, rfl, rfl, by omega⟩ | exact ⟨_, _, _, rfl, rfl, rfl, by decide +kernel⟩
-- post2 @154
theorem v_toBool_46 (σ : RS) (k0 : Int32) (x1 : Int32) (x26 : Int32) (x28 : Int32) (x44 : UInt64) (x45 : Int32) (hpre_0 : 0 ≤ k0.toInt) (hpre_1 : k0.toInt < 980) (hpre_2 : 0 ≤ (σ.1 56).toInt) (hpre_3 : (σ.1 56).toInt ≤ 11) (ex1 : x1 = (σ.2.1 51) k0.toNatClampNeg) (tx1 : x1.toInt = ((σ.2.1 51) k0.toNatClampNeg).toInt) (c2 : x1.toInt < 8) (ex26 : x26 = (σ.2.1 51) k0.toNatClampNeg) (tx26 : x26.toInt = ((σ.2.1 51) k0.toNatClampNeg).toInt) (c27 : x26.toInt = 3) (ex28 : x28 = (σ.2.1 51) k0.toNatClampNeg) (tx28 : x28.toInt = ((σ.2.1 51) k0.toNatClampNeg).toInt) (c29 : x28.toInt = 3) (ex44 : x44 = (σ.2.2.2) k0.toNatClampNeg) (ex45 : x45 = Op.cmpValue (FP.dcmp x44 FP.dconst0) .l) (c46 : ¬ x45.toInt = 0) : ∀ v9 : QV, QAT (qH (σ.2.1 36) (σ.2.1 37) (σ.2.1 38) (σ.2.1 39) (σ.2.1 40) (σ.2.1 41) (σ.2.1 42) (σ.2.1 43) (σ.2.1 44) (σ.2.1 45) (σ.2.1 46) (σ.2.1 48)) (σ.1 47).toInt ((σ.2.1 51), (σ.2.2.1 52), (σ.2.2.1 53), (σ.2.2.2)) k0.toNatClampNeg v9 → (σ.1 56).toInt = 0 → QRES (qH (σ.2.1 36) (σ.2.1 37) (σ.2.1 38) (σ.2.1 39) (σ.2.1 40) (σ.2.1 41) (σ.2.1 42) (σ.2.1 43) (σ.2.1 44) (σ.2.1 45) (σ.2.1 46) (σ.2.1 48)) (σ.1 47).toInt ((σ.2.1 51), (σ.2.2.1 52), (σ.2.2.1 53), (σ.2.2.2)) ((upd (σ.2.1 51) k0.toNatClampNeg (1 : Int32)), (vp_updL (σ.2.2.1 52) k0.toNatClampNeg (1 : Int64)), (vp_updL (σ.2.2.1 53) k0.toNatClampNeg (0 : Int64)), (vf_upd (σ.2.2.2) k0.toNatClampNeg FP.dconst0)) k0.toNatClampNeg (σ.1 56).toInt (qCvB v9) := by
  have q1 : (1 : Int32).toInt = 1 := by decide +kernel
  have ql0 : (0 : Int64).toInt = 0 := by decide +kernel
  have ql1 : (1 : Int64).toInt = 1 := by decide +kernel
  intro v9 h9 h0
  have kd := h9.kd
  dsimp only at kd
  obtain ⟨r, hr, rfl, e⟩ := h9.k3 (show ((σ.2.1 51) k0.toNatClampNeg).toInt = 3 by omega)
  dsimp only at e
  have z := ex45
  rw [ex44, e] at z
  have zb : qEq r FP.dconst0 = false := decide_eq_false (fun h => by rw [← z] at h; omega)
  rw [show qCvB (qReal r) = .inl (qBool (!(qEq r FP.dconst0))) from rfl]
  refine ⟨h0, ?_⟩
  rw [zb]
  exact QW.bool q1 (by decide +kernel) (by decide +kernel)
-- in@26 @26
theorem v_toBool_47 (σ : RS) (k0 : Int32) (x1 : Int32) (x26 : Int32) (hpre_0 : 0 ≤ k0.toInt) (hpre_1 : k0.toInt < 980) (ex1 : x1 = (σ.2.1 51) k0.toNatClampNeg) (tx1 : x1.toInt = ((σ.2.1 51) k0.toNatClampNeg).toInt) (c2 : x1.toInt < 8) (ex26 : x26 = (σ.2.1 51) k0.toNatClampNeg) (tx26 : x26.toInt = ((σ.2.1 51) k0.toNatClampNeg).toInt) (c27 : ¬ x26.toInt = 3) : vp_in k0 980 := by
  exact vp_in_iff.mpr ⟨by omega, by omega⟩
-- in@53 @53
theorem v_toBool_48 (σ : RS) (k0 : Int32) (x1 : Int32) (x26 : Int32) (x51 : Int32) (hpre_0 : 0 ≤ k0.toInt) (hpre_1 : k0.toInt < 980) (ex1 : x1 = (σ.2.1 51) k0.toNatClampNeg) (tx1 : x1.toInt = ((σ.2.1 51) k0.toNatClampNeg).toInt) (c2 : x1.toInt < 8) (ex26 : x26 = (σ.2.1 51) k0.toNatClampNeg) (tx26 : x26.toInt = ((σ.2.1 51) k0.toNatClampNeg).toInt) (c27 : ¬ x26.toInt = 3) (ex51 : x51 = (σ.2.1 51) k0.toNatClampNeg) (tx51 : x51.toInt = ((σ.2.1 51) k0.toNatClampNeg).toInt) (c52 : x51.toInt = 4) : vp_in k0 980 := by
  exact vp_in_iff.mpr ⟨by omega, by omega⟩
-- in@83 @83
theorem v_toBool_49 (σ : RS) (k0 : Int32) (x1 : Int32) (x26 : Int32) (x51 : Int32) (x53 : Int32) (hpre_0 : 0 ≤ k0.toInt) (hpre_1 : k0.toInt < 980) (ex1 : x1 = (σ.2.1 51) k0.toNatClampNeg) (tx1 : x1.toInt = ((σ.2.1 51) k0.toNatClampNeg).toInt) (c2 : x1.toInt < 8) (ex26 : x26 = (σ.2.1 51) k0.toNatClampNeg) (tx26 : x26.toInt = ((σ.2.1 51) k0.toNatClampNeg).toInt) (c27 : ¬ x26.toInt = 3) (ex51 : x51 = (σ.2.1 51) k0.toNatClampNeg) (tx51 : x51.toInt = ((σ.2.1 51) k0.toNatClampNeg).toInt) (c52 : x51.toInt = 4) (ex53 : x53 = (σ.2.1 51) k0.toNatClampNeg) (tx53 : x53.toInt = ((σ.2.1 51) k0.toNatClampNeg).toInt) (c54 : ¬ x53.toInt = 3) : vp_in k0 980 := by
  exact vp_in_iff.mpr ⟨by omega, by omega⟩
-- pre:set@151 @151
theorem v_toBool_50 (σ : RS) (k0 : Int32) (x1 : Int32) (x26 : Int32) (x51 : Int32) (x53 : Int32) (x55 : Int32) (hpre_0 : 0 ≤ k0.toInt) (hpre_1 : k0.toInt < 980) (ex1 : x1 = (σ.2.1 51) k0.toNatClampNeg) (tx1 : x1.toInt = ((σ.2.1 51) k0.toNatClampNeg).toInt) (c2 : x1.toInt < 8) (ex26 : x26 = (σ.2.1 51) k0.toNatClampNeg) (tx26 : x26.toInt = ((σ.2.1 51) k0.toNatClampNeg).toInt) (c27 : ¬ x26.toInt = 3) (ex51 : x51 = (σ.2.1 51) k0.toNatClampNeg) (tx51 : x51.toInt = ((σ.2.1 51) k0.toNatClampNeg).toInt) (c52 : x51.toInt = 4) (ex53 : x53 = (σ.2.1 51) k0.toNatClampNeg) (tx53 : x53.toInt = ((σ.2.1 51) k0.toNatClampNeg).toInt) (c54 : ¬ x53.toInt = 3) (ex55 : x55 = (σ.2.1 51) k0.toNatClampNeg) (tx55 : x55.toInt = ((σ.2.1 51) k0.toNatClampNeg).toInt) (c56 : ¬ x55.toInt = 4) : 0 ≤ k0.toInt ∧ k0.toInt < 980 := by
  refine ⟨?_, ?_⟩ <;> first | assumption | omega | (subst_vars; omega) | trivial
-- post @154
theorem v_toBool_51 (σ : RS) (k0 : Int32) (x1 : Int32) (x26 : Int32) (x51 : Int32) (x53 : Int32) (x55 : Int32) (hpre_0 : 0 ≤ k0.toInt) (hpre_1 : k0.toInt < 980) (hpre_2 : 0 ≤ (σ.1 56).toInt) (hpre_3 : (σ.1 56).toInt ≤ 11) (ex1 : x1 = (σ.2.1 51) k0.toNatClampNeg) (tx1 : x1.toInt = ((σ.2.1 51) k0.toNatClampNeg).toInt) (c2 : x1.toInt < 8) (ex26 : x26 = (σ.2.1 51) k0.toNatClampNeg) (tx26 : x26.toInt = ((σ.2.1 51) k0.toNatClampNeg).toInt) (c27 : ¬ x26.toInt = 3) (ex51 : x51 = (σ.2.1 51) k0.toNatClampNeg) (tx51 : x51.toInt = ((σ.2.1 51) k0.toNatClampNeg).toInt) (c52 : x51.toInt = 4) (ex53 : x53 = (σ.2.1 51) k0.toNatClampNeg) (tx53 : x53.toInt = ((σ.2.1 51) k0.toNatClampNeg).toInt) (c54 : ¬ x53.toInt = 3) (ex55 : x55 = (σ.2.1 51) k0.toNatClampNeg) (tx55 : x55.toInt = ((σ.2.1 51) k0.toNatClampNeg).toInt) (c56 : ¬ x55.toInt = 4) : 0 ≤ (σ.1 56).toInt ∧ (σ.1 56).toInt ≤ 11 ∧ Cell1 (σ.2.1 51) (upd (σ.2.1 51) k0.toNatClampNeg (1 : Int32)) (σ.2.2.1 52) (vp_updL (σ.2.2.1 52) k0.toNatClampNeg (0 : Int64)) (σ.2.2.2) (vf_upd (σ.2.2.2) k0.toNatClampNeg FP.dconst0) k0.toNatClampNeg (fun k v r => k = 1) := by
  have q1 : (1 : Int32).toInt = 1 := by decide +kernel
  have ql0 : (0 : Int64).toInt = 0 := by decide +kernel
  refine ⟨?_, ?_, ?_⟩ <;> first | assumption | omega | exact ⟨_, _, _, rfl, rfl, rfl, by omega⟩ | exact ⟨_, _, _, rfl, rfl, rfl, by decide +kernel⟩
-- post2 @154
theorem v_toBool_52 (σ : RS) (k0 : Int32) (x1 : Int32) (x26 : Int32) (x51 : Int32) (x53 : Int32) (x55 : Int32) (hpre_0 : 0 ≤ k0.toInt) (hpre_1 : k0.toInt < 980) (hpre_2 : 0 ≤ (σ.1 56).toInt) (hpre_3 : (σ.1 56).toInt ≤ 11) (ex1 : x1 = (σ.2.1 51) k0.toNatClampNeg) (tx1 : x1.toInt = ((σ.2.1 51) k0.toNatClampNeg).toInt) (c2 : x1.toInt < 8) (ex26 : x26 = (σ.2.1 51) k0.toNatClampNeg) (tx26 : x26.toInt = ((σ.2.1 51) k0.toNatClampNeg).toInt) (c27 : ¬ x26.toInt = 3) (ex51 : x51 = (σ.2.1 51) k0.toNatClampNeg) (tx51 : x51.toInt = ((σ.2.1 51) k0.toNatClampNeg).toInt) (c52 : x51.toInt = 4) (ex53 : x53 = (σ.2.1 51) k0.toNatClampNeg) (tx53 : x53.toInt = ((σ.2.1 51) k0.toNatClampNeg).toInt) (c54 : ¬ x53.toInt = 3) (ex55 : x55 = (σ.2.1 51) k0.toNatClampNeg) (tx55 : x55.toInt = ((σ.2.1 51) k0.toNatClampNeg).toInt) (c56 : ¬ x55.toInt = 4) : ∀ v9 : QV, QAT (qH (σ.2.1 36) (σ.2.1 37) (σ.2.1 38) (σ.2.1 39) (σ.2.1 40) (σ.2.1 41) (σ.2.1 42) (σ.2.1 43) (σ.2.1 44) (σ.2.1 45) (σ.2.1 46) (σ.2.1 48)) (σ.1 47).toInt ((σ.2.1 51), (σ.2.2.1 52), (σ.2.2.1 53), (σ.2.2.2)) k0.toNatClampNeg v9 → (σ.1 56).toInt = 0 → QRES (qH (σ.2.1 36) (σ.2.1 37) (σ.2.1 38) (σ.2.1 39) (σ.2.1 40) (σ.2.1 41) (σ.2.1 42) (σ.2.1 43) (σ.2.1 44) (σ.2.1 45) (σ.2.1 46) (σ.2.1 48)) (σ.1 47).toInt ((σ.2.1 51), (σ.2.2.1 52), (σ.2.2.1 53), (σ.2.2.2)) ((upd (σ.2.1 51) k0.toNatClampNeg (1 : Int32)), (vp_updL (σ.2.2.1 52) k0.toNatClampNeg (0 : Int64)), (vp_updL (σ.2.2.1 53) k0.toNatClampNeg (0 : Int64)), (vf_upd (σ.2.2.2) k0.toNatClampNeg FP.dconst0)) k0.toNatClampNeg (σ.1 56).toInt (qCvB v9) := by
  have q1 : (1 : Int32).toInt = 1 := by decide +kernel
  have ql0 : (0 : Int64).toInt = 0 := by decide +kernel
  exfalso; omega
-- pre:spells@99 @99
theorem v_toBool_53 (σ : RS) (k0 : Int32) (x1 : Int32) (x26 : Int32) (x51 : Int32) (x53 : Int32) (x55 : Int32) (hpre_0 : 0 ≤ k0.toInt) (hpre_1 : k0.toInt < 980) (ex1 : x1 = (σ.2.1 51) k0.toNatClampNeg) (tx1 : x1.toInt = ((σ.2.1 51) k0.toNatClampNeg).toInt) (c2 : x1.toInt < 8) (ex26 : x26 = (σ.2.1 51) k0.toNatClampNeg) (tx26 : x26.toInt = ((σ.2.1 51) k0.toNatClampNeg).toInt) (c27 : ¬ x26.toInt = 3) (ex51 : x51 = (σ.2.1 51) k0.toNatClampNeg) (tx51 : x51.toInt = ((σ.2.1 51) k0.toNatClampNeg).toInt) (c52 : x51.toInt = 4) (ex53 : x53 = (σ.2.1 51) k0.toNatClampNeg) (tx53 : x53.toInt = ((σ.2.1 51) k0.toNatClampNeg).toInt) (c54 : ¬ x53.toInt = 3) (ex55 : x55 = (σ.2.1 51) k0.toNatClampNeg) (tx55 : x55.toInt = ((σ.2.1 51) k0.toNatClampNeg).toInt) (c56 : x55.toInt = 4) : 0 ≤ k0.toInt ∧ k0.toInt < 980 := by
  refine ⟨?_, ?_⟩ <;> first | assumption | omega | (subst_vars; omega) | trivial
-- dead@142 @149
theorem v_toBool_54 (r59 : Int32) (c60 : ¬ r59.toInt = 0) (c61 : r59.toInt = 0) : False := by
  first | assumption | omega | (subst_vars; omega) | trivial
-- post @154
theorem v_toBool_55 (σ : RS) (k0 : Int32) (x1 : Int32) (x26 : Int32) (x51 : Int32) (x53 : Int32) (x55 : Int32) (hpre_0 : 0 ≤ k0.toInt) (hpre_1 : k0.toInt < 980) (hpre_2 : 0 ≤ (σ.1 56).toInt) (hpre_3 : (σ.1 56).toInt ≤ 11) (ex1 : x1 = (σ.2.1 51) k0.toNatClampNeg) (tx1 : x1.toInt = ((σ.2.1 51) k0.toNatClampNeg).toInt) (c2 : x1.toInt < 8) (ex26 : x26 = (σ.2.1 51) k0.toNatClampNeg) (tx26 : x26.toInt = ((σ.2.1 51) k0.toNatClampNeg).toInt) (c27 : ¬ x26.toInt = 3) (ex51 : x51 = (σ.2.1 51) k0.toNatClampNeg) (tx51 : x51.toInt = ((σ.2.1 51) k0.toNatClampNeg).toInt) (c52 : x51.toInt = 4) (ex53 : x53 = (σ.2.1 51) k0.toNatClampNeg) (tx53 : x53.toInt = ((σ.2.1 51) k0.toNatClampNeg).toInt) (c54 : ¬ x53.toInt = 3) (ex55 : x55 = (σ.2.1 51) k0.toNatClampNeg) (tx55 : x55.toInt = ((σ.2.1 51) k0.toNatClampNeg).toInt) (c56 : x55.toInt = 4) : 0 ≤ (σ.1 56).toInt ∧ (σ.1 56).toInt ≤ 11 ∧ Cell1 (σ.2.1 51) (upd (σ.2.1 51) k0.toNatClampNeg (1 : Int32)) (σ.2.2.1 52) (vp_updL (σ.2.2.1 52) k0.toNatClampNeg (1 : Int64)) (σ.2.2.2) (vf_upd (σ.2.2.2) k0.toNatClampNeg FP.dconst0) k0.toNatClampNeg (fun k v r => k = 1) := by
  have q1 : (1 : Int32).toInt = 1 := by decide +kernel
  have ql1 : (1 : Int64).toInt = 1 := by decide +kernel
  refine ⟨?_, ?_, ?_⟩ <;> first | assumption | omega | exact ⟨_, _, _, rfl, rfl, rfl, by omega⟩ | exact ⟨_, _, _, rfl, rfl, rfl, by decide +kernel⟩
-- post2 @154
theorem v_toBool_56 (σ : RS) (k0 : Int32) (x1 : Int32) (x26 : Int32) (x51 : Int32) (x53 : Int32) (x55 : Int32) (r59 : Int32) (hpre_0 : 0 ≤ k0.toInt) (hpre_1 : k0.toInt < 980) (hpre_2 : 0 ≤ (σ.1 56).toInt) (hpre_3 : (σ.1 56).toInt ≤ 11) (ex1 : x1 = (σ.2.1 51) k0.toNatClampNeg) (tx1 : x1.toInt = ((σ.2.1 51) k0.toNatClampNeg).toInt) (c2 : x1.toInt < 8) (ex26 : x26 = (σ.2.1 51) k0.toNatClampNeg) (tx26 : x26.toInt = ((σ.2.1 51) k0.toNatClampNeg).toInt) (c27 : ¬ x26.toInt = 3) (ex51 : x51 = (σ.2.1 51) k0.toNatClampNeg) (tx51 : x51.toInt = ((σ.2.1 51) k0.toNatClampNeg).toInt) (c52 : x51.toInt = 4) (ex53 : x53 = (σ.2.1 51) k0.toNatClampNeg) (tx53 : x53.toInt = ((σ.2.1 51) k0.toNatClampNeg).toInt) (c54 : ¬ x53.toInt = 3) (ex55 : x55 = (σ.2.1 51) k0.toNatClampNeg) (tx55 : x55.toInt = ((σ.2.1 51) k0.toNatClampNeg).toInt) (c56 : x55.toInt = 4) (hr59y : ∀ s9 : List Int, QTT ((σ.2.2.1 52) k0.toNatClampNeg) ((σ.2.2.1 53) k0.toNatClampNeg) s9 → 0 ≤ (0 : Int32).toInt → (r59.toInt = 0 → ¬ s9 = (if 0 < (0 : Int32).toInt then [(116 : Int32).toInt, (114 : Int32).toInt, (117 : Int32).toInt, (101 : Int32).toInt, (0 : Int32).toInt] else [(116 : Int32).toInt, (114 : Int32).toInt, (117 : Int32).toInt, (101 : Int32).toInt])) ∧ (¬ r59.toInt = 0 → s9 = (if 0 < (0 : Int32).toInt then [(116 : Int32).toInt, (114 : Int32).toInt, (117 : Int32).toInt, (101 : Int32).toInt, (0 : Int32).toInt] else [(116 : Int32).toInt, (114 : Int32).toInt, (117 : Int32).toInt, (101 : Int32).toInt]))) (c60 : ¬ r59.toInt = 0) (c61 : ¬ r59.toInt = 0) : ∀ v9 : QV, QAT (qH (σ.2.1 36) (σ.2.1 37) (σ.2.1 38) (σ.2.1 39) (σ.2.1 40) (σ.2.1 41) (σ.2.1 42) (σ.2.1 43) (σ.2.1 44) (σ.2.1 45) (σ.2.1 46) (σ.2.1 48)) (σ.1 47).toInt ((σ.2.1 51), (σ.2.2.1 52), (σ.2.2.1 53), (σ.2.2.2)) k0.toNatClampNeg v9 → (σ.1 56).toInt = 0 → QRES (qH (σ.2.1 36) (σ.2.1 37) (σ.2.1 38) (σ.2.1 39) (σ.2.1 40) (σ.2.1 41) (σ.2.1 42) (σ.2.1 43) (σ.2.1 44) (σ.2.1 45) (σ.2.1 46) (σ.2.1 48)) (σ.1 47).toInt ((σ.2.1 51), (σ.2.2.1 52), (σ.2.2.1 53), (σ.2.2.2)) ((upd (σ.2.1 51) k0.toNatClampNeg (1 : Int32)), (vp_updL (σ.2.2.1 52) k0.toNatClampNeg (1 : Int64)), (vp_updL (σ.2.2.1 53) k0.toNatClampNeg (0 : Int64)), (vf_upd (σ.2.2.2) k0.toNatClampNeg FP.dconst0)) k0.toNatClampNeg (σ.1 56).toInt (qCvB v9) := by
  have q0 : (0 : Int32).toInt = 0 := by decide +kernel
  have q1 : (1 : Int32).toInt = 1 := by decide +kernel
  have q101 : (101 : Int32).toInt = 101 := by decide +kernel
  have q114 : (114 : Int32).toInt = 114 := by decide +kernel
  have q116 : (116 : Int32).toInt = 116 := by decide +kernel
  have q117 : (117 : Int32).toInt = 117 := by decide +kernel
  have ql0 : (0 : Int64).toInt = 0 := by decide +kernel
  have ql1 : (1 : Int64).toInt = 1 := by decide +kernel
  intro v9 h9 h0
  have kd := h9.kd
  dsimp only at kd
  obtain ⟨s8, rfl, ht⟩ := h9.k4 (show ((σ.2.1 51) k0.toNatClampNeg).toInt = 4 by omega)
  have a0 := hr59y s8 ht (by decide +kernel)
  rw [if_neg (by decide +kernel)] at a0
  simp only [show (116 : Int32).toInt = 116 by decide +kernel, show (114 : Int32).toInt = 114 by decide +kernel, show (117 : Int32).toInt = 117 by decide +kernel, show (101 : Int32).toInt = 101 by decide +kernel, show (102 : Int32).toInt = 102 by decide +kernel, show (97 : Int32).toInt = 97 by decide +kernel, show (108 : Int32).toInt = 108 by decide +kernel, show (115 : Int32).toInt = 115 by decide +kernel] at a0
  show QRES _ _ _ _ _ _ (if s8 = [116, 114, 117, 101] then _ else if s8 = [102, 97, 108, 115, 101] then _ else _)
  rw [if_pos (a0.2 (by omega))]
  exact ⟨h0, QW.bool q1 (by decide +kernel) (by decide +kernel)⟩
-- post @154
theorem v_toBool_57 (σ : RS) (k0 : Int32) (x1 : Int32) (x26 : Int32) (x51 : Int32) (x53 : Int32) (x55 : Int32) (hpre_0 : 0 ≤ k0.toInt) (hpre_1 : k0.toInt < 980) (ex1 : x1 = (σ.2.1 51) k0.toNatClampNeg) (tx1 : x1.toInt = ((σ.2.1 51) k0.toNatClampNeg).toInt) (c2 : x1.toInt < 8) (ex26 : x26 = (σ.2.1 51) k0.toNatClampNeg) (tx26 : x26.toInt = ((σ.2.1 51) k0.toNatClampNeg).toInt) (c27 : ¬ x26.toInt = 3) (ex51 : x51 = (σ.2.1 51) k0.toNatClampNeg) (tx51 : x51.toInt = ((σ.2.1 51) k0.toNatClampNeg).toInt) (c52 : x51.toInt = 4) (ex53 : x53 = (σ.2.1 51) k0.toNatClampNeg) (tx53 : x53.toInt = ((σ.2.1 51) k0.toNatClampNeg).toInt) (c54 : ¬ x53.toInt = 3) (ex55 : x55 = (σ.2.1 51) k0.toNatClampNeg) (tx55 : x55.toInt = ((σ.2.1 51) k0.toNatClampNeg).toInt) (c56 : x55.toInt = 4) : 0 ≤ (10 : Int32).toInt ∧ (10 : Int32).toInt ≤ 11 ∧ Cell1 (σ.2.1 51) (upd (σ.2.1 51) k0.toNatClampNeg (1 : Int32)) (σ.2.2.1 52) (vp_updL (σ.2.2.1 52) k0.toNatClampNeg (0 : Int64)) (σ.2.2.2) (vf_upd (σ.2.2.2) k0.toNatClampNeg FP.dconst0) k0.toNatClampNeg (fun k v r => k = 1) := by
  have q1 : (1 : Int32).toInt = 1 := by decide +kernel
  have q10 : (10 : Int32).toInt = 10 := by decide +kernel
  have ql0 : (0 : Int64).toInt = 0 := by decide +kernel
  refine ⟨?_, ?_, ?_⟩ <;> first | assumption | omega | exact ⟨_, _, _, rfl, rfl, rfl, by omega⟩ | exact ⟨_, _, _, rfl, rfl, rfl, by decide +kernel⟩
-- post2 @154
theorem v_toBool_58 (σ : RS) (k0 : Int32) (x1 : Int32) (x26 : Int32) (x51 : Int32) (x53 : Int32) (x55 : Int32) (r59 : Int32) (r63 : Int32) (hpre_0 : 0 ≤ k0.toInt) (hpre_1 : k0.toInt < 980) (hpre_2 : 0 ≤ (σ.1 56).toInt) (hpre_3 : (σ.1 56).toInt ≤ 11) (ex1 : x1 = (σ.2.1 51) k0.toNatClampNeg) (tx1 : x1.toInt = ((σ.2.1 51) k0.toNatClampNeg).toInt) (c2 : x1.toInt < 8) (ex26 : x26 = (σ.2.1 51) k0.toNatClampNeg) (tx26 : x26.toInt = ((σ.2.1 51) k0.toNatClampNeg).toInt) (c27 : ¬ x26.toInt = 3) (ex51 : x51 = (σ.2.1 51) k0.toNatClampNeg) (tx51 : x51.toInt = ((σ.2.1 51) k0.toNatClampNeg).toInt) (c52 : x51.toInt = 4) (ex53 : x53 = (σ.2.1 51) k0.toNatClampNeg) (tx53 : x53.toInt = ((σ.2.1 51) k0.toNatClampNeg).toInt) (c54 : ¬ x53.toInt = 3) (ex55 : x55 = (σ.2.1 51) k0.toNatClampNeg) (tx55 : x55.toInt = ((σ.2.1 51) k0.toNatClampNeg).toInt) (c56 : x55.toInt = 4) (hr59y : ∀ s9 : List Int, QTT ((σ.2.2.1 52) k0.toNatClampNeg) ((σ.2.2.1 53) k0.toNatClampNeg) s9 → 0 ≤ (0 : Int32).toInt → (r59.toInt = 0 → ¬ s9 = (if 0 < (0 : Int32).toInt then [(116 : Int32).toInt, (114 : Int32).toInt, (117 : Int32).toInt, (101 : Int32).toInt, (0 : Int32).toInt] else [(116 : Int32).toInt, (114 : Int32).toInt, (117 : Int32).toInt, (101 : Int32).toInt])) ∧ (¬ r59.toInt = 0 → s9 = (if 0 < (0 : Int32).toInt then [(116 : Int32).toInt, (114 : Int32).toInt, (117 : Int32).toInt, (101 : Int32).toInt, (0 : Int32).toInt] else [(116 : Int32).toInt, (114 : Int32).toInt, (117 : Int32).toInt, (101 : Int32).toInt]))) (c60 : r59.toInt = 0) (hr63y : ∀ s9 : List Int, QTT ((σ.2.2.1 52) k0.toNatClampNeg) ((σ.2.2.1 53) k0.toNatClampNeg) s9 → 0 ≤ (101 : Int32).toInt → (r63.toInt = 0 → ¬ s9 = (if 0 < (101 : Int32).toInt then [(102 : Int32).toInt, (97 : Int32).toInt, (108 : Int32).toInt, (115 : Int32).toInt, (101 : Int32).toInt] else [(102 : Int32).toInt, (97 : Int32).toInt, (108 : Int32).toInt, (115 : Int32).toInt])) ∧ (¬ r63.toInt = 0 → s9 = (if 0 < (101 : Int32).toInt then [(102 : Int32).toInt, (97 : Int32).toInt, (108 : Int32).toInt, (115 : Int32).toInt, (101 : Int32).toInt] else [(102 : Int32).toInt, (97 : Int32).toInt, (108 : Int32).toInt, (115 : Int32).toInt]))) (c64 : r63.toInt = 0) (c65 : r59.toInt = 0) : ∀ v9 : QV, QAT (qH (σ.2.1 36) (σ.2.1 37) (σ.2.1 38) (σ.2.1 39) (σ.2.1 40) (σ.2.1 41) (σ.2.1 42) (σ.2.1 43) (σ.2.1 44) (σ.2.1 45) (σ.2.1 46) (σ.2.1 48)) (σ.1 47).toInt ((σ.2.1 51), (σ.2.2.1 52), (σ.2.2.1 53), (σ.2.2.2)) k0.toNatClampNeg v9 → (σ.1 56).toInt = 0 → QRES (qH (σ.2.1 36) (σ.2.1 37) (σ.2.1 38) (σ.2.1 39) (σ.2.1 40) (σ.2.1 41) (σ.2.1 42) (σ.2.1 43) (σ.2.1 44) (σ.2.1 45) (σ.2.1 46) (σ.2.1 48)) (σ.1 47).toInt ((σ.2.1 51), (σ.2.2.1 52), (σ.2.2.1 53), (σ.2.2.2)) ((upd (σ.2.1 51) k0.toNatClampNeg (1 : Int32)), (vp_updL (σ.2.2.1 52) k0.toNatClampNeg (0 : Int64)), (vp_updL (σ.2.2.1 53) k0.toNatClampNeg (0 : Int64)), (vf_upd (σ.2.2.2) k0.toNatClampNeg FP.dconst0)) k0.toNatClampNeg (10 : Int32).toInt (qCvB v9) := by
  have q0 : (0 : Int32).toInt = 0 := by decide +kernel
  have q1 : (1 : Int32).toInt = 1 := by decide +kernel
  have q10 : (10 : Int32).toInt = 10 := by decide +kernel
  have q97 : (97 : Int32).toInt = 97 := by decide +kernel
  have q101 : (101 : Int32).toInt = 101 := by decide +kernel
  have q102 : (102 : Int32).toInt = 102 := by decide +kernel
  have q108 : (108 : Int32).toInt = 108 := by decide +kernel
  have q114 : (114 : Int32).toInt = 114 := by decide +kernel
  have q115 : (115 : Int32).toInt = 115 := by decide +kernel
  have q116 : (116 : Int32).toInt = 116 := by decide +kernel
  have q117 : (117 : Int32).toInt = 117 := by decide +kernel
  have ql0 : (0 : Int64).toInt = 0 := by decide +kernel
  intro v9 h9 h0
  have kd := h9.kd
  dsimp only at kd
  obtain ⟨s8, rfl, ht⟩ := h9.k4 (show ((σ.2.1 51) k0.toNatClampNeg).toInt = 4 by omega)
  have a0 := hr59y s8 ht (by decide +kernel)
  rw [if_neg (by decide +kernel)] at a0
  simp only [show (116 : Int32).toInt = 116 by decide +kernel, show (114 : Int32).toInt = 114 by decide +kernel, show (117 : Int32).toInt = 117 by decide +kernel, show (101 : Int32).toInt = 101 by decide +kernel, show (102 : Int32).toInt = 102 by decide +kernel, show (97 : Int32).toInt = 97 by decide +kernel, show (108 : Int32).toInt = 108 by decide +kernel, show (115 : Int32).toInt = 115 by decide +kernel] at a0
  have a1 := hr63y s8 ht (by decide +kernel)
  rw [if_pos (by decide +kernel)] at a1
  simp only [show (116 : Int32).toInt = 116 by decide +kernel, show (114 : Int32).toInt = 114 by decide +kernel, show (117 : Int32).toInt = 117 by decide +kernel, show (101 : Int32).toInt = 101 by decide +kernel, show (102 : Int32).toInt = 102 by decide +kernel, show (97 : Int32).toInt = 97 by decide +kernel, show (108 : Int32).toInt = 108 by decide +kernel, show (115 : Int32).toInt = 115 by decide +kernel] at a1
  show QRES _ _ _ _ _ _ (if s8 = [116, 114, 117, 101] then _ else if s8 = [102, 97, 108, 115, 101] then _ else _)
  rw [if_neg (a0.1 (by omega)), if_neg (a1.1 (by omega))]
  exact ⟨by omega, by decide, by decide, QX.put⟩
-- dead@142 @145
theorem v_toBool_59 (r59 : Int32) (c60 : r59.toInt = 0) (c65 : ¬ r59.toInt = 0) : False := by
  first | assumption | omega | (subst_vars; omega) | trivial
-- post @154
theorem v_toBool_60 (σ : RS) (k0 : Int32) (x1 : Int32) (x26 : Int32) (x51 : Int32) (x53 : Int32) (x55 : Int32) (hpre_0 : 0 ≤ k0.toInt) (hpre_1 : k0.toInt < 980) (hpre_2 : 0 ≤ (σ.1 56).toInt) (hpre_3 : (σ.1 56).toInt ≤ 11) (ex1 : x1 = (σ.2.1 51) k0.toNatClampNeg) (tx1 : x1.toInt = ((σ.2.1 51) k0.toNatClampNeg).toInt) (c2 : x1.toInt < 8) (ex26 : x26 = (σ.2.1 51) k0.toNatClampNeg) (tx26 : x26.toInt = ((σ.2.1 51) k0.toNatClampNeg).toInt) (c27 : ¬ x26.toInt = 3) (ex51 : x51 = (σ.2.1 51) k0.toNatClampNeg) (tx51 : x51.toInt = ((σ.2.1 51) k0.toNatClampNeg).toInt) (c52 : x51.toInt = 4) (ex53 : x53 = (σ.2.1 51) k0.toNatClampNeg) (tx53 : x53.toInt = ((σ.2.1 51) k0.toNatClampNeg).toInt) (c54 : ¬ x53.toInt = 3) (ex55 : x55 = (σ.2.1 51) k0.toNatClampNeg) (tx55 : x55.toInt = ((σ.2.1 51) k0.toNatClampNeg).toInt) (c56 : x55.toInt = 4) : 0 ≤ (σ.1 56).toInt ∧ (σ.1 56).toInt ≤ 11 ∧ Cell1 (σ.2.1 51) (upd (σ.2.1 51) k0.toNatClampNeg (1 : Int32)) (σ.2.2.1 52) (vp_updL (σ.2.2.1 52) k0.toNatClampNeg (0 : Int64)) (σ.2.2.2) (vf_upd (σ.2.2.2) k0.toNatClampNeg FP.dconst0) k0.toNatClampNeg (fun k v r => k = 1) := by
  have q1 : (1 : Int32).toInt = 1 := by decide +kernel
  have ql0 : (0 : Int64).toInt = 0 := by decide +kernel
  refine ⟨?_, ?_, ?_⟩ <;> first | assumption | omega | exact ⟨_, _, _, rfl, rfl, rfl, by omega⟩ | exact ⟨_, _, _, rfl, rfl, rfl, by decide +kernel⟩
-- post2 @154
theorem v_toBool_61 (σ : RS) (k0 : Int32) (x1 : Int32) (x26 : Int32) (x51 : Int32) (x53 : Int32) (x55 : Int32) (r59 : Int32) (r63 : Int32) (hpre_0 : 0 ≤ k0.toInt) (hpre_1 : k0.toInt < 980) (hpre_2 : 0 ≤ (σ.1 56).toInt) (hpre_3 : (σ.1 56).toInt ≤ 11) (ex1 : x1 = (σ.2.1 51) k0.toNatClampNeg) (tx1 : x1.toInt = ((σ.2.1 51) k0.toNatClampNeg).toInt) (c2 : x1.toInt < 8) (ex26 : x26 = (σ.2.1 51) k0.toNatClampNeg) (tx26 : x26.toInt = ((σ.2.1 51) k0.toNatClampNeg).toInt) (c27 : ¬ x26.toInt = 3) (ex51 : x51 = (σ.2.1 51) k0.toNatClampNeg) (tx51 : x51.toInt = ((σ.2.1 51) k0.toNatClampNeg).toInt) (c52 : x51.toInt = 4) (ex53 : x53 = (σ.2.1 51) k0.toNatClampNeg) (tx53 : x53.toInt = ((σ.2.1 51) k0.toNatClampNeg).toInt) (c54 : ¬ x53.toInt = 3) (ex55 : x55 = (σ.2.1 51) k0.toNatClampNeg) (tx55 : x55.toInt = ((σ.2.1 51) k0.toNatClampNeg).toInt) (c56 : x55.toInt = 4) (hr59y : ∀ s9 : List Int, QTT ((σ.2.2.1 52) k0.toNatClampNeg) ((σ.2.2.1 53) k0.toNatClampNeg) s9 → 0 ≤ (0 : Int32).toInt → (r59.toInt = 0 → ¬ s9 = (if 0 < (0 : Int32).toInt then [(116 : Int32).toInt, (114 : Int32).toInt, (117 : Int32).toInt, (101 : Int32).toInt, (0 : Int32).toInt] else [(116 : Int32).toInt, (114 : Int32).toInt, (117 : Int32).toInt, (101 : Int32).toInt])) ∧ (¬ r59.toInt = 0 → s9 = (if 0 < (0 : Int32).toInt then [(116 : Int32).toInt, (114 : Int32).toInt, (117 : Int32).toInt, (101 : Int32).toInt, (0 : Int32).toInt] else [(116 : Int32).toInt, (114 : Int32).toInt, (117 : Int32).toInt, (101 : Int32).toInt]))) (c60 : r59.toInt = 0) (hr63y : ∀ s9 : List Int, QTT ((σ.2.2.1 52) k0.toNatClampNeg) ((σ.2.2.1 53) k0.toNatClampNeg) s9 → 0 ≤ (101 : Int32).toInt → (r63.toInt = 0 → ¬ s9 = (if 0 < (101 : Int32).toInt then [(102 : Int32).toInt, (97 : Int32).toInt, (108 : Int32).toInt, (115 : Int32).toInt, (101 : Int32).toInt] else [(102 : Int32).toInt, (97 : Int32).toInt, (108 : Int32).toInt, (115 : Int32).toInt])) ∧ (¬ r63.toInt = 0 → s9 = (if 0 < (101 : Int32).toInt then [(102 : Int32).toInt, (97 : Int32).toInt, (108 : Int32).toInt, (115 : Int32).toInt, (101 : Int32).toInt] else [(102 : Int32).toInt, (97 : Int32).toInt, (108 : Int32).toInt, (115 : Int32).toInt]))) (c64 : ¬ r63.toInt = 0) (c67 : r59.toInt = 0) : ∀ v9 : QV, QAT (qH (σ.2.1 36) (σ.2.1 37) (σ.2.1 38) (σ.2.1 39) (σ.2.1 40) (σ.2.1 41) (σ.2.1 42) (σ.2.1 43) (σ.2.1 44) (σ.2.1 45) (σ.2.1 46) (σ.2.1 48)) (σ.1 47).toInt ((σ.2.1 51), (σ.2.2.1 52), (σ.2.2.1 53), (σ.2.2.2)) k0.toNatClampNeg v9 → (σ.1 56).toInt = 0 → QRES (qH (σ.2.1 36) (σ.2.1 37) (σ.2.1 38) (σ.2.1 39) (σ.2.1 40) (σ.2.1 41) (σ.2.1 42) (σ.2.1 43) (σ.2.1 44) (σ.2.1 45) (σ.2.1 46) (σ.2.1 48)) (σ.1 47).toInt ((σ.2.1 51), (σ.2.2.1 52), (σ.2.2.1 53), (σ.2.2.2)) ((upd (σ.2.1 51) k0.toNatClampNeg (1 : Int32)), (vp_updL (σ.2.2.1 52) k0.toNatClampNeg (0 : Int64)), (vp_updL (σ.2.2.1 53) k0.toNatClampNeg (0 : Int64)), (vf_upd (σ.2.2.2) k0.toNatClampNeg FP.dconst0)) k0.toNatClampNeg (σ.1 56).toInt (qCvB v9) := by
  have q0 : (0 : Int32).toInt = 0 := by decide +kernel
  have q1 : (1 : Int32).toInt = 1 := by decide +kernel
  have q97 : (97 : Int32).toInt = 97 := by decide +kernel
  have q101 : (101 : Int32).toInt = 101 := by decide +kernel
  have q102 : (102 : Int32).toInt = 102 := by decide +kernel
  have q108 : (108 : Int32).toInt = 108 := by decide +kernel
  have q114 : (114 : Int32).toInt = 114 := by decide +kernel
  have q115 : (115 : Int32).toInt = 115 := by decide +kernel
  have q116 : (116 : Int32).toInt = 116 := by decide +kernel
  have q117 : (117 : Int32).toInt = 117 := by decide +kernel
  have ql0 : (0 : Int64).toInt = 0 := by decide +kernel
  intro v9 h9 h0
  have kd := h9.kd
  dsimp only at kd
  obtain ⟨s8, rfl, ht⟩ := h9.k4 (show ((σ.2.1 51) k0.toNatClampNeg).toInt = 4 by omega)
  have a0 := hr59y s8 ht (by decide +kernel)
  rw [if_neg (by decide +kernel)] at a0
  simp only [show (116 : Int32).toInt = 116 by decide +kernel, show (114 : Int32).toInt = 114 by decide +kernel, show (117 : Int32).toInt = 117 by decide +kernel, show (101 : Int32).toInt = 101 by decide +kernel, show (102 : Int32).toInt = 102 by decide +kernel, show (97 : Int32).toInt = 97 by decide +kernel, show (108 : Int32).toInt = 108 by decide +kernel, show (115 : Int32).toInt = 115 by decide +kernel] at a0
  have a1 := hr63y s8 ht (by decide +kernel)
  rw [if_pos (by decide +kernel)] at a1
  simp only [show (116 : Int32).toInt = 116 by decide +kernel, show (114 : Int32).toInt = 114 by decide +kernel, show (117 : Int32).toInt = 117 by decide +kernel, show (101 : Int32).toInt = 101 by decide +kernel, show (102 : Int32).toInt = 102 by decide +kernel, show (97 : Int32).toInt = 97 by decide +kernel, show (108 : Int32).toInt = 108 by decide +kernel, show (115 : Int32).toInt = 115 by decide +kernel] at a1
  show QRES _ _ _ _ _ _ (if s8 = [116, 114, 117, 101] then _ else if s8 = [102, 97, 108, 115, 101] then _ else _)
  rw [if_neg (a0.1 (by omega)), if_pos (a1.2 (by omega))]
  exact ⟨h0, QW.bool q1 (by decide +kernel) (by decide +kernel)⟩
-- dead@142 @145
theorem v_toBool_62 (r59 : Int32) (c60 : r59.toInt = 0) (c67 : ¬ r59.toInt = 0) : False := by
  first | assumption | omega | (subst_vars; omega) | trivial
-- in@63 @63
theorem v_toBool_63 (σ : RS) (k0 : Int32) (x1 : Int32) (x26 : Int32) (x51 : Int32) (x53 : Int32) (hpre_0 : 0 ≤ k0.toInt) (hpre_1 : k0.toInt < 980) (ex1 : x1 = (σ.2.1 51) k0.toNatClampNeg) (tx1 : x1.toInt = ((σ.2.1 51) k0.toNatClampNeg).toInt) (c2 : x1.toInt < 8) (ex26 : x26 = (σ.2.1 51) k0.toNatClampNeg) (tx26 : x26.toInt = ((σ.2.1 51) k0.toNatClampNeg).toInt) (c27 : ¬ x26.toInt = 3) (ex51 : x51 = (σ.2.1 51) k0.toNatClampNeg) (tx51 : x51.toInt = ((σ.2.1 51) k0.toNatClampNeg).toInt) (c52 : x51.toInt = 4) (ex53 : x53 = (σ.2.1 51) k0.toNatClampNeg) (tx53 : x53.toInt = ((σ.2.1 51) k0.toNatClampNeg).toInt) (c54 : x53.toInt = 3) : vp_in k0 980 := by
  exact vp_in_iff.mpr ⟨by omega, by omega⟩
-- pre:set@151 @151
theorem v_toBool_64 (σ : RS) (k0 : Int32) (x1 : Int32) (x26 : Int32) (x51 : Int32) (x53 : Int32) (x69 : UInt64) (x70 : Int32) (hpre_0 : 0 ≤ k0.toInt) (hpre_1 : k0.toInt < 980) (ex1 : x1 = (σ.2.1 51) k0.toNatClampNeg) (tx1 : x1.toInt = ((σ.2.1 51) k0.toNatClampNeg).toInt) (c2 : x1.toInt < 8) (ex26 : x26 = (σ.2.1 51) k0.toNatClampNeg) (tx26 : x26.toInt = ((σ.2.1 51) k0.toNatClampNeg).toInt) (c27 : ¬ x26.toInt = 3) (ex51 : x51 = (σ.2.1 51) k0.toNatClampNeg) (tx51 : x51.toInt = ((σ.2.1 51) k0.toNatClampNeg).toInt) (c52 : x51.toInt = 4) (ex53 : x53 = (σ.2.1 51) k0.toNatClampNeg) (tx53 : x53.toInt = ((σ.2.1 51) k0.toNatClampNeg).toInt) (c54 : x53.toInt = 3) (ex69 : x69 = (σ.2.2.2) k0.toNatClampNeg) (ex70 : x70 = Op.cmpValue (FP.dcmp x69 FP.dconst0) .l) (c71 : x70.toInt = 0) : 0 ≤ k0.toInt ∧ k0.toInt < 980 := by
  refine ⟨?_, ?_⟩ <;> first | assumption | omega | (subst_vars; omega) | trivial
-- post @154
theorem v_toBool_65 (σ : RS) (k0 : Int32) (x1 : Int32) (x26 : Int32) (x51 : Int32) (x53 : Int32) (x69 : UInt64) (x70 : Int32) (hpre_0 : 0 ≤ k0.toInt) (hpre_1 : k0.toInt < 980) (hpre_2 : 0 ≤ (σ.1 56).toInt) (hpre_3 : (σ.1 56).toInt ≤ 11) (ex1 : x1 = (σ.2.1 51) k0.toNatClampNeg) (tx1 : x1.toInt = ((σ.2.1 51) k0.toNatClampNeg).toInt) (c2 : x1.toInt < 8) (ex26 : x26 = (σ.2.1 51) k0.toNatClampNeg) (tx26 : x26.toInt = ((σ.2.1 51) k0.toNatClampNeg).toInt) (c27 : ¬ x26.toInt = 3) (ex51 : x51 = (σ.2.1 51) k0.toNatClampNeg) (tx51 : x51.toInt = ((σ.2.1 51) k0.toNatClampNeg).toInt) (c52 : x51.toInt = 4) (ex53 : x53 = (σ.2.1 51) k0.toNatClampNeg) (tx53 : x53.toInt = ((σ.2.1 51) k0.toNatClampNeg).toInt) (c54 : x53.toInt = 3) (ex69 : x69 = (σ.2.2.2) k0.toNatClampNeg) (ex70 : x70 = Op.cmpValue (FP.dcmp x69 FP.dconst0) .l) (c71 : x70.toInt = 0) : 0 ≤ (σ.1 56).toInt ∧ (σ.1 56).toInt ≤ 11 ∧ Cell1 (σ.2.1 51) (upd (σ.2.1 51) k0.toNatClampNeg (1 : Int32)) (σ.2.2.1 52) (vp_updL (σ.2.2.1 52) k0.toNatClampNeg (0 : Int64)) (σ.2.2.2) (vf_upd (σ.2.2.2) k0.toNatClampNeg FP.dconst0) k0.toNatClampNeg (fun k v r => k = 1) := by
  have q1 : (1 : Int32).toInt = 1 := by decide +kernel
  have ql0 : (0 : Int64).toInt = 0 := by decide +kernel
  refine ⟨?_, ?_, ?_⟩ <;> first | assumption | omega | exact ⟨_, _, _, rfl, rfl, rfl, by omega⟩ | exact ⟨_, _, _, rfl, rfl, rfl, by decide +kernel⟩
-- post2 @154
theorem v_toBool_66 (σ : RS) (k0 : Int32) (x1 : Int32) (x26 : Int32) (x51 : Int32) (x53 : Int32) (x69 : UInt64) (x70 : Int32) (hpre_0 : 0 ≤ k0.toInt) (hpre_1 : k0.toInt < 980) (hpre_2 : 0 ≤ (σ.1 56).toInt) (hpre_3 : (σ.1 56).toInt ≤ 11) (ex1 : x1 = (σ.2.1 51) k0.toNatClampNeg) (tx1 : x1.toInt = ((σ.2.1 51) k0.toNatClampNeg).toInt) (c2 : x1.toInt < 8) (ex26 : x26 = (σ.2.1 51) k0.toNatClampNeg) (tx26 : x26.toInt = ((σ.2.1 51) k0.toNatClampNeg).toInt) (c27 : ¬ x26.toInt = 3) (ex51 : x51 = (σ.2.1 51) k0.toNatClampNeg) (tx51 : x51.toInt = ((σ.2.1 51) k0.toNatClampNeg).toInt) (c52 : x51.toInt = 4) (ex53 : x53 = (σ.2.1 51) k0.toNatClampNeg) (tx53 : x53.toInt = ((σ.2.1 51) k0.toNatClampNeg).toInt) (c54 : x53.toInt = 3) (ex69 : x69 = (σ.2.2.2) k0.toNatClampNeg) (ex70 : x70 = Op.cmpValue (FP.dcmp x69 FP.dconst0) .l) (c71 : x70.toInt = 0) : ∀ v9 : QV, QAT (qH (σ.2.1 36) (σ.2.1 37) (σ.2.1 38) (σ.2.1 39) (σ.2.1 40) (σ.2.1 41) (σ.2.1 42) (σ.2.1 43) (σ.2.1 44) (σ.2.1 45) (σ.2.1 46) (σ.2.1 48)) (σ.1 47).toInt ((σ.2.1 51), (σ.2.2.1 52), (σ.2.2.1 53), (σ.2.2.2)) k0.toNatClampNeg v9 → (σ.1 56).toInt = 0 → QRES (qH (σ.2.1 36) (σ.2.1 37) (σ.2.1 38) (σ.2.1 39) (σ.2.1 40) (σ.2.1 41) (σ.2.1 42) (σ.2.1 43) (σ.2.1 44) (σ.2.1 45) (σ.2.1 46) (σ.2.1 48)) (σ.1 47).toInt ((σ.2.1 51), (σ.2.2.1 52), (σ.2.2.1 53), (σ.2.2.2)) ((upd (σ.2.1 51) k0.toNatClampNeg (1 : Int32)), (vp_updL (σ.2.2.1 52) k0.toNatClampNeg (0 : Int64)), (vp_updL (σ.2.2.1 53) k0.toNatClampNeg (0 : Int64)), (vf_upd (σ.2.2.2) k0.toNatClampNeg FP.dconst0)) k0.toNatClampNeg (σ.1 56).toInt (qCvB v9) := by
  have q1 : (1 : Int32).toInt = 1 := by decide +kernel
  have ql0 : (0 : Int64).toInt = 0 := by decide +kernel
  exfalso; omega
-- pre:set@151 @151
theorem v_toBool_67 (σ : RS) (k0 : Int32) (x1 : Int32) (x26 : Int32) (x51 : Int32) (x53 : Int32) (x69 : UInt64) (x70 : Int32) (hpre_0 : 0 ≤ k0.toInt) (hpre_1 : k0.toInt < 980) (ex1 : x1 = (σ.2.1 51) k0.toNatClampNeg) (tx1 : x1.toInt = ((σ.2.1 51) k0.toNatClampNeg).toInt) (c2 : x1.toInt < 8) (ex26 : x26 = (σ.2.1 51) k0.toNatClampNeg) (tx26 : x26.toInt = ((σ.2.1 51) k0.toNatClampNeg).toInt) (c27 : ¬ x26.toInt = 3) (ex51 : x51 = (σ.2.1 51) k0.toNatClampNeg) (tx51 : x51.toInt = ((σ.2.1 51) k0.toNatClampNeg).toInt) (c52 : x51.toInt = 4) (ex53 : x53 = (σ.2.1 51) k0.toNatClampNeg) (tx53 : x53.toInt = ((σ.2.1 51) k0.toNatClampNeg).toInt) (c54 : x53.toInt = 3) (ex69 : x69 = (σ.2.2.2) k0.toNatClampNeg) (ex70 : x70 = Op.cmpValue (FP.dcmp x69 FP.dconst0) .l) (c71 : ¬ x70.toInt = 0) : 0 ≤ k0.toInt ∧ k0.toInt < 980 := by
  refine ⟨?_, ?_⟩ <;> first | assumption | omega | (subst_vars; omega) | trivial
-- post @154
theorem v_toBool_68 (σ : RS) (k0 : Int32) (x1 : Int32) (x26 : Int32) (x51 : Int32) (x53 : Int32) (x69 : UInt64) (x70 : Int32) (hpre_0 : 0 ≤ k0.toInt) (hpre_1 : k0.toInt < 980) (hpre_2 : 0 ≤ (σ.1 56).toInt) (hpre_3 : (σ.1 56).toInt ≤ 11) (ex1 : x1 = (σ.2.1 51) k0.toNatClampNeg) (tx1 : x1.toInt = ((σ.2.1 51) k0.toNatClampNeg).toInt) (c2 : x1.toInt < 8) (ex26 : x26 = (σ.2.1 51) k0.toNatClampNeg) (tx26 : x26.toInt = ((σ.2.1 51) k0.toNatClampNeg).toInt) (c27 : ¬ x26.toInt = 3) (ex51 : x51 = (σ.2.1 51) k0.toNatClampNeg) (tx51 : x51.toInt = ((σ.2.1 51) k0.toNatClampNeg).toInt) (c52 : x51.toInt = 4) (ex53 : x53 = (σ.2.1 51) k0.toNatClampNeg) (tx53 : x53.toInt = ((σ.2.1 51) k0.toNatClampNeg).toInt) (c54 : x53.toInt = 3) (ex69 : x69 = (σ.2.2.2) k0.toNatClampNeg) (ex70 : x70 = Op.cmpValue (FP.dcmp x69 FP.dconst0) .l) (c71 : ¬ x70.toInt = 0) : 0 ≤ (σ.1 56).toInt ∧ (σ.1 56).toInt ≤ 11 ∧ Cell1 (σ.2.1 51) (upd (σ.2.1 51) k0.toNatClampNeg (1 : Int32)) (σ.2.2.1 52) (vp_updL (σ.2.2.1 52) k0.toNatClampNeg (1 : Int64)) (σ.2.2.2) (vf_upd (σ.2.2.2) k0.toNatClampNeg FP.dconst0) k0.toNatClampNeg (fun k v r => k = 1) := by
  have q1 : (1 : Int32).toInt = 1 := by decide +kernel
  have ql1 : (1 : Int64).toInt = 1 := by decide +kernel
  refine ⟨?_, ?_, ?_⟩ <;> first | assumption | omega | exact ⟨_, _, _, rfl, rfl, rfl, by omega⟩ | exact ⟨_, _, _, rfl, rfl, rfl, by decide +kernel⟩
-- post2 @154
theorem v_toBool_69 (σ : RS) (k0 : Int32) (x1 : Int32) (x26 : Int32) (x51 : Int32) (x53 : Int32) (x69 : UInt64) (x70 : Int32) (hpre_0 : 0 ≤ k0.toInt) (hpre_1 : k0.toInt < 980) (hpre_2 : 0 ≤ (σ.1 56).toInt) (hpre_3 : (σ.1 56).toInt ≤ 11) (ex1 : x1 = (σ.2.1 51) k0.toNatClampNeg) (tx1 : x1.toInt = ((σ.2.1 51) k0.toNatClampNeg).toInt) (c2 : x1.toInt < 8) (ex26 : x26 = (σ.2.1 51) k0.toNatClampNeg) (tx26 : x26.toInt = ((σ.2.1 51) k0.toNatClampNeg).toInt) (c27 : ¬ x26.toInt = 3) (ex51 : x51 = (σ.2.1 51) k0.toNatClampNeg) (tx51 : x51.toInt = ((σ.2.1 51) k0.toNatClampNeg).toInt) (c52 : x51.toInt = 4) (ex53 : x53 = (σ.2.1 51) k0.toNatClampNeg) (tx53 : x53.toInt = ((σ.2.1 51) k0.toNatClampNeg).toInt) (c54 : x53.toInt = 3) (ex69 : x69 = (σ.2.2.2) k0.toNatClampNeg) (ex70 : x70 = Op.cmpValue (FP.dcmp x69 FP.dconst0) .l) (c71 : ¬ x70.toInt = 0) : ∀ v9 : QV, QAT (qH (σ.2.1 36) (σ.2.1 37) (σ.2.1 38) (σ.2.1 39) (σ.2.1 40) (σ.2.1 41) (σ.2.1 42) (σ.2.1 43) (σ.2.1 44) (σ.2.1 45) (σ.2.1 46) (σ.2.1 48)) (σ.1 47).toInt ((σ.2.1 51), (σ.2.2.1 52), (σ.2.2.1 53), (σ.2.2.2)) k0.toNatClampNeg v9 → (σ.1 56).toInt = 0 → QRES (qH (σ.2.1 36) (σ.2.1 37) (σ.2.1 38) (σ.2.1 39) (σ.2.1 40) (σ.2.1 41) (σ.2.1 42) (σ.2.1 43) (σ.2.1 44) (σ.2.1 45) (σ.2.1 46) (σ.2.1 48)) (σ.1 47).toInt ((σ.2.1 51), (σ.2.2.1 52), (σ.2.2.1 53), (σ.2.2.2)) ((upd (σ.2.1 51) k0.toNatClampNeg (1 : Int32)), (vp_updL (σ.2.2.1 52) k0.toNatClampNeg (1 : Int64)), (vp_updL (σ.2.2.1 53) k0.toNatClampNeg (0 : Int64)), (vf_upd (σ.2.2.2) k0.toNatClampNeg FP.dconst0)) k0.toNatClampNeg (σ.1 56).toInt (qCvB v9) := by
  have q1 : (1 : Int32).toInt = 1 := by decide +kernel
  have ql0 : (0 : Int64).toInt = 0 := by decide +kernel
  have ql1 : (1 : Int64).toInt = 1 := by decide +kernel
  exfalso; omega
-- in@36 @36
theorem v_toBool_70 (σ : RS) (k0 : Int32) (x1 : Int32) (x26 : Int32) (x51 : Int32) (hpre_0 : 0 ≤ k0.toInt) (hpre_1 : k0.toInt < 980) (ex1 : x1 = (σ.2.1 51) k0.toNatClampNeg) (tx1 : x1.toInt = ((σ.2.1 51) k0.toNatClampNeg).toInt) (c2 : x1.toInt < 8) (ex26 : x26 = (σ.2.1 51) k0.toNatClampNeg) (tx26 : x26.toInt = ((σ.2.1 51) k0.toNatClampNeg).toInt) (c27 : ¬ x26.toInt = 3) (ex51 : x51 = (σ.2.1 51) k0.toNatClampNeg) (tx51 : x51.toInt = ((σ.2.1 51) k0.toNatClampNeg).toInt) (c52 : ¬ x51.toInt = 4) : vp_in k0 980 := by
  exact vp_in_iff.mpr ⟨by omega, by omega⟩
-- in@53 @53
theorem v_toBool_71 (σ : RS) (k0 : Int32) (x1 : Int32) (x26 : Int32) (x51 : Int32) (x76 : Int64) (x77 : Int32) (hpre_0 : 0 ≤ k0.toInt) (hpre_1 : k0.toInt < 980) (ex1 : x1 = (σ.2.1 51) k0.toNatClampNeg) (tx1 : x1.toInt = ((σ.2.1 51) k0.toNatClampNeg).toInt) (c2 : x1.toInt < 8) (ex26 : x26 = (σ.2.1 51) k0.toNatClampNeg) (tx26 : x26.toInt = ((σ.2.1 51) k0.toNatClampNeg).toInt) (c27 : ¬ x26.toInt = 3) (ex51 : x51 = (σ.2.1 51) k0.toNatClampNeg) (tx51 : x51.toInt = ((σ.2.1 51) k0.toNatClampNeg).toInt) (c52 : ¬ x51.toInt = 4) (ex76 : x76 = (σ.2.2.1 52) k0.toNatClampNeg) (tx76 : x76.toInt = ((σ.2.2.1 52) k0.toNatClampNeg).toInt) (tx77 : (x77.toInt = 0 ↔ x76.toInt = 0) ∧ (x77.toInt < 0 ↔ x76.toInt < 0)) (c78 : x77.toInt = 0) : vp_in k0 980 := by
  exact vp_in_iff.mpr ⟨by omega, by omega⟩
-- in@83 @83
theorem v_toBool_72 (σ : RS) (k0 : Int32) (x1 : Int32) (x26 : Int32) (x51 : Int32) (x76 : Int64) (x77 : Int32) (x79 : Int32) (hpre_0 : 0 ≤ k0.toInt) (hpre_1 : k0.toInt < 980) (ex1 : x1 = (σ.2.1 51) k0.toNatClampNeg) (tx1 : x1.toInt = ((σ.2.1 51) k0.toNatClampNeg).toInt) (c2 : x1.toInt < 8) (ex26 : x26 = (σ.2.1 51) k0.toNatClampNeg) (tx26 : x26.toInt = ((σ.2.1 51) k0.toNatClampNeg).toInt) (c27 : ¬ x26.toInt = 3) (ex51 : x51 = (σ.2.1 51) k0.toNatClampNeg) (tx51 : x51.toInt = ((σ.2.1 51) k0.toNatClampNeg).toInt) (c52 : ¬ x51.toInt = 4) (ex76 : x76 = (σ.2.2.1 52) k0.toNatClampNeg) (tx76 : x76.toInt = ((σ.2.2.1 52) k0.toNatClampNeg).toInt) (tx77 : (x77.toInt = 0 ↔ x76.toInt = 0) ∧ (x77.toInt < 0 ↔ x76.toInt < 0)) (c78 : x77.toInt = 0) (ex79 : x79 = (σ.2.1 51) k0.toNatClampNeg) (tx79 : x79.toInt = ((σ.2.1 51) k0.toNatClampNeg).toInt) (c80 : ¬ x79.toInt = 3) : vp_in k0 980 := by
  exact vp_in_iff.mpr ⟨by omega, by omega⟩
-- pre:set@151 @151
theorem v_toBool_73 (σ : RS) (k0 : Int32) (x1 : Int32) (x26 : Int32) (x51 : Int32) (x76 : Int64) (x77 : Int32) (x79 : Int32) (x81 : Int32) (hpre_0 : 0 ≤ k0.toInt) (hpre_1 : k0.toInt < 980) (ex1 : x1 = (σ.2.1 51) k0.toNatClampNeg) (tx1 : x1.toInt = ((σ.2.1 51) k0.toNatClampNeg).toInt) (c2 : x1.toInt < 8) (ex26 : x26 = (σ.2.1 51) k0.toNatClampNeg) (tx26 : x26.toInt = ((σ.2.1 51) k0.toNatClampNeg).toInt) (c27 : ¬ x26.toInt = 3) (ex51 : x51 = (σ.2.1 51) k0.toNatClampNeg) (tx51 : x51.toInt = ((σ.2.1 51) k0.toNatClampNeg).toInt) (c52 : ¬ x51.toInt = 4) (ex76 : x76 = (σ.2.2.1 52) k0.toNatClampNeg) (tx76 : x76.toInt = ((σ.2.2.1 52) k0.toNatClampNeg).toInt) (tx77 : (x77.toInt = 0 ↔ x76.toInt = 0) ∧ (x77.toInt < 0 ↔ x76.toInt < 0)) (c78 : x77.toInt = 0) (ex79 : x79 = (σ.2.1 51) k0.toNatClampNeg) (tx79 : x79.toInt = ((σ.2.1 51) k0.toNatClampNeg).toInt) (c80 : ¬ x79.toInt = 3) (ex81 : x81 = (σ.2.1 51) k0.toNatClampNeg) (tx81 : x81.toInt = ((σ.2.1 51) k0.toNatClampNeg).toInt) (c82 : ¬ x81.toInt = 4) : 0 ≤ k0.toInt ∧ k0.toInt < 980 := by
  refine ⟨?_, ?_⟩ <;> first | assumption | omega | (subst_vars; omega) | trivial
-- post @154
theorem v_toBool_74 (σ : RS) (k0 : Int32) (x1 : Int32) (x26 : Int32) (x51 : Int32) (x76 : Int64) (x77 : Int32) (x79 : Int32) (x81 : Int32) (hpre_0 : 0 ≤ k0.toInt) (hpre_1 : k0.toInt < 980) (hpre_2 : 0 ≤ (σ.1 56).toInt) (hpre_3 : (σ.1 56).toInt ≤ 11) (ex1 : x1 = (σ.2.1 51) k0.toNatClampNeg) (tx1 : x1.toInt = ((σ.2.1 51) k0.toNatClampNeg).toInt) (c2 : x1.toInt < 8) (ex26 : x26 = (σ.2.1 51) k0.toNatClampNeg) (tx26 : x26.toInt = ((σ.2.1 51) k0.toNatClampNeg).toInt) (c27 : ¬ x26.toInt = 3) (ex51 : x51 = (σ.2.1 51) k0.toNatClampNeg) (tx51 : x51.toInt = ((σ.2.1 51) k0.toNatClampNeg).toInt) (c52 : ¬ x51.toInt = 4) (ex76 : x76 = (σ.2.2.1 52) k0.toNatClampNeg) (tx76 : x76.toInt = ((σ.2.2.1 52) k0.toNatClampNeg).toInt) (tx77 : (x77.toInt = 0 ↔ x76.toInt = 0) ∧ (x77.toInt < 0 ↔ x76.toInt < 0)) (c78 : x77.toInt = 0) (ex79 : x79 = (σ.2.1 51) k0.toNatClampNeg) (tx79 : x79.toInt = ((σ.2.1 51) k0.toNatClampNeg).toInt) (c80 : ¬ x79.toInt = 3) (ex81 : x81 = (σ.2.1 51) k0.toNatClampNeg) (tx81 : x81.toInt = ((σ.2.1 51) k0.toNatClampNeg).toInt) (c82 : ¬ x81.toInt = 4) : 0 ≤ (σ.1 56).toInt ∧ (σ.1 56).toInt ≤ 11 ∧ Cell1 (σ.2.1 51) (upd (σ.2.1 51) k0.toNatClampNeg (1 : Int32)) (σ.2.2.1 52) (vp_updL (σ.2.2.1 52) k0.toNatClampNeg (0 : Int64)) (σ.2.2.2) (vf_upd (σ.2.2.2) k0.toNatClampNeg FP.dconst0) k0.toNatClampNeg (fun k v r => k = 1) := by
  have q1 : (1 : Int32).toInt = 1 := by decide +kernel
  have ql0 : (0 : Int64).toInt = 0 := by decide +kernel
  refine ⟨?_, ?_, ?_⟩ <;> first | assumption | omega | exact ⟨_, _, _, rfl, rfl, rfl, by omega⟩ | exact ⟨_, _, _, rfl, rfl, rfl, by decide +kernel⟩
-- post2 @154
theorem v_toBool_75 (σ : RS) (k0 : Int32) (x1 : Int32) (x26 : Int32) (x51 : Int32) (x76 : Int64) (x77 : Int32) (x79 : Int32) (x81 : Int32) (hpre_0 : 0 ≤ k0.toInt) (hpre_1 : k0.toInt < 980) (hpre_2 : 0 ≤ (σ.1 56).toInt) (hpre_3 : (σ.1 56).toInt ≤ 11) (ex1 : x1 = (σ.2.1 51) k0.toNatClampNeg) (tx1 : x1.toInt = ((σ.2.1 51) k0.toNatClampNeg).toInt) (c2 : x1.toInt < 8) (ex26 : x26 = (σ.2.1 51) k0.toNatClampNeg) (tx26 : x26.toInt = ((σ.2.1 51) k0.toNatClampNeg).toInt) (c27 : ¬ x26.toInt = 3) (ex51 : x51 = (σ.2.1 51) k0.toNatClampNeg) (tx51 : x51.toInt = ((σ.2.1 51) k0.toNatClampNeg).toInt) (c52 : ¬ x51.toInt = 4) (ex76 : x76 = (σ.2.2.1 52) k0.toNatClampNeg) (tx76 : x76.toInt = ((σ.2.2.1 52) k0.toNatClampNeg).toInt) (tx77 : (x77.toInt = 0 ↔ x76.toInt = 0) ∧ (x77.toInt < 0 ↔ x76.toInt < 0)) (c78 : x77.toInt = 0) (ex79 : x79 = (σ.2.1 51) k0.toNatClampNeg) (tx79 : x79.toInt = ((σ.2.1 51) k0.toNatClampNeg).toInt) (c80 : ¬ x79.toInt = 3) (ex81 : x81 = (σ.2.1 51) k0.toNatClampNeg) (tx81 : x81.toInt = ((σ.2.1 51) k0.toNatClampNeg).toInt) (c82 : ¬ x81.toInt = 4) : ∀ v9 : QV, QAT (qH (σ.2.1 36) (σ.2.1 37) (σ.2.1 38) (σ.2.1 39) (σ.2.1 40) (σ.2.1 41) (σ.2.1 42) (σ.2.1 43) (σ.2.1 44) (σ.2.1 45) (σ.2.1 46) (σ.2.1 48)) (σ.1 47).toInt ((σ.2.1 51), (σ.2.2.1 52), (σ.2.2.1 53), (σ.2.2.2)) k0.toNatClampNeg v9 → (σ.1 56).toInt = 0 → QRES (qH (σ.2.1 36) (σ.2.1 37) (σ.2.1 38) (σ.2.1 39) (σ.2.1 40) (σ.2.1 41) (σ.2.1 42) (σ.2.1 43) (σ.2.1 44) (σ.2.1 45) (σ.2.1 46) (σ.2.1 48)) (σ.1 47).toInt ((σ.2.1 51), (σ.2.2.1 52), (σ.2.2.1 53), (σ.2.2.2)) ((upd (σ.2.1 51) k0.toNatClampNeg (1 : Int32)), (vp_updL (σ.2.2.1 52) k0.toNatClampNeg (0 : Int64)), (vp_updL (σ.2.2.1 53) k0.toNatClampNeg (0 : Int64)), (vf_upd (σ.2.2.2) k0.toNatClampNeg FP.dconst0)) k0.toNatClampNeg (σ.1 56).toInt (qCvB v9) := by
  have q1 : (1 : Int32).toInt = 1 := by decide +kernel
  have ql0 : (0 : Int64).toInt = 0 := by decide +kernel
  intro v9 h9 h0
  have kd := h9.kd
  dsimp only at kd
  rw [qCvB_x (by omega) (by omega)]
  have a9 := (h9.2.2.2.2 (by omega) (by omega)).1
  dsimp only at a9
  refine ⟨h0, ?_⟩
  rw [decide_eq_false (by omega)]
  exact QW.bool q1 (by decide +kernel) (by decide +kernel)
-- pre:spells@99 @99
theorem v_toBool_76 (σ : RS) (k0 : Int32) (x1 : Int32) (x26 : Int32) (x51 : Int32) (x76 : Int64) (x77 : Int32) (x79 : Int32) (x81 : Int32) (hpre_0 : 0 ≤ k0.toInt) (hpre_1 : k0.toInt < 980) (ex1 : x1 = (σ.2.1 51) k0.toNatClampNeg) (tx1 : x1.toInt = ((σ.2.1 51) k0.toNatClampNeg).toInt) (c2 : x1.toInt < 8) (ex26 : x26 = (σ.2.1 51) k0.toNatClampNeg) (tx26 : x26.toInt = ((σ.2.1 51) k0.toNatClampNeg).toInt) (c27 : ¬ x26.toInt = 3) (ex51 : x51 = (σ.2.1 51) k0.toNatClampNeg) (tx51 : x51.toInt = ((σ.2.1 51) k0.toNatClampNeg).toInt) (c52 : ¬ x51.toInt = 4) (ex76 : x76 = (σ.2.2.1 52) k0.toNatClampNeg) (tx76 : x76.toInt = ((σ.2.2.1 52) k0.toNatClampNeg).toInt) (tx77 : (x77.toInt = 0 ↔ x76.toInt = 0) ∧ (x77.toInt < 0 ↔ x76.toInt < 0)) (c78 : x77.toInt = 0) (ex79 : x79 = (σ.2.1 51) k0.toNatClampNeg) (tx79 : x79.toInt = ((σ.2.1 51) k0.toNatClampNeg).toInt) (c80 : ¬ x79.toInt = 3) (ex81 : x81 = (σ.2.1 51) k0.toNatClampNeg) (tx81 : x81.toInt = ((σ.2.1 51) k0.toNatClampNeg).toInt) (c82 : x81.toInt = 4) : 0 ≤ k0.toInt ∧ k0.toInt < 980 := by
  refine ⟨?_, ?_⟩ <;> first | assumption | omega | (subst_vars; omega) | trivial
-- dead@142 @149
theorem v_toBool_77 (r85 : Int32) (c86 : ¬ r85.toInt = 0) (c87 : r85.toInt = 0) : False := by
  first | assumption | omega | (subst_vars; omega) | trivial
-- post @154
theorem v_toBool_78 (σ : RS) (k0 : Int32) (x1 : Int32) (x26 : Int32) (x51 : Int32) (x76 : Int64) (x77 : Int32) (x79 : Int32) (x81 : Int32) (hpre_0 : 0 ≤ k0.toInt) (hpre_1 : k0.toInt < 980) (hpre_2 : 0 ≤ (σ.1 56).toInt) (hpre_3 : (σ.1 56).toInt ≤ 11) (ex1 : x1 = (σ.2.1 51) k0.toNatClampNeg) (tx1 : x1.toInt = ((σ.2.1 51) k0.toNatClampNeg).toInt) (c2 : x1.toInt < 8) (ex26 : x26 = (σ.2.1 51) k0.toNatClampNeg) (tx26 : x26.toInt = ((σ.2.1 51) k0.toNatClampNeg).toInt) (c27 : ¬ x26.toInt = 3) (ex51 : x51 = (σ.2.1 51) k0.toNatClampNeg) (tx51 : x51.toInt = ((σ.2.1 51) k0.toNatClampNeg).toInt) (c52 : ¬ x51.toInt = 4) (ex76 : x76 = (σ.2.2.1 52) k0.toNatClampNeg) (tx76 : x76.toInt = ((σ.2.2.1 52) k0.toNatClampNeg).toInt) (tx77 : (x77.toInt = 0 ↔ x76.toInt = 0) ∧ (x77.toInt < 0 ↔ x76.toInt < 0)) (c78 : x77.toInt = 0) (ex79 : x79 = (σ.2.1 51) k0.toNatClampNeg) (tx79 : x79.toInt = ((σ.2.1 51) k0.toNatClampNeg).toInt) (c80 : ¬ x79.toInt = 3) (ex81 : x81 = (σ.2.1 51) k0.toNatClampNeg) (tx81 : x81.toInt = ((σ.2.1 51) k0.toNatClampNeg).toInt) (c82 : x81.toInt = 4) : 0 ≤ (σ.1 56).toInt ∧ (σ.1 56).toInt ≤ 11 ∧ Cell1 (σ.2.1 51) (upd (σ.2.1 51) k0.toNatClampNeg (1 : Int32)) (σ.2.2.1 52) (vp_updL (σ.2.2.1 52) k0.toNatClampNeg (1 : Int64)) (σ.2.2.2) (vf_upd (σ.2.2.2) k0.toNatClampNeg FP.dconst0) k0.toNatClampNeg (fun k v r => k = 1) := by
  have q1 : (1 : Int32).toInt = 1 := by decide +kernel
  have ql1 : (1 : Int64).toInt = 1 := by decide +kernel
  refine ⟨?_, ?_, ?_⟩ <;> first | assumption | omega | exact ⟨_, _, _, rfl, rfl, rfl, by omega⟩ | exact ⟨_, _, _, rfl, rfl, rfl, by decide +kernel⟩
-- post2 @154
theorem v_toBool_79 (σ : RS) (k0 : Int32) (x1 : Int32) (x26 : Int32) (x51 : Int32) (x76 : Int64) (x77 : Int32) (x79 : Int32) (x81 : Int32) (r85 : Int32) (hpre_0 : 0 ≤ k0.toInt) (hpre_1 : k0.toInt < 980) (hpre_2 : 0 ≤ (σ.1 56).toInt) (hpre_3 : (σ.1 56).toInt ≤ 11) (ex1 : x1 = (σ.2.1 51) k0.toNatClampNeg) (tx1 : x1.toInt = ((σ.2.1 51) k0.toNatClampNeg).toInt) (c2 : x1.toInt < 8) (ex26 : x26 = (σ.2.1 51) k0.toNatClampNeg) (tx26 : x26.toInt = ((σ.2.1 51) k0.toNatClampNeg).toInt) (c27 : ¬ x26.toInt = 3) (ex51 : x51 = (σ.2.1 51) k0.toNatClampNeg) (tx51 : x51.toInt = ((σ.2.1 51) k0.toNatClampNeg).toInt) (c52 : ¬ x51.toInt = 4) (ex76 : x76 = (σ.2.2.1 52) k0.toNatClampNeg) (tx76 : x76.toInt = ((σ.2.2.1 52) k0.toNatClampNeg).toInt) (tx77 : (x77.toInt = 0 ↔ x76.toInt = 0) ∧ (x77.toInt < 0 ↔ x76.toInt < 0)) (c78 : x77.toInt = 0) (ex79 : x79 = (σ.2.1 51) k0.toNatClampNeg) (tx79 : x79.toInt = ((σ.2.1 51) k0.toNatClampNeg).toInt) (c80 : ¬ x79.toInt = 3) (ex81 : x81 = (σ.2.1 51) k0.toNatClampNeg) (tx81 : x81.toInt = ((σ.2.1 51) k0.toNatClampNeg).toInt) (c82 : x81.toInt = 4) (hr85y : ∀ s9 : List Int, QTT ((σ.2.2.1 52) k0.toNatClampNeg) ((σ.2.2.1 53) k0.toNatClampNeg) s9 → 0 ≤ (0 : Int32).toInt → (r85.toInt = 0 → ¬ s9 = (if 0 < (0 : Int32).toInt then [(116 : Int32).toInt, (114 : Int32).toInt, (117 : Int32).toInt, (101 : Int32).toInt, (0 : Int32).toInt] else [(116 : Int32).toInt, (114 : Int32).toInt, (117 : Int32).toInt, (101 : Int32).toInt])) ∧ (¬ r85.toInt = 0 → s9 = (if 0 < (0 : Int32).toInt then [(116 : Int32).toInt, (114 : Int32).toInt, (117 : Int32).toInt, (101 : Int32).toInt, (0 : Int32).toInt] else [(116 : Int32).toInt, (114 : Int32).toInt, (117 : Int32).toInt, (101 : Int32).toInt]))) (c86 : ¬ r85.toInt = 0) (c87 : ¬ r85.toInt = 0) : ∀ v9 : QV, QAT (qH (σ.2.1 36) (σ.2.1 37) (σ.2.1 38) (σ.2.1 39) (σ.2.1 40) (σ.2.1 41) (σ.2.1 42) (σ.2.1 43) (σ.2.1 44) (σ.2.1 45) (σ.2.1 46) (σ.2.1 48)) (σ.1 47).toInt ((σ.2.1 51), (σ.2.2.1 52), (σ.2.2.1 53), (σ.2.2.2)) k0.toNatClampNeg v9 → (σ.1 56).toInt = 0 → QRES (qH (σ.2.1 36) (σ.2.1 37) (σ.2.1 38) (σ.2.1 39) (σ.2.1 40) (σ.2.1 41) (σ.2.1 42) (σ.2.1 43) (σ.2.1 44) (σ.2.1 45) (σ.2.1 46) (σ.2.1 48)) (σ.1 47).toInt ((σ.2.1 51), (σ.2.2.1 52), (σ.2.2.1 53), (σ.2.2.2)) ((upd (σ.2.1 51) k0.toNatClampNeg (1 : Int32)), (vp_updL (σ.2.2.1 52) k0.toNatClampNeg (1 : Int64)), (vp_updL (σ.2.2.1 53) k0.toNatClampNeg (0 : Int64)), (vf_upd (σ.2.2.2) k0.toNatClampNeg FP.dconst0)) k0.toNatClampNeg (σ.1 56).toInt (qCvB v9) := by
  have q0 : (0 : Int32).toInt = 0 := by decide +kernel
  have q1 : (1 : Int32).toInt = 1 := by decide +kernel
  have q101 : (101 : Int32).toInt = 101 := by decide +kernel
  have q114 : (114 : Int32).toInt = 114 := by decide +kernel
  have q116 : (116 : Int32).toInt = 116 := by decide +kernel
  have q117 : (117 : Int32).toInt = 117 := by decide +kernel
  have ql0 : (0 : Int64).toInt = 0 := by decide +kernel
  have ql1 : (1 : Int64).toInt = 1 := by decide +kernel
  exfalso; omega
-- post @154
theorem v_toBool_80 (σ : RS) (k0 : Int32) (x1 : Int32) (x26 : Int32) (x51 : Int32) (x76 : Int64) (x77 : Int32) (x79 : Int32) (x81 : Int32) (hpre_0 : 0 ≤ k0.toInt) (hpre_1 : k0.toInt < 980) (ex1 : x1 = (σ.2.1 51) k0.toNatClampNeg) (tx1 : x1.toInt = ((σ.2.1 51) k0.toNatClampNeg).toInt) (c2 : x1.toInt < 8) (ex26 : x26 = (σ.2.1 51) k0.toNatClampNeg) (tx26 : x26.toInt = ((σ.2.1 51) k0.toNatClampNeg).toInt) (c27 : ¬ x26.toInt = 3) (ex51 : x51 = (σ.2.1 51) k0.toNatClampNeg) (tx51 : x51.toInt = ((σ.2.1 51) k0.toNatClampNeg).toInt) (c52 : ¬ x51.toInt = 4) (ex76 : x76 = (σ.2.2.1 52) k0.toNatClampNeg) (tx76 : x76.toInt = ((σ.2.2.1 52) k0.toNatClampNeg).toInt) (tx77 : (x77.toInt = 0 ↔ x76.toInt = 0) ∧ (x77.toInt < 0 ↔ x76.toInt < 0)) (c78 : x77.toInt = 0) (ex79 : x79 = (σ.2.1 51) k0.toNatClampNeg) (tx79 : x79.toInt = ((σ.2.1 51) k0.toNatClampNeg).toInt) (c80 : ¬ x79.toInt = 3) (ex81 : x81 = (σ.2.1 51) k0.toNatClampNeg) (tx81 : x81.toInt = ((σ.2.1 51) k0.toNatClampNeg).toInt) (c82 : x81.toInt = 4) : 0 ≤ (10 : Int32).toInt ∧ (10 : Int32).toInt ≤ 11 ∧ Cell1 (σ.2.1 51) (upd (σ.2.1 51) k0.toNatClampNeg (1 : Int32)) (σ.2.2.1 52) (vp_updL (σ.2.2.1 52) k0.toNatClampNeg (0 : Int64)) (σ.2.2.2) (vf_upd (σ.2.2.2) k0.toNatClampNeg FP.dconst0) k0.toNatClampNeg (fun k v r => k = 1) := by
  have q1 : (1 : Int32).toInt = 1 := by decide +kernel
  have q10 : (10 : Int32).toInt = 10 := by decide +kernel
  have ql0 : (0 : Int64).toInt = 0 := by decide +kernel
  refine ⟨?_, ?_, ?_⟩ <;> first | assumption | omega | exact ⟨_, _, _, rfl, rfl, rfl, by omega⟩ | exact ⟨_, _, _, rfl, rfl, rfl, by decide +kernel⟩
-- post2 @154
theorem v_toBool_81 (σ : RS) (k0 : Int32) (x1 : Int32) (x26 : Int32) (x51 : Int32) (x76 : Int64) (x77 : Int32) (x79 : Int32) (x81 : Int32) (r85 : Int32) (r89 : Int32) (hpre_0 : 0 ≤ k0.toInt) (hpre_1 : k0.toInt < 980) (hpre_2 : 0 ≤ (σ.1 56).toInt) (hpre_3 : (σ.1 56).toInt ≤ 11) (ex1 : x1 = (σ.2.1 51) k0.toNatClampNeg) (tx1 : x1.toInt = ((σ.2.1 51) k0.toNatClampNeg).toInt) (c2 : x1.toInt < 8) (ex26 : x26 = (σ.2.1 51) k0.toNatClampNeg) (tx26 : x26.toInt = ((σ.2.1 51) k0.toNatClampNeg).toInt) (c27 : ¬ x26.toInt = 3) (ex51 : x51 = (σ.2.1 51) k0.toNatClampNeg) (tx51 : x51.toInt = ((σ.2.1 51) k0.toNatClampNeg).toInt) (c52 : ¬ x51.toInt = 4) (ex76 : x76 = (σ.2.2.1 52) k0.toNatClampNeg) (tx76 : x76.toInt = ((σ.2.2.1 52) k0.toNatClampNeg).toInt) (tx77 : (x77.toInt = 0 ↔ x76.toInt = 0) ∧ (x77.toInt < 0 ↔ x76.toInt < 0)) (c78 : x77.toInt = 0) (ex79 : x79 = (σ.2.1 51) k0.toNatClampNeg) (tx79 : x79.toInt = ((σ.2.1 51) k0.toNatClampNeg).toInt) (c80 : ¬ x79.toInt = 3) (ex81 : x81 = (σ.2.1 51) k0.toNatClampNeg) (tx81 : x81.toInt = ((σ.2.1 51) k0.toNatClampNeg).toInt) (c82 : x81.toInt = 4) (hr85y : ∀ s9 : List Int, QTT ((σ.2.2.1 52) k0.toNatClampNeg) ((σ.2.2.1 53) k0.toNatClampNeg) s9 → 0 ≤ (0 : Int32).toInt → (r85.toInt = 0 → ¬ s9 = (if 0 < (0 : Int32).toInt then [(116 : Int32).toInt, (114 : Int32).toInt, (117 : Int32).toInt, (101 : Int32).toInt, (0 : Int32).toInt] else [(116 : Int32).toInt, (114 : Int32).toInt, (117 : Int32).toInt, (101 : Int32).toInt])) ∧ (¬ r85.toInt = 0 → s9 = (if 0 < (0 : Int32).toInt then [(116 : Int32).toInt, (114 : Int32).toInt, (117 : Int32).toInt, (101 : Int32).toInt, (0 : Int32).toInt] else [(116 : Int32).toInt, (114 : Int32).toInt, (117 : Int32).toInt, (101 : Int32).toInt]))) (c86 : r85.toInt = 0) (hr89y : ∀ s9 : List Int, QTT ((σ.2.2.1 52) k0.toNatClampNeg) ((σ.2.2.1 53) k0.toNatClampNeg) s9 → 0 ≤ (101 : Int32).toInt → (r89.toInt = 0 → ¬ s9 = (if 0 < (101 : Int32).toInt then [(102 : Int32).toInt, (97 : Int32).toInt, (108 : Int32).toInt, (115 : Int32).toInt, (101 : Int32).toInt] else [(102 : Int32).toInt, (97 : Int32).toInt, (108 : Int32).toInt, (115 : Int32).toInt])) ∧ (¬ r89.toInt = 0 → s9 = (if 0 < (101 : Int32).toInt then [(102 : Int32).toInt, (97 : Int32).toInt, (108 : Int32).toInt, (115 : Int32).toInt, (101 : Int32).toInt] else [(102 : Int32).toInt, (97 : Int32).toInt, (108 : Int32).toInt, (115 : Int32).toInt]))) (c90 : r89.toInt = 0) (c91 : r85.toInt = 0) : ∀ v9 : QV, QAT (qH (σ.2.1 36) (σ.2.1 37) (σ.2.1 38) (σ.2.1 39) (σ.2.1 40) (σ.2.1 41) (σ.2.1 42) (σ.2.1 43) (σ.2.1 44) (σ.2.1 45) (σ.2.1 46) (σ.2.1 48)) (σ.1 47).toInt ((σ.2.1 51), (σ.2.2.1 52), (σ.2.2.1 53), (σ.2.2.2)) k0.toNatClampNeg v9 → (σ.1 56).toInt = 0 → QRES (qH (σ.2.1 36) (σ.2.1 37) (σ.2.1 38) (σ.2.1 39) (σ.2.1 40) (σ.2.1 41) (σ.2.1 42) (σ.2.1 43) (σ.2.1 44) (σ.2.1 45) (σ.2.1 46) (σ.2.1 48)) (σ.1 47).toInt ((σ.2.1 51), (σ.2.2.1 52), (σ.2.2.1 53), (σ.2.2.2)) ((upd (σ.2.1 51) k0.toNatClampNeg (1 : Int32)), (vp_updL (σ.2.2.1 52) k0.toNatClampNeg (0 : Int64)), (vp_updL (σ.2.2.1 53) k0.toNatClampNeg (0 : Int64)), (vf_upd (σ.2.2.2) k0.toNatClampNeg FP.dconst0)) k0.toNatClampNeg (10 : Int32).toInt (qCvB v9) := by
  have q0 : (0 : Int32).toInt = 0 := by decide +kernel
  have q1 : (1 : Int32).toInt = 1 := by decide +kernel
  have q10 : (10 : Int32).toInt = 10 := by decide +kernel
  have q97 : (97 : Int32).toInt = 97 := by decide +kernel
  have q101 : (101 : Int32).toInt = 101 := by decide +kernel
  have q102 : (102 : Int32).toInt = 102 := by decide +kernel
  have q108 : (108 : Int32).toInt = 108 := by decide +kernel
  have q114 : (114 : Int32).toInt = 114 := by decide +kernel
  have q115 : (115 : Int32).toInt = 115 := by decide +kernel
  have q116 : (116 : Int32).toInt = 116 := by decide +kernel
  have q117 : (117 : Int32).toInt = 117 := by decide +kernel
  have ql0 : (0 : Int64).toInt = 0 := by decide +kernel
  exfalso; omega
-- dead@142 @145
theorem v_toBool_82 (r85 : Int32) (c86 : r85.toInt = 0) (c91 : ¬ r85.toInt = 0) : False := by
  first | assumption | omega | (subst_vars; omega) | trivial
-- post @154
theorem v_toBool_83 (σ : RS) (k0 : Int32) (x1 : Int32) (x26 : Int32) (x51 : Int32) (x76 : Int64) (x77 : Int32) (x79 : Int32) (x81 : Int32) (hpre_0 : 0 ≤ k0.toInt) (hpre_1 : k0.toInt < 980) (hpre_2 : 0 ≤ (σ.1 56).toInt) (hpre_3 : (σ.1 56).toInt ≤ 11) (ex1 : x1 = (σ.2.1 51) k0.toNatClampNeg) (tx1 : x1.toInt = ((σ.2.1 51) k0.toNatClampNeg).toInt) (c2 : x1.toInt < 8) (ex26 : x26 = (σ.2.1 51) k0.toNatClampNeg) (tx26 : x26.toInt = ((σ.2.1 51) k0.toNatClampNeg).toInt) (c27 : ¬ x26.toInt = 3) (ex51 : x51 = (σ.2.1 51) k0.toNatClampNeg) (tx51 : x51.toInt = ((σ.2.1 51) k0.toNatClampNeg).toInt) (c52 : ¬ x51.toInt = 4) (ex76 : x76 = (σ.2.2.1 52) k0.toNatClampNeg) (tx76 : x76.toInt = ((σ.2.2.1 52) k0.toNatClampNeg).toInt) (tx77 : (x77.toInt = 0 ↔ x76.toInt = 0) ∧ (x77.toInt < 0 ↔ x76.toInt < 0)) (c78 : x77.toInt = 0) (ex79 : x79 = (σ.2.1 51) k0.toNatClampNeg) (tx79 : x79.toInt = ((σ.2.1 51) k0.toNatClampNeg).toInt) (c80 : ¬ x79.toInt = 3) (ex81 : x81 = (σ.2.1 51) k0.toNatClampNeg) (tx81 : x81.toInt = ((σ.2.1 51) k0.toNatClampNeg).toInt) (c82 : x81.toInt = 4) : 0 ≤ (σ.1 56).toInt ∧ (σ.1 56).toInt ≤ 11 ∧ Cell1 (σ.2.1 51) (upd (σ.2.1 51) k0.toNatClampNeg (1 : Int32)) (σ.2.2.1 52) (vp_updL (σ.2.2.1 52) k0.toNatClampNeg (0 : Int64)) (σ.2.2.2) (vf_upd (σ.2.2.2) k0.toNatClampNeg FP.dconst0) k0.toNatClampNeg (fun k v r => k = 1) := by
  have q1 : (1 : Int32).toInt = 1 := by decide +kernel
  have ql0 : (0 : Int64).toInt = 0 := by decide +kernel
  refine ⟨?_, ?_, ?_⟩ <;> first | assumption | omega | exact ⟨_, _, _, rfl, rfl, rfl, by omega⟩ | exact ⟨_, _, _, rfl, rfl, rfl, by decide +kernel⟩
-- post2 @154
theorem v_toBool_84 (σ : RS) (k0 : Int32) (x1 : Int32) (x26 : Int32) (x51 : Int32) (x76 : Int64) (x77 : Int32) (x79 : Int32) (x81 : Int32) (r85 : Int32) (r89 : Int32) (hpre_0 : 0 ≤ k0.toInt) (hpre_1 : k0.toInt < 980) (hpre_2 : 0 ≤ (σ.1 56).toInt) (hpre_3 : (σ.1 56).toInt ≤ 11) (ex1 : x1 = (σ.2.1 51) k0.toNatClampNeg) (tx1 : x1.toInt = ((σ.2.1 51) k0.toNatClampNeg).toInt) (c2 : x1.toInt < 8) (ex26 : x26 = (σ.2.1 51) k0.toNatClampNeg) (tx26 : x26.toInt = ((σ.2.1 51) k0.toNatClampNeg).toInt) (c27 : ¬ x26.toInt = 3) (ex51 : x51 = (σ.2.1 51) k0.toNatClampNeg) (tx51 : x51.toInt = ((σ.2.1 51) k0.toNatClampNeg).toInt) (c52 : ¬ x51.toInt = 4) (ex76 : x76 = (σ.2.2.1 52) k0.toNatClampNeg) (tx76 : x76.toInt = ((σ.2.2.1 52) k0.toNatClampNeg).toInt) (tx77 : (x77.toInt = 0 ↔ x76.toInt = 0) ∧ (x77.toInt < 0 ↔ x76.toInt < 0)) (c78 : x77.toInt = 0) (ex79 : x79 = (σ.2.1 51) k0.toNatClampNeg) (tx79 : x79.toInt = ((σ.2.1 51) k0.toNatClampNeg).toInt) (c80 : ¬ x79.toInt = 3) (ex81 : x81 = (σ.2.1 51) k0.toNatClampNeg) (tx81 : x81.toInt = ((σ.2.1 51) k0.toNatClampNeg).toInt) (c82 : x81.toInt = 4) (hr85y : ∀ s9 : List Int, QTT ((σ.2.2.1 52) k0.toNatClampNeg) ((σ.2.2.1 53) k0.toNatClampNeg) s9 → 0 ≤ (0 : Int32).toInt → (r85.toInt = 0 → ¬ s9 = (if 0 < (0 : Int32).toInt then [(116 : Int32).toInt, (114 : Int32).toInt, (117 : Int32).toInt, (101 : Int32).toInt, (0 : Int32).toInt] else [(116 : Int32).toInt, (114 : Int32).toInt, (117 : Int32).toInt, (101 : Int32).toInt])) ∧ (¬ r85.toInt = 0 → s9 = (if 0 < (0 : Int32).toInt then [(116 : Int32).toInt, (114 : Int32).toInt, (117 : Int32).toInt, (101 : Int32).toInt, (0 : Int32).toInt] else [(116 : Int32).toInt, (114 : Int32).toInt, (117 : Int32).toInt, (101 : Int32).toInt]))) (c86 : r85.toInt = 0) (hr89y : ∀ s9 : List Int, QTT ((σ.2.2.1 52) k0.toNatClampNeg) ((σ.2.2.1 53) k0.toNatClampNeg) s9 → 0 ≤ (101 : Int32).toInt → (r89.toInt = 0 → ¬ s9 = (if 0 < (101 : Int32).toInt then [(102 : Int32).toInt, (97 : Int32).toInt, (108 : Int32).toInt, (115 : Int32).toInt, (101 : Int32).toInt] else [(102 : Int32).toInt, (97 : Int32).toInt, (108 : Int32).toInt, (115 : Int32).toInt])) ∧ (¬ r89.toInt = 0 → s9 = (if 0 < (101 : Int32).toInt then [(102 : Int32).toInt, (97 : Int32).toInt, (108 : Int32).toInt, (115 : Int32).toInt, (101 : Int32).toInt] else [(102 : Int32).toInt, (97 : Int32).toInt, (108 : Int32).toInt, (115 : Int32).toInt]))) (c90 : ¬ r89.toInt = 0) (c93 : r85.toInt = 0) : ∀ v9 : QV, QAT (qH (σ.2.1 36) (σ.2.1 37) (σ.2.1 38) (σ.2.1 39) (σ.2.1 40) (σ.2.1 41) (σ.2.1 42) (σ.2.1 43) (σ.2.1 44) (σ.2.1 45) (σ.2.1 46) (σ.2.1 48)) (σ.1 47).toInt ((σ.2.1 51), (σ.2.2.1 52), (σ.2.2.1 53), (σ.2.2.2)) k0.toNatClampNeg v9 → (σ.1 56).toInt = 0 → QRES (qH (σ.2.1 36) (σ.2.1 37) (σ.2.1 38) (σ.2.1 39) (σ.2.1 40) (σ.2.1 41) (σ.2.1 42) (σ.2.1 43) (σ.2.1 44) (σ.2.1 45) (σ.2.1 46) (σ.2.1 48)) (σ.1 47).toInt ((σ.2.1 51), (σ.2.2.1 52), (σ.2.2.1 53), (σ.2.2.2)) ((upd (σ.2.1 51) k0.toNatClampNeg (1 : Int32)), (vp_updL (σ.2.2.1 52) k0.toNatClampNeg (0 : Int64)), (vp_updL (σ.2.2.1 53) k0.toNatClampNeg (0 : Int64)), (vf_upd (σ.2.2.2) k0.toNatClampNeg FP.dconst0)) k0.toNatClampNeg (σ.1 56).toInt (qCvB v9) := by
  have q0 : (0 : Int32).toInt = 0 := by decide +kernel
  have q1 : (1 : Int32).toInt = 1 := by decide +kernel
  have q97 : (97 : Int32).toInt = 97 := by decide +kernel
  have q101 : (101 : Int32).toInt = 101 := by decide +kernel
  have q102 : (102 : Int32).toInt = 102 := by decide +kernel
  have q108 : (108 : Int32).toInt = 108 := by decide +kernel
  have q114 : (114 : Int32).toInt = 114 := by decide +kernel
  have q115 : (115 : Int32).toInt = 115 := by decide +kernel
  have q116 : (116 : Int32).toInt = 116 := by decide +kernel
  have q117 : (117 : Int32).toInt = 117 := by decide +kernel
  have ql0 : (0 : Int64).toInt = 0 := by decide +kernel
  exfalso; omega
-- dead@142 @145
theorem v_toBool_85 (r85 : Int32) (c86 : r85.toInt = 0) (c93 : ¬ r85.toInt = 0) : False := by
  first | assumption | omega | (subst_vars; omega) | trivial
-- in@63 @63
theorem v_toBool_86 (σ : RS) (k0 : Int32) (x1 : Int32) (x26 : Int32) (x51 : Int32) (x76 : Int64) (x77 : Int32) (x79 : Int32) (hpre_0 : 0 ≤ k0.toInt) (hpre_1 : k0.toInt < 980) (ex1 : x1 = (σ.2.1 51) k0.toNatClampNeg) (tx1 : x1.toInt = ((σ.2.1 51) k0.toNatClampNeg).toInt) (c2 : x1.toInt < 8) (ex26 : x26 = (σ.2.1 51) k0.toNatClampNeg) (tx26 : x26.toInt = ((σ.2.1 51) k0.toNatClampNeg).toInt) (c27 : ¬ x26.toInt = 3) (ex51 : x51 = (σ.2.1 51) k0.toNatClampNeg) (tx51 : x51.toInt = ((σ.2.1 51) k0.toNatClampNeg).toInt) (c52 : ¬ x51.toInt = 4) (ex76 : x76 = (σ.2.2.1 52) k0.toNatClampNeg) (tx76 : x76.toInt = ((σ.2.2.1 52) k0.toNatClampNeg).toInt) (tx77 : (x77.toInt = 0 ↔ x76.toInt = 0) ∧ (x77.toInt < 0 ↔ x76.toInt < 0)) (c78 : x77.toInt = 0) (ex79 : x79 = (σ.2.1 51) k0.toNatClampNeg) (tx79 : x79.toInt = ((σ.2.1 51) k0.toNatClampNeg).toInt) (c80 : x79.toInt = 3) : vp_in k0 980 := by
  exact vp_in_iff.mpr ⟨by omega, by omega⟩
-- pre:set@151 @151
theorem v_toBool_87 (σ : RS) (k0 : Int32) (x1 : Int32) (x26 : Int32) (x51 : Int32) (x76 : Int64) (x77 : Int32) (x79 : Int32) (x95 : UInt64) (x96 : Int32) (hpre_0 : 0 ≤ k0.toInt) (hpre_1 : k0.toInt < 980) (ex1 : x1 = (σ.2.1 51) k0.toNatClampNeg) (tx1 : x1.toInt = ((σ.2.1 51) k0.toNatClampNeg).toInt) (c2 : x1.toInt < 8) (ex26 : x26 = (σ.2.1 51) k0.toNatClampNeg) (tx26 : x26.toInt = ((σ.2.1 51) k0.toNatClampNeg).toInt) (c27 : ¬ x26.toInt = 3) (ex51 : x51 = (σ.2.1 51) k0.toNatClampNeg) (tx51 : x51.toInt = ((σ.2.1 51) k0.toNatClampNeg).toInt) (c52 : ¬ x51.toInt = 4) (ex76 : x76 = (σ.2.2.1 52) k0.toNatClampNeg) (tx76 : x76.toInt = ((σ.2.2.1 52) k0.toNatClampNeg).toInt) (tx77 : (x77.toInt = 0 ↔ x76.toInt = 0) ∧ (x77.toInt < 0 ↔ x76.toInt < 0)) (c78 : x77.toInt = 0) (ex79 : x79 = (σ.2.1 51) k0.toNatClampNeg) (tx79 : x79.toInt = ((σ.2.1 51) k0.toNatClampNeg).toInt) (c80 : x79.toInt = 3) (ex95 : x95 = (σ.2.2.2) k0.toNatClampNeg) (ex96 : x96 = Op.cmpValue (FP.dcmp x95 FP.dconst0) .l) (c97 : x96.toInt = 0) : 0 ≤ k0.toInt ∧ k0.toInt < 980 := by
  refine ⟨?_, ?_⟩ <;> first | assumption | omega | (subst_vars; omega) | trivial
-- post @154
theorem v_toBool_88 (σ : RS) (k0 : Int32) (x1 : Int32) (x26 : Int32) (x51 : Int32) (x76 : Int64) (x77 : Int32) (x79 : Int32) (x95 : UInt64) (x96 : Int32) (hpre_0 : 0 ≤ k0.toInt) (hpre_1 : k0.toInt < 980) (hpre_2 : 0 ≤ (σ.1 56).toInt) (hpre_3 : (σ.1 56).toInt ≤ 11) (ex1 : x1 = (σ.2.1 51) k0.toNatClampNeg) (tx1 : x1.toInt = ((σ.2.1 51) k0.toNatClampNeg).toInt) (c2 : x1.toInt < 8) (ex26 : x26 = (σ.2.1 51) k0.toNatClampNeg) (tx26 : x26.toInt = ((σ.2.1 51) k0.toNatClampNeg).toInt) (c27 : ¬ x26.toInt = 3) (ex51 : x51 = (σ.2.1 51) k0.toNatClampNeg) (tx51 : x51.toInt = ((σ.2.1 51) k0.toNatClampNeg).toInt) (c52 : ¬ x51.toInt = 4) (ex76 : x76 = (σ.2.2.1 52) k0.toNatClampNeg) (tx76 : x76.toInt = ((σ.2.2.1 52) k0.toNatClampNeg).toInt) (tx77 : (x77.toInt = 0 ↔ x76.toInt = 0) ∧ (x77.toInt < 0 ↔ x76.toInt < 0)) (c78 : x77.toInt = 0) (ex79 : x79 = (σ.2.1 51) k0.toNatClampNeg) (tx79 : x79.toInt = ((σ.2.1 51) k0.toNatClampNeg).toInt) (c80 : x79.toInt = 3) (ex95 : x95 = (σ.2.2.2) k0.toNatClampNeg) (ex96 : x96 = Op.cmpValue (FP.dcmp x95 FP.dconst0) .l) (c97 : x96.toInt = 0) : 0 ≤ (σ.1 56).toInt ∧ (σ.1 56).toInt ≤ 11 ∧ Cell1 (σ.2.1 51) (upd (σ.2.1 51) k0.toNatClampNeg (1 : Int32)) (σ.2.2.1 52) (vp_updL (σ.2.2.1 52) k0.toNatClampNeg (0 : Int64)) (σ.2.2.2) (vf_upd (σ.2.2.2) k0.toNatClampNeg FP.dconst0) k0.toNatClampNeg (fun k v r => k = 1) := by
  have q1 : (1 : Int32).toInt = 1 := by decide +kernel
  have ql0 : (0 : Int64).toInt = 0 := by decide +kernel
  refine ⟨?_, ?_, ?_⟩ <;> first | assumption | omega | exact ⟨_, _, _, rfl, rfl, rfl, by omega⟩ | exact ⟨_, _, _, rfl, rfl, rfl, by decide +kernel⟩
-- post2 @154
theorem v_toBool_89 (σ : RS) (k0 : Int32) (x1 : Int32) (x26 : Int32) (x51 : Int32) (x76 : Int64) (x77 : Int32) (x79 : Int32) (x95 : UInt64) (x96 : Int32) (hpre_0 : 0 ≤ k0.toInt) (hpre_1 : k0.toInt < 980) (hpre_2 : 0 ≤ (σ.1 56).toInt) (hpre_3 : (σ.1 56).toInt ≤ 11) (ex1 : x1 = (σ.2.1 51) k0.toNatClampNeg) (tx1 : x1.toInt = ((σ.2.1 51) k0.toNatClampNeg).toInt) (c2 : x1.toInt < 8) (ex26 : x26 = (σ.2.1 51) k0.toNatClampNeg) (tx26 : x26.toInt = ((σ.2.1 51) k0.toNatClampNeg).toInt) (c27 : ¬ x26.toInt = 3) (ex51 : x51 = (σ.2.1 51) k0.toNatClampNeg) (tx51 : x51.toInt = ((σ.2.1 51) k0.toNatClampNeg).toInt) (c52 : ¬ x51.toInt = 4) (ex76 : x76 = (σ.2.2.1 52) k0.toNatClampNeg) (tx76 : x76.toInt = ((σ.2.2.1 52) k0.toNatClampNeg).toInt) (tx77 : (x77.toInt = 0 ↔ x76.toInt = 0) ∧ (x77.toInt < 0 ↔ x76.toInt < 0)) (c78 : x77.toInt = 0) (ex79 : x79 = (σ.2.1 51) k0.toNatClampNeg) (tx79 : x79.toInt = ((σ.2.1 51) k0.toNatClampNeg).toInt) (c80 : x79.toInt = 3) (ex95 : x95 = (σ.2.2.2) k0.toNatClampNeg) (ex96 : x96 = Op.cmpValue (FP.dcmp x95 FP.dconst0) .l) (c97 : x96.toInt = 0) : ∀ v9 : QV, QAT (qH (σ.2.1 36) (σ.2.1 37) (σ.2.1 38) (σ.2.1 39) (σ.2.1 40) (σ.2.1 41) (σ.2.1 42) (σ.2.1 43) (σ.2.1 44) (σ.2.1 45) (σ.2.1 46) (σ.2.1 48)) (σ.1 47).toInt ((σ.2.1 51), (σ.2.2.1 52), (σ.2.2.1 53), (σ.2.2.2)) k0.toNatClampNeg v9 → (σ.1 56).toInt = 0 → QRES (qH (σ.2.1 36) (σ.2.1 37) (σ.2.1 38) (σ.2.1 39) (σ.2.1 40) (σ.2.1 41) (σ.2.1 42) (σ.2.1 43) (σ.2.1 44) (σ.2.1 45) (σ.2.1 46) (σ.2.1 48)) (σ.1 47).toInt ((σ.2.1 51), (σ.2.2.1 52), (σ.2.2.1 53), (σ.2.2.2)) ((upd (σ.2.1 51) k0.toNatClampNeg (1 : Int32)), (vp_updL (σ.2.2.1 52) k0.toNatClampNeg (0 : Int64)), (vp_updL (σ.2.2.1 53) k0.toNatClampNeg (0 : Int64)), (vf_upd (σ.2.2.2) k0.toNatClampNeg FP.dconst0)) k0.toNatClampNeg (σ.1 56).toInt (qCvB v9) := by
  have q1 : (1 : Int32).toInt = 1 := by decide +kernel
  have ql0 : (0 : Int64).toInt = 0 := by decide +kernel
  exfalso; omega
-- pre:set@151 @151
theorem v_toBool_90 (σ : RS) (k0 : Int32) (x1 : Int32) (x26 : Int32) (x51 : Int32) (x76 : Int64) (x77 : Int32) (x79 : Int32) (x95 : UInt64) (x96 : Int32) (hpre_0 : 0 ≤ k0.toInt) (hpre_1 : k0.toInt < 980) (ex1 : x1 = (σ.2.1 51) k0.toNatClampNeg) (tx1 : x1.toInt = ((σ.2.1 51) k0.toNatClampNeg).toInt) (c2 : x1.toInt < 8) (ex26 : x26 = (σ.2.1 51) k0.toNatClampNeg) (tx26 : x26.toInt = ((σ.2.1 51) k0.toNatClampNeg).toInt) (c27 : ¬ x26.toInt = 3) (ex51 : x51 = (σ.2.1 51) k0.toNatClampNeg) (tx51 : x51.toInt = ((σ.2.1 51) k0.toNatClampNeg).toInt) (c52 : ¬ x51.toInt = 4) (ex76 : x76 = (σ.2.2.1 52) k0.toNatClampNeg) (tx76 : x76.toInt = ((σ.2.2.1 52) k0.toNatClampNeg).toInt) (tx77 : (x77.toInt = 0 ↔ x76.toInt = 0) ∧ (x77.toInt < 0 ↔ x76.toInt < 0)) (c78 : x77.toInt = 0) (ex79 : x79 = (σ.2.1 51) k0.toNatClampNeg) (tx79 : x79.toInt = ((σ.2.1 51) k0.toNatClampNeg).toInt) (c80 : x79.toInt = 3) (ex95 : x95 = (σ.2.2.2) k0.toNatClampNeg) (ex96 : x96 = Op.cmpValue (FP.dcmp x95 FP.dconst0) .l) (c97 : ¬ x96.toInt = 0) : 0 ≤ k0.toInt ∧ k0.toInt < 980 := by
  refine ⟨?_, ?_⟩ <;> first | assumption | omega | (subst_vars; omega) | trivial
-- post @154
theorem v_toBool_91 (σ : RS) (k0 : Int32) (x1 : Int32) (x26 : Int32) (x51 : Int32) (x76 : Int64) (x77 : Int32) (x79 : Int32) (x95 : UInt64) (x96 : Int32) (hpre_0 : 0 ≤ k0.toInt) (hpre_1 : k0.toInt < 980) (hpre_2 : 0 ≤ (σ.1 56).toInt) (hpre_3 : (σ.1 56).toInt ≤ 11) (ex1 : x1 = (σ.2.1 51) k0.toNatClampNeg) (tx1 : x1.toInt = ((σ.2.1 51) k0.toNatClampNeg).toInt) (c2 : x1.toInt < 8) (ex26 : x26 = (σ.2.1 51) k0.toNatClampNeg) (tx26 : x26.toInt = ((σ.2.1 51) k0.toNatClampNeg).toInt) (c27 : ¬ x26.toInt = 3) (ex51 : x51 = (σ.2.1 51) k0.toNatClampNeg) (tx51 : x51.toInt = ((σ.2.1 51) k0.toNatClampNeg).toInt) (c52 : ¬ x51.toInt = 4) (ex76 : x76 = (σ.2.2.1 52) k0.toNatClampNeg) (tx76 : x76.toInt = ((σ.2.2.1 52) k0.toNatClampNeg).toInt) (tx77 : (x77.toInt = 0 ↔ x76.toInt = 0) ∧ (x77.toInt < 0 ↔ x76.toInt < 0)) (c78 : x77.toInt = 0) (ex79 : x79 = (σ.2.1 51) k0.toNatClampNeg) (tx79 : x79.toInt = ((σ.2.1 51) k0.toNatClampNeg).toInt) (c80 : x79.toInt = 3) (ex95 : x95 = (σ.2.2.2) k0.toNatClampNeg) (ex96 : x96 = Op.cmpValue (FP.dcmp x95 FP.dconst0) .l) (c97 : ¬ x96.toInt = 0) : 0 ≤ (σ.1 56).toInt ∧ (σ.1 56).toInt ≤ 11 ∧ Cell1 (σ.2.1 51) (upd (σ.2.1 51) k0.toNatClampNeg (1 : Int32)) (σ.2.2.1 52) (vp_updL (σ.2.2.1 52) k0.toNatClampNeg (1 : Int64)) (σ.2.2.2) (vf_upd (σ.2.2.2) k0.toNatClampNeg FP.dconst0) k0.toNatClampNeg (fun k v r => k = 1) := by
  have q1 : (1 : Int32).toInt = 1 := by decide +kernel
  have ql1 : (1 : Int64).toInt = 1 := by decide +kernel
  refine ⟨?_, ?_, ?_⟩ <;> first | assumption | omega | exact ⟨_, _, _, rfl, rfl, rfl, by omega⟩ | exact ⟨_, _, _, rfl, rfl, rfl, by decide +kernel⟩
-- post2 @154
theorem v_toBool_92 (σ : RS) (k0 : Int32) (x1 : Int32) (x26 : Int32) (x51 : Int32) (x76 : Int64) (x77 : Int32) (x79 : Int32) (x95 : UInt64) (x96 : Int32) (hpre_0 : 0 ≤ k0.toInt) (hpre_1 : k0.toInt < 980) (hpre_2 : 0 ≤ (σ.1 56).toInt) (hpre_3 : (σ.1 56).toInt ≤ 11) (ex1 : x1 = (σ.2.1 51) k0.toNatClampNeg) (tx1 : x1.toInt = ((σ.2.1 51) k0.toNatClampNeg).toInt) (c2 : x1.toInt < 8) (ex26 : x26 = (σ.2.1 51) k0.toNatClampNeg) (tx26 : x26.toInt = ((σ.2.1 51) k0.toNatClampNeg).toInt) (c27 : ¬ x26.toInt = 3) (ex51 : x51 = (σ.2.1 51) k0.toNatClampNeg) (tx51 : x51.toInt = ((σ.2.1 51) k0.toNatClampNeg).toInt) (c52 : ¬ x51.toInt = 4) (ex76 : x76 = (σ.2.2.1 52) k0.toNatClampNeg) (tx76 : x76.toInt = ((σ.2.2.1 52) k0.toNatClampNeg).toInt) (tx77 : (x77.toInt = 0 ↔ x76.toInt = 0) ∧ (x77.toInt < 0 ↔ x76.toInt < 0)) (c78 : x77.toInt = 0) (ex79 : x79 = (σ.2.1 51) k0.toNatClampNeg) (tx79 : x79.toInt = ((σ.2.1 51) k0.toNatClampNeg).toInt) (c80 : x79.toInt = 3) (ex95 : x95 = (σ.2.2.2) k0.toNatClampNeg) (ex96 : x96 = Op.cmpValue (FP.dcmp x95 FP.dconst0) .l) (c97 : ¬ x96.toInt = 0) : ∀ v9 : QV, QAT (qH (σ.2.1 36) (σ.2.1 37) (σ.2.1 38) (σ.2.1 39) (σ.2.1 40) (σ.2.1 41) (σ.2.1 42) (σ.2.1 43) (σ.2.1 44) (σ.2.1 45) (σ.2.1 46) (σ.2.1 48)) (σ.1 47).toInt ((σ.2.1 51), (σ.2.2.1 52), (σ.2.2.1 53), (σ.2.2.2)) k0.toNatClampNeg v9 → (σ.1 56).toInt = 0 → QRES (qH (σ.2.1 36) (σ.2.1 37) (σ.2.1 38) (σ.2.1 39) (σ.2.1 40) (σ.2.1 41) (σ.2.1 42) (σ.2.1 43) (σ.2.1 44) (σ.2.1 45) (σ.2.1 46) (σ.2.1 48)) (σ.1 47).toInt ((σ.2.1 51), (σ.2.2.1 52), (σ.2.2.1 53), (σ.2.2.2)) ((upd (σ.2.1 51) k0.toNatClampNeg (1 : Int32)), (vp_updL (σ.2.2.1 52) k0.toNatClampNeg (1 : Int64)), (vp_updL (σ.2.2.1 53) k0.toNatClampNeg (0 : Int64)), (vf_upd (σ.2.2.2) k0.toNatClampNeg FP.dconst0)) k0.toNatClampNeg (σ.1 56).toInt (qCvB v9) := by
  have q1 : (1 : Int32).toInt = 1 := by decide +kernel
  have ql0 : (0 : Int64).toInt = 0 := by decide +kernel
  have ql1 : (1 : Int64).toInt = 1 := by decide +kernel
  exfalso; omega
-- in@53 @53
theorem v_toBool_93 (σ : RS) (k0 : Int32) (x1 : Int32) (x26 : Int32) (x51 : Int32) (x76 : Int64) (x77 : Int32) (hpre_0 : 0 ≤ k0.toInt) (hpre_1 : k0.toInt < 980) (ex1 : x1 = (σ.2.1 51) k0.toNatClampNeg) (tx1 : x1.toInt = ((σ.2.1 51) k0.toNatClampNeg).toInt) (c2 : x1.toInt < 8) (ex26 : x26 = (σ.2.1 51) k0.toNatClampNeg) (tx26 : x26.toInt = ((σ.2.1 51) k0.toNatClampNeg).toInt) (c27 : ¬ x26.toInt = 3) (ex51 : x51 = (σ.2.1 51) k0.toNatClampNeg) (tx51 : x51.toInt = ((σ.2.1 51) k0.toNatClampNeg).toInt) (c52 : ¬ x51.toInt = 4) (ex76 : x76 = (σ.2.2.1 52) k0.toNatClampNeg) (tx76 : x76.toInt = ((σ.2.2.1 52) k0.toNatClampNeg).toInt) (tx77 : (x77.toInt = 0 ↔ x76.toInt = 0) ∧ (x77.toInt < 0 ↔ x76.toInt < 0)) (c78 : ¬ x77.toInt = 0) : vp_in k0 980 := by
  exact vp_in_iff.mpr ⟨by omega, by omega⟩
-- in@83 @83
theorem v_toBool_94 (σ : RS) (k0 : Int32) (x1 : Int32) (x26 : Int32) (x51 : Int32) (x76 : Int64) (x77 : Int32) (x102 : Int32) (hpre_0 : 0 ≤ k0.toInt) (hpre_1 : k0.toInt < 980) (ex1 : x1 = (σ.2.1 51) k0.toNatClampNeg) (tx1 : x1.toInt = ((σ.2.1 51) k0.toNatClampNeg).toInt) (c2 : x1.toInt < 8) (ex26 : x26 = (σ.2.1 51) k0.toNatClampNeg) (tx26 : x26.toInt = ((σ.2.1 51) k0.toNatClampNeg).toInt) (c27 : ¬ x26.toInt = 3) (ex51 : x51 = (σ.2.1 51) k0.toNatClampNeg) (tx51 : x51.toInt = ((σ.2.1 51) k0.toNatClampNeg).toInt) (c52 : ¬ x51.toInt = 4) (ex76 : x76 = (σ.2.2.1 52) k0.toNatClampNeg) (tx76 : x76.toInt = ((σ.2.2.1 52) k0.toNatClampNeg).toInt) (tx77 : (x77.toInt = 0 ↔ x76.toInt = 0) ∧ (x77.toInt < 0 ↔ x76.toInt < 0)) (c78 : ¬ x77.toInt = 0) (ex102 : x102 = (σ.2.1 51) k0.toNatClampNeg) (tx102 : x102.toInt = ((σ.2.1 51) k0.toNatClampNeg).toInt) (c103 : ¬ x102.toInt = 3) : vp_in k0 980 := by
  exact vp_in_iff.mpr ⟨by omega, by omega⟩
-- pre:set@151 @151
theorem v_toBool_95 (σ : RS) (k0 : Int32) (x1 : Int32) (x26 : Int32) (x51 : Int32) (x76 : Int64) (x77 : Int32) (x102 : Int32) (x104 : Int32) (hpre_0 : 0 ≤ k0.toInt) (hpre_1 : k0.toInt < 980) (ex1 : x1 = (σ.2.1 51) k0.toNatClampNeg) (tx1 : x1.toInt = ((σ.2.1 51) k0.toNatClampNeg).toInt) (c2 : x1.toInt < 8) (ex26 : x26 = (σ.2.1 51) k0.toNatClampNeg) (tx26 : x26.toInt = ((σ.2.1 51) k0.toNatClampNeg).toInt) (c27 : ¬ x26.toInt = 3) (ex51 : x51 = (σ.2.1 51) k0.toNatClampNeg) (tx51 : x51.toInt = ((σ.2.1 51) k0.toNatClampNeg).toInt) (c52 : ¬ x51.toInt = 4) (ex76 : x76 = (σ.2.2.1 52) k0.toNatClampNeg) (tx76 : x76.toInt = ((σ.2.2.1 52) k0.toNatClampNeg).toInt) (tx77 : (x77.toInt = 0 ↔ x76.toInt = 0) ∧ (x77.toInt < 0 ↔ x76.toInt < 0)) (c78 : ¬ x77.toInt = 0) (ex102 : x102 = (σ.2.1 51) k0.toNatClampNeg) (tx102 : x102.toInt = ((σ.2.1 51) k0.toNatClampNeg).toInt) (c103 : ¬ x102.toInt = 3) (ex104 : x104 = (σ.2.1 51) k0.toNatClampNeg) (tx104 : x104.toInt = ((σ.2.1 51) k0.toNatClampNeg).toInt) (c105 : ¬ x104.toInt = 4) : 0 ≤ k0.toInt ∧ k0.toInt < 980 := by
  refine ⟨?_, ?_⟩ <;> first | assumption | omega | (subst_vars; omega) | trivial
-- post @154
theorem v_toBool_96 (σ : RS) (k0 : Int32) (x1 : Int32) (x26 : Int32) (x51 : Int32) (x76 : Int64) (x77 : Int32) (x102 : Int32) (x104 : Int32) (hpre_0 : 0 ≤ k0.toInt) (hpre_1 : k0.toInt < 980) (hpre_2 : 0 ≤ (σ.1 56).toInt) (hpre_3 : (σ.1 56).toInt ≤ 11) (ex1 : x1 = (σ.2.1 51) k0.toNatClampNeg) (tx1 : x1.toInt = ((σ.2.1 51) k0.toNatClampNeg).toInt) (c2 : x1.toInt < 8) (ex26 : x26 = (σ.2.1 51) k0.toNatClampNeg) (tx26 : x26.toInt = ((σ.2.1 51) k0.toNatClampNeg).toInt) (c27 : ¬ x26.toInt = 3) (ex51 : x51 = (σ.2.1 51) k0.toNatClampNeg) (tx51 : x51.toInt = ((σ.2.1 51) k0.toNatClampNeg).toInt) (c52 : ¬ x51.toInt = 4) (ex76 : x76 = (σ.2.2.1 52) k0.toNatClampNeg) (tx76 : x76.toInt = ((σ.2.2.1 52) k0.toNatClampNeg).toInt) (tx77 : (x77.toInt = 0 ↔ x76.toInt = 0) ∧ (x77.toInt < 0 ↔ x76.toInt < 0)) (c78 : ¬ x77.toInt = 0) (ex102 : x102 = (σ.2.1 51) k0.toNatClampNeg) (tx102 : x102.toInt = ((σ.2.1 51) k0.toNatClampNeg).toInt) (c103 : ¬ x102.toInt = 3) (ex104 : x104 = (σ.2.1 51) k0.toNatClampNeg) (tx104 : x104.toInt = ((σ.2.1 51) k0.toNatClampNeg).toInt) (c105 : ¬ x104.toInt = 4) : 0 ≤ (σ.1 56).toInt ∧ (σ.1 56).toInt ≤ 11 ∧ Cell1 (σ.2.1 51) (upd (σ.2.1 51) k0.toNatClampNeg (1 : Int32)) (σ.2.2.1 52) (vp_updL (σ.2.2.1 52) k0.toNatClampNeg (1 : Int64)) (σ.2.2.2) (vf_upd (σ.2.2.2) k0.toNatClampNeg FP.dconst0) k0.toNatClampNeg (fun k v r => k = 1) := by
  have q1 : (1 : Int32).toInt = 1 := by decide +kernel
  have ql1 : (1 : Int64).toInt = 1 := by decide +kernel
  refine ⟨?_, ?_, ?_⟩ <;> first | assumption | omega | exact ⟨_, _, _, rfl, rfl, rfl, by omega⟩ | exact ⟨_, _, _, rfl, rfl, rfl, by decide +kernel⟩
-- post2 @154
theorem v_toBool_97 (σ : RS) (k0 : Int32) (x1 : Int32) (x26 : Int32) (x51 : Int32) (x76 : Int64) (x77 : Int32) (x102 : Int32) (x104 : Int32) (hpre_0 : 0 ≤ k0.toInt) (hpre_1 : k0.toInt < 980) (hpre_2 : 0 ≤ (σ.1 56).toInt) (hpre_3 : (σ.1 56).toInt ≤ 11) (ex1 : x1 = (σ.2.1 51) k0.toNatClampNeg) (tx1 : x1.toInt = ((σ.2.1 51) k0.toNatClampNeg).toInt) (c2 : x1.toInt < 8) (ex26 : x26 = (σ.2.1 51) k0.toNatClampNeg) (tx26 : x26.toInt = ((σ.2.1 51) k0.toNatClampNeg).toInt) (c27 : ¬ x26.toInt = 3) (ex51 : x51 = (σ.2.1 51) k0.toNatClampNeg) (tx51 : x51.toInt = ((σ.2.1 51) k0.toNatClampNeg).toInt) (c52 : ¬ x51.toInt = 4) (ex76 : x76 = (σ.2.2.1 52) k0.toNatClampNeg) (tx76 : x76.toInt = ((σ.2.2.1 52) k0.toNatClampNeg).toInt) (tx77 : (x77.toInt = 0 ↔ x76.toInt = 0) ∧ (x77.toInt < 0 ↔ x76.toInt < 0)) (c78 : ¬ x77.toInt = 0) (ex102 : x102 = (σ.2.1 51) k0.toNatClampNeg) (tx102 : x102.toInt = ((σ.2.1 51) k0.toNatClampNeg).toInt) (c103 : ¬ x102.toInt = 3) (ex104 : x104 = (σ.2.1 51) k0.toNatClampNeg) (tx104 : x104.toInt = ((σ.2.1 51) k0.toNatClampNeg).toInt) (c105 : ¬ x104.toInt = 4) : ∀ v9 : QV, QAT (qH (σ.2.1 36) (σ.2.1 37) (σ.2.1 38) (σ.2.1 39) (σ.2.1 40) (σ.2.1 41) (σ.2.1 42) (σ.2.1 43) (σ.2.1 44) (σ.2.1 45) (σ.2.1 46) (σ.2.1 48)) (σ.1 47).toInt ((σ.2.1 51), (σ.2.2.1 52), (σ.2.2.1 53), (σ.2.2.2)) k0.toNatClampNeg v9 → (σ.1 56).toInt = 0 → QRES (qH (σ.2.1 36) (σ.2.1 37) (σ.2.1 38) (σ.2.1 39) (σ.2.1 40) (σ.2.1 41) (σ.2.1 42) (σ.2.1 43) (σ.2.1 44) (σ.2.1 45) (σ.2.1 46) (σ.2.1 48)) (σ.1 47).toInt ((σ.2.1 51), (σ.2.2.1 52), (σ.2.2.1 53), (σ.2.2.2)) ((upd (σ.2.1 51) k0.toNatClampNeg (1 : Int32)), (vp_updL (σ.2.2.1 52) k0.toNatClampNeg (1 : Int64)), (vp_updL (σ.2.2.1 53) k0.toNatClampNeg (0 : Int64)), (vf_upd (σ.2.2.2) k0.toNatClampNeg FP.dconst0)) k0.toNatClampNeg (σ.1 56).toInt (qCvB v9) := by
  have q1 : (1 : Int32).toInt = 1 := by decide +kernel
  have ql0 : (0 : Int64).toInt = 0 := by decide +kernel
  have ql1 : (1 : Int64).toInt = 1 := by decide +kernel
  intro v9 h9 h0
  have kd := h9.kd
  dsimp only at kd
  rw [qCvB_x (by omega) (by omega)]
  have a9 := (h9.2.2.2.2 (by omega) (by omega)).1
  dsimp only at a9
  refine ⟨h0, ?_⟩
  rw [decide_eq_true (by omega)]
  exact QW.bool q1 (by decide +kernel) (by decide +kernel)
-- pre:spells@99 @99
theorem v_toBool_98 (σ : RS) (k0 : Int32) (x1 : Int32) (x26 : Int32) (x51 : Int32) (x76 : Int64) (x77 : Int32) (x102 : Int32) (x104 : Int32) (hpre_0 : 0 ≤ k0.toInt) (hpre_1 : k0.toInt < 980) (ex1 : x1 = (σ.2.1 51) k0.toNatClampNeg) (tx1 : x1.toInt = ((σ.2.1 51) k0.toNatClampNeg).toInt) (c2 : x1.toInt < 8) (ex26 : x26 = (σ.2.1 51) k0.toNatClampNeg) (tx26 : x26.toInt = ((σ.2.1 51) k0.toNatClampNeg).toInt) (c27 : ¬ x26.toInt = 3) (ex51 : x51 = (σ.2.1 51) k0.toNatClampNeg) (tx51 : x51.toInt = ((σ.2.1 51) k0.toNatClampNeg).toInt) (c52 : ¬ x51.toInt = 4) (ex76 : x76 = (σ.2.2.1 52) k0.toNatClampNeg) (tx76 : x76.toInt = ((σ.2.2.1 52) k0.toNatClampNeg).toInt) (tx77 : (x77.toInt = 0 ↔ x76.toInt = 0) ∧ (x77.toInt < 0 ↔ x76.toInt < 0)) (c78 : ¬ x77.toInt = 0) (ex102 : x102 = (σ.2.1 51) k0.toNatClampNeg) (tx102 : x102.toInt = ((σ.2.1 51) k0.toNatClampNeg).toInt) (c103 : ¬ x102.toInt = 3) (ex104 : x104 = (σ.2.1 51) k0.toNatClampNeg) (tx104 : x104.toInt = ((σ.2.1 51) k0.toNatClampNeg).toInt) (c105 : x104.toInt = 4) : 0 ≤ k0.toInt ∧ k0.toInt < 980 := by
  refine ⟨?_, ?_⟩ <;> first | assumption | omega | (subst_vars; omega) | trivial
-- dead@142 @149
theorem v_toBool_99 (r108 : Int32) (c109 : ¬ r108.toInt = 0) (c110 : r108.toInt = 0) : False := by
  first | assumption | omega | (subst_vars; omega) | trivial
-- post @154
theorem v_toBool_100 (σ : RS) (k0 : Int32) (x1 : Int32) (x26 : Int32) (x51 : Int32) (x76 : Int64) (x77 : Int32) (x102 : Int32) (x104 : Int32) (hpre_0 : 0 ≤ k0.toInt) (hpre_1 : k0.toInt < 980) (hpre_2 : 0 ≤ (σ.1 56).toInt) (hpre_3 : (σ.1 56).toInt ≤ 11) (ex1 : x1 = (σ.2.1 51) k0.toNatClampNeg) (tx1 : x1.toInt = ((σ.2.1 51) k0.toNatClampNeg).toInt) (c2 : x1.toInt < 8) (ex26 : x26 = (σ.2.1 51) k0.toNatClampNeg) (tx26 : x26.toInt = ((σ.2.1 51) k0.toNatClampNeg).toInt) (c27 : ¬ x26.toInt = 3) (ex51 : x51 = (σ.2.1 51) k0.toNatClampNeg) (tx51 : x51.toInt = ((σ.2.1 51) k0.toNatClampNeg).toInt) (c52 : ¬ x51.toInt = 4) (ex76 : x76 = (σ.2.2.1 52) k0.toNatClampNeg) (tx76 : x76.toInt = ((σ.2.2.1 52) k0.toNatClampNeg).toInt) (tx77 : (x77.toInt = 0 ↔ x76.toInt = 0) ∧ (x77.toInt < 0 ↔ x76.toInt < 0)) (c78 : ¬ x77.toInt = 0) (ex102 : x102 = (σ.2.1 51) k0.toNatClampNeg) (tx102 : x102.toInt = ((σ.2.1 51) k0.toNatClampNeg).toInt) (c103 : ¬ x102.toInt = 3) (ex104 : x104 = (σ.2.1 51) k0.toNatClampNeg) (tx104 : x104.toInt = ((σ.2.1 51) k0.toNatClampNeg).toInt) (c105 : x104.toInt = 4) : 0 ≤ (σ.1 56).toInt ∧ (σ.1 56).toInt ≤ 11 ∧ Cell1 (σ.2.1 51) (upd (σ.2.1 51) k0.toNatClampNeg (1 : Int32)) (σ.2.2.1 52) (vp_updL (σ.2.2.1 52) k0.toNatClampNeg (1 : Int64)) (σ.2.2.2) (vf_upd (σ.2.2.2) k0.toNatClampNeg FP.dconst0) k0.toNatClampNeg (fun k v r => k = 1) := by
  have q1 : (1 : Int32).toInt = 1 := by decide +kernel
  have ql1 : (1 : Int64).toInt = 1 := by decide +kernel
  refine ⟨?_, ?_, ?_⟩ <;> first | assumption | omega | exact ⟨_, _, _, rfl, rfl, rfl, by omega⟩ | exact ⟨_, _, _, rfl, rfl, rfl, by decide +kernel⟩
-- post2 @154
theorem v_toBool_101 (σ : RS) (k0 : Int32) (x1 : Int32) (x26 : Int32) (x51 : Int32) (x76 : Int64) (x77 : Int32) (x102 : Int32) (x104 : Int32) (r108 : Int32) (hpre_0 : 0 ≤ k0.toInt) (hpre_1 : k0.toInt < 980) (hpre_2 : 0 ≤ (σ.1 56).toInt) (hpre_3 : (σ.1 56).toInt ≤ 11) (ex1 : x1 = (σ.2.1 51) k0.toNatClampNeg) (tx1 : x1.toInt = ((σ.2.1 51) k0.toNatClampNeg).toInt) (c2 : x1.toInt < 8) (ex26 : x26 = (σ.2.1 51) k0.toNatClampNeg) (tx26 : x26.toInt = ((σ.2.1 51) k0.toNatClampNeg).toInt) (c27 : ¬ x26.toInt = 3) (ex51 : x51 = (σ.2.1 51) k0.toNatClampNeg) (tx51 : x51.toInt = ((σ.2.1 51) k0.toNatClampNeg).toInt) (c52 : ¬ x51.toInt = 4) (ex76 : x76 = (σ.2.2.1 52) k0.toNatClampNeg) (tx76 : x76.toInt = ((σ.2.2.1 52) k0.toNatClampNeg).toInt) (tx77 : (x77.toInt = 0 ↔ x76.toInt = 0) ∧ (x77.toInt < 0 ↔ x76.toInt < 0)) (c78 : ¬ x77.toInt = 0) (ex102 : x102 = (σ.2.1 51) k0.toNatClampNeg) (tx102 : x102.toInt = ((σ.2.1 51) k0.toNatClampNeg).toInt) (c103 : ¬ x102.toInt = 3) (ex104 : x104 = (σ.2.1 51) k0.toNatClampNeg) (tx104 : x104.toInt = ((σ.2.1 51) k0.toNatClampNeg).toInt) (c105 : x104.toInt = 4) (hr108y : ∀ s9 : List Int, QTT ((σ.2.2.1 52) k0.toNatClampNeg) ((σ.2.2.1 53) k0.toNatClampNeg) s9 → 0 ≤ (0 : Int32).toInt → (r108.toInt = 0 → ¬ s9 = (if 0 < (0 : Int32).toInt then [(116 : Int32).toInt, (114 : Int32).toInt, (117 : Int32).toInt, (101 : Int32).toInt, (0 : Int32).toInt] else [(116 : Int32).toInt, (114 : Int32).toInt, (117 : Int32).toInt, (101 : Int32).toInt])) ∧ (¬ r108.toInt = 0 → s9 = (if 0 < (0 : Int32).toInt then [(116 : Int32).toInt, (114 : Int32).toInt, (117 : Int32).toInt, (101 : Int32).toInt, (0 : Int32).toInt] else [(116 : Int32).toInt, (114 : Int32).toInt, (117 : Int32).toInt, (101 : Int32).toInt]))) (c109 : ¬ r108.toInt = 0) (c110 : ¬ r108.toInt = 0) : ∀ v9 : QV, QAT (qH (σ.2.1 36) (σ.2.1 37) (σ.2.1 38) (σ.2.1 39) (σ.2.1 40) (σ.2.1 41) (σ.2.1 42) (σ.2.1 43) (σ.2.1 44) (σ.2.1 45) (σ.2.1 46) (σ.2.1 48)) (σ.1 47).toInt ((σ.2.1 51), (σ.2.2.1 52), (σ.2.2.1 53), (σ.2.2.2)) k0.toNatClampNeg v9 → (σ.1 56).toInt = 0 → QRES (qH (σ.2.1 36) (σ.2.1 37) (σ.2.1 38) (σ.2.1 39) (σ.2.1 40) (σ.2.1 41) (σ.2.1 42) (σ.2.1 43) (σ.2.1 44) (σ.2.1 45) (σ.2.1 46) (σ.2.1 48)) (σ.1 47).toInt ((σ.2.1 51), (σ.2.2.1 52), (σ.2.2.1 53), (σ.2.2.2)) ((upd (σ.2.1 51) k0.toNatClampNeg (1 : Int32)), (vp_updL (σ.2.2.1 52) k0.toNatClampNeg (1 : Int64)), (vp_updL (σ.2.2.1 53) k0.toNatClampNeg (0 : Int64)), (vf_upd (σ.2.2.2) k0.toNatClampNeg FP.dconst0)) k0.toNatClampNeg (σ.1 56).toInt (qCvB v9) := by
  have q0 : (0 : Int32).toInt = 0 := by decide +kernel
  have q1 : (1 : Int32).toInt = 1 := by decide +kernel
  have q101 : (101 : Int32).toInt = 101 := by decide +kernel
  have q114 : (114 : Int32).toInt = 114 := by decide +kernel
  have q116 : (116 : Int32).toInt = 116 := by decide +kernel
  have q117 : (117 : Int32).toInt = 117 := by decide +kernel
  have ql0 : (0 : Int64).toInt = 0 := by decide +kernel
  have ql1 : (1 : Int64).toInt = 1 := by decide +kernel
  exfalso; omega
-- post @154
theorem v_toBool_102 (σ : RS) (k0 : Int32) (x1 : Int32) (x26 : Int32) (x51 : Int32) (x76 : Int64) (x77 : Int32) (x102 : Int32) (x104 : Int32) (hpre_0 : 0 ≤ k0.toInt) (hpre_1 : k0.toInt < 980) (ex1 : x1 = (σ.2.1 51) k0.toNatClampNeg) (tx1 : x1.toInt = ((σ.2.1 51) k0.toNatClampNeg).toInt) (c2 : x1.toInt < 8) (ex26 : x26 = (σ.2.1 51) k0.toNatClampNeg) (tx26 : x26.toInt = ((σ.2.1 51) k0.toNatClampNeg).toInt) (c27 : ¬ x26.toInt = 3) (ex51 : x51 = (σ.2.1 51) k0.toNatClampNeg) (tx51 : x51.toInt = ((σ.2.1 51) k0.toNatClampNeg).toInt) (c52 : ¬ x51.toInt = 4) (ex76 : x76 = (σ.2.2.1 52) k0.toNatClampNeg) (tx76 : x76.toInt = ((σ.2.2.1 52) k0.toNatClampNeg).toInt) (tx77 : (x77.toInt = 0 ↔ x76.toInt = 0) ∧ (x77.toInt < 0 ↔ x76.toInt < 0)) (c78 : ¬ x77.toInt = 0) (ex102 : x102 = (σ.2.1 51) k0.toNatClampNeg) (tx102 : x102.toInt = ((σ.2.1 51) k0.toNatClampNeg).toInt) (c103 : ¬ x102.toInt = 3) (ex104 : x104 = (σ.2.1 51) k0.toNatClampNeg) (tx104 : x104.toInt = ((σ.2.1 51) k0.toNatClampNeg).toInt) (c105 : x104.toInt = 4) : 0 ≤ (10 : Int32).toInt ∧ (10 : Int32).toInt ≤ 11 ∧ Cell1 (σ.2.1 51) (upd (σ.2.1 51) k0.toNatClampNeg (1 : Int32)) (σ.2.2.1 52) (vp_updL (σ.2.2.1 52) k0.toNatClampNeg (0 : Int64)) (σ.2.2.2) (vf_upd (σ.2.2.2) k0.toNatClampNeg FP.dconst0) k0.toNatClampNeg (fun k v r => k = 1) := by
  have q1 : (1 : Int32).toInt = 1 := by decide +kernel
  have q10 : (10 : Int32).toInt = 10 := by decide +kernel
  have ql0 : (0 : Int64).toInt = 0 := by decide +kernel
  refine ⟨?_, ?_, ?_⟩ <;> first | assumption | omega | exact ⟨_, _, _, rfl, rfl, rfl, by omega⟩ | exact ⟨_, _, _, rfl, rfl, rfl, by decide +kernel⟩
-- post2 @154
theorem v_toBool_103 (σ : RS) (k0 : Int32) (x1 : Int32) (x26 : Int32) (x51 : Int32) (x76 : Int64) (x77 : Int32) (x102 : Int32) (x104 : Int32) (r108 : Int32) (r112 : Int32) (hpre_0 : 0 ≤ k0.toInt) (hpre_1 : k0.toInt < 980) (hpre_2 : 0 ≤ (σ.1 56).toInt) (hpre_3 : (σ.1 56).toInt ≤ 11) (ex1 : x1 = (σ.2.1 51) k0.toNatClampNeg) (tx1 : x1.toInt = ((σ.2.1 51) k0.toNatClampNeg).toInt) (c2 : x1.toInt < 8) (ex26 : x26 = (σ.2.1 51) k0.toNatClampNeg) (tx26 : x26.toInt = ((σ.2.1 51) k0.toNatClampNeg).toInt) (c27 : ¬ x26.toInt = 3) (ex51 : x51 = (σ.2.1 51) k0.toNatClampNeg) (tx51 : x51.toInt = ((σ.2.1 51) k0.toNatClampNeg).toInt) (c52 : ¬ x51.toInt = 4) (ex76 : x76 = (σ.2.2.1 52) k0.toNatClampNeg) (tx76 : x76.toInt = ((σ.2.2.1 52) k0.toNatClampNeg).toInt) (tx77 : (x77.toInt = 0 ↔ x76.toInt = 0) ∧ (x77.toInt < 0 ↔ x76.toInt < 0)) (c78 : ¬ x77.toInt = 0) (ex102 : x102 = (σ.2.1 51) k0.toNatClampNeg) (tx102 : x102.toInt = ((σ.2.1 51) k0.toNatClampNeg).toInt) (c103 : ¬ x102.toInt = 3) (ex104 : x104 = (σ.2.1 51) k0.toNatClampNeg) (tx104 : x104.toInt = ((σ.2.1 51) k0.toNatClampNeg).toInt) (c105 : x104.toInt = 4) (hr108y : ∀ s9 : List Int, QTT ((σ.2.2.1 52) k0.toNatClampNeg) ((σ.2.2.1 53) k0.toNatClampNeg) s9 → 0 ≤ (0 : Int32).toInt → (r108.toInt = 0 → ¬ s9 = (if 0 < (0 : Int32).toInt then [(116 : Int32).toInt, (114 : Int32).toInt, (117 : Int32).toInt, (101 : Int32).toInt, (0 : Int32).toInt] else [(116 : Int32).toInt, (114 : Int32).toInt, (117 : Int32).toInt, (101 : Int32).toInt])) ∧ (¬ r108.toInt = 0 → s9 = (if 0 < (0 : Int32).toInt then [(116 : Int32).toInt, (114 : Int32).toInt, (117 : Int32).toInt, (101 : Int32).toInt, (0 : Int32).toInt] else [(116 : Int32).toInt, (114 : Int32).toInt, (117 : Int32).toInt, (101 : Int32).toInt]))) (c109 : r108.toInt = 0) (hr112y : ∀ s9 : List Int, QTT ((σ.2.2.1 52) k0.toNatClampNeg) ((σ.2.2.1 53) k0.toNatClampNeg) s9 → 0 ≤ (101 : Int32).toInt → (r112.toInt = 0 → ¬ s9 = (if 0 < (101 : Int32).toInt then [(102 : Int32).toInt, (97 : Int32).toInt, (108 : Int32).toInt, (115 : Int32).toInt, (101 : Int32).toInt] else [(102 : Int32).toInt, (97 : Int32).toInt, (108 : Int32).toInt, (115 : Int32).toInt])) ∧ (¬ r112.toInt = 0 → s9 = (if 0 < (101 : Int32).toInt then [(102 : Int32).toInt, (97 : Int32).toInt, (108 : Int32).toInt, (115 : Int32).toInt, (101 : Int32).toInt] else [(102 : Int32).toInt, (97 : Int32).toInt, (108 : Int32).toInt, (115 : Int32).toInt]))) (c113 : r112.toInt = 0) (c114 : r108.toInt = 0) : ∀ v9 : QV, QAT (qH (σ.2.1 36) (σ.2.1 37) (σ.2.1 38) (σ.2.1 39) (σ.2.1 40) (σ.2.1 41) (σ.2.1 42) (σ.2.1 43) (σ.2.1 44) (σ.2.1 45) (σ.2.1 46) (σ.2.1 48)) (σ.1 47).toInt ((σ.2.1 51), (σ.2.2.1 52), (σ.2.2.1 53), (σ.2.2.2)) k0.toNatClampNeg v9 → (σ.1 56).toInt = 0 → QRES (qH (σ.2.1 36) (σ.2.1 37) (σ.2.1 38) (σ.2.1 39) (σ.2.1 40) (σ.2.1 41) (σ.2.1 42) (σ.2.1 43) (σ.2.1 44) (σ.2.1 45) (σ.2.1 46) (σ.2.1 48)) (σ.1 47).toInt ((σ.2.1 51), (σ.2.2.1 52), (σ.2.2.1 53), (σ.2.2.2)) ((upd (σ.2.1 51) k0.toNatClampNeg (1 : Int32)), (vp_updL (σ.2.2.1 52) k0.toNatClampNeg (0 : Int64)), (vp_updL (σ.2.2.1 53) k0.toNatClampNeg (0 : Int64)), (vf_upd (σ.2.2.2) k0.toNatClampNeg FP.dconst0)) k0.toNatClampNeg (10 : Int32).toInt (qCvB v9) := by
  have q0 : (0 : Int32).toInt = 0 := by decide +kernel
  have q1 : (1 : Int32).toInt = 1 := by decide +kernel
  have q10 : (10 : Int32).toInt = 10 := by decide +kernel
  have q97 : (97 : Int32).toInt = 97 := by decide +kernel
  have q101 : (101 : Int32).toInt = 101 := by decide +kernel
  have q102 : (102 : Int32).toInt = 102 := by decide +kernel
  have q108 : (108 : Int32).toInt = 108 := by decide +kernel
  have q114 : (114 : Int32).toInt = 114 := by decide +kernel
  have q115 : (115 : Int32).toInt = 115 := by decide +kernel
  have q116 : (116 : Int32).toInt = 116 := by decide +kernel
  have q117 : (117 : Int32).toInt = 117 := by decide +kernel
  have ql0 : (0 : Int64).toInt = 0 := by decide +kernel
  exfalso; omega
-- dead@142 @145
theorem v_toBool_104 (r108 : Int32) (c109 : r108.toInt = 0) (c114 : ¬ r108.toInt = 0) : False := by
  first | assumption | omega | (subst_vars; omega) | trivial
-- post @154
theorem v_toBool_105 (σ : RS) (k0 : Int32) (x1 : Int32) (x26 : Int32) (x51 : Int32) (x76 : Int64) (x77 : Int32) (x102 : Int32) (x104 : Int32) (hpre_0 : 0 ≤ k0.toInt) (hpre_1 : k0.toInt < 980) (hpre_2 : 0 ≤ (σ.1 56).toInt) (hpre_3 : (σ.1 56).toInt ≤ 11) (ex1 : x1 = (σ.2.1 51) k0.toNatClampNeg) (tx1 : x1.toInt = ((σ.2.1 51) k0.toNatClampNeg).toInt) (c2 : x1.toInt < 8) (ex26 : x26 = (σ.2.1 51) k0.toNatClampNeg) (tx26 : x26.toInt = ((σ.2.1 51) k0.toNatClampNeg).toInt) (c27 : ¬ x26.toInt = 3) (ex51 : x51 = (σ.2.1 51) k0.toNatClampNeg) (tx51 : x51.toInt = ((σ.2.1 51) k0.toNatClampNeg).toInt) (c52 : ¬ x51.toInt = 4) (ex76 : x76 = (σ.2.2.1 52) k0.toNatClampNeg) (tx76 : x76.toInt = ((σ.2.2.1 52) k0.toNatClampNeg).toInt) (tx77 : (x77.toInt = 0 ↔ x76.toInt = 0) ∧ (x77.toInt < 0 ↔ x76.toInt < 0)) (c78 : ¬ x77.toInt = 0) (ex102 : x102 = (σ.2.1 51) k0.toNatClampNeg) (tx102 : x102.toInt = ((σ.2.1 51) k0.toNatClampNeg).toInt) (c103 : ¬ x102.toInt = 3) (ex104 : x104 = (σ.2.1 51) k0.toNatClampNeg) (tx104 : x104.toInt = ((σ.2.1 51) k0.toNatClampNeg).toInt) (c105 : x104.toInt = 4) : 0 ≤ (σ.1 56).toInt ∧ (σ.1 56).toInt ≤ 11 ∧ Cell1 (σ.2.1 51) (upd (σ.2.1 51) k0.toNatClampNeg (1 : Int32)) (σ.2.2.1 52) (vp_updL (σ.2.2.1 52) k0.toNatClampNeg (0 : Int64)) (σ.2.2.2) (vf_upd (σ.2.2.2) k0.toNatClampNeg FP.dconst0) k0.toNatClampNeg (fun k v r => k = 1) := by
  have q1 : (1 : Int32).toInt = 1 := by decide +kernel
  have ql0 : (0 : Int64).toInt = 0 := by decide +kernel
  refine ⟨?_, ?_, ?_⟩ <;> first | assumption | omega | exact ⟨_, _, _, rfl, rfl, rfl, by omega⟩ | exact ⟨_, _, _, rfl, rfl, rfl, by decide +kernel⟩
-- post2 @154
theorem v_toBool_106 (σ : RS) (k0 : Int32) (x1 : Int32) (x26 : Int32) (x51 : Int32) (x76 : Int64) (x77 : Int32) (x102 : Int32) (x104 : Int32) (r108 : Int32) (r112 : Int32) (hpre_0 : 0 ≤ k0.toInt) (hpre_1 : k0.toInt < 980) (hpre_2 : 0 ≤ (σ.1 56).toInt) (hpre_3 : (σ.1 56).toInt ≤ 11) (ex1 : x1 = (σ.2.1 51) k0.toNatClampNeg) (tx1 : x1.toInt = ((σ.2.1 51) k0.toNatClampNeg).toInt) (c2 : x1.toInt < 8) (ex26 : x26 = (σ.2.1 51) k0.toNatClampNeg) (tx26 : x26.toInt = ((σ.2.1 51) k0.toNatClampNeg).toInt) (c27 : ¬ x26.toInt = 3) (ex51 : x51 = (σ.2.1 51) k0.toNatClampNeg) (tx51 : x51.toInt = ((σ.2.1 51) k0.toNatClampNeg).toInt) (c52 : ¬ x51.toInt = 4) (ex76 : x76 = (σ.2.2.1 52) k0.toNatClampNeg) (tx76 : x76.toInt = ((σ.2.2.1 52) k0.toNatClampNeg).toInt) (tx77 : (x77.toInt = 0 ↔ x76.toInt = 0) ∧ (x77.toInt < 0 ↔ x76.toInt < 0)) (c78 : ¬ x77.toInt = 0) (ex102 : x102 = (σ.2.1 51) k0.toNatClampNeg) (tx102 : x102.toInt = ((σ.2.1 51) k0.toNatClampNeg).toInt) (c103 : ¬ x102.toInt = 3) (ex104 : x104 = (σ.2.1 51) k0.toNatClampNeg) (tx104 : x104.toInt = ((σ.2.1 51) k0.toNatClampNeg).toInt) (c105 : x104.toInt = 4) (hr108y : ∀ s9 : List Int, QTT ((σ.2.2.1 52) k0.toNatClampNeg) ((σ.2.2.1 53) k0.toNatClampNeg) s9 → 0 ≤ (0 : Int32).toInt → (r108.toInt = 0 → ¬ s9 = (if 0 < (0 : Int32).toInt then [(116 : Int32).toInt, (114 : Int32).toInt, (117 : Int32).toInt, (101 : Int32).toInt, (0 : Int32).toInt] else [(116 : Int32).toInt, (114 : Int32).toInt, (117 : Int32).toInt, (101 : Int32).toInt])) ∧ (¬ r108.toInt = 0 → s9 = (if 0 < (0 : Int32).toInt then [(116 : Int32).toInt, (114 : Int32).toInt, (117 : Int32).toInt, (101 : Int32).toInt, (0 : Int32).toInt] else [(116 : Int32).toInt, (114 : Int32).toInt, (117 : Int32).toInt, (101 : Int32).toInt]))) (c109 : r108.toInt = 0) (hr112y : ∀ s9 : List Int, QTT ((σ.2.2.1 52) k0.toNatClampNeg) ((σ.2.2.1 53) k0.toNatClampNeg) s9 → 0 ≤ (101 : Int32).toInt → (r112.toInt = 0 → ¬ s9 = (if 0 < (101 : Int32).toInt then [(102 : Int32).toInt, (97 : Int32).toInt, (108 : Int32).toInt, (115 : Int32).toInt, (101 : Int32).toInt] else [(102 : Int32).toInt, (97 : Int32).toInt, (108 : Int32).toInt, (115 : Int32).toInt])) ∧ (¬ r112.toInt = 0 → s9 = (if 0 < (101 : Int32).toInt then [(102 : Int32).toInt, (97 : Int32).toInt, (108 : Int32).toInt, (115 : Int32).toInt, (101 : Int32).toInt] else [(102 : Int32).toInt, (97 : Int32).toInt, (108 : Int32).toInt, (115 : Int32).toInt]))) (c113 : ¬ r112.toInt = 0) (c116 : r108.toInt = 0) : ∀ v9 : QV, QAT (qH (σ.2.1 36) (σ.2.1 37) (σ.2.1 38) (σ.2.1 39) (σ.2.1 40) (σ.2.1 41) (σ.2.1 42) (σ.2.1 43) (σ.2.1 44) (σ.2.1 45) (σ.2.1 46) (σ.2.1 48)) (σ.1 47).toInt ((σ.2.1 51), (σ.2.2.1 52), (σ.2.2.1 53), (σ.2.2.2)) k0.toNatClampNeg v9 → (σ.1 56).toInt = 0 → QRES (qH (σ.2.1 36) (σ.2.1 37) (σ.2.1 38) (σ.2.1 39) (σ.2.1 40) (σ.2.1 41) (σ.2.1 42) (σ.2.1 43) (σ.2.1 44) (σ.2.1 45) (σ.2.1 46) (σ.2.1 48)) (σ.1 47).toInt ((σ.2.1 51), (σ.2.2.1 52), (σ.2.2.1 53), (σ.2.2.2)) ((upd (σ.2.1 51) k0.toNatClampNeg (1 : Int32)), (vp_updL (σ.2.2.1 52) k0.toNatClampNeg (0 : Int64)), (vp_updL (σ.2.2.1 53) k0.toNatClampNeg (0 : Int64)), (vf_upd (σ.2.2.2) k0.toNatClampNeg FP.dconst0)) k0.toNatClampNeg (σ.1 56).toInt (qCvB v9) := by
  have q0 : (0 : Int32).toInt = 0 := by decide +kernel
  have q1 : (1 : Int32).toInt = 1 := by decide +kernel
  have q97 : (97 : Int32).toInt = 97 := by decide +kernel
  have q101 : (101 : Int32).toInt = 101 := by decide +kernel
  have q102 : (102 : Int32).toInt = 102 := by decide +kernel
  have q108 : (108 : Int32).toInt = 108 := by decide +kernel
  have q114 : (114 : Int32).toInt = 114 := by decide +kernel
  have q115 : (115 : Int32).toInt = 115 := by decide +kernel
  have q116 : (116 : Int32).toInt = 116 := by decide +kernel
  have q117 : (117 : Int32).toInt = 117 := by decide +kernel
  have ql0 : (0 : Int64).toInt = 0 := by decide +kernel
  exfalso; omega
-- dead@142 @145
theorem v_toBool_107 (r108 : Int32) (c109 : r108.toInt = 0) (c116 : ¬ r108.toInt = 0) : False := by
  first | assumption | omega | (subst_vars; omega) | trivial
-- in@63 @63
theorem v_toBool_108 (σ : RS) (k0 : Int32) (x1 : Int32) (x26 : Int32) (x51 : Int32) (x76 : Int64) (x77 : Int32) (x102 : Int32) (hpre_0 : 0 ≤ k0.toInt) (hpre_1 : k0.toInt < 980) (ex1 : x1 = (σ.2.1 51) k0.toNatClampNeg) (tx1 : x1.toInt = ((σ.2.1 51) k0.toNatClampNeg).toInt) (c2 : x1.toInt < 8) (ex26 : x26 = (σ.2.1 51) k0.toNatClampNeg) (tx26 : x26.toInt = ((σ.2.1 51) k0.toNatClampNeg).toInt) (c27 : ¬ x26.toInt = 3) (ex51 : x51 = (σ.2.1 51) k0.toNatClampNeg) (tx51 : x51.toInt = ((σ.2.1 51) k0.toNatClampNeg).toInt) (c52 : ¬ x51.toInt = 4) (ex76 : x76 = (σ.2.2.1 52) k0.toNatClampNeg) (tx76 : x76.toInt = ((σ.2.2.1 52) k0.toNatClampNeg).toInt) (tx77 : (x77.toInt = 0 ↔ x76.toInt = 0) ∧ (x77.toInt < 0 ↔ x76.toInt < 0)) (c78 : ¬ x77.toInt = 0) (ex102 : x102 = (σ.2.1 51) k0.toNatClampNeg) (tx102 : x102.toInt = ((σ.2.1 51) k0.toNatClampNeg).toInt) (c103 : x102.toInt = 3) : vp_in k0 980 := by
  exact vp_in_iff.mpr ⟨by omega, by omega⟩
-- pre:set@151 @151
theorem v_toBool_109 (σ : RS) (k0 : Int32) (x1 : Int32) (x26 : Int32) (x51 : Int32) (x76 : Int64) (x77 : Int32) (x102 : Int32) (x118 : UInt64) (x119 : Int32) (hpre_0 : 0 ≤ k0.toInt) (hpre_1 : k0.toInt < 980) (ex1 : x1 = (σ.2.1 51) k0.toNatClampNeg) (tx1 : x1.toInt = ((σ.2.1 51) k0.toNatClampNeg).toInt) (c2 : x1.toInt < 8) (ex26 : x26 = (σ.2.1 51) k0.toNatClampNeg) (tx26 : x26.toInt = ((σ.2.1 51) k0.toNatClampNeg).toInt) (c27 : ¬ x26.toInt = 3) (ex51 : x51 = (σ.2.1 51) k0.toNatClampNeg) (tx51 : x51.toInt = ((σ.2.1 51) k0.toNatClampNeg).toInt) (c52 : ¬ x51.toInt = 4) (ex76 : x76 = (σ.2.2.1 52) k0.toNatClampNeg) (tx76 : x76.toInt = ((σ.2.2.1 52) k0.toNatClampNeg).toInt) (tx77 : (x77.toInt = 0 ↔ x76.toInt = 0) ∧ (x77.toInt < 0 ↔ x76.toInt < 0)) (c78 : ¬ x77.toInt = 0) (ex102 : x102 = (σ.2.1 51) k0.toNatClampNeg) (tx102 : x102.toInt = ((σ.2.1 51) k0.toNatClampNeg).toInt) (c103 : x102.toInt = 3) (ex118 : x118 = (σ.2.2.2) k0.toNatClampNeg) (ex119 : x119 = Op.cmpValue (FP.dcmp x118 FP.dconst0) .l) (c120 : x119.toInt = 0) : 0 ≤ k0.toInt ∧ k0.toInt < 980 := by
  refine ⟨?_, ?_⟩ <;> first | assumption | omega | (subst_vars; omega) | trivial
-- post @154
theorem v_toBool_110 (σ : RS) (k0 : Int32) (x1 : Int32) (x26 : Int32) (x51 : Int32) (x76 : Int64) (x77 : Int32) (x102 : Int32) (x118 : UInt64) (x119 : Int32) (hpre_0 : 0 ≤ k0.toInt) (hpre_1 : k0.toInt < 980) (hpre_2 : 0 ≤ (σ.1 56).toInt) (hpre_3 : (σ.1 56).toInt ≤ 11) (ex1 : x1 = (σ.2.1 51) k0.toNatClampNeg) (tx1 : x1.toInt = ((σ.2.1 51) k0.toNatClampNeg).toInt) (c2 : x1.toInt < 8) (ex26 : x26 = (σ.2.1 51) k0.toNatClampNeg) (tx26 : x26.toInt = ((σ.2.1 51) k0.toNatClampNeg).toInt) (c27 : ¬ x26.toInt = 3) (ex51 : x51 = (σ.2.1 51) k0.toNatClampNeg) (tx51 : x51.toInt = ((σ.2.1 51) k0.toNatClampNeg).toInt) (c52 : ¬ x51.toInt = 4) (ex76 : x76 = (σ.2.2.1 52) k0.toNatClampNeg) (tx76 : x76.toInt = ((σ.2.2.1 52) k0.toNatClampNeg).toInt) (tx77 : (x77.toInt = 0 ↔ x76.toInt = 0) ∧ (x77.toInt < 0 ↔ x76.toInt < 0)) (c78 : ¬ x77.toInt = 0) (ex102 : x102 = (σ.2.1 51) k0.toNatClampNeg) (tx102 : x102.toInt = ((σ.2.1 51) k0.toNatClampNeg).toInt) (c103 : x102.toInt = 3) (ex118 : x118 = (σ.2.2.2) k0.toNatClampNeg) (ex119 : x119 = Op.cmpValue (FP.dcmp x118 FP.dconst0) .l) (c120 : x119.toInt = 0) : 0 ≤ (σ.1 56).toInt ∧ (σ.1 56).toInt ≤ 11 ∧ Cell1 (σ.2.1 51) (upd (σ.2.1 51) k0.toNatClampNeg (1 : Int32)) (σ.2.2.1 52) (vp_updL (σ.2.2.1 52) k0.toNatClampNeg (0 : Int64)) (σ.2.2.2) (vf_upd (σ.2.2.2) k0.toNatClampNeg FP.dconst0) k0.toNatClampNeg (fun k v r => k = 1) := by
  have q1 : (1 : Int32).toInt = 1 := by decide +kernel
  have ql0 : (0 : Int64).toInt = 0 := by decide +kernel
  refine ⟨?_, ?_, ?_⟩ <;> first | assumption | omega | exact ⟨_, _, _, rfl, rfl, rfl, by omega⟩ | exact ⟨_, _, _, rfl, rfl, rfl, by decide +kernel⟩
-- post2 @154
theorem v_toBool_111 (σ : RS) (k0 : Int32) (x1 : Int32) (x26 : Int32) (x51 : Int32) (x76 : Int64) (x77 : Int32) (x102 : Int32) (x118 : UInt64) (x119 : Int32) (hpre_0 : 0 ≤ k0.toInt) (hpre_1 : k0.toInt < 980) (hpre_2 : 0 ≤ (σ.1 56).toInt) (hpre_3 : (σ.1 56).toInt ≤ 11) (ex1 : x1 = (σ.2.1 51) k0.toNatClampNeg) (tx1 : x1.toInt = ((σ.2.1 51) k0.toNatClampNeg).toInt) (c2 : x1.toInt < 8) (ex26 : x26 = (σ.2.1 51) k0.toNatClampNeg) (tx26 : x26.toInt = ((σ.2.1 51) k0.toNatClampNeg).toInt) (c27 : ¬ x26.toInt = 3) (ex51 : x51 = (σ.2.1 51) k0.toNatClampNeg) (tx51 : x51.toInt = ((σ.2.1 51) k0.toNatClampNeg).toInt) (c52 : ¬ x51.toInt = 4) (ex76 : x76 = (σ.2.2.1 52) k0.toNatClampNeg) (tx76 : x76.toInt = ((σ.2.2.1 52) k0.toNatClampNeg).toInt) (tx77 : (x77.toInt = 0 ↔ x76.toInt = 0) ∧ (x77.toInt < 0 ↔ x76.toInt < 0)) (c78 : ¬ x77.toInt = 0) (ex102 : x102 = (σ.2.1 51) k0.toNatClampNeg) (tx102 : x102.toInt = ((σ.2.1 51) k0.toNatClampNeg).toInt) (c103 : x102.toInt = 3) (ex118 : x118 = (σ.2.2.2) k0.toNatClampNeg) (ex119 : x119 = Op.cmpValue (FP.dcmp x118 FP.dconst0) .l) (c120 : x119.toInt = 0) : ∀ v9 : QV, QAT (qH (σ.2.1 36) (σ.2.1 37) (σ.2.1 38) (σ.2.1 39) (σ.2.1 40) (σ.2.1 41) (σ.2.1 42) (σ.2.1 43) (σ.2.1 44) (σ.2.1 45) (σ.2.1 46) (σ.2.1 48)) (σ.1 47).toInt ((σ.2.1 51), (σ.2.2.1 52), (σ.2.2.1 53), (σ.2.2.2)) k0.toNatClampNeg v9 → (σ.1 56).toInt = 0 → QRES (qH (σ.2.1 36) (σ.2.1 37) (σ.2.1 38) (σ.2.1 39) (σ.2.1 40) (σ.2.1 41) (σ.2.1 42) (σ.2.1 43) (σ.2.1 44) (σ.2.1 45) (σ.2.1 46) (σ.2.1 48)) (σ.1 47).toInt ((σ.2.1 51), (σ.2.2.1 52), (σ.2.2.1 53), (σ.2.2.2)) ((upd (σ.2.1 51) k0.toNatClampNeg (1 : Int32)), (vp_updL (σ.2.2.1 52) k0.toNatClampNeg (0 : Int64)), (vp_updL (σ.2.2.1 53) k0.toNatClampNeg (0 : Int64)), (vf_upd (σ.2.2.2) k0.toNatClampNeg FP.dconst0)) k0.toNatClampNeg (σ.1 56).toInt (qCvB v9) := by
  have q1 : (1 : Int32).toInt = 1 := by decide +kernel
  have ql0 : (0 : Int64).toInt = 0 := by decide +kernel
  exfalso; omega
-- pre:set@151 @151
theorem v_toBool_112 (σ : RS) (k0 : Int32) (x1 : Int32) (x26 : Int32) (x51 : Int32) (x76 : Int64) (x77 : Int32) (x102 : Int32) (x118 : UInt64) (x119 : Int32) (hpre_0 : 0 ≤ k0.toInt) (hpre_1 : k0.toInt < 980) (ex1 : x1 = (σ.2.1 51) k0.toNatClampNeg) (tx1 : x1.toInt = ((σ.2.1 51) k0.toNatClampNeg).toInt) (c2 : x1.toInt < 8) (ex26 : x26 = (σ.2.1 51) k0.toNatClampNeg) (tx26 : x26.toInt = ((σ.2.1 51) k0.toNatClampNeg).toInt) (c27 : ¬ x26.toInt = 3) (ex51 : x51 = (σ.2.1 51) k0.toNatClampNeg) (tx51 : x51.toInt = ((σ.2.1 51) k0.toNatClampNeg).toInt) (c52 : ¬ x51.toInt = 4) (ex76 : x76 = (σ.2.2.1 52) k0.toNatClampNeg) (tx76 : x76.toInt = ((σ.2.2.1 52) k0.toNatClampNeg).toInt) (tx77 : (x77.toInt = 0 ↔ x76.toInt = 0) ∧ (x77.toInt < 0 ↔ x76.toInt < 0)) (c78 : ¬ x77.toInt = 0) (ex102 : x102 = (σ.2.1 51) k0.toNatClampNeg) (tx102 : x102.toInt = ((σ.2.1 51) k0.toNatClampNeg).toInt) (c103 : x102.toInt = 3) (ex118 : x118 = (σ.2.2.2) k0.toNatClampNeg) (ex119 : x119 = Op.cmpValue (FP.dcmp x118 FP.dconst0) .l) (c120 : ¬ x119.toInt = 0) : 0 ≤ k0.toInt ∧ k0.toInt < 980 := by
  refine ⟨?_, ?_⟩ <;> first | assumption | omega | (subst_vars; omega) | trivial
-- post @154
theorem v_toBool_113 (σ : RS) (k0 : Int32) (x1 : Int32) (x26 : Int32) (x51 : Int32) (x76 : Int64) (x77 : Int32) (x102 : Int32) (x118 : UInt64) (x119 : Int32) (hpre_0 : 0 ≤ k0.toInt) (hpre_1 : k0.toInt < 980) (hpre_2 : 0 ≤ (σ.1 56).toInt) (hpre_3 : (σ.1 56).toInt ≤ 11) (ex1 : x1 = (σ.2.1 51) k0.toNatClampNeg) (tx1 : x1.toInt = ((σ.2.1 51) k0.toNatClampNeg).toInt) (c2 : x1.toInt < 8) (ex26 : x26 = (σ.2.1 51) k0.toNatClampNeg) (tx26 : x26.toInt = ((σ.2.1 51) k0.toNatClampNeg).toInt) (c27 : ¬ x26.toInt = 3) (ex51 : x51 = (σ.2.1 51) k0.toNatClampNeg) (tx51 : x51.toInt = ((σ.2.1 51) k0.toNatClampNeg).toInt) (c52 : ¬ x51.toInt = 4) (ex76 : x76 = (σ.2.2.1 52) k0.toNatClampNeg) (tx76 : x76.toInt = ((σ.2.2.1 52) k0.toNatClampNeg).toInt) (tx77 : (x77.toInt = 0 ↔ x76.toInt = 0) ∧ (x77.toInt < 0 ↔ x76.toInt < 0)) (c78 : ¬ x77.toInt = 0) (ex102 : x102 = (σ.2.1 51) k0.toNatClampNeg) (tx102 : x102.toInt = ((σ.2.1 51) k0.toNatClampNeg).toInt) (c103 : x102.toInt = 3) (ex118 : x118 = (σ.2.2.2) k0.toNatClampNeg) (ex119 : x119 = Op.cmpValue (FP.dcmp x118 FP.dconst0) .l) (c120 : ¬ x119.toInt = 0) : 0 ≤ (σ.1 56).toInt ∧ (σ.1 56).toInt ≤ 11 ∧ Cell1 (σ.2.1 51) (upd (σ.2.1 51) k0.toNatClampNeg (1 : Int32)) (σ.2.2.1 52) (vp_updL (σ.2.2.1 52) k0.toNatClampNeg (1 : Int64)) (σ.2.2.2) (vf_upd (σ.2.2.2) k0.toNatClampNeg FP.dconst0) k0.toNatClampNeg (fun k v r => k = 1) := by
  have q1 : (1 : Int32).toInt = 1 := by decide +kernel
  have ql1 : (1 : Int64).toInt = 1 := by decide +kernel
  refine ⟨?_, ?_, ?_⟩ <;> first | assumption | omega | exact ⟨_, _, _, rfl, rfl, rfl, by omega⟩ | exact ⟨_, _, _, rfl, rfl, rfl, by decide +kernel⟩
-- post2 @154
theorem v_toBool_114 (σ : RS) (k0 : Int32) (x1 : Int32) (x26 : Int32) (x51 : Int32) (x76 : Int64) (x77 : Int32) (x102 : Int32) (x118 : UInt64) (x119 : Int32) (hpre_0 : 0 ≤ k0.toInt) (hpre_1 : k0.toInt < 980) (hpre_2 : 0 ≤ (σ.1 56).toInt) (hpre_3 : (σ.1 56).toInt ≤ 11) (ex1 : x1 = (σ.2.1 51) k0.toNatClampNeg) (tx1 : x1.toInt = ((σ.2.1 51) k0.toNatClampNeg).toInt) (c2 : x1.toInt < 8) (ex26 : x26 = (σ.2.1 51) k0.toNatClampNeg) (tx26 : x26.toInt = ((σ.2.1 51) k0.toNatClampNeg).toInt) (c27 : ¬ x26.toInt = 3) (ex51 : x51 = (σ.2.1 51) k0.toNatClampNeg) (tx51 : x51.toInt = ((σ.2.1 51) k0.toNatClampNeg).toInt) (c52 : ¬ x51.toInt = 4) (ex76 : x76 = (σ.2.2.1 52) k0.toNatClampNeg) (tx76 : x76.toInt = ((σ.2.2.1 52) k0.toNatClampNeg).toInt) (tx77 : (x77.toInt = 0 ↔ x76.toInt = 0) ∧ (x77.toInt < 0 ↔ x76.toInt < 0)) (c78 : ¬ x77.toInt = 0) (ex102 : x102 = (σ.2.1 51) k0.toNatClampNeg) (tx102 : x102.toInt = ((σ.2.1 51) k0.toNatClampNeg).toInt) (c103 : x102.toInt = 3) (ex118 : x118 = (σ.2.2.2) k0.toNatClampNeg) (ex119 : x119 = Op.cmpValue (FP.dcmp x118 FP.dconst0) .l) (c120 : ¬ x119.toInt = 0) : ∀ v9 : QV, QAT (qH (σ.2.1 36) (σ.2.1 37) (σ.2.1 38) (σ.2.1 39) (σ.2.1 40) (σ.2.1 41) (σ.2.1 42) (σ.2.1 43) (σ.2.1 44) (σ.2.1 45) (σ.2.1 46) (σ.2.1 48)) (σ.1 47).toInt ((σ.2.1 51), (σ.2.2.1 52), (σ.2.2.1 53), (σ.2.2.2)) k0.toNatClampNeg v9 → (σ.1 56).toInt = 0 → QRES (qH (σ.2.1 36) (σ.2.1 37) (σ.2.1 38) (σ.2.1 39) (σ.2.1 40) (σ.2.1 41) (σ.2.1 42) (σ.2.1 43) (σ.2.1 44) (σ.2.1 45) (σ.2.1 46) (σ.2.1 48)) (σ.1 47).toInt ((σ.2.1 51), (σ.2.2.1 52), (σ.2.2.1 53), (σ.2.2.2)) ((upd (σ.2.1 51) k0.toNatClampNeg (1 : Int32)), (vp_updL (σ.2.2.1 52) k0.toNatClampNeg (1 : Int64)), (vp_updL (σ.2.2.1 53) k0.toNatClampNeg (0 : Int64)), (vf_upd (σ.2.2.2) k0.toNatClampNeg FP.dconst0)) k0.toNatClampNeg (σ.1 56).toInt (qCvB v9) := by
  have q1 : (1 : Int32).toInt = 1 := by decide +kernel
  have ql0 : (0 : Int64).toInt = 0 := by decide +kernel
  have ql1 : (1 : Int64).toInt = 1 := by decide +kernel
  exfalso; omega
set_option maxHeartbeats 4000000 in
set_option maxRecDepth 100000 in
theorem M_toBool (l : Launch) (D : va_G) (cy : Nat → ClassId) (sz0 : Nat) (sa : Nat → Nat) (ad : Nat → Nat) (σ : RS) (sz : Nat) (k0 : Int32) (hpre : 0 ≤ k0.toInt ∧ k0.toInt < 980 ∧ 0 ≤ (σ.1 56).toInt ∧ (σ.1 56).toInt ≤ 11) : Met l yX12_toBool (Cond.code yX12_toBool cX12_toBool 3 none :: GWm) ({ frames := 2, cells := 0, slots := 0, locals := 49 }) (PcR D cy sz0 sa ad [.ref (ad 0), .int k0] σ sz) (va_Qv (fun (u : (Nat → Int32) × (Nat → Int64) × (Nat → Int64) × (Nat → UInt64) × Int32) => (0 ≤ u.2.2.2.2.toInt ∧ u.2.2.2.2.toInt ≤ 11 ∧ Cell1 (σ.2.1 51) u.1 (σ.2.2.1 52) u.2.1 (σ.2.2.2) u.2.2.2.1 k0.toNatClampNeg (fun k v r => k = 1)) ∧ (∀ v9 : QV, QAT (qH (σ.2.1 36) (σ.2.1 37) (σ.2.1 38) (σ.2.1 39) (σ.2.1 40) (σ.2.1 41) (σ.2.1 42) (σ.2.1 43) (σ.2.1 44) (σ.2.1 45) (σ.2.1 46) (σ.2.1 48)) (σ.1 47).toInt ((σ.2.1 51), (σ.2.2.1 52), (σ.2.2.1 53), (σ.2.2.2)) k0.toNatClampNeg v9 → (σ.1 56).toInt = 0 → QRES (qH (σ.2.1 36) (σ.2.1 37) (σ.2.1 38) (σ.2.1 39) (σ.2.1 40) (σ.2.1 41) (σ.2.1 42) (σ.2.1 43) (σ.2.1 44) (σ.2.1 45) (σ.2.1 46) (σ.2.1 48)) (σ.1 47).toInt ((σ.2.1 51), (σ.2.2.1 52), (σ.2.2.1 53), (σ.2.2.2)) (u.1, u.2.1, u.2.2.1, u.2.2.2.1) k0.toNatClampNeg u.2.2.2.2.toInt (qCvB v9))) (fun (u : (Nat → Int32) × (Nat → Int64) × (Nat → Int64) × (Nat → UInt64) × Int32) (t : State) => RP D cy ad (rS (rR (rJ (rJ (rA σ 51 u.1) 52 u.2.1) 53 u.2.2.1) u.2.2.2.1) 56 u.2.2.2.2) t.heap) (AR cy ad sz)) 0 0 (AR cy ad sz) := by
  refine RM_of (loc0 := [(0, .ref (ad 0)), (1, .int k0)]) (by decide) rfl rfl (Nat.le_of_ble_eq_true rfl) ?_
  intro p e s m below meth c ls hsz C hP hS hl
  have hx := C.1
  have hb := C.2.1
  have hown := C.2.2.2.2.1
  have hw := C.2.2.2.2.2.1
  clear hsz
  obtain ⟨hpre_0, hpre_1, hpre_2, hpre_3⟩ := hpre
  refine lv_aload_n hx hb dX12_toBool_0 rfl (lv_at hl 0 rfl) ?_
  refine rg_51 C hP wm_205 dX12_toBool_1 ?_
  refine lv_iload_n hx hb dX12_toBool_4 rfl (lv_at hl 1 rfl) ?_
  refine ra_51 (f := (σ.2.1 51)) C hP rfl (v_toBool_1 k0 hpre_0 hpre_1) dX12_toBool_5 (fun x1 ex1 => ?_)
  have tx1 : x1.toInt = ((σ.2.1 51) k0.toNatClampNeg).toInt := by rw [ex1]
  refine lv_bipush (v := 8) hx hb dX12_toBool_6 (by decide +kernel) ?_
  refine lv_icmp_ge (tgt := 42) hx hb dX12_toBool_8 (by decide) (fun c2 => ?_) (fun c2 => ?_)
  · have c2 : 8 ≤ x1.toInt := by have h := z_le c2; rw [show (8 : Int32).toInt = 8 from by decide +kernel] at h; exact h
    refine lv_iconst (v := 1) hx hb dX12_toBool_42 (by decide +kernel) ?_
    refine lv_goto (tgt := 47) hx hb dX12_toBool_43 (by decide) ?_
    refine lv_istore_n (lv' := [(2, .int 1), (0, .ref (ad 0)), (1, .int k0)]) hx hb dX12_toBool_47 rfl hl (by decide) rfl (fun ls hl => ?_)
    refine lv_aload_n hx hb dX12_toBool_48 rfl (lv_at hl 1 rfl) ?_
    refine rg_51 C hP wm_205 dX12_toBool_49 ?_
    refine lv_iload_n hx hb dX12_toBool_52 rfl (lv_at hl 2 rfl) ?_
    refine ra_51 (f := (σ.2.1 51)) C hP rfl (v_toBool_2 σ k0 x1 hpre_0 hpre_1 ex1 tx1 c2) dX12_toBool_53 (fun x3 ex3 => ?_)
    have tx3 : x3.toInt = ((σ.2.1 51) k0.toNatClampNeg).toInt := by rw [ex3]
    refine lv_iconst (v := 3) hx hb dX12_toBool_54 (by decide +kernel) ?_
    refine lv_icmp_ne (tgt := 78) hx hb dX12_toBool_55 (by decide) (fun c4 => ?_) (fun c4 => ?_)
    · have c4 : ¬ x3.toInt = 3 := by have h := z_ne c4; rw [show (3 : Int32).toInt = 3 from by decide +kernel] at h; exact h
      refine lv_aload_n hx hb dX12_toBool_78 rfl (lv_at hl 1 rfl) ?_
      refine rg_51 C hP wm_205 dX12_toBool_79 ?_
      refine lv_iload_n hx hb dX12_toBool_82 rfl (lv_at hl 2 rfl) ?_
      refine ra_51 (f := (σ.2.1 51)) C hP rfl (v_toBool_3 σ k0 x1 x3 hpre_0 hpre_1 ex1 tx1 c2 ex3 tx3 c4) dX12_toBool_83 (fun x5 ex5 => ?_)
      have tx5 : x5.toInt = ((σ.2.1 51) k0.toNatClampNeg).toInt := by rw [ex5]
      refine lv_iconst (v := 4) hx hb dX12_toBool_84 (by decide +kernel) ?_
      refine lv_icmp_ne (tgt := 138) hx hb dX12_toBool_85 (by decide) (fun c6 => ?_) (fun c6 => ?_)
      · have c6 : ¬ x5.toInt = 4 := by have h := z_ne c6; rw [show (4 : Int32).toInt = 4 from by decide +kernel] at h; exact h
        refine lv_aload_n hx hb dX12_toBool_138 rfl (lv_at hl 1 rfl) ?_
        refine lv_iload_n hx hb dX12_toBool_139 rfl (lv_at hl 2 rfl) ?_
        refine lv_iconst (v := 1) hx hb dX12_toBool_140 (by decide +kernel) ?_
        refine lv_iload_n hx hb dX12_toBool_141 rfl (lv_at hl 0 rfl) ?_
        refine lv_if_eq (tgt := 149) hx hb dX12_toBool_142 (by decide) (fun c7 => absurd c7 (by decide +kernel)) (fun _ => ?_)
        refine lv_lconst (v := 1) hx hb dX12_toBool_145 rfl ?_
        refine lv_goto (tgt := 150) hx hb dX12_toBool_146 (by decide) ?_
        refine lv_dconst0 hx hb dX12_toBool_150 ?_
        refine r_callVv (As := [.int k0, .int 1, .long 1, .double FP.dconst0]) (rest := []) C hP hS hl.1 ⟨Nat.zero_le _, Nat.zero_le _⟩ (M_set l D cy sz0 sa ad σ s.heap.size k0 (1 : Int32) (1 : Int64) FP.dconst0 (v_toBool_4 σ k0 x1 x3 x5 hpre_0 hpre_1 ex1 tx1 c2 ex3 tx3 c4 ex5 tx5 c6)) (n := 4) ⟨wm_213, wm_207, by decide +kernel⟩ ⟨wm_214, wm_215, wm_10⟩ rfl rfl (lv_room (Nat.le_of_ble_eq_true rfl)) ⟨Nat.le_of_ble_eq_true rfl, Nat.le_of_ble_eq_true rfl⟩ dX12_toBool_151 (fun u H locs hr8 hP hS => ?_)
        have hr8 : True := hr8
        have hP : RP D cy ad (rR (rJ (rJ (rA σ 51 (upd (σ.2.1 51) k0.toNatClampNeg (1 : Int32))) 52 (vp_updL (σ.2.2.1 52) k0.toNatClampNeg (1 : Int64))) 53 (vp_updL (σ.2.2.1 53) k0.toNatClampNeg (0 : Int64))) (vf_upd (σ.2.2.2) k0.toNatClampNeg FP.dconst0)) H := hP
        have hP : RP D cy ad (rS (rR (rJ (rJ (rA σ 51 (upd (σ.2.1 51) k0.toNatClampNeg (1 : Int32))) 52 (vp_updL (σ.2.2.1 52) k0.toNatClampNeg (1 : Int64))) 53 (vp_updL (σ.2.2.1 53) k0.toNatClampNeg (0 : Int64))) (vf_upd (σ.2.2.2) k0.toNatClampNeg FP.dconst0)) 56 (σ.1 56)) H := RP.cong hP (Eq.trans (b := (σ.1 0)) rfl rfl) (Eq.trans (b := (σ.1 1)) rfl rfl) (Eq.trans (b := (σ.2.1 2)) rfl rfl) (Eq.trans (b := (σ.1 3)) rfl rfl) (Eq.trans (b := (σ.2.1 4)) rfl rfl) (Eq.trans (b := (σ.2.1 5)) rfl rfl) (Eq.trans (b := (σ.2.2.1 6)) rfl rfl) (Eq.trans (b := (σ.2.1 7)) rfl rfl) (Eq.trans (b := (σ.1 8)) rfl rfl) (Eq.trans (b := (σ.1 9)) rfl rfl) (Eq.trans (b := (σ.1 10)) rfl rfl) (Eq.trans (b := (σ.2.1 11)) rfl rfl) (Eq.trans (b := (σ.2.2.1 12)) rfl rfl) (Eq.trans (b := (σ.2.1 13)) rfl rfl) (Eq.trans (b := (σ.1 14)) rfl rfl) (Eq.trans (b := (σ.1 15)) rfl rfl) (Eq.trans (b := (σ.1 16)) rfl rfl) (Eq.trans (b := (σ.1 17)) rfl rfl) (Eq.trans (b := (σ.1 18)) rfl rfl) (Eq.trans (b := (σ.1 19)) rfl rfl) (Eq.trans (b := (σ.2.1 20)) rfl rfl) (Eq.trans (b := (σ.2.1 21)) rfl rfl) (Eq.trans (b := (σ.2.1 22)) rfl rfl) (Eq.trans (b := (σ.2.1 23)) rfl rfl) (Eq.trans (b := (σ.2.1 24)) rfl rfl) (Eq.trans (b := (σ.2.1 25)) rfl rfl) (Eq.trans (b := (σ.2.1 26)) rfl rfl) (Eq.trans (b := (σ.2.1 27)) rfl rfl) (Eq.trans (b := (σ.2.1 28)) rfl rfl) (Eq.trans (b := (σ.1 29)) rfl rfl) (Eq.trans (b := (σ.2.1 30)) rfl rfl) (Eq.trans (b := (σ.2.1 31)) rfl rfl) (Eq.trans (b := (σ.2.1 32)) rfl rfl) (Eq.trans (b := (σ.1 33)) rfl rfl) (Eq.trans (b := (σ.1 34)) rfl rfl) (Eq.trans (b := (σ.1 35)) rfl rfl) (Eq.trans (b := (σ.2.1 36)) rfl rfl) (Eq.trans (b := (σ.2.1 37)) rfl rfl) (Eq.trans (b := (σ.2.1 38)) rfl rfl) (Eq.trans (b := (σ.2.1 39)) rfl rfl) (Eq.trans (b := (σ.2.1 40)) rfl rfl) (Eq.trans (b := (σ.2.1 41)) rfl rfl) (Eq.trans (b := (σ.2.1 42)) rfl rfl) (Eq.trans (b := (σ.2.1 43)) rfl rfl) (Eq.trans (b := (σ.2.1 44)) rfl rfl) (Eq.trans (b := (σ.2.1 45)) rfl rfl) (Eq.trans (b := (σ.2.1 46)) rfl rfl) (Eq.trans (b := (σ.1 47)) rfl rfl) (Eq.trans (b := (σ.2.1 48)) rfl rfl) (Eq.trans (b := (σ.1 49)) rfl rfl) (Eq.trans (b := (σ.2.1 50)) rfl rfl) (Eq.trans (b := (upd (σ.2.1 51) k0.toNatClampNeg (1 : Int32))) rfl rfl) (Eq.trans (b := (vp_updL (σ.2.2.1 52) k0.toNatClampNeg (1 : Int64))) rfl rfl) (Eq.trans (b := (vp_updL (σ.2.2.1 53) k0.toNatClampNeg (0 : Int64))) rfl rfl) (Eq.trans (b := (vf_upd (σ.2.2.2) k0.toNatClampNeg FP.dconst0)) rfl rfl) (Eq.trans (b := (σ.1 55)) rfl rfl) (Eq.trans (b := (σ.1 56)) rfl rfl) (Eq.trans (b := (σ.1 57)) rfl rfl) (Eq.trans (b := (σ.2.1 58)) rfl rfl) (Eq.trans (b := (σ.1 59)) rfl rfl)
        exact r_retv C ⟨(upd (σ.2.1 51) k0.toNatClampNeg (1 : Int32)), (vp_updL (σ.2.2.1 52) k0.toNatClampNeg (1 : Int64)), (vp_updL (σ.2.2.1 53) k0.toNatClampNeg (0 : Int64)), (vf_upd (σ.2.2.2) k0.toNatClampNeg FP.dconst0), (σ.1 56)⟩ ⟨(v_toBool_5 σ k0 x1 x3 x5 hpre_0 hpre_1 hpre_2 hpre_3 ex1 tx1 c2 ex3 tx3 c4 ex5 tx5 c6), (v_toBool_6 σ k0 x1 x3 x5 hpre_0 hpre_1 hpre_2 hpre_3 ex1 tx1 c2 ex3 tx3 c4 ex5 tx5 c6)⟩ hP hS dX12_toBool_154
      · have c6 : x5.toInt = 4 := by have h := z_eq c6; rw [show (4 : Int32).toInt = 4 from by decide +kernel] at h; exact h
        refine lv_aload_n hx hb dX12_toBool_88 rfl (lv_at hl 1 rfl) ?_
        refine lv_iload_n hx hb dX12_toBool_89 rfl (lv_at hl 2 rfl) ?_
        refine lv_bipush (v := 116) hx hb dX12_toBool_90 (by decide +kernel) ?_
        refine lv_bipush (v := 114) hx hb dX12_toBool_92 (by decide +kernel) ?_
        refine lv_bipush (v := 117) hx hb dX12_toBool_94 (by decide +kernel) ?_
        refine lv_bipush (v := 101) hx hb dX12_toBool_96 (by decide +kernel) ?_
        refine lv_iconst (v := 0) hx hb dX12_toBool_98 (by decide +kernel) ?_
        refine r_callVi (As := [.int k0, .int 116, .int 114, .int 117, .int 101, .int 0]) (rest := []) C hP hS hl.1 ⟨Nat.zero_le _, Nat.zero_le _⟩ (M_spells l D cy sz0 sa ad σ s.heap.size k0 (116 : Int32) (114 : Int32) (117 : Int32) (101 : Int32) (0 : Int32) (v_toBool_7 σ k0 x1 x3 x5 hpre_0 hpre_1 ex1 tx1 c2 ex3 tx3 c4 ex5 tx5 c6)) (n := 6) ⟨wm_249, wm_247, by decide +kernel⟩ ⟨wm_250, wm_251, wm_10⟩ rfl rfl (lv_room (Nat.le_of_ble_eq_true rfl)) ⟨Nat.le_of_ble_eq_true rfl, Nat.le_of_ble_eq_true rfl⟩ dX12_toBool_99 (fun r9 u H locs hr9 hP hS => ?_)
        obtain ⟨hr9, hr9y⟩ := hr9
        have hr9y : ∀ s9 : List Int, QTT ((σ.2.2.1 52) k0.toNatClampNeg) ((σ.2.2.1 53) k0.toNatClampNeg) s9 → 0 ≤ (0 : Int32).toInt → (r9.toInt = 0 → ¬ s9 = (if 0 < (0 : Int32).toInt then [(116 : Int32).toInt, (114 : Int32).toInt, (117 : Int32).toInt, (101 : Int32).toInt, (0 : Int32).toInt] else [(116 : Int32).toInt, (114 : Int32).toInt, (117 : Int32).toInt, (101 : Int32).toInt])) ∧ (¬ r9.toInt = 0 → s9 = (if 0 < (0 : Int32).toInt then [(116 : Int32).toInt, (114 : Int32).toInt, (117 : Int32).toInt, (101 : Int32).toInt, (0 : Int32).toInt] else [(116 : Int32).toInt, (114 : Int32).toInt, (117 : Int32).toInt, (101 : Int32).toInt])) := hr9y
        have hr9 : True := hr9
        refine lv_istore_n (lv' := [(2, .int r9), (0, .ref (ad 0)), (1, .int k0)]) hx hb dX12_toBool_102 rfl hl (by decide) rfl (fun ls hl => ?_)
        refine lv_aload_n hx hb dX12_toBool_103 rfl (lv_at hl 1 rfl) ?_
        refine lv_iload_n hx hb dX12_toBool_104 rfl (lv_at hl 0 rfl) ?_
        refine lv_if_ne (tgt := 126) hx hb dX12_toBool_105 (by decide) (fun c10 => ?_) (fun c10 => ?_)
        · have c10 : ¬ r9.toInt = 0 := by have h := z_ne c10; rw [show (0 : Int32).toInt = 0 from by decide +kernel] at h; exact h
          refine lv_aload_n hx hb dX12_toBool_126 rfl (lv_at hl 1 rfl) ?_
          refine rg_56 (v := (σ.1 56)) C hP rfl wm_242 dX12_toBool_127 ?_
          refine lv_goto (tgt := 135) hx hb dX12_toBool_130 (by decide) ?_
          refine rp_56 C hP hS wm_242 dX12_toBool_135 (fun H locs hP hS => ?_)
          refine lv_aload_n hx hb dX12_toBool_138 rfl (lv_at hl 1 rfl) ?_
          refine lv_iload_n hx hb dX12_toBool_139 rfl (lv_at hl 2 rfl) ?_
          refine lv_iconst (v := 1) hx hb dX12_toBool_140 (by decide +kernel) ?_
          refine lv_iload_n hx hb dX12_toBool_141 rfl (lv_at hl 0 rfl) ?_
          refine lv_if_eq (tgt := 149) hx hb dX12_toBool_142 (by decide) (fun c11 => ?_) (fun c11 => ?_)
          · have c11 : r9.toInt = 0 := by have h := z_eq c11; rw [show (0 : Int32).toInt = 0 from by decide +kernel] at h; exact h
            exact absurd (v_toBool_8 r9 c10 c11) id
          · have c11 : ¬ r9.toInt = 0 := by have h := z_ne c11; rw [show (0 : Int32).toInt = 0 from by decide +kernel] at h; exact h
            refine lv_lconst (v := 1) hx hb dX12_toBool_145 rfl ?_
            refine lv_goto (tgt := 150) hx hb dX12_toBool_146 (by decide) ?_
            refine lv_dconst0 hx hb dX12_toBool_150 ?_
            refine r_callVv (As := [.int k0, .int 1, .long 1, .double FP.dconst0]) (rest := []) C hP hS hl.1 ⟨Nat.zero_le _, Nat.zero_le _⟩ (M_set l D cy sz0 sa ad (rS σ 56 (σ.1 56)) H.size k0 (1 : Int32) (1 : Int64) FP.dconst0 (v_toBool_7 σ k0 x1 x3 x5 hpre_0 hpre_1 ex1 tx1 c2 ex3 tx3 c4 ex5 tx5 c6)) (n := 4) ⟨wm_213, wm_207, by decide +kernel⟩ ⟨wm_214, wm_215, wm_10⟩ rfl rfl (lv_room (Nat.le_of_ble_eq_true rfl)) ⟨Nat.le_of_ble_eq_true rfl, Nat.le_of_ble_eq_true rfl⟩ dX12_toBool_151 (fun u H locs hr12 hP hS => ?_)
            have hr12 : True := hr12
            have hP : RP D cy ad (rR (rJ (rJ (rA (rS σ 56 (σ.1 56)) 51 (upd (σ.2.1 51) k0.toNatClampNeg (1 : Int32))) 52 (vp_updL (σ.2.2.1 52) k0.toNatClampNeg (1 : Int64))) 53 (vp_updL (σ.2.2.1 53) k0.toNatClampNeg (0 : Int64))) (vf_upd (σ.2.2.2) k0.toNatClampNeg FP.dconst0)) H := hP
            have hP : RP D cy ad (rS (rR (rJ (rJ (rA σ 51 (upd (σ.2.1 51) k0.toNatClampNeg (1 : Int32))) 52 (vp_updL (σ.2.2.1 52) k0.toNatClampNeg (1 : Int64))) 53 (vp_updL (σ.2.2.1 53) k0.toNatClampNeg (0 : Int64))) (vf_upd (σ.2.2.2) k0.toNatClampNeg FP.dconst0)) 56 (σ.1 56)) H := RP.cong hP (Eq.trans (b := (σ.1 0)) rfl rfl) (Eq.trans (b := (σ.1 1)) rfl rfl) (Eq.trans (b := (σ.2.1 2)) rfl rfl) (Eq.trans (b := (σ.1 3)) rfl rfl) (Eq.trans (b := (σ.2.1 4)) rfl rfl) (Eq.trans (b := (σ.2.1 5)) rfl rfl) (Eq.trans (b := (σ.2.2.1 6)) rfl rfl) (Eq.trans (b := (σ.2.1 7)) rfl rfl) (Eq.trans (b := (σ.1 8)) rfl rfl) (Eq.trans (b := (σ.1 9)) rfl rfl) (Eq.trans (b := (σ.1 10)) rfl rfl) (Eq.trans (b := (σ.2.1 11)) rfl rfl) (Eq.trans (b := (σ.2.2.1 12)) rfl rfl) (Eq.trans (b := (σ.2.1 13)) rfl rfl) (Eq.trans (b := (σ.1 14)) rfl rfl) (Eq.trans (b := (σ.1 15)) rfl rfl) (Eq.trans (b := (σ.1 16)) rfl rfl) (Eq.trans (b := (σ.1 17)) rfl rfl) (Eq.trans (b := (σ.1 18)) rfl rfl) (Eq.trans (b := (σ.1 19)) rfl rfl) (Eq.trans (b := (σ.2.1 20)) rfl rfl) (Eq.trans (b := (σ.2.1 21)) rfl rfl) (Eq.trans (b := (σ.2.1 22)) rfl rfl) (Eq.trans (b := (σ.2.1 23)) rfl rfl) (Eq.trans (b := (σ.2.1 24)) rfl rfl) (Eq.trans (b := (σ.2.1 25)) rfl rfl) (Eq.trans (b := (σ.2.1 26)) rfl rfl) (Eq.trans (b := (σ.2.1 27)) rfl rfl) (Eq.trans (b := (σ.2.1 28)) rfl rfl) (Eq.trans (b := (σ.1 29)) rfl rfl) (Eq.trans (b := (σ.2.1 30)) rfl rfl) (Eq.trans (b := (σ.2.1 31)) rfl rfl) (Eq.trans (b := (σ.2.1 32)) rfl rfl) (Eq.trans (b := (σ.1 33)) rfl rfl) (Eq.trans (b := (σ.1 34)) rfl rfl) (Eq.trans (b := (σ.1 35)) rfl rfl) (Eq.trans (b := (σ.2.1 36)) rfl rfl) (Eq.trans (b := (σ.2.1 37)) rfl rfl) (Eq.trans (b := (σ.2.1 38)) rfl rfl) (Eq.trans (b := (σ.2.1 39)) rfl rfl) (Eq.trans (b := (σ.2.1 40)) rfl rfl) (Eq.trans (b := (σ.2.1 41)) rfl rfl) (Eq.trans (b := (σ.2.1 42)) rfl rfl) (Eq.trans (b := (σ.2.1 43)) rfl rfl) (Eq.trans (b := (σ.2.1 44)) rfl rfl) (Eq.trans (b := (σ.2.1 45)) rfl rfl) (Eq.trans (b := (σ.2.1 46)) rfl rfl) (Eq.trans (b := (σ.1 47)) rfl rfl) (Eq.trans (b := (σ.2.1 48)) rfl rfl) (Eq.trans (b := (σ.1 49)) rfl rfl) (Eq.trans (b := (σ.2.1 50)) rfl rfl) (Eq.trans (b := (upd (σ.2.1 51) k0.toNatClampNeg (1 : Int32))) rfl rfl) (Eq.trans (b := (vp_updL (σ.2.2.1 52) k0.toNatClampNeg (1 : Int64))) rfl rfl) (Eq.trans (b := (vp_updL (σ.2.2.1 53) k0.toNatClampNeg (0 : Int64))) rfl rfl) (Eq.trans (b := (vf_upd (σ.2.2.2) k0.toNatClampNeg FP.dconst0)) rfl rfl) (Eq.trans (b := (σ.1 55)) rfl rfl) (Eq.trans (b := (σ.1 56)) rfl rfl) (Eq.trans (b := (σ.1 57)) rfl rfl) (Eq.trans (b := (σ.2.1 58)) rfl rfl) (Eq.trans (b := (σ.1 59)) rfl rfl)
            exact r_retv C ⟨(upd (σ.2.1 51) k0.toNatClampNeg (1 : Int32)), (vp_updL (σ.2.2.1 52) k0.toNatClampNeg (1 : Int64)), (vp_updL (σ.2.2.1 53) k0.toNatClampNeg (0 : Int64)), (vf_upd (σ.2.2.2) k0.toNatClampNeg FP.dconst0), (σ.1 56)⟩ ⟨(v_toBool_9 σ k0 x1 x3 x5 hpre_0 hpre_1 hpre_2 hpre_3 ex1 tx1 c2 ex3 tx3 c4 ex5 tx5 c6), (v_toBool_10 σ k0 x1 x3 x5 r9 hpre_0 hpre_1 hpre_2 hpre_3 ex1 tx1 c2 ex3 tx3 c4 ex5 tx5 c6 hr9y c10 c11)⟩ hP hS dX12_toBool_154
        · have c10 : r9.toInt = 0 := by have h := z_eq c10; rw [show (0 : Int32).toInt = 0 from by decide +kernel] at h; exact h
          refine lv_aload_n hx hb dX12_toBool_108 rfl (lv_at hl 1 rfl) ?_
          refine lv_iload_n hx hb dX12_toBool_109 rfl (lv_at hl 2 rfl) ?_
          refine lv_bipush (v := 102) hx hb dX12_toBool_110 (by decide +kernel) ?_
          refine lv_bipush (v := 97) hx hb dX12_toBool_112 (by decide +kernel) ?_
          refine lv_bipush (v := 108) hx hb dX12_toBool_114 (by decide +kernel) ?_
          refine lv_bipush (v := 115) hx hb dX12_toBool_116 (by decide +kernel) ?_
          refine lv_bipush (v := 101) hx hb dX12_toBool_118 (by decide +kernel) ?_
          refine r_callVi (As := [.int k0, .int 102, .int 97, .int 108, .int 115, .int 101]) (rest := [.ref (ad 0)]) C hP hS hl.1 ⟨Nat.zero_le _, Nat.zero_le _⟩ (M_spells l D cy sz0 sa ad σ H.size k0 (102 : Int32) (97 : Int32) (108 : Int32) (115 : Int32) (101 : Int32) (v_toBool_7 σ k0 x1 x3 x5 hpre_0 hpre_1 ex1 tx1 c2 ex3 tx3 c4 ex5 tx5 c6)) (n := 6) ⟨wm_249, wm_247, by decide +kernel⟩ ⟨wm_250, wm_251, wm_10⟩ rfl rfl (lv_room (Nat.le_of_ble_eq_true rfl)) ⟨Nat.le_of_ble_eq_true rfl, Nat.le_of_ble_eq_true rfl⟩ dX12_toBool_120 (fun r13 u H locs hr13 hP hS => ?_)
          obtain ⟨hr13, hr13y⟩ := hr13
          have hr13y : ∀ s9 : List Int, QTT ((σ.2.2.1 52) k0.toNatClampNeg) ((σ.2.2.1 53) k0.toNatClampNeg) s9 → 0 ≤ (101 : Int32).toInt → (r13.toInt = 0 → ¬ s9 = (if 0 < (101 : Int32).toInt then [(102 : Int32).toInt, (97 : Int32).toInt, (108 : Int32).toInt, (115 : Int32).toInt, (101 : Int32).toInt] else [(102 : Int32).toInt, (97 : Int32).toInt, (108 : Int32).toInt, (115 : Int32).toInt])) ∧ (¬ r13.toInt = 0 → s9 = (if 0 < (101 : Int32).toInt then [(102 : Int32).toInt, (97 : Int32).toInt, (108 : Int32).toInt, (115 : Int32).toInt, (101 : Int32).toInt] else [(102 : Int32).toInt, (97 : Int32).toInt, (108 : Int32).toInt, (115 : Int32).toInt])) := hr13y
          have hr13 : True := hr13
          refine lv_if_eq (tgt := 133) hx hb dX12_toBool_123 (by decide) (fun c14 => ?_) (fun c14 => ?_)
          · have c14 : r13.toInt = 0 := by have h := z_eq c14; rw [show (0 : Int32).toInt = 0 from by decide +kernel] at h; exact h
            refine lv_bipush (v := 10) hx hb dX12_toBool_133 (by decide +kernel) ?_
            refine rp_56 C hP hS wm_242 dX12_toBool_135 (fun H locs hP hS => ?_)
            refine lv_aload_n hx hb dX12_toBool_138 rfl (lv_at hl 1 rfl) ?_
            refine lv_iload_n hx hb dX12_toBool_139 rfl (lv_at hl 2 rfl) ?_
            refine lv_iconst (v := 1) hx hb dX12_toBool_140 (by decide +kernel) ?_
            refine lv_iload_n hx hb dX12_toBool_141 rfl (lv_at hl 0 rfl) ?_
            refine lv_if_eq (tgt := 149) hx hb dX12_toBool_142 (by decide) (fun c15 => ?_) (fun c15 => ?_)
            · have c15 : r9.toInt = 0 := by have h := z_eq c15; rw [show (0 : Int32).toInt = 0 from by decide +kernel] at h; exact h
              refine lv_lconst (v := 0) hx hb dX12_toBool_149 rfl ?_
              refine lv_dconst0 hx hb dX12_toBool_150 ?_
              refine r_callVv (As := [.int k0, .int 1, .long 0, .double FP.dconst0]) (rest := []) C hP hS hl.1 ⟨Nat.zero_le _, Nat.zero_le _⟩ (M_set l D cy sz0 sa ad (rS σ 56 (10 : Int32)) H.size k0 (1 : Int32) (0 : Int64) FP.dconst0 (v_toBool_7 σ k0 x1 x3 x5 hpre_0 hpre_1 ex1 tx1 c2 ex3 tx3 c4 ex5 tx5 c6)) (n := 4) ⟨wm_213, wm_207, by decide +kernel⟩ ⟨wm_214, wm_215, wm_10⟩ rfl rfl (lv_room (Nat.le_of_ble_eq_true rfl)) ⟨Nat.le_of_ble_eq_true rfl, Nat.le_of_ble_eq_true rfl⟩ dX12_toBool_151 (fun u H locs hr16 hP hS => ?_)
              have hr16 : True := hr16
              have hP : RP D cy ad (rR (rJ (rJ (rA (rS σ 56 (10 : Int32)) 51 (upd (σ.2.1 51) k0.toNatClampNeg (1 : Int32))) 52 (vp_updL (σ.2.2.1 52) k0.toNatClampNeg (0 : Int64))) 53 (vp_updL (σ.2.2.1 53) k0.toNatClampNeg (0 : Int64))) (vf_upd (σ.2.2.2) k0.toNatClampNeg FP.dconst0)) H := hP
              have hP : RP D cy ad (rS (rR (rJ (rJ (rA σ 51 (upd (σ.2.1 51) k0.toNatClampNeg (1 : Int32))) 52 (vp_updL (σ.2.2.1 52) k0.toNatClampNeg (0 : Int64))) 53 (vp_updL (σ.2.2.1 53) k0.toNatClampNeg (0 : Int64))) (vf_upd (σ.2.2.2) k0.toNatClampNeg FP.dconst0)) 56 (10 : Int32)) H := RP.cong hP (Eq.trans (b := (σ.1 0)) rfl rfl) (Eq.trans (b := (σ.1 1)) rfl rfl) (Eq.trans (b := (σ.2.1 2)) rfl rfl) (Eq.trans (b := (σ.1 3)) rfl rfl) (Eq.trans (b := (σ.2.1 4)) rfl rfl) (Eq.trans (b := (σ.2.1 5)) rfl rfl) (Eq.trans (b := (σ.2.2.1 6)) rfl rfl) (Eq.trans (b := (σ.2.1 7)) rfl rfl) (Eq.trans (b := (σ.1 8)) rfl rfl) (Eq.trans (b := (σ.1 9)) rfl rfl) (Eq.trans (b := (σ.1 10)) rfl rfl) (Eq.trans (b := (σ.2.1 11)) rfl rfl) (Eq.trans (b := (σ.2.2.1 12)) rfl rfl) (Eq.trans (b := (σ.2.1 13)) rfl rfl) (Eq.trans (b := (σ.1 14)) rfl rfl) (Eq.trans (b := (σ.1 15)) rfl rfl) (Eq.trans (b := (σ.1 16)) rfl rfl) (Eq.trans (b := (σ.1 17)) rfl rfl) (Eq.trans (b := (σ.1 18)) rfl rfl) (Eq.trans (b := (σ.1 19)) rfl rfl) (Eq.trans (b := (σ.2.1 20)) rfl rfl) (Eq.trans (b := (σ.2.1 21)) rfl rfl) (Eq.trans (b := (σ.2.1 22)) rfl rfl) (Eq.trans (b := (σ.2.1 23)) rfl rfl) (Eq.trans (b := (σ.2.1 24)) rfl rfl) (Eq.trans (b := (σ.2.1 25)) rfl rfl) (Eq.trans (b := (σ.2.1 26)) rfl rfl) (Eq.trans (b := (σ.2.1 27)) rfl rfl) (Eq.trans (b := (σ.2.1 28)) rfl rfl) (Eq.trans (b := (σ.1 29)) rfl rfl) (Eq.trans (b := (σ.2.1 30)) rfl rfl) (Eq.trans (b := (σ.2.1 31)) rfl rfl) (Eq.trans (b := (σ.2.1 32)) rfl rfl) (Eq.trans (b := (σ.1 33)) rfl rfl) (Eq.trans (b := (σ.1 34)) rfl rfl) (Eq.trans (b := (σ.1 35)) rfl rfl) (Eq.trans (b := (σ.2.1 36)) rfl rfl) (Eq.trans (b := (σ.2.1 37)) rfl rfl) (Eq.trans (b := (σ.2.1 38)) rfl rfl) (Eq.trans (b := (σ.2.1 39)) rfl rfl) (Eq.trans (b := (σ.2.1 40)) rfl rfl) (Eq.trans (b := (σ.2.1 41)) rfl rfl) (Eq.trans (b := (σ.2.1 42)) rfl rfl) (Eq.trans (b := (σ.2.1 43)) rfl rfl) (Eq.trans (b := (σ.2.1 44)) rfl rfl) (Eq.trans (b := (σ.2.1 45)) rfl rfl) (Eq.trans (b := (σ.2.1 46)) rfl rfl) (Eq.trans (b := (σ.1 47)) rfl rfl) (Eq.trans (b := (σ.2.1 48)) rfl rfl) (Eq.trans (b := (σ.1 49)) rfl rfl) (Eq.trans (b := (σ.2.1 50)) rfl rfl) (Eq.trans (b := (upd (σ.2.1 51) k0.toNatClampNeg (1 : Int32))) rfl rfl) (Eq.trans (b := (vp_updL (σ.2.2.1 52) k0.toNatClampNeg (0 : Int64))) rfl rfl) (Eq.trans (b := (vp_updL (σ.2.2.1 53) k0.toNatClampNeg (0 : Int64))) rfl rfl) (Eq.trans (b := (vf_upd (σ.2.2.2) k0.toNatClampNeg FP.dconst0)) rfl rfl) (Eq.trans (b := (σ.1 55)) rfl rfl) (Eq.trans (b := (10 : Int32)) rfl rfl) (Eq.trans (b := (σ.1 57)) rfl rfl) (Eq.trans (b := (σ.2.1 58)) rfl rfl) (Eq.trans (b := (σ.1 59)) rfl rfl)
              exact r_retv C ⟨(upd (σ.2.1 51) k0.toNatClampNeg (1 : Int32)), (vp_updL (σ.2.2.1 52) k0.toNatClampNeg (0 : Int64)), (vp_updL (σ.2.2.1 53) k0.toNatClampNeg (0 : Int64)), (vf_upd (σ.2.2.2) k0.toNatClampNeg FP.dconst0), (10 : Int32)⟩ ⟨(v_toBool_11 σ k0 x1 x3 x5 hpre_0 hpre_1 ex1 tx1 c2 ex3 tx3 c4 ex5 tx5 c6), (v_toBool_12 σ k0 x1 x3 x5 r9 r13 hpre_0 hpre_1 hpre_2 hpre_3 ex1 tx1 c2 ex3 tx3 c4 ex5 tx5 c6 hr9y c10 hr13y c14 c15)⟩ hP hS dX12_toBool_154
            · have c15 : ¬ r9.toInt = 0 := by have h := z_ne c15; rw [show (0 : Int32).toInt = 0 from by decide +kernel] at h; exact h
              exact absurd (v_toBool_13 r9 c10 c15) id
          · have c14 : ¬ r13.toInt = 0 := by have h := z_ne c14; rw [show (0 : Int32).toInt = 0 from by decide +kernel] at h; exact h
            refine lv_aload_n hx hb dX12_toBool_126 rfl (lv_at hl 1 rfl) ?_
            refine rg_56 (v := (σ.1 56)) C hP rfl wm_242 dX12_toBool_127 ?_
            refine lv_goto (tgt := 135) hx hb dX12_toBool_130 (by decide) ?_
            refine rp_56 C hP hS wm_242 dX12_toBool_135 (fun H locs hP hS => ?_)
            refine lv_aload_n hx hb dX12_toBool_138 rfl (lv_at hl 1 rfl) ?_
            refine lv_iload_n hx hb dX12_toBool_139 rfl (lv_at hl 2 rfl) ?_
            refine lv_iconst (v := 1) hx hb dX12_toBool_140 (by decide +kernel) ?_
            refine lv_iload_n hx hb dX12_toBool_141 rfl (lv_at hl 0 rfl) ?_
            refine lv_if_eq (tgt := 149) hx hb dX12_toBool_142 (by decide) (fun c17 => ?_) (fun c17 => ?_)
            · have c17 : r9.toInt = 0 := by have h := z_eq c17; rw [show (0 : Int32).toInt = 0 from by decide +kernel] at h; exact h
              refine lv_lconst (v := 0) hx hb dX12_toBool_149 rfl ?_
              refine lv_dconst0 hx hb dX12_toBool_150 ?_
              refine r_callVv (As := [.int k0, .int 1, .long 0, .double FP.dconst0]) (rest := []) C hP hS hl.1 ⟨Nat.zero_le _, Nat.zero_le _⟩ (M_set l D cy sz0 sa ad (rS σ 56 (σ.1 56)) H.size k0 (1 : Int32) (0 : Int64) FP.dconst0 (v_toBool_7 σ k0 x1 x3 x5 hpre_0 hpre_1 ex1 tx1 c2 ex3 tx3 c4 ex5 tx5 c6)) (n := 4) ⟨wm_213, wm_207, by decide +kernel⟩ ⟨wm_214, wm_215, wm_10⟩ rfl rfl (lv_room (Nat.le_of_ble_eq_true rfl)) ⟨Nat.le_of_ble_eq_true rfl, Nat.le_of_ble_eq_true rfl⟩ dX12_toBool_151 (fun u H locs hr18 hP hS => ?_)
              have hr18 : True := hr18
              have hP : RP D cy ad (rR (rJ (rJ (rA (rS σ 56 (σ.1 56)) 51 (upd (σ.2.1 51) k0.toNatClampNeg (1 : Int32))) 52 (vp_updL (σ.2.2.1 52) k0.toNatClampNeg (0 : Int64))) 53 (vp_updL (σ.2.2.1 53) k0.toNatClampNeg (0 : Int64))) (vf_upd (σ.2.2.2) k0.toNatClampNeg FP.dconst0)) H := hP
              have hP : RP D cy ad (rS (rR (rJ (rJ (rA σ 51 (upd (σ.2.1 51) k0.toNatClampNeg (1 : Int32))) 52 (vp_updL (σ.2.2.1 52) k0.toNatClampNeg (0 : Int64))) 53 (vp_updL (σ.2.2.1 53) k0.toNatClampNeg (0 : Int64))) (vf_upd (σ.2.2.2) k0.toNatClampNeg FP.dconst0)) 56 (σ.1 56)) H := RP.cong hP (Eq.trans (b := (σ.1 0)) rfl rfl) (Eq.trans (b := (σ.1 1)) rfl rfl) (Eq.trans (b := (σ.2.1 2)) rfl rfl) (Eq.trans (b := (σ.1 3)) rfl rfl) (Eq.trans (b := (σ.2.1 4)) rfl rfl) (Eq.trans (b := (σ.2.1 5)) rfl rfl) (Eq.trans (b := (σ.2.2.1 6)) rfl rfl) (Eq.trans (b := (σ.2.1 7)) rfl rfl) (Eq.trans (b := (σ.1 8)) rfl rfl) (Eq.trans (b := (σ.1 9)) rfl rfl) (Eq.trans (b := (σ.1 10)) rfl rfl) (Eq.trans (b := (σ.2.1 11)) rfl rfl) (Eq.trans (b := (σ.2.2.1 12)) rfl rfl) (Eq.trans (b := (σ.2.1 13)) rfl rfl) (Eq.trans (b := (σ.1 14)) rfl rfl) (Eq.trans (b := (σ.1 15)) rfl rfl) (Eq.trans (b := (σ.1 16)) rfl rfl) (Eq.trans (b := (σ.1 17)) rfl rfl) (Eq.trans (b := (σ.1 18)) rfl rfl) (Eq.trans (b := (σ.1 19)) rfl rfl) (Eq.trans (b := (σ.2.1 20)) rfl rfl) (Eq.trans (b := (σ.2.1 21)) rfl rfl) (Eq.trans (b := (σ.2.1 22)) rfl rfl) (Eq.trans (b := (σ.2.1 23)) rfl rfl) (Eq.trans (b := (σ.2.1 24)) rfl rfl) (Eq.trans (b := (σ.2.1 25)) rfl rfl) (Eq.trans (b := (σ.2.1 26)) rfl rfl) (Eq.trans (b := (σ.2.1 27)) rfl rfl) (Eq.trans (b := (σ.2.1 28)) rfl rfl) (Eq.trans (b := (σ.1 29)) rfl rfl) (Eq.trans (b := (σ.2.1 30)) rfl rfl) (Eq.trans (b := (σ.2.1 31)) rfl rfl) (Eq.trans (b := (σ.2.1 32)) rfl rfl) (Eq.trans (b := (σ.1 33)) rfl rfl) (Eq.trans (b := (σ.1 34)) rfl rfl) (Eq.trans (b := (σ.1 35)) rfl rfl) (Eq.trans (b := (σ.2.1 36)) rfl rfl) (Eq.trans (b := (σ.2.1 37)) rfl rfl) (Eq.trans (b := (σ.2.1 38)) rfl rfl) (Eq.trans (b := (σ.2.1 39)) rfl rfl) (Eq.trans (b := (σ.2.1 40)) rfl rfl) (Eq.trans (b := (σ.2.1 41)) rfl rfl) (Eq.trans (b := (σ.2.1 42)) rfl rfl) (Eq.trans (b := (σ.2.1 43)) rfl rfl) (Eq.trans (b := (σ.2.1 44)) rfl rfl) (Eq.trans (b := (σ.2.1 45)) rfl rfl) (Eq.trans (b := (σ.2.1 46)) rfl rfl) (Eq.trans (b := (σ.1 47)) rfl rfl) (Eq.trans (b := (σ.2.1 48)) rfl rfl) (Eq.trans (b := (σ.1 49)) rfl rfl) (Eq.trans (b := (σ.2.1 50)) rfl rfl) (Eq.trans (b := (upd (σ.2.1 51) k0.toNatClampNeg (1 : Int32))) rfl rfl) (Eq.trans (b := (vp_updL (σ.2.2.1 52) k0.toNatClampNeg (0 : Int64))) rfl rfl) (Eq.trans (b := (vp_updL (σ.2.2.1 53) k0.toNatClampNeg (0 : Int64))) rfl rfl) (Eq.trans (b := (vf_upd (σ.2.2.2) k0.toNatClampNeg FP.dconst0)) rfl rfl) (Eq.trans (b := (σ.1 55)) rfl rfl) (Eq.trans (b := (σ.1 56)) rfl rfl) (Eq.trans (b := (σ.1 57)) rfl rfl) (Eq.trans (b := (σ.2.1 58)) rfl rfl) (Eq.trans (b := (σ.1 59)) rfl rfl)
              exact r_retv C ⟨(upd (σ.2.1 51) k0.toNatClampNeg (1 : Int32)), (vp_updL (σ.2.2.1 52) k0.toNatClampNeg (0 : Int64)), (vp_updL (σ.2.2.1 53) k0.toNatClampNeg (0 : Int64)), (vf_upd (σ.2.2.2) k0.toNatClampNeg FP.dconst0), (σ.1 56)⟩ ⟨(v_toBool_14 σ k0 x1 x3 x5 hpre_0 hpre_1 hpre_2 hpre_3 ex1 tx1 c2 ex3 tx3 c4 ex5 tx5 c6), (v_toBool_15 σ k0 x1 x3 x5 r9 r13 hpre_0 hpre_1 hpre_2 hpre_3 ex1 tx1 c2 ex3 tx3 c4 ex5 tx5 c6 hr9y c10 hr13y c14 c17)⟩ hP hS dX12_toBool_154
            · have c17 : ¬ r9.toInt = 0 := by have h := z_ne c17; rw [show (0 : Int32).toInt = 0 from by decide +kernel] at h; exact h
              exact absurd (v_toBool_16 r9 c10 c17) id
    · have c4 : x3.toInt = 3 := by have h := z_eq c4; rw [show (3 : Int32).toInt = 3 from by decide +kernel] at h; exact h
      refine lv_aload_n hx hb dX12_toBool_58 rfl (lv_at hl 1 rfl) ?_
      refine rg_54 C hP wm_209 dX12_toBool_59 ?_
      refine lv_iload_n hx hb dX12_toBool_62 rfl (lv_at hl 2 rfl) ?_
      refine ra_54 (f := (σ.2.2.2)) C hP rfl (v_toBool_17 σ k0 x1 x3 hpre_0 hpre_1 ex1 tx1 c2 ex3 tx3 c4) dX12_toBool_63 (fun x19 ex19 => ?_)
      refine lv_dconst0 hx hb dX12_toBool_64 ?_
      refine lv_dcmp hx hb dX12_toBool_65 ?_
      refine lv_topi (fun x20 ex20 => ?_)
      refine lv_if_eq (tgt := 73) hx hb dX12_toBool_66 (by decide) (fun c21 => ?_) (fun c21 => ?_)
      · have c21 : x20.toInt = 0 := by have h := z_eq c21; rw [show (0 : Int32).toInt = 0 from by decide +kernel] at h; exact h
        refine lv_iconst (v := 0) hx hb dX12_toBool_73 (by decide +kernel) ?_
        refine lv_istore_n (lv' := [(2, .int 0), (0, .ref (ad 0)), (1, .int k0)]) hx hb dX12_toBool_74 rfl hl (by decide) rfl (fun ls hl => ?_)
        refine lv_goto (tgt := 138) hx hb dX12_toBool_75 (by decide) ?_
        refine lv_aload_n hx hb dX12_toBool_138 rfl (lv_at hl 1 rfl) ?_
        refine lv_iload_n hx hb dX12_toBool_139 rfl (lv_at hl 2 rfl) ?_
        refine lv_iconst (v := 1) hx hb dX12_toBool_140 (by decide +kernel) ?_
        refine lv_iload_n hx hb dX12_toBool_141 rfl (lv_at hl 0 rfl) ?_
        refine lv_if_eq (tgt := 149) hx hb dX12_toBool_142 (by decide) (fun _ => ?_) (fun c22 => absurd (by decide +kernel) c22)
        refine lv_lconst (v := 0) hx hb dX12_toBool_149 rfl ?_
        refine lv_dconst0 hx hb dX12_toBool_150 ?_
        refine r_callVv (As := [.int k0, .int 1, .long 0, .double FP.dconst0]) (rest := []) C hP hS hl.1 ⟨Nat.zero_le _, Nat.zero_le _⟩ (M_set l D cy sz0 sa ad σ s.heap.size k0 (1 : Int32) (0 : Int64) FP.dconst0 (v_toBool_18 σ k0 x1 x3 x19 x20 hpre_0 hpre_1 ex1 tx1 c2 ex3 tx3 c4 ex19 ex20 c21)) (n := 4) ⟨wm_213, wm_207, by decide +kernel⟩ ⟨wm_214, wm_215, wm_10⟩ rfl rfl (lv_room (Nat.le_of_ble_eq_true rfl)) ⟨Nat.le_of_ble_eq_true rfl, Nat.le_of_ble_eq_true rfl⟩ dX12_toBool_151 (fun u H locs hr23 hP hS => ?_)
        have hr23 : True := hr23
        have hP : RP D cy ad (rR (rJ (rJ (rA σ 51 (upd (σ.2.1 51) k0.toNatClampNeg (1 : Int32))) 52 (vp_updL (σ.2.2.1 52) k0.toNatClampNeg (0 : Int64))) 53 (vp_updL (σ.2.2.1 53) k0.toNatClampNeg (0 : Int64))) (vf_upd (σ.2.2.2) k0.toNatClampNeg FP.dconst0)) H := hP
        have hP : RP D cy ad (rS (rR (rJ (rJ (rA σ 51 (upd (σ.2.1 51) k0.toNatClampNeg (1 : Int32))) 52 (vp_updL (σ.2.2.1 52) k0.toNatClampNeg (0 : Int64))) 53 (vp_updL (σ.2.2.1 53) k0.toNatClampNeg (0 : Int64))) (vf_upd (σ.2.2.2) k0.toNatClampNeg FP.dconst0)) 56 (σ.1 56)) H := RP.cong hP (Eq.trans (b := (σ.1 0)) rfl rfl) (Eq.trans (b := (σ.1 1)) rfl rfl) (Eq.trans (b := (σ.2.1 2)) rfl rfl) (Eq.trans (b := (σ.1 3)) rfl rfl) (Eq.trans (b := (σ.2.1 4)) rfl rfl) (Eq.trans (b := (σ.2.1 5)) rfl rfl) (Eq.trans (b := (σ.2.2.1 6)) rfl rfl) (Eq.trans (b := (σ.2.1 7)) rfl rfl) (Eq.trans (b := (σ.1 8)) rfl rfl) (Eq.trans (b := (σ.1 9)) rfl rfl) (Eq.trans (b := (σ.1 10)) rfl rfl) (Eq.trans (b := (σ.2.1 11)) rfl rfl) (Eq.trans (b := (σ.2.2.1 12)) rfl rfl) (Eq.trans (b := (σ.2.1 13)) rfl rfl) (Eq.trans (b := (σ.1 14)) rfl rfl) (Eq.trans (b := (σ.1 15)) rfl rfl) (Eq.trans (b := (σ.1 16)) rfl rfl) (Eq.trans (b := (σ.1 17)) rfl rfl) (Eq.trans (b := (σ.1 18)) rfl rfl) (Eq.trans (b := (σ.1 19)) rfl rfl) (Eq.trans (b := (σ.2.1 20)) rfl rfl) (Eq.trans (b := (σ.2.1 21)) rfl rfl) (Eq.trans (b := (σ.2.1 22)) rfl rfl) (Eq.trans (b := (σ.2.1 23)) rfl rfl) (Eq.trans (b := (σ.2.1 24)) rfl rfl) (Eq.trans (b := (σ.2.1 25)) rfl rfl) (Eq.trans (b := (σ.2.1 26)) rfl rfl) (Eq.trans (b := (σ.2.1 27)) rfl rfl) (Eq.trans (b := (σ.2.1 28)) rfl rfl) (Eq.trans (b := (σ.1 29)) rfl rfl) (Eq.trans (b := (σ.2.1 30)) rfl rfl) (Eq.trans (b := (σ.2.1 31)) rfl rfl) (Eq.trans (b := (σ.2.1 32)) rfl rfl) (Eq.trans (b := (σ.1 33)) rfl rfl) (Eq.trans (b := (σ.1 34)) rfl rfl) (Eq.trans (b := (σ.1 35)) rfl rfl) (Eq.trans (b := (σ.2.1 36)) rfl rfl) (Eq.trans (b := (σ.2.1 37)) rfl rfl) (Eq.trans (b := (σ.2.1 38)) rfl rfl) (Eq.trans (b := (σ.2.1 39)) rfl rfl) (Eq.trans (b := (σ.2.1 40)) rfl rfl) (Eq.trans (b := (σ.2.1 41)) rfl rfl) (Eq.trans (b := (σ.2.1 42)) rfl rfl) (Eq.trans (b := (σ.2.1 43)) rfl rfl) (Eq.trans (b := (σ.2.1 44)) rfl rfl) (Eq.trans (b := (σ.2.1 45)) rfl rfl) (Eq.trans (b := (σ.2.1 46)) rfl rfl) (Eq.trans (b := (σ.1 47)) rfl rfl) (Eq.trans (b := (σ.2.1 48)) rfl rfl) (Eq.trans (b := (σ.1 49)) rfl rfl) (Eq.trans (b := (σ.2.1 50)) rfl rfl) (Eq.trans (b := (upd (σ.2.1 51) k0.toNatClampNeg (1 : Int32))) rfl rfl) (Eq.trans (b := (vp_updL (σ.2.2.1 52) k0.toNatClampNeg (0 : Int64))) rfl rfl) (Eq.trans (b := (vp_updL (σ.2.2.1 53) k0.toNatClampNeg (0 : Int64))) rfl rfl) (Eq.trans (b := (vf_upd (σ.2.2.2) k0.toNatClampNeg FP.dconst0)) rfl rfl) (Eq.trans (b := (σ.1 55)) rfl rfl) (Eq.trans (b := (σ.1 56)) rfl rfl) (Eq.trans (b := (σ.1 57)) rfl rfl) (Eq.trans (b := (σ.2.1 58)) rfl rfl) (Eq.trans (b := (σ.1 59)) rfl rfl)
        exact r_retv C ⟨(upd (σ.2.1 51) k0.toNatClampNeg (1 : Int32)), (vp_updL (σ.2.2.1 52) k0.toNatClampNeg (0 : Int64)), (vp_updL (σ.2.2.1 53) k0.toNatClampNeg (0 : Int64)), (vf_upd (σ.2.2.2) k0.toNatClampNeg FP.dconst0), (σ.1 56)⟩ ⟨(v_toBool_19 σ k0 x1 x3 x19 x20 hpre_0 hpre_1 hpre_2 hpre_3 ex1 tx1 c2 ex3 tx3 c4 ex19 ex20 c21), (v_toBool_20 σ k0 x1 x3 x19 x20 hpre_0 hpre_1 hpre_2 hpre_3 ex1 tx1 c2 ex3 tx3 c4 ex19 ex20 c21)⟩ hP hS dX12_toBool_154
      · have c21 : ¬ x20.toInt = 0 := by have h := z_ne c21; rw [show (0 : Int32).toInt = 0 from by decide +kernel] at h; exact h
        refine lv_iconst (v := 1) hx hb dX12_toBool_69 (by decide +kernel) ?_
        refine lv_goto (tgt := 74) hx hb dX12_toBool_70 (by decide) ?_
        refine lv_istore_n (lv' := [(2, .int 1), (0, .ref (ad 0)), (1, .int k0)]) hx hb dX12_toBool_74 rfl hl (by decide) rfl (fun ls hl => ?_)
        refine lv_goto (tgt := 138) hx hb dX12_toBool_75 (by decide) ?_
        refine lv_aload_n hx hb dX12_toBool_138 rfl (lv_at hl 1 rfl) ?_
        refine lv_iload_n hx hb dX12_toBool_139 rfl (lv_at hl 2 rfl) ?_
        refine lv_iconst (v := 1) hx hb dX12_toBool_140 (by decide +kernel) ?_
        refine lv_iload_n hx hb dX12_toBool_141 rfl (lv_at hl 0 rfl) ?_
        refine lv_if_eq (tgt := 149) hx hb dX12_toBool_142 (by decide) (fun c24 => absurd c24 (by decide +kernel)) (fun _ => ?_)
        refine lv_lconst (v := 1) hx hb dX12_toBool_145 rfl ?_
        refine lv_goto (tgt := 150) hx hb dX12_toBool_146 (by decide) ?_
        refine lv_dconst0 hx hb dX12_toBool_150 ?_
        refine r_callVv (As := [.int k0, .int 1, .long 1, .double FP.dconst0]) (rest := []) C hP hS hl.1 ⟨Nat.zero_le _, Nat.zero_le _⟩ (M_set l D cy sz0 sa ad σ s.heap.size k0 (1 : Int32) (1 : Int64) FP.dconst0 (v_toBool_21 σ k0 x1 x3 x19 x20 hpre_0 hpre_1 ex1 tx1 c2 ex3 tx3 c4 ex19 ex20 c21)) (n := 4) ⟨wm_213, wm_207, by decide +kernel⟩ ⟨wm_214, wm_215, wm_10⟩ rfl rfl (lv_room (Nat.le_of_ble_eq_true rfl)) ⟨Nat.le_of_ble_eq_true rfl, Nat.le_of_ble_eq_true rfl⟩ dX12_toBool_151 (fun u H locs hr25 hP hS => ?_)
        have hr25 : True := hr25
        have hP : RP D cy ad (rR (rJ (rJ (rA σ 51 (upd (σ.2.1 51) k0.toNatClampNeg (1 : Int32))) 52 (vp_updL (σ.2.2.1 52) k0.toNatClampNeg (1 : Int64))) 53 (vp_updL (σ.2.2.1 53) k0.toNatClampNeg (0 : Int64))) (vf_upd (σ.2.2.2) k0.toNatClampNeg FP.dconst0)) H := hP
        have hP : RP D cy ad (rS (rR (rJ (rJ (rA σ 51 (upd (σ.2.1 51) k0.toNatClampNeg (1 : Int32))) 52 (vp_updL (σ.2.2.1 52) k0.toNatClampNeg (1 : Int64))) 53 (vp_updL (σ.2.2.1 53) k0.toNatClampNeg (0 : Int64))) (vf_upd (σ.2.2.2) k0.toNatClampNeg FP.dconst0)) 56 (σ.1 56)) H := RP.cong hP (Eq.trans (b := (σ.1 0)) rfl rfl) (Eq.trans (b := (σ.1 1)) rfl rfl) (Eq.trans (b := (σ.2.1 2)) rfl rfl) (Eq.trans (b := (σ.1 3)) rfl rfl) (Eq.trans (b := (σ.2.1 4)) rfl rfl) (Eq.trans (b := (σ.2.1 5)) rfl rfl) (Eq.trans (b := (σ.2.2.1 6)) rfl rfl) (Eq.trans (b := (σ.2.1 7)) rfl rfl) (Eq.trans (b := (σ.1 8)) rfl rfl) (Eq.trans (b := (σ.1 9)) rfl rfl) (Eq.trans (b := (σ.1 10)) rfl rfl) (Eq.trans (b := (σ.2.1 11)) rfl rfl) (Eq.trans (b := (σ.2.2.1 12)) rfl rfl) (Eq.trans (b := (σ.2.1 13)) rfl rfl) (Eq.trans (b := (σ.1 14)) rfl rfl) (Eq.trans (b := (σ.1 15)) rfl rfl) (Eq.trans (b := (σ.1 16)) rfl rfl) (Eq.trans (b := (σ.1 17)) rfl rfl) (Eq.trans (b := (σ.1 18)) rfl rfl) (Eq.trans (b := (σ.1 19)) rfl rfl) (Eq.trans (b := (σ.2.1 20)) rfl rfl) (Eq.trans (b := (σ.2.1 21)) rfl rfl) (Eq.trans (b := (σ.2.1 22)) rfl rfl) (Eq.trans (b := (σ.2.1 23)) rfl rfl) (Eq.trans (b := (σ.2.1 24)) rfl rfl) (Eq.trans (b := (σ.2.1 25)) rfl rfl) (Eq.trans (b := (σ.2.1 26)) rfl rfl) (Eq.trans (b := (σ.2.1 27)) rfl rfl) (Eq.trans (b := (σ.2.1 28)) rfl rfl) (Eq.trans (b := (σ.1 29)) rfl rfl) (Eq.trans (b := (σ.2.1 30)) rfl rfl) (Eq.trans (b := (σ.2.1 31)) rfl rfl) (Eq.trans (b := (σ.2.1 32)) rfl rfl) (Eq.trans (b := (σ.1 33)) rfl rfl) (Eq.trans (b := (σ.1 34)) rfl rfl) (Eq.trans (b := (σ.1 35)) rfl rfl) (Eq.trans (b := (σ.2.1 36)) rfl rfl) (Eq.trans (b := (σ.2.1 37)) rfl rfl) (Eq.trans (b := (σ.2.1 38)) rfl rfl) (Eq.trans (b := (σ.2.1 39)) rfl rfl) (Eq.trans (b := (σ.2.1 40)) rfl rfl) (Eq.trans (b := (σ.2.1 41)) rfl rfl) (Eq.trans (b := (σ.2.1 42)) rfl rfl) (Eq.trans (b := (σ.2.1 43)) rfl rfl) (Eq.trans (b := (σ.2.1 44)) rfl rfl) (Eq.trans (b := (σ.2.1 45)) rfl rfl) (Eq.trans (b := (σ.2.1 46)) rfl rfl) (Eq.trans (b := (σ.1 47)) rfl rfl) (Eq.trans (b := (σ.2.1 48)) rfl rfl) (Eq.trans (b := (σ.1 49)) rfl rfl) (Eq.trans (b := (σ.2.1 50)) rfl rfl) (Eq.trans (b := (upd (σ.2.1 51) k0.toNatClampNeg (1 : Int32))) rfl rfl) (Eq.trans (b := (vp_updL (σ.2.2.1 52) k0.toNatClampNeg (1 : Int64))) rfl rfl) (Eq.trans (b := (vp_updL (σ.2.2.1 53) k0.toNatClampNeg (0 : Int64))) rfl rfl) (Eq.trans (b := (vf_upd (σ.2.2.2) k0.toNatClampNeg FP.dconst0)) rfl rfl) (Eq.trans (b := (σ.1 55)) rfl rfl) (Eq.trans (b := (σ.1 56)) rfl rfl) (Eq.trans (b := (σ.1 57)) rfl rfl) (Eq.trans (b := (σ.2.1 58)) rfl rfl) (Eq.trans (b := (σ.1 59)) rfl rfl)
        exact r_retv C ⟨(upd (σ.2.1 51) k0.toNatClampNeg (1 : Int32)), (vp_updL (σ.2.2.1 52) k0.toNatClampNeg (1 : Int64)), (vp_updL (σ.2.2.1 53) k0.toNatClampNeg (0 : Int64)), (vf_upd (σ.2.2.2) k0.toNatClampNeg FP.dconst0), (σ.1 56)⟩ ⟨(v_toBool_22 σ k0 x1 x3 x19 x20 hpre_0 hpre_1 hpre_2 hpre_3 ex1 tx1 c2 ex3 tx3 c4 ex19 ex20 c21), (v_toBool_23 σ k0 x1 x3 x19 x20 hpre_0 hpre_1 hpre_2 hpre_3 ex1 tx1 c2 ex3 tx3 c4 ex19 ex20 c21)⟩ hP hS dX12_toBool_154
  · have c2 : x1.toInt < 8 := by have h := z_nle c2; rw [show (8 : Int32).toInt = 8 from by decide +kernel] at h; exact h
    refine lv_aload_n hx hb dX12_toBool_11 rfl (lv_at hl 0 rfl) ?_
    refine rg_51 C hP wm_205 dX12_toBool_12 ?_
    refine lv_iload_n hx hb dX12_toBool_15 rfl (lv_at hl 1 rfl) ?_
    refine ra_51 (f := (σ.2.1 51)) C hP rfl (v_toBool_24 σ k0 x1 hpre_0 hpre_1 ex1 tx1 c2) dX12_toBool_16 (fun x26 ex26 => ?_)
    have tx26 : x26.toInt = ((σ.2.1 51) k0.toNatClampNeg).toInt := by rw [ex26]
    refine lv_iconst (v := 3) hx hb dX12_toBool_17 (by decide +kernel) ?_
    refine lv_icmp_eq (tgt := 46) hx hb dX12_toBool_18 (by decide) (fun c27 => ?_) (fun c27 => ?_)
    · have c27 : x26.toInt = 3 := by have h := z_eq c27; rw [show (3 : Int32).toInt = 3 from by decide +kernel] at h; exact h
      refine lv_iconst (v := 0) hx hb dX12_toBool_46 (by decide +kernel) ?_
      refine lv_istore_n (lv' := [(2, .int 0), (0, .ref (ad 0)), (1, .int k0)]) hx hb dX12_toBool_47 rfl hl (by decide) rfl (fun ls hl => ?_)
      refine lv_aload_n hx hb dX12_toBool_48 rfl (lv_at hl 1 rfl) ?_
      refine rg_51 C hP wm_205 dX12_toBool_49 ?_
      refine lv_iload_n hx hb dX12_toBool_52 rfl (lv_at hl 2 rfl) ?_
      refine ra_51 (f := (σ.2.1 51)) C hP rfl (v_toBool_25 σ k0 x1 x26 hpre_0 hpre_1 ex1 tx1 c2 ex26 tx26 c27) dX12_toBool_53 (fun x28 ex28 => ?_)
      have tx28 : x28.toInt = ((σ.2.1 51) k0.toNatClampNeg).toInt := by rw [ex28]
      refine lv_iconst (v := 3) hx hb dX12_toBool_54 (by decide +kernel) ?_
      refine lv_icmp_ne (tgt := 78) hx hb dX12_toBool_55 (by decide) (fun c29 => ?_) (fun c29 => ?_)
      · have c29 : ¬ x28.toInt = 3 := by have h := z_ne c29; rw [show (3 : Int32).toInt = 3 from by decide +kernel] at h; exact h
        refine lv_aload_n hx hb dX12_toBool_78 rfl (lv_at hl 1 rfl) ?_
        refine rg_51 C hP wm_205 dX12_toBool_79 ?_
        refine lv_iload_n hx hb dX12_toBool_82 rfl (lv_at hl 2 rfl) ?_
        refine ra_51 (f := (σ.2.1 51)) C hP rfl (v_toBool_26 σ k0 x1 x26 x28 hpre_0 hpre_1 ex1 tx1 c2 ex26 tx26 c27 ex28 tx28 c29) dX12_toBool_83 (fun x30 ex30 => ?_)
        have tx30 : x30.toInt = ((σ.2.1 51) k0.toNatClampNeg).toInt := by rw [ex30]
        refine lv_iconst (v := 4) hx hb dX12_toBool_84 (by decide +kernel) ?_
        refine lv_icmp_ne (tgt := 138) hx hb dX12_toBool_85 (by decide) (fun c31 => ?_) (fun c31 => ?_)
        · have c31 : ¬ x30.toInt = 4 := by have h := z_ne c31; rw [show (4 : Int32).toInt = 4 from by decide +kernel] at h; exact h
          refine lv_aload_n hx hb dX12_toBool_138 rfl (lv_at hl 1 rfl) ?_
          refine lv_iload_n hx hb dX12_toBool_139 rfl (lv_at hl 2 rfl) ?_
          refine lv_iconst (v := 1) hx hb dX12_toBool_140 (by decide +kernel) ?_
          refine lv_iload_n hx hb dX12_toBool_141 rfl (lv_at hl 0 rfl) ?_
          refine lv_if_eq (tgt := 149) hx hb dX12_toBool_142 (by decide) (fun _ => ?_) (fun c32 => absurd (by decide +kernel) c32)
          refine lv_lconst (v := 0) hx hb dX12_toBool_149 rfl ?_
          refine lv_dconst0 hx hb dX12_toBool_150 ?_
          refine r_callVv (As := [.int k0, .int 1, .long 0, .double FP.dconst0]) (rest := []) C hP hS hl.1 ⟨Nat.zero_le _, Nat.zero_le _⟩ (M_set l D cy sz0 sa ad σ s.heap.size k0 (1 : Int32) (0 : Int64) FP.dconst0 (v_toBool_27 σ k0 x1 x26 x28 x30 hpre_0 hpre_1 ex1 tx1 c2 ex26 tx26 c27 ex28 tx28 c29 ex30 tx30 c31)) (n := 4) ⟨wm_213, wm_207, by decide +kernel⟩ ⟨wm_214, wm_215, wm_10⟩ rfl rfl (lv_room (Nat.le_of_ble_eq_true rfl)) ⟨Nat.le_of_ble_eq_true rfl, Nat.le_of_ble_eq_true rfl⟩ dX12_toBool_151 (fun u H locs hr33 hP hS => ?_)
          have hr33 : True := hr33
          have hP : RP D cy ad (rR (rJ (rJ (rA σ 51 (upd (σ.2.1 51) k0.toNatClampNeg (1 : Int32))) 52 (vp_updL (σ.2.2.1 52) k0.toNatClampNeg (0 : Int64))) 53 (vp_updL (σ.2.2.1 53) k0.toNatClampNeg (0 : Int64))) (vf_upd (σ.2.2.2) k0.toNatClampNeg FP.dconst0)) H := hP
          have hP : RP D cy ad (rS (rR (rJ (rJ (rA σ 51 (upd (σ.2.1 51) k0.toNatClampNeg (1 : Int32))) 52 (vp_updL (σ.2.2.1 52) k0.toNatClampNeg (0 : Int64))) 53 (vp_updL (σ.2.2.1 53) k0.toNatClampNeg (0 : Int64))) (vf_upd (σ.2.2.2) k0.toNatClampNeg FP.dconst0)) 56 (σ.1 56)) H := RP.cong hP (Eq.trans (b := (σ.1 0)) rfl rfl) (Eq.trans (b := (σ.1 1)) rfl rfl) (Eq.trans (b := (σ.2.1 2)) rfl rfl) (Eq.trans (b := (σ.1 3)) rfl rfl) (Eq.trans (b := (σ.2.1 4)) rfl rfl) (Eq.trans (b := (σ.2.1 5)) rfl rfl) (Eq.trans (b := (σ.2.2.1 6)) rfl rfl) (Eq.trans (b := (σ.2.1 7)) rfl rfl) (Eq.trans (b := (σ.1 8)) rfl rfl) (Eq.trans (b := (σ.1 9)) rfl rfl) (Eq.trans (b := (σ.1 10)) rfl rfl) (Eq.trans (b := (σ.2.1 11)) rfl rfl) (Eq.trans (b := (σ.2.2.1 12)) rfl rfl) (Eq.trans (b := (σ.2.1 13)) rfl rfl) (Eq.trans (b := (σ.1 14)) rfl rfl) (Eq.trans (b := (σ.1 15)) rfl rfl) (Eq.trans (b := (σ.1 16)) rfl rfl) (Eq.trans (b := (σ.1 17)) rfl rfl) (Eq.trans (b := (σ.1 18)) rfl rfl) (Eq.trans (b := (σ.1 19)) rfl rfl) (Eq.trans (b := (σ.2.1 20)) rfl rfl) (Eq.trans (b := (σ.2.1 21)) rfl rfl) (Eq.trans (b := (σ.2.1 22)) rfl rfl) (Eq.trans (b := (σ.2.1 23)) rfl rfl) (Eq.trans (b := (σ.2.1 24)) rfl rfl) (Eq.trans (b := (σ.2.1 25)) rfl rfl) (Eq.trans (b := (σ.2.1 26)) rfl rfl) (Eq.trans (b := (σ.2.1 27)) rfl rfl) (Eq.trans (b := (σ.2.1 28)) rfl rfl) (Eq.trans (b := (σ.1 29)) rfl rfl) (Eq.trans (b := (σ.2.1 30)) rfl rfl) (Eq.trans (b := (σ.2.1 31)) rfl rfl) (Eq.trans (b := (σ.2.1 32)) rfl rfl) (Eq.trans (b := (σ.1 33)) rfl rfl) (Eq.trans (b := (σ.1 34)) rfl rfl) (Eq.trans (b := (σ.1 35)) rfl rfl) (Eq.trans (b := (σ.2.1 36)) rfl rfl) (Eq.trans (b := (σ.2.1 37)) rfl rfl) (Eq.trans (b := (σ.2.1 38)) rfl rfl) (Eq.trans (b := (σ.2.1 39)) rfl rfl) (Eq.trans (b := (σ.2.1 40)) rfl rfl) (Eq.trans (b := (σ.2.1 41)) rfl rfl) (Eq.trans (b := (σ.2.1 42)) rfl rfl) (Eq.trans (b := (σ.2.1 43)) rfl rfl) (Eq.trans (b := (σ.2.1 44)) rfl rfl) (Eq.trans (b := (σ.2.1 45)) rfl rfl) (Eq.trans (b := (σ.2.1 46)) rfl rfl) (Eq.trans (b := (σ.1 47)) rfl rfl) (Eq.trans (b := (σ.2.1 48)) rfl rfl) (Eq.trans (b := (σ.1 49)) rfl rfl) (Eq.trans (b := (σ.2.1 50)) rfl rfl) (Eq.trans (b := (upd (σ.2.1 51) k0.toNatClampNeg (1 : Int32))) rfl rfl) (Eq.trans (b := (vp_updL (σ.2.2.1 52) k0.toNatClampNeg (0 : Int64))) rfl rfl) (Eq.trans (b := (vp_updL (σ.2.2.1 53) k0.toNatClampNeg (0 : Int64))) rfl rfl) (Eq.trans (b := (vf_upd (σ.2.2.2) k0.toNatClampNeg FP.dconst0)) rfl rfl) (Eq.trans (b := (σ.1 55)) rfl rfl) (Eq.trans (b := (σ.1 56)) rfl rfl) (Eq.trans (b := (σ.1 57)) rfl rfl) (Eq.trans (b := (σ.2.1 58)) rfl rfl) (Eq.trans (b := (σ.1 59)) rfl rfl)
          exact r_retv C ⟨(upd (σ.2.1 51) k0.toNatClampNeg (1 : Int32)), (vp_updL (σ.2.2.1 52) k0.toNatClampNeg (0 : Int64)), (vp_updL (σ.2.2.1 53) k0.toNatClampNeg (0 : Int64)), (vf_upd (σ.2.2.2) k0.toNatClampNeg FP.dconst0), (σ.1 56)⟩ ⟨(v_toBool_28 σ k0 x1 x26 x28 x30 hpre_0 hpre_1 hpre_2 hpre_3 ex1 tx1 c2 ex26 tx26 c27 ex28 tx28 c29 ex30 tx30 c31), (v_toBool_29 σ k0 x1 x26 x28 x30 hpre_0 hpre_1 hpre_2 hpre_3 ex1 tx1 c2 ex26 tx26 c27 ex28 tx28 c29 ex30 tx30 c31)⟩ hP hS dX12_toBool_154
        · have c31 : x30.toInt = 4 := by have h := z_eq c31; rw [show (4 : Int32).toInt = 4 from by decide +kernel] at h; exact h
          refine lv_aload_n hx hb dX12_toBool_88 rfl (lv_at hl 1 rfl) ?_
          refine lv_iload_n hx hb dX12_toBool_89 rfl (lv_at hl 2 rfl) ?_
          refine lv_bipush (v := 116) hx hb dX12_toBool_90 (by decide +kernel) ?_
          refine lv_bipush (v := 114) hx hb dX12_toBool_92 (by decide +kernel) ?_
          refine lv_bipush (v := 117) hx hb dX12_toBool_94 (by decide +kernel) ?_
          refine lv_bipush (v := 101) hx hb dX12_toBool_96 (by decide +kernel) ?_
          refine lv_iconst (v := 0) hx hb dX12_toBool_98 (by decide +kernel) ?_
          refine r_callVi (As := [.int k0, .int 116, .int 114, .int 117, .int 101, .int 0]) (rest := []) C hP hS hl.1 ⟨Nat.zero_le _, Nat.zero_le _⟩ (M_spells l D cy sz0 sa ad σ s.heap.size k0 (116 : Int32) (114 : Int32) (117 : Int32) (101 : Int32) (0 : Int32) (v_toBool_30 σ k0 x1 x26 x28 x30 hpre_0 hpre_1 ex1 tx1 c2 ex26 tx26 c27 ex28 tx28 c29 ex30 tx30 c31)) (n := 6) ⟨wm_249, wm_247, by decide +kernel⟩ ⟨wm_250, wm_251, wm_10⟩ rfl rfl (lv_room (Nat.le_of_ble_eq_true rfl)) ⟨Nat.le_of_ble_eq_true rfl, Nat.le_of_ble_eq_true rfl⟩ dX12_toBool_99 (fun r34 u H locs hr34 hP hS => ?_)
          obtain ⟨hr34, hr34y⟩ := hr34
          have hr34y : ∀ s9 : List Int, QTT ((σ.2.2.1 52) k0.toNatClampNeg) ((σ.2.2.1 53) k0.toNatClampNeg) s9 → 0 ≤ (0 : Int32).toInt → (r34.toInt = 0 → ¬ s9 = (if 0 < (0 : Int32).toInt then [(116 : Int32).toInt, (114 : Int32).toInt, (117 : Int32).toInt, (101 : Int32).toInt, (0 : Int32).toInt] else [(116 : Int32).toInt, (114 : Int32).toInt, (117 : Int32).toInt, (101 : Int32).toInt])) ∧ (¬ r34.toInt = 0 → s9 = (if 0 < (0 : Int32).toInt then [(116 : Int32).toInt, (114 : Int32).toInt, (117 : Int32).toInt, (101 : Int32).toInt, (0 : Int32).toInt] else [(116 : Int32).toInt, (114 : Int32).toInt, (117 : Int32).toInt, (101 : Int32).toInt])) := hr34y
          have hr34 : True := hr34
          refine lv_istore_n (lv' := [(2, .int r34), (0, .ref (ad 0)), (1, .int k0)]) hx hb dX12_toBool_102 rfl hl (by decide) rfl (fun ls hl => ?_)
          refine lv_aload_n hx hb dX12_toBool_103 rfl (lv_at hl 1 rfl) ?_
          refine lv_iload_n hx hb dX12_toBool_104 rfl (lv_at hl 0 rfl) ?_
          refine lv_if_ne (tgt := 126) hx hb dX12_toBool_105 (by decide) (fun c35 => ?_) (fun c35 => ?_)
          · have c35 : ¬ r34.toInt = 0 := by have h := z_ne c35; rw [show (0 : Int32).toInt = 0 from by decide +kernel] at h; exact h
            refine lv_aload_n hx hb dX12_toBool_126 rfl (lv_at hl 1 rfl) ?_
            refine rg_56 (v := (σ.1 56)) C hP rfl wm_242 dX12_toBool_127 ?_
            refine lv_goto (tgt := 135) hx hb dX12_toBool_130 (by decide) ?_
            refine rp_56 C hP hS wm_242 dX12_toBool_135 (fun H locs hP hS => ?_)
            refine lv_aload_n hx hb dX12_toBool_138 rfl (lv_at hl 1 rfl) ?_
            refine lv_iload_n hx hb dX12_toBool_139 rfl (lv_at hl 2 rfl) ?_
            refine lv_iconst (v := 1) hx hb dX12_toBool_140 (by decide +kernel) ?_
            refine lv_iload_n hx hb dX12_toBool_141 rfl (lv_at hl 0 rfl) ?_
            refine lv_if_eq (tgt := 149) hx hb dX12_toBool_142 (by decide) (fun c36 => ?_) (fun c36 => ?_)
            · have c36 : r34.toInt = 0 := by have h := z_eq c36; rw [show (0 : Int32).toInt = 0 from by decide +kernel] at h; exact h
              exact absurd (v_toBool_31 r34 c35 c36) id
            · have c36 : ¬ r34.toInt = 0 := by have h := z_ne c36; rw [show (0 : Int32).toInt = 0 from by decide +kernel] at h; exact h
              refine lv_lconst (v := 1) hx hb dX12_toBool_145 rfl ?_
              refine lv_goto (tgt := 150) hx hb dX12_toBool_146 (by decide) ?_
              refine lv_dconst0 hx hb dX12_toBool_150 ?_
              refine r_callVv (As := [.int k0, .int 1, .long 1, .double FP.dconst0]) (rest := []) C hP hS hl.1 ⟨Nat.zero_le _, Nat.zero_le _⟩ (M_set l D cy sz0 sa ad (rS σ 56 (σ.1 56)) H.size k0 (1 : Int32) (1 : Int64) FP.dconst0 (v_toBool_30 σ k0 x1 x26 x28 x30 hpre_0 hpre_1 ex1 tx1 c2 ex26 tx26 c27 ex28 tx28 c29 ex30 tx30 c31)) (n := 4) ⟨wm_213, wm_207, by decide +kernel⟩ ⟨wm_214, wm_215, wm_10⟩ rfl rfl (lv_room (Nat.le_of_ble_eq_true rfl)) ⟨Nat.le_of_ble_eq_true rfl, Nat.le_of_ble_eq_true rfl⟩ dX12_toBool_151 (fun u H locs hr37 hP hS => ?_)
              have hr37 : True := hr37
              have hP : RP D cy ad (rR (rJ (rJ (rA (rS σ 56 (σ.1 56)) 51 (upd (σ.2.1 51) k0.toNatClampNeg (1 : Int32))) 52 (vp_updL (σ.2.2.1 52) k0.toNatClampNeg (1 : Int64))) 53 (vp_updL (σ.2.2.1 53) k0.toNatClampNeg (0 : Int64))) (vf_upd (σ.2.2.2) k0.toNatClampNeg FP.dconst0)) H := hP
              have hP : RP D cy ad (rS (rR (rJ (rJ (rA σ 51 (upd (σ.2.1 51) k0.toNatClampNeg (1 : Int32))) 52 (vp_updL (σ.2.2.1 52) k0.toNatClampNeg (1 : Int64))) 53 (vp_updL (σ.2.2.1 53) k0.toNatClampNeg (0 : Int64))) (vf_upd (σ.2.2.2) k0.toNatClampNeg FP.dconst0)) 56 (σ.1 56)) H := RP.cong hP (Eq.trans (b := (σ.1 0)) rfl rfl) (Eq.trans (b := (σ.1 1)) rfl rfl) (Eq.trans (b := (σ.2.1 2)) rfl rfl) (Eq.trans (b := (σ.1 3)) rfl rfl) (Eq.trans (b := (σ.2.1 4)) rfl rfl) (Eq.trans (b := (σ.2.1 5)) rfl rfl) (Eq.trans (b := (σ.2.2.1 6)) rfl rfl) (Eq.trans (b := (σ.2.1 7)) rfl rfl) (Eq.trans (b := (σ.1 8)) rfl rfl) (Eq.trans (b := (σ.1 9)) rfl rfl) (Eq.trans (b := (σ.1 10)) rfl rfl) (Eq.trans (b := (σ.2.1 11)) rfl rfl) (Eq.trans (b := (σ.2.2.1 12)) rfl rfl) (Eq.trans (b := (σ.2.1 13)) rfl rfl) (Eq.trans (b := (σ.1 14)) rfl rfl) (Eq.trans (b := (σ.1 15)) rfl rfl) (Eq.trans (b := (σ.1 16)) rfl rfl) (Eq.trans (b := (σ.1 17)) rfl rfl) (Eq.trans (b := (σ.1 18)) rfl rfl) (Eq.trans (b := (σ.1 19)) rfl rfl) (Eq.trans (b := (σ.2.1 20)) rfl rfl) (Eq.trans (b := (σ.2.1 21)) rfl rfl) (Eq.trans (b := (σ.2.1 22)) rfl rfl) (Eq.trans (b := (σ.2.1 23)) rfl rfl) (Eq.trans (b := (σ.2.1 24)) rfl rfl) (Eq.trans (b := (σ.2.1 25)) rfl rfl) (Eq.trans (b := (σ.2.1 26)) rfl rfl) (Eq.trans (b := (σ.2.1 27)) rfl rfl) (Eq.trans (b := (σ.2.1 28)) rfl rfl) (Eq.trans (b := (σ.1 29)) rfl rfl) (Eq.trans (b := (σ.2.1 30)) rfl rfl) (Eq.trans (b := (σ.2.1 31)) rfl rfl) (Eq.trans (b := (σ.2.1 32)) rfl rfl) (Eq.trans (b := (σ.1 33)) rfl rfl) (Eq.trans (b := (σ.1 34)) rfl rfl) (Eq.trans (b := (σ.1 35)) rfl rfl) (Eq.trans (b := (σ.2.1 36)) rfl rfl) (Eq.trans (b := (σ.2.1 37)) rfl rfl) (Eq.trans (b := (σ.2.1 38)) rfl rfl) (Eq.trans (b := (σ.2.1 39)) rfl rfl) (Eq.trans (b := (σ.2.1 40)) rfl rfl) (Eq.trans (b := (σ.2.1 41)) rfl rfl) (Eq.trans (b := (σ.2.1 42)) rfl rfl) (Eq.trans (b := (σ.2.1 43)) rfl rfl) (Eq.trans (b := (σ.2.1 44)) rfl rfl) (Eq.trans (b := (σ.2.1 45)) rfl rfl) (Eq.trans (b := (σ.2.1 46)) rfl rfl) (Eq.trans (b := (σ.1 47)) rfl rfl) (Eq.trans (b := (σ.2.1 48)) rfl rfl) (Eq.trans (b := (σ.1 49)) rfl rfl) (Eq.trans (b := (σ.2.1 50)) rfl rfl) (Eq.trans (b := (upd (σ.2.1 51) k0.toNatClampNeg (1 : Int32))) rfl rfl) (Eq.trans (b := (vp_updL (σ.2.2.1 52) k0.toNatClampNeg (1 : Int64))) rfl rfl) (Eq.trans (b := (vp_updL (σ.2.2.1 53) k0.toNatClampNeg (0 : Int64))) rfl rfl) (Eq.trans (b := (vf_upd (σ.2.2.2) k0.toNatClampNeg FP.dconst0)) rfl rfl) (Eq.trans (b := (σ.1 55)) rfl rfl) (Eq.trans (b := (σ.1 56)) rfl rfl) (Eq.trans (b := (σ.1 57)) rfl rfl) (Eq.trans (b := (σ.2.1 58)) rfl rfl) (Eq.trans (b := (σ.1 59)) rfl rfl)
              exact r_retv C ⟨(upd (σ.2.1 51) k0.toNatClampNeg (1 : Int32)), (vp_updL (σ.2.2.1 52) k0.toNatClampNeg (1 : Int64)), (vp_updL (σ.2.2.1 53) k0.toNatClampNeg (0 : Int64)), (vf_upd (σ.2.2.2) k0.toNatClampNeg FP.dconst0), (σ.1 56)⟩ ⟨(v_toBool_32 σ k0 x1 x26 x28 x30 hpre_0 hpre_1 hpre_2 hpre_3 ex1 tx1 c2 ex26 tx26 c27 ex28 tx28 c29 ex30 tx30 c31), (v_toBool_33 σ k0 x1 x26 x28 x30 r34 hpre_0 hpre_1 hpre_2 hpre_3 ex1 tx1 c2 ex26 tx26 c27 ex28 tx28 c29 ex30 tx30 c31 hr34y c35 c36)⟩ hP hS dX12_toBool_154
          · have c35 : r34.toInt = 0 := by have h := z_eq c35; rw [show (0 : Int32).toInt = 0 from by decide +kernel] at h; exact h
            refine lv_aload_n hx hb dX12_toBool_108 rfl (lv_at hl 1 rfl) ?_
            refine lv_iload_n hx hb dX12_toBool_109 rfl (lv_at hl 2 rfl) ?_
            refine lv_bipush (v := 102) hx hb dX12_toBool_110 (by decide +kernel) ?_
            refine lv_bipush (v := 97) hx hb dX12_toBool_112 (by decide +kernel) ?_
            refine lv_bipush (v := 108) hx hb dX12_toBool_114 (by decide +kernel) ?_
            refine lv_bipush (v := 115) hx hb dX12_toBool_116 (by decide +kernel) ?_
            refine lv_bipush (v := 101) hx hb dX12_toBool_118 (by decide +kernel) ?_
            refine r_callVi (As := [.int k0, .int 102, .int 97, .int 108, .int 115, .int 101]) (rest := [.ref (ad 0)]) C hP hS hl.1 ⟨Nat.zero_le _, Nat.zero_le _⟩ (M_spells l D cy sz0 sa ad σ H.size k0 (102 : Int32) (97 : Int32) (108 : Int32) (115 : Int32) (101 : Int32) (v_toBool_30 σ k0 x1 x26 x28 x30 hpre_0 hpre_1 ex1 tx1 c2 ex26 tx26 c27 ex28 tx28 c29 ex30 tx30 c31)) (n := 6) ⟨wm_249, wm_247, by decide +kernel⟩ ⟨wm_250, wm_251, wm_10⟩ rfl rfl (lv_room (Nat.le_of_ble_eq_true rfl)) ⟨Nat.le_of_ble_eq_true rfl, Nat.le_of_ble_eq_true rfl⟩ dX12_toBool_120 (fun r38 u H locs hr38 hP hS => ?_)
            obtain ⟨hr38, hr38y⟩ := hr38
            have hr38y : ∀ s9 : List Int, QTT ((σ.2.2.1 52) k0.toNatClampNeg) ((σ.2.2.1 53) k0.toNatClampNeg) s9 → 0 ≤ (101 : Int32).toInt → (r38.toInt = 0 → ¬ s9 = (if 0 < (101 : Int32).toInt then [(102 : Int32).toInt, (97 : Int32).toInt, (108 : Int32).toInt, (115 : Int32).toInt, (101 : Int32).toInt] else [(102 : Int32).toInt, (97 : Int32).toInt, (108 : Int32).toInt, (115 : Int32).toInt])) ∧ (¬ r38.toInt = 0 → s9 = (if 0 < (101 : Int32).toInt then [(102 : Int32).toInt, (97 : Int32).toInt, (108 : Int32).toInt, (115 : Int32).toInt, (101 : Int32).toInt] else [(102 : Int32).toInt, (97 : Int32).toInt, (108 : Int32).toInt, (115 : Int32).toInt])) := hr38y
            have hr38 : True := hr38
            refine lv_if_eq (tgt := 133) hx hb dX12_toBool_123 (by decide) (fun c39 => ?_) (fun c39 => ?_)
            · have c39 : r38.toInt = 0 := by have h := z_eq c39; rw [show (0 : Int32).toInt = 0 from by decide +kernel] at h; exact h
              refine lv_bipush (v := 10) hx hb dX12_toBool_133 (by decide +kernel) ?_
              refine rp_56 C hP hS wm_242 dX12_toBool_135 (fun H locs hP hS => ?_)
              refine lv_aload_n hx hb dX12_toBool_138 rfl (lv_at hl 1 rfl) ?_
              refine lv_iload_n hx hb dX12_toBool_139 rfl (lv_at hl 2 rfl) ?_
              refine lv_iconst (v := 1) hx hb dX12_toBool_140 (by decide +kernel) ?_
              refine lv_iload_n hx hb dX12_toBool_141 rfl (lv_at hl 0 rfl) ?_
              refine lv_if_eq (tgt := 149) hx hb dX12_toBool_142 (by decide) (fun c40 => ?_) (fun c40 => ?_)
              · have c40 : r34.toInt = 0 := by have h := z_eq c40; rw [show (0 : Int32).toInt = 0 from by decide +kernel] at h; exact h
                refine lv_lconst (v := 0) hx hb dX12_toBool_149 rfl ?_
                refine lv_dconst0 hx hb dX12_toBool_150 ?_
                refine r_callVv (As := [.int k0, .int 1, .long 0, .double FP.dconst0]) (rest := []) C hP hS hl.1 ⟨Nat.zero_le _, Nat.zero_le _⟩ (M_set l D cy sz0 sa ad (rS σ 56 (10 : Int32)) H.size k0 (1 : Int32) (0 : Int64) FP.dconst0 (v_toBool_30 σ k0 x1 x26 x28 x30 hpre_0 hpre_1 ex1 tx1 c2 ex26 tx26 c27 ex28 tx28 c29 ex30 tx30 c31)) (n := 4) ⟨wm_213, wm_207, by decide +kernel⟩ ⟨wm_214, wm_215, wm_10⟩ rfl rfl (lv_room (Nat.le_of_ble_eq_true rfl)) ⟨Nat.le_of_ble_eq_true rfl, Nat.le_of_ble_eq_true rfl⟩ dX12_toBool_151 (fun u H locs hr41 hP hS => ?_)
                have hr41 : True := hr41
                have hP : RP D cy ad (rR (rJ (rJ (rA (rS σ 56 (10 : Int32)) 51 (upd (σ.2.1 51) k0.toNatClampNeg (1 : Int32))) 52 (vp_updL (σ.2.2.1 52) k0.toNatClampNeg (0 : Int64))) 53 (vp_updL (σ.2.2.1 53) k0.toNatClampNeg (0 : Int64))) (vf_upd (σ.2.2.2) k0.toNatClampNeg FP.dconst0)) H := hP
                have hP : RP D cy ad (rS (rR (rJ (rJ (rA σ 51 (upd (σ.2.1 51) k0.toNatClampNeg (1 : Int32))) 52 (vp_updL (σ.2.2.1 52) k0.toNatClampNeg (0 : Int64))) 53 (vp_updL (σ.2.2.1 53) k0.toNatClampNeg (0 : Int64))) (vf_upd (σ.2.2.2) k0.toNatClampNeg FP.dconst0)) 56 (10 : Int32)) H := RP.cong hP (Eq.trans (b := (σ.1 0)) rfl rfl) (Eq.trans (b := (σ.1 1)) rfl rfl) (Eq.trans (b := (σ.2.1 2)) rfl rfl) (Eq.trans (b := (σ.1 3)) rfl rfl) (Eq.trans (b := (σ.2.1 4)) rfl rfl) (Eq.trans (b := (σ.2.1 5)) rfl rfl) (Eq.trans (b := (σ.2.2.1 6)) rfl rfl) (Eq.trans (b := (σ.2.1 7)) rfl rfl) (Eq.trans (b := (σ.1 8)) rfl rfl) (Eq.trans (b := (σ.1 9)) rfl rfl) (Eq.trans (b := (σ.1 10)) rfl rfl) (Eq.trans (b := (σ.2.1 11)) rfl rfl) (Eq.trans (b := (σ.2.2.1 12)) rfl rfl) (Eq.trans (b := (σ.2.1 13)) rfl rfl) (Eq.trans (b := (σ.1 14)) rfl rfl) (Eq.trans (b := (σ.1 15)) rfl rfl) (Eq.trans (b := (σ.1 16)) rfl rfl) (Eq.trans (b := (σ.1 17)) rfl rfl) (Eq.trans (b := (σ.1 18)) rfl rfl) (Eq.trans (b := (σ.1 19)) rfl rfl) (Eq.trans (b := (σ.2.1 20)) rfl rfl) (Eq.trans (b := (σ.2.1 21)) rfl rfl) (Eq.trans (b := (σ.2.1 22)) rfl rfl) (Eq.trans (b := (σ.2.1 23)) rfl rfl) (Eq.trans (b := (σ.2.1 24)) rfl rfl) (Eq.trans (b := (σ.2.1 25)) rfl rfl) (Eq.trans (b := (σ.2.1 26)) rfl rfl) (Eq.trans (b := (σ.2.1 27)) rfl rfl) (Eq.trans (b := (σ.2.1 28)) rfl rfl) (Eq.trans (b := (σ.1 29)) rfl rfl) (Eq.trans (b := (σ.2.1 30)) rfl rfl) (Eq.trans (b := (σ.2.1 31)) rfl rfl) (Eq.trans (b := (σ.2.1 32)) rfl rfl) (Eq.trans (b := (σ.1 33)) rfl rfl) (Eq.trans (b := (σ.1 34)) rfl rfl) (Eq.trans (b := (σ.1 35)) rfl rfl) (Eq.trans (b := (σ.2.1 36)) rfl rfl) (Eq.trans (b := (σ.2.1 37)) rfl rfl) (Eq.trans (b := (σ.2.1 38)) rfl rfl) (Eq.trans (b := (σ.2.1 39)) rfl rfl) (Eq.trans (b := (σ.2.1 40)) rfl rfl) (Eq.trans (b := (σ.2.1 41)) rfl rfl) (Eq.trans (b := (σ.2.1 42)) rfl rfl) (Eq.trans (b := (σ.2.1 43)) rfl rfl) (Eq.trans (b := (σ.2.1 44)) rfl rfl) (Eq.trans (b := (σ.2.1 45)) rfl rfl) (Eq.trans (b := (σ.2.1 46)) rfl rfl) (Eq.trans (b := (σ.1 47)) rfl rfl) (Eq.trans (b := (σ.2.1 48)) rfl rfl) (Eq.trans (b := (σ.1 49)) rfl rfl) (Eq.trans (b := (σ.2.1 50)) rfl rfl) (Eq.trans (b := (upd (σ.2.1 51) k0.toNatClampNeg (1 : Int32))) rfl rfl) (Eq.trans (b := (vp_updL (σ.2.2.1 52) k0.toNatClampNeg (0 : Int64))) rfl rfl) (Eq.trans (b := (vp_updL (σ.2.2.1 53) k0.toNatClampNeg (0 : Int64))) rfl rfl) (Eq.trans (b := (vf_upd (σ.2.2.2) k0.toNatClampNeg FP.dconst0)) rfl rfl) (Eq.trans (b := (σ.1 55)) rfl rfl) (Eq.trans (b := (10 : Int32)) rfl rfl) (Eq.trans (b := (σ.1 57)) rfl rfl) (Eq.trans (b := (σ.2.1 58)) rfl rfl) (Eq.trans (b := (σ.1 59)) rfl rfl)
                exact r_retv C ⟨(upd (σ.2.1 51) k0.toNatClampNeg (1 : Int32)), (vp_updL (σ.2.2.1 52) k0.toNatClampNeg (0 : Int64)), (vp_updL (σ.2.2.1 53) k0.toNatClampNeg (0 : Int64)), (vf_upd (σ.2.2.2) k0.toNatClampNeg FP.dconst0), (10 : Int32)⟩ ⟨(v_toBool_34 σ k0 x1 x26 x28 x30 hpre_0 hpre_1 ex1 tx1 c2 ex26 tx26 c27 ex28 tx28 c29 ex30 tx30 c31), (v_toBool_35 σ k0 x1 x26 x28 x30 r34 r38 hpre_0 hpre_1 hpre_2 hpre_3 ex1 tx1 c2 ex26 tx26 c27 ex28 tx28 c29 ex30 tx30 c31 hr34y c35 hr38y c39 c40)⟩ hP hS dX12_toBool_154
              · have c40 : ¬ r34.toInt = 0 := by have h := z_ne c40; rw [show (0 : Int32).toInt = 0 from by decide +kernel] at h; exact h
                exact absurd (v_toBool_36 r34 c35 c40) id
            · have c39 : ¬ r38.toInt = 0 := by have h := z_ne c39; rw [show (0 : Int32).toInt = 0 from by decide +kernel] at h; exact h
              refine lv_aload_n hx hb dX12_toBool_126 rfl (lv_at hl 1 rfl) ?_
              refine rg_56 (v := (σ.1 56)) C hP rfl wm_242 dX12_toBool_127 ?_
              refine lv_goto (tgt := 135) hx hb dX12_toBool_130 (by decide) ?_
              refine rp_56 C hP hS wm_242 dX12_toBool_135 (fun H locs hP hS => ?_)
              refine lv_aload_n hx hb dX12_toBool_138 rfl (lv_at hl 1 rfl) ?_
              refine lv_iload_n hx hb dX12_toBool_139 rfl (lv_at hl 2 rfl) ?_
              refine lv_iconst (v := 1) hx hb dX12_toBool_140 (by decide +kernel) ?_
              refine lv_iload_n hx hb dX12_toBool_141 rfl (lv_at hl 0 rfl) ?_
              refine lv_if_eq (tgt := 149) hx hb dX12_toBool_142 (by decide) (fun c42 => ?_) (fun c42 => ?_)
              · have c42 : r34.toInt = 0 := by have h := z_eq c42; rw [show (0 : Int32).toInt = 0 from by decide +kernel] at h; exact h
                refine lv_lconst (v := 0) hx hb dX12_toBool_149 rfl ?_
                refine lv_dconst0 hx hb dX12_toBool_150 ?_
                refine r_callVv (As := [.int k0, .int 1, .long 0, .double FP.dconst0]) (rest := []) C hP hS hl.1 ⟨Nat.zero_le _, Nat.zero_le _⟩ (M_set l D cy sz0 sa ad (rS σ 56 (σ.1 56)) H.size k0 (1 : Int32) (0 : Int64) FP.dconst0 (v_toBool_30 σ k0 x1 x26 x28 x30 hpre_0 hpre_1 ex1 tx1 c2 ex26 tx26 c27 ex28 tx28 c29 ex30 tx30 c31)) (n := 4) ⟨wm_213, wm_207, by decide +kernel⟩ ⟨wm_214, wm_215, wm_10⟩ rfl rfl (lv_room (Nat.le_of_ble_eq_true rfl)) ⟨Nat.le_of_ble_eq_true rfl, Nat.le_of_ble_eq_true rfl⟩ dX12_toBool_151 (fun u H locs hr43 hP hS => ?_)
                have hr43 : True := hr43
                have hP : RP D cy ad (rR (rJ (rJ (rA (rS σ 56 (σ.1 56)) 51 (upd (σ.2.1 51) k0.toNatClampNeg (1 : Int32))) 52 (vp_updL (σ.2.2.1 52) k0.toNatClampNeg (0 : Int64))) 53 (vp_updL (σ.2.2.1 53) k0.toNatClampNeg (0 : Int64))) (vf_upd (σ.2.2.2) k0.toNatClampNeg FP.dconst0)) H := hP
                have hP : RP D cy ad (rS (rR (rJ (rJ (rA σ 51 (upd (σ.2.1 51) k0.toNatClampNeg (1 : Int32))) 52 (vp_updL (σ.2.2.1 52) k0.toNatClampNeg (0 : Int64))) 53 (vp_updL (σ.2.2.1 53) k0.toNatClampNeg (0 : Int64))) (vf_upd (σ.2.2.2) k0.toNatClampNeg FP.dconst0)) 56 (σ.1 56)) H := RP.cong hP (Eq.trans (b := (σ.1 0)) rfl rfl) (Eq.trans (b := (σ.1 1)) rfl rfl) (Eq.trans (b := (σ.2.1 2)) rfl rfl) (Eq.trans (b := (σ.1 3)) rfl rfl) (Eq.trans (b := (σ.2.1 4)) rfl rfl) (Eq.trans (b := (σ.2.1 5)) rfl rfl) (Eq.trans (b := (σ.2.2.1 6)) rfl rfl) (Eq.trans (b := (σ.2.1 7)) rfl rfl) (Eq.trans (b := (σ.1 8)) rfl rfl) (Eq.trans (b := (σ.1 9)) rfl rfl) (Eq.trans (b := (σ.1 10)) rfl rfl) (Eq.trans (b := (σ.2.1 11)) rfl rfl) (Eq.trans (b := (σ.2.2.1 12)) rfl rfl) (Eq.trans (b := (σ.2.1 13)) rfl rfl) (Eq.trans (b := (σ.1 14)) rfl rfl) (Eq.trans (b := (σ.1 15)) rfl rfl) (Eq.trans (b := (σ.1 16)) rfl rfl) (Eq.trans (b := (σ.1 17)) rfl rfl) (Eq.trans (b := (σ.1 18)) rfl rfl) (Eq.trans (b := (σ.1 19)) rfl rfl) (Eq.trans (b := (σ.2.1 20)) rfl rfl) (Eq.trans (b := (σ.2.1 21)) rfl rfl) (Eq.trans (b := (σ.2.1 22)) rfl rfl) (Eq.trans (b := (σ.2.1 23)) rfl rfl) (Eq.trans (b := (σ.2.1 24)) rfl rfl) (Eq.trans (b := (σ.2.1 25)) rfl rfl) (Eq.trans (b := (σ.2.1 26)) rfl rfl) (Eq.trans (b := (σ.2.1 27)) rfl rfl) (Eq.trans (b := (σ.2.1 28)) rfl rfl) (Eq.trans (b := (σ.1 29)) rfl rfl) (Eq.trans (b := (σ.2.1 30)) rfl rfl) (Eq.trans (b := (σ.2.1 31)) rfl rfl) (Eq.trans (b := (σ.2.1 32)) rfl rfl) (Eq.trans (b := (σ.1 33)) rfl rfl) (Eq.trans (b := (σ.1 34)) rfl rfl) (Eq.trans (b := (σ.1 35)) rfl rfl) (Eq.trans (b := (σ.2.1 36)) rfl rfl) (Eq.trans (b := (σ.2.1 37)) rfl rfl) (Eq.trans (b := (σ.2.1 38)) rfl rfl) (Eq.trans (b := (σ.2.1 39)) rfl rfl) (Eq.trans (b := (σ.2.1 40)) rfl rfl) (Eq.trans (b := (σ.2.1 41)) rfl rfl) (Eq.trans (b := (σ.2.1 42)) rfl rfl) (Eq.trans (b := (σ.2.1 43)) rfl rfl) (Eq.trans (b := (σ.2.1 44)) rfl rfl) (Eq.trans (b := (σ.2.1 45)) rfl rfl) (Eq.trans (b := (σ.2.1 46)) rfl rfl) (Eq.trans (b := (σ.1 47)) rfl rfl) (Eq.trans (b := (σ.2.1 48)) rfl rfl) (Eq.trans (b := (σ.1 49)) rfl rfl) (Eq.trans (b := (σ.2.1 50)) rfl rfl) (Eq.trans (b := (upd (σ.2.1 51) k0.toNatClampNeg (1 : Int32))) rfl rfl) (Eq.trans (b := (vp_updL (σ.2.2.1 52) k0.toNatClampNeg (0 : Int64))) rfl rfl) (Eq.trans (b := (vp_updL (σ.2.2.1 53) k0.toNatClampNeg (0 : Int64))) rfl rfl) (Eq.trans (b := (vf_upd (σ.2.2.2) k0.toNatClampNeg FP.dconst0)) rfl rfl) (Eq.trans (b := (σ.1 55)) rfl rfl) (Eq.trans (b := (σ.1 56)) rfl rfl) (Eq.trans (b := (σ.1 57)) rfl rfl) (Eq.trans (b := (σ.2.1 58)) rfl rfl) (Eq.trans (b := (σ.1 59)) rfl rfl)
                exact r_retv C ⟨(upd (σ.2.1 51) k0.toNatClampNeg (1 : Int32)), (vp_updL (σ.2.2.1 52) k0.toNatClampNeg (0 : Int64)), (vp_updL (σ.2.2.1 53) k0.toNatClampNeg (0 : Int64)), (vf_upd (σ.2.2.2) k0.toNatClampNeg FP.dconst0), (σ.1 56)⟩ ⟨(v_toBool_37 σ k0 x1 x26 x28 x30 hpre_0 hpre_1 hpre_2 hpre_3 ex1 tx1 c2 ex26 tx26 c27 ex28 tx28 c29 ex30 tx30 c31), (v_toBool_38 σ k0 x1 x26 x28 x30 r34 r38 hpre_0 hpre_1 hpre_2 hpre_3 ex1 tx1 c2 ex26 tx26 c27 ex28 tx28 c29 ex30 tx30 c31 hr34y c35 hr38y c39 c42)⟩ hP hS dX12_toBool_154
              · have c42 : ¬ r34.toInt = 0 := by have h := z_ne c42; rw [show (0 : Int32).toInt = 0 from by decide +kernel] at h; exact h
                exact absurd (v_toBool_39 r34 c35 c42) id
      · have c29 : x28.toInt = 3 := by have h := z_eq c29; rw [show (3 : Int32).toInt = 3 from by decide +kernel] at h; exact h
        refine lv_aload_n hx hb dX12_toBool_58 rfl (lv_at hl 1 rfl) ?_
        refine rg_54 C hP wm_209 dX12_toBool_59 ?_
        refine lv_iload_n hx hb dX12_toBool_62 rfl (lv_at hl 2 rfl) ?_
        refine ra_54 (f := (σ.2.2.2)) C hP rfl (v_toBool_40 σ k0 x1 x26 x28 hpre_0 hpre_1 ex1 tx1 c2 ex26 tx26 c27 ex28 tx28 c29) dX12_toBool_63 (fun x44 ex44 => ?_)
        refine lv_dconst0 hx hb dX12_toBool_64 ?_
        refine lv_dcmp hx hb dX12_toBool_65 ?_
        refine lv_topi (fun x45 ex45 => ?_)
        refine lv_if_eq (tgt := 73) hx hb dX12_toBool_66 (by decide) (fun c46 => ?_) (fun c46 => ?_)
        · have c46 : x45.toInt = 0 := by have h := z_eq c46; rw [show (0 : Int32).toInt = 0 from by decide +kernel] at h; exact h
          refine lv_iconst (v := 0) hx hb dX12_toBool_73 (by decide +kernel) ?_
          refine lv_istore_n (lv' := [(2, .int 0), (0, .ref (ad 0)), (1, .int k0)]) hx hb dX12_toBool_74 rfl hl (by decide) rfl (fun ls hl => ?_)
          refine lv_goto (tgt := 138) hx hb dX12_toBool_75 (by decide) ?_
          refine lv_aload_n hx hb dX12_toBool_138 rfl (lv_at hl 1 rfl) ?_
          refine lv_iload_n hx hb dX12_toBool_139 rfl (lv_at hl 2 rfl) ?_
          refine lv_iconst (v := 1) hx hb dX12_toBool_140 (by decide +kernel) ?_
          refine lv_iload_n hx hb dX12_toBool_141 rfl (lv_at hl 0 rfl) ?_
          refine lv_if_eq (tgt := 149) hx hb dX12_toBool_142 (by decide) (fun _ => ?_) (fun c47 => absurd (by decide +kernel) c47)
          refine lv_lconst (v := 0) hx hb dX12_toBool_149 rfl ?_
          refine lv_dconst0 hx hb dX12_toBool_150 ?_
          refine r_callVv (As := [.int k0, .int 1, .long 0, .double FP.dconst0]) (rest := []) C hP hS hl.1 ⟨Nat.zero_le _, Nat.zero_le _⟩ (M_set l D cy sz0 sa ad σ s.heap.size k0 (1 : Int32) (0 : Int64) FP.dconst0 (v_toBool_41 σ k0 x1 x26 x28 x44 x45 hpre_0 hpre_1 ex1 tx1 c2 ex26 tx26 c27 ex28 tx28 c29 ex44 ex45 c46)) (n := 4) ⟨wm_213, wm_207, by decide +kernel⟩ ⟨wm_214, wm_215, wm_10⟩ rfl rfl (lv_room (Nat.le_of_ble_eq_true rfl)) ⟨Nat.le_of_ble_eq_true rfl, Nat.le_of_ble_eq_true rfl⟩ dX12_toBool_151 (fun u H locs hr48 hP hS => ?_)
          have hr48 : True := hr48
          have hP : RP D cy ad (rR (rJ (rJ (rA σ 51 (upd (σ.2.1 51) k0.toNatClampNeg (1 : Int32))) 52 (vp_updL (σ.2.2.1 52) k0.toNatClampNeg (0 : Int64))) 53 (vp_updL (σ.2.2.1 53) k0.toNatClampNeg (0 : Int64))) (vf_upd (σ.2.2.2) k0.toNatClampNeg FP.dconst0)) H := hP
          have hP : RP D cy ad (rS (rR (rJ (rJ (rA σ 51 (upd (σ.2.1 51) k0.toNatClampNeg (1 : Int32))) 52 (vp_updL (σ.2.2.1 52) k0.toNatClampNeg (0 : Int64))) 53 (vp_updL (σ.2.2.1 53) k0.toNatClampNeg (0 : Int64))) (vf_upd (σ.2.2.2) k0.toNatClampNeg FP.dconst0)) 56 (σ.1 56)) H := RP.cong hP (Eq.trans (b := (σ.1 0)) rfl rfl) (Eq.trans (b := (σ.1 1)) rfl rfl) (Eq.trans (b := (σ.2.1 2)) rfl rfl) (Eq.trans (b := (σ.1 3)) rfl rfl) (Eq.trans (b := (σ.2.1 4)) rfl rfl) (Eq.trans (b := (σ.2.1 5)) rfl rfl) (Eq.trans (b := (σ.2.2.1 6)) rfl rfl) (Eq.trans (b := (σ.2.1 7)) rfl rfl) (Eq.trans (b := (σ.1 8)) rfl rfl) (Eq.trans (b := (σ.1 9)) rfl rfl) (Eq.trans (b := (σ.1 10)) rfl rfl) (Eq.trans (b := (σ.2.1 11)) rfl rfl) (Eq.trans (b := (σ.2.2.1 12)) rfl rfl) (Eq.trans (b := (σ.2.1 13)) rfl rfl) (Eq.trans (b := (σ.1 14)) rfl rfl) (Eq.trans (b := (σ.1 15)) rfl rfl) (Eq.trans (b := (σ.1 16)) rfl rfl) (Eq.trans (b := (σ.1 17)) rfl rfl) (Eq.trans (b := (σ.1 18)) rfl rfl) (Eq.trans (b := (σ.1 19)) rfl rfl) (Eq.trans (b := (σ.2.1 20)) rfl rfl) (Eq.trans (b := (σ.2.1 21)) rfl rfl) (Eq.trans (b := (σ.2.1 22)) rfl rfl) (Eq.trans (b := (σ.2.1 23)) rfl rfl) (Eq.trans (b := (σ.2.1 24)) rfl rfl) (Eq.trans (b := (σ.2.1 25)) rfl rfl) (Eq.trans (b := (σ.2.1 26)) rfl rfl) (Eq.trans (b := (σ.2.1 27)) rfl rfl) (Eq.trans (b := (σ.2.1 28)) rfl rfl) (Eq.trans (b := (σ.1 29)) rfl rfl) (Eq.trans (b := (σ.2.1 30)) rfl rfl) (Eq.trans (b := (σ.2.1 31)) rfl rfl) (Eq.trans (b := (σ.2.1 32)) rfl rfl) (Eq.trans (b := (σ.1 33)) rfl rfl) (Eq.trans (b := (σ.1 34)) rfl rfl) (Eq.trans (b := (σ.1 35)) rfl rfl) (Eq.trans (b := (σ.2.1 36)) rfl rfl) (Eq.trans (b := (σ.2.1 37)) rfl rfl) (Eq.trans (b := (σ.2.1 38)) rfl rfl) (Eq.trans (b := (σ.2.1 39)) rfl rfl) (Eq.trans (b := (σ.2.1 40)) rfl rfl) (Eq.trans (b := (σ.2.1 41)) rfl rfl) (Eq.trans (b := (σ.2.1 42)) rfl rfl) (Eq.trans (b := (σ.2.1 43)) rfl rfl) (Eq.trans (b := (σ.2.1 44)) rfl rfl) (Eq.trans (b := (σ.2.1 45)) rfl rfl) (Eq.trans (b := (σ.2.1 46)) rfl rfl) (Eq.trans (b := (σ.1 47)) rfl rfl) (Eq.trans (b := (σ.2.1 48)) rfl rfl) (Eq.trans (b := (σ.1 49)) rfl rfl) (Eq.trans (b := (σ.2.1 50)) rfl rfl) (Eq.trans (b := (upd (σ.2.1 51) k0.toNatClampNeg (1 : Int32))) rfl rfl) (Eq.trans (b := (vp_updL (σ.2.2.1 52) k0.toNatClampNeg (0 : Int64))) rfl rfl) (Eq.trans (b := (vp_updL (σ.2.2.1 53) k0.toNatClampNeg (0 : Int64))) rfl rfl) (Eq.trans (b := (vf_upd (σ.2.2.2) k0.toNatClampNeg FP.dconst0)) rfl rfl) (Eq.trans (b := (σ.1 55)) rfl rfl) (Eq.trans (b := (σ.1 56)) rfl rfl) (Eq.trans (b := (σ.1 57)) rfl rfl) (Eq.trans (b := (σ.2.1 58)) rfl rfl) (Eq.trans (b := (σ.1 59)) rfl rfl)
          exact r_retv C ⟨(upd (σ.2.1 51) k0.toNatClampNeg (1 : Int32)), (vp_updL (σ.2.2.1 52) k0.toNatClampNeg (0 : Int64)), (vp_updL (σ.2.2.1 53) k0.toNatClampNeg (0 : Int64)), (vf_upd (σ.2.2.2) k0.toNatClampNeg FP.dconst0), (σ.1 56)⟩ ⟨(v_toBool_42 σ k0 x1 x26 x28 x44 x45 hpre_0 hpre_1 hpre_2 hpre_3 ex1 tx1 c2 ex26 tx26 c27 ex28 tx28 c29 ex44 ex45 c46), (v_toBool_43 σ k0 x1 x26 x28 x44 x45 hpre_0 hpre_1 hpre_2 hpre_3 ex1 tx1 c2 ex26 tx26 c27 ex28 tx28 c29 ex44 ex45 c46)⟩ hP hS dX12_toBool_154
        · have c46 : ¬ x45.toInt = 0 := by have h := z_ne c46; rw [show (0 : Int32).toInt = 0 from by decide +kernel] at h; exact h
          refine lv_iconst (v := 1) hx hb dX12_toBool_69 (by decide +kernel) ?_
          refine lv_goto (tgt := 74) hx hb dX12_toBool_70 (by decide) ?_
          refine lv_istore_n (lv' := [(2, .int 1), (0, .ref (ad 0)), (1, .int k0)]) hx hb dX12_toBool_74 rfl hl (by decide) rfl (fun ls hl => ?_)
          refine lv_goto (tgt := 138) hx hb dX12_toBool_75 (by decide) ?_
          refine lv_aload_n hx hb dX12_toBool_138 rfl (lv_at hl 1 rfl) ?_
          refine lv_iload_n hx hb dX12_toBool_139 rfl (lv_at hl 2 rfl) ?_
          refine lv_iconst (v := 1) hx hb dX12_toBool_140 (by decide +kernel) ?_
          refine lv_iload_n hx hb dX12_toBool_141 rfl (lv_at hl 0 rfl) ?_
          refine lv_if_eq (tgt := 149) hx hb dX12_toBool_142 (by decide) (fun c49 => absurd c49 (by decide +kernel)) (fun _ => ?_)
          refine lv_lconst (v := 1) hx hb dX12_toBool_145 rfl ?_
          refine lv_goto (tgt := 150) hx hb dX12_toBool_146 (by decide) ?_
          refine lv_dconst0 hx hb dX12_toBool_150 ?_
          refine r_callVv (As := [.int k0, .int 1, .long 1, .double FP.dconst0]) (rest := []) C hP hS hl.1 ⟨Nat.zero_le _, Nat.zero_le _⟩ (M_set l D cy sz0 sa ad σ s.heap.size k0 (1 : Int32) (1 : Int64) FP.dconst0 (v_toBool_44 σ k0 x1 x26 x28 x44 x45 hpre_0 hpre_1 ex1 tx1 c2 ex26 tx26 c27 ex28 tx28 c29 ex44 ex45 c46)) (n := 4) ⟨wm_213, wm_207, by decide +kernel⟩ ⟨wm_214, wm_215, wm_10⟩ rfl rfl (lv_room (Nat.le_of_ble_eq_true rfl)) ⟨Nat.le_of_ble_eq_true rfl, Nat.le_of_ble_eq_true rfl⟩ dX12_toBool_151 (fun u H locs hr50 hP hS => ?_)
          have hr50 : True := hr50
          have hP : RP D cy ad (rR (rJ (rJ (rA σ 51 (upd (σ.2.1 51) k0.toNatClampNeg (1 : Int32))) 52 (vp_updL (σ.2.2.1 52) k0.toNatClampNeg (1 : Int64))) 53 (vp_updL (σ.2.2.1 53) k0.toNatClampNeg (0 : Int64))) (vf_upd (σ.2.2.2) k0.toNatClampNeg FP.dconst0)) H := hP
          have hP : RP D cy ad (rS (rR (rJ (rJ (rA σ 51 (upd (σ.2.1 51) k0.toNatClampNeg (1 : Int32))) 52 (vp_updL (σ.2.2.1 52) k0.toNatClampNeg (1 : Int64))) 53 (vp_updL (σ.2.2.1 53) k0.toNatClampNeg (0 : Int64))) (vf_upd (σ.2.2.2) k0.toNatClampNeg FP.dconst0)) 56 (σ.1 56)) H := RP.cong hP (Eq.trans (b := (σ.1 0)) rfl rfl) (Eq.trans (b := (σ.1 1)) rfl rfl) (Eq.trans (b := (σ.2.1 2)) rfl rfl) (Eq.trans (b := (σ.1 3)) rfl rfl) (Eq.trans (b := (σ.2.1 4)) rfl rfl) (Eq.trans (b := (σ.2.1 5)) rfl rfl) (Eq.trans (b := (σ.2.2.1 6)) rfl rfl) (Eq.trans (b := (σ.2.1 7)) rfl rfl) (Eq.trans (b := (σ.1 8)) rfl rfl) (Eq.trans (b := (σ.1 9)) rfl rfl) (Eq.trans (b := (σ.1 10)) rfl rfl) (Eq.trans (b := (σ.2.1 11)) rfl rfl) (Eq.trans (b := (σ.2.2.1 12)) rfl rfl) (Eq.trans (b := (σ.2.1 13)) rfl rfl) (Eq.trans (b := (σ.1 14)) rfl rfl) (Eq.trans (b := (σ.1 15)) rfl rfl) (Eq.trans (b := (σ.1 16)) rfl rfl) (Eq.trans (b := (σ.1 17)) rfl rfl) (Eq.trans (b := (σ.1 18)) rfl rfl) (Eq.trans (b := (σ.1 19)) rfl rfl) (Eq.trans (b := (σ.2.1 20)) rfl rfl) (Eq.trans (b := (σ.2.1 21)) rfl rfl) (Eq.trans (b := (σ.2.1 22)) rfl rfl) (Eq.trans (b := (σ.2.1 23)) rfl rfl) (Eq.trans (b := (σ.2.1 24)) rfl rfl) (Eq.trans (b := (σ.2.1 25)) rfl rfl) (Eq.trans (b := (σ.2.1 26)) rfl rfl) (Eq.trans (b := (σ.2.1 27)) rfl rfl) (Eq.trans (b := (σ.2.1 28)) rfl rfl) (Eq.trans (b := (σ.1 29)) rfl rfl) (Eq.trans (b := (σ.2.1 30)) rfl rfl) (Eq.trans (b := (σ.2.1 31)) rfl rfl) (Eq.trans (b := (σ.2.1 32)) rfl rfl) (Eq.trans (b := (σ.1 33)) rfl rfl) (Eq.trans (b := (σ.1 34)) rfl rfl) (Eq.trans (b := (σ.1 35)) rfl rfl) (Eq.trans (b := (σ.2.1 36)) rfl rfl) (Eq.trans (b := (σ.2.1 37)) rfl rfl) (Eq.trans (b := (σ.2.1 38)) rfl rfl) (Eq.trans (b := (σ.2.1 39)) rfl rfl) (Eq.trans (b := (σ.2.1 40)) rfl rfl) (Eq.trans (b := (σ.2.1 41)) rfl rfl) (Eq.trans (b := (σ.2.1 42)) rfl rfl) (Eq.trans (b := (σ.2.1 43)) rfl rfl) (Eq.trans (b := (σ.2.1 44)) rfl rfl) (Eq.trans (b := (σ.2.1 45)) rfl rfl) (Eq.trans (b := (σ.2.1 46)) rfl rfl) (Eq.trans (b := (σ.1 47)) rfl rfl) (Eq.trans (b := (σ.2.1 48)) rfl rfl) (Eq.trans (b := (σ.1 49)) rfl rfl) (Eq.trans (b := (σ.2.1 50)) rfl rfl) (Eq.trans (b := (upd (σ.2.1 51) k0.toNatClampNeg (1 : Int32))) rfl rfl) (Eq.trans (b := (vp_updL (σ.2.2.1 52) k0.toNatClampNeg (1 : Int64))) rfl rfl) (Eq.trans (b := (vp_updL (σ.2.2.1 53) k0.toNatClampNeg (0 : Int64))) rfl rfl) (Eq.trans (b := (vf_upd (σ.2.2.2) k0.toNatClampNeg FP.dconst0)) rfl rfl) (Eq.trans (b := (σ.1 55)) rfl rfl) (Eq.trans (b := (σ.1 56)) rfl rfl) (Eq.trans (b := (σ.1 57)) rfl rfl) (Eq.trans (b := (σ.2.1 58)) rfl rfl) (Eq.trans (b := (σ.1 59)) rfl rfl)
          exact r_retv C ⟨(upd (σ.2.1 51) k0.toNatClampNeg (1 : Int32)), (vp_updL (σ.2.2.1 52) k0.toNatClampNeg (1 : Int64)), (vp_updL (σ.2.2.1 53) k0.toNatClampNeg (0 : Int64)), (vf_upd (σ.2.2.2) k0.toNatClampNeg FP.dconst0), (σ.1 56)⟩ ⟨(v_toBool_45 σ k0 x1 x26 x28 x44 x45 hpre_0 hpre_1 hpre_2 hpre_3 ex1 tx1 c2 ex26 tx26 c27 ex28 tx28 c29 ex44 ex45 c46), (v_toBool_46 σ k0 x1 x26 x28 x44 x45 hpre_0 hpre_1 hpre_2 hpre_3 ex1 tx1 c2 ex26 tx26 c27 ex28 tx28 c29 ex44 ex45 c46)⟩ hP hS dX12_toBool_154
    · have c27 : ¬ x26.toInt = 3 := by have h := z_ne c27; rw [show (3 : Int32).toInt = 3 from by decide +kernel] at h; exact h
      refine lv_aload_n hx hb dX12_toBool_21 rfl (lv_at hl 0 rfl) ?_
      refine rg_51 C hP wm_205 dX12_toBool_22 ?_
      refine lv_iload_n hx hb dX12_toBool_25 rfl (lv_at hl 1 rfl) ?_
      refine ra_51 (f := (σ.2.1 51)) C hP rfl (v_toBool_47 σ k0 x1 x26 hpre_0 hpre_1 ex1 tx1 c2 ex26 tx26 c27) dX12_toBool_26 (fun x51 ex51 => ?_)
      have tx51 : x51.toInt = ((σ.2.1 51) k0.toNatClampNeg).toInt := by rw [ex51]
      refine lv_iconst (v := 4) hx hb dX12_toBool_27 (by decide +kernel) ?_
      refine lv_icmp_eq (tgt := 46) hx hb dX12_toBool_28 (by decide) (fun c52 => ?_) (fun c52 => ?_)
      · have c52 : x51.toInt = 4 := by have h := z_eq c52; rw [show (4 : Int32).toInt = 4 from by decide +kernel] at h; exact h
        refine lv_iconst (v := 0) hx hb dX12_toBool_46 (by decide +kernel) ?_
        refine lv_istore_n (lv' := [(2, .int 0), (0, .ref (ad 0)), (1, .int k0)]) hx hb dX12_toBool_47 rfl hl (by decide) rfl (fun ls hl => ?_)
        refine lv_aload_n hx hb dX12_toBool_48 rfl (lv_at hl 1 rfl) ?_
        refine rg_51 C hP wm_205 dX12_toBool_49 ?_
        refine lv_iload_n hx hb dX12_toBool_52 rfl (lv_at hl 2 rfl) ?_
        refine ra_51 (f := (σ.2.1 51)) C hP rfl (v_toBool_48 σ k0 x1 x26 x51 hpre_0 hpre_1 ex1 tx1 c2 ex26 tx26 c27 ex51 tx51 c52) dX12_toBool_53 (fun x53 ex53 => ?_)
        have tx53 : x53.toInt = ((σ.2.1 51) k0.toNatClampNeg).toInt := by rw [ex53]
        refine lv_iconst (v := 3) hx hb dX12_toBool_54 (by decide +kernel) ?_
        refine lv_icmp_ne (tgt := 78) hx hb dX12_toBool_55 (by decide) (fun c54 => ?_) (fun c54 => ?_)
        · have c54 : ¬ x53.toInt = 3 := by have h := z_ne c54; rw [show (3 : Int32).toInt = 3 from by decide +kernel] at h; exact h
          refine lv_aload_n hx hb dX12_toBool_78 rfl (lv_at hl 1 rfl) ?_
          refine rg_51 C hP wm_205 dX12_toBool_79 ?_
          refine lv_iload_n hx hb dX12_toBool_82 rfl (lv_at hl 2 rfl) ?_
          refine ra_51 (f := (σ.2.1 51)) C hP rfl (v_toBool_49 σ k0 x1 x26 x51 x53 hpre_0 hpre_1 ex1 tx1 c2 ex26 tx26 c27 ex51 tx51 c52 ex53 tx53 c54) dX12_toBool_83 (fun x55 ex55 => ?_)
          have tx55 : x55.toInt = ((σ.2.1 51) k0.toNatClampNeg).toInt := by rw [ex55]
          refine lv_iconst (v := 4) hx hb dX12_toBool_84 (by decide +kernel) ?_
          refine lv_icmp_ne (tgt := 138) hx hb dX12_toBool_85 (by decide) (fun c56 => ?_) (fun c56 => ?_)
          · have c56 : ¬ x55.toInt = 4 := by have h := z_ne c56; rw [show (4 : Int32).toInt = 4 from by decide +kernel] at h; exact h
            refine lv_aload_n hx hb dX12_toBool_138 rfl (lv_at hl 1 rfl) ?_
            refine lv_iload_n hx hb dX12_toBool_139 rfl (lv_at hl 2 rfl) ?_
            refine lv_iconst (v := 1) hx hb dX12_toBool_140 (by decide +kernel) ?_
            refine lv_iload_n hx hb dX12_toBool_141 rfl (lv_at hl 0 rfl) ?_
            refine lv_if_eq (tgt := 149) hx hb dX12_toBool_142 (by decide) (fun _ => ?_) (fun c57 => absurd (by decide +kernel) c57)
            refine lv_lconst (v := 0) hx hb dX12_toBool_149 rfl ?_
            refine lv_dconst0 hx hb dX12_toBool_150 ?_
            refine r_callVv (As := [.int k0, .int 1, .long 0, .double FP.dconst0]) (rest := []) C hP hS hl.1 ⟨Nat.zero_le _, Nat.zero_le _⟩ (M_set l D cy sz0 sa ad σ s.heap.size k0 (1 : Int32) (0 : Int64) FP.dconst0 (v_toBool_50 σ k0 x1 x26 x51 x53 x55 hpre_0 hpre_1 ex1 tx1 c2 ex26 tx26 c27 ex51 tx51 c52 ex53 tx53 c54 ex55 tx55 c56)) (n := 4) ⟨wm_213, wm_207, by decide +kernel⟩ ⟨wm_214, wm_215, wm_10⟩ rfl rfl (lv_room (Nat.le_of_ble_eq_true rfl)) ⟨Nat.le_of_ble_eq_true rfl, Nat.le_of_ble_eq_true rfl⟩ dX12_toBool_151 (fun u H locs hr58 hP hS => ?_)
            have hr58 : True := hr58
            have hP : RP D cy ad (rR (rJ (rJ (rA σ 51 (upd (σ.2.1 51) k0.toNatClampNeg (1 : Int32))) 52 (vp_updL (σ.2.2.1 52) k0.toNatClampNeg (0 : Int64))) 53 (vp_updL (σ.2.2.1 53) k0.toNatClampNeg (0 : Int64))) (vf_upd (σ.2.2.2) k0.toNatClampNeg FP.dconst0)) H := hP
            have hP : RP D cy ad (rS (rR (rJ (rJ (rA σ 51 (upd (σ.2.1 51) k0.toNatClampNeg (1 : Int32))) 52 (vp_updL (σ.2.2.1 52) k0.toNatClampNeg (0 : Int64))) 53 (vp_updL (σ.2.2.1 53) k0.toNatClampNeg (0 : Int64))) (vf_upd (σ.2.2.2) k0.toNatClampNeg FP.dconst0)) 56 (σ.1 56)) H := RP.cong hP (Eq.trans (b := (σ.1 0)) rfl rfl) (Eq.trans (b := (σ.1 1)) rfl rfl) (Eq.trans (b := (σ.2.1 2)) rfl rfl) (Eq.trans (b := (σ.1 3)) rfl rfl) (Eq.trans (b := (σ.2.1 4)) rfl rfl) (Eq.trans (b := (σ.2.1 5)) rfl rfl) (Eq.trans (b := (σ.2.2.1 6)) rfl rfl) (Eq.trans (b := (σ.2.1 7)) rfl rfl) (Eq.trans (b := (σ.1 8)) rfl rfl) (Eq.trans (b := (σ.1 9)) rfl rfl) (Eq.trans (b := (σ.1 10)) rfl rfl) (Eq.trans (b := (σ.2.1 11)) rfl rfl) (Eq.trans (b := (σ.2.2.1 12)) rfl rfl) (Eq.trans (b := (σ.2.1 13)) rfl rfl) (Eq.trans (b := (σ.1 14)) rfl rfl) (Eq.trans (b := (σ.1 15)) rfl rfl) (Eq.trans (b := (σ.1 16)) rfl rfl) (Eq.trans (b := (σ.1 17)) rfl rfl) (Eq.trans (b := (σ.1 18)) rfl rfl) (Eq.trans (b := (σ.1 19)) rfl rfl) (Eq.trans (b := (σ.2.1 20)) rfl rfl) (Eq.trans (b := (σ.2.1 21)) rfl rfl) (Eq.trans (b := (σ.2.1 22)) rfl rfl) (Eq.trans (b := (σ.2.1 23)) rfl rfl) (Eq.trans (b := (σ.2.1 24)) rfl rfl) (Eq.trans (b := (σ.2.1 25)) rfl rfl) (Eq.trans (b := (σ.2.1 26)) rfl rfl) (Eq.trans (b := (σ.2.1 27)) rfl rfl) (Eq.trans (b := (σ.2.1 28)) rfl rfl) (Eq.trans (b := (σ.1 29)) rfl rfl) (Eq.trans (b := (σ.2.1 30)) rfl rfl) (Eq.trans (b := (σ.2.1 31)) rfl rfl) (Eq.trans (b := (σ.2.1 32)) rfl rfl) (Eq.trans (b := (σ.1 33)) rfl rfl) (Eq.trans (b := (σ.1 34)) rfl rfl) (Eq.trans (b := (σ.1 35)) rfl rfl) (Eq.trans (b := (σ.2.1 36)) rfl rfl) (Eq.trans (b := (σ.2.1 37)) rfl rfl) (Eq.trans (b := (σ.2.1 38)) rfl rfl) (Eq.trans (b := (σ.2.1 39)) rfl rfl) (Eq.trans (b := (σ.2.1 40)) rfl rfl) (Eq.trans (b := (σ.2.1 41)) rfl rfl) (Eq.trans (b := (σ.2.1 42)) rfl rfl) (Eq.trans (b := (σ.2.1 43)) rfl rfl) (Eq.trans (b := (σ.2.1 44)) rfl rfl) (Eq.trans (b := (σ.2.1 45)) rfl rfl) (Eq.trans (b := (σ.2.1 46)) rfl rfl) (Eq.trans (b := (σ.1 47)) rfl rfl) (Eq.trans (b := (σ.2.1 48)) rfl rfl) (Eq.trans (b := (σ.1 49)) rfl rfl) (Eq.trans (b := (σ.2.1 50)) rfl rfl) (Eq.trans (b := (upd (σ.2.1 51) k0.toNatClampNeg (1 : Int32))) rfl rfl) (Eq.trans (b := (vp_updL (σ.2.2.1 52) k0.toNatClampNeg (0 : Int64))) rfl rfl) (Eq.trans (b := (vp_updL (σ.2.2.1 53) k0.toNatClampNeg (0 : Int64))) rfl rfl) (Eq.trans (b := (vf_upd (σ.2.2.2) k0.toNatClampNeg FP.dconst0)) rfl rfl) (Eq.trans (b := (σ.1 55)) rfl rfl) (Eq.trans (b := (σ.1 56)) rfl rfl) (Eq.trans (b := (σ.1 57)) rfl rfl) (Eq.trans (b := (σ.2.1 58)) rfl rfl) (Eq.trans (b := (σ.1 59)) rfl rfl)
            exact r_retv C ⟨(upd (σ.2.1 51) k0.toNatClampNeg (1 : Int32)), (vp_updL (σ.2.2.1 52) k0.toNatClampNeg (0 : Int64)), (vp_updL (σ.2.2.1 53) k0.toNatClampNeg (0 : Int64)), (vf_upd (σ.2.2.2) k0.toNatClampNeg FP.dconst0), (σ.1 56)⟩ ⟨(v_toBool_51 σ k0 x1 x26 x51 x53 x55 hpre_0 hpre_1 hpre_2 hpre_3 ex1 tx1 c2 ex26 tx26 c27 ex51 tx51 c52 ex53 tx53 c54 ex55 tx55 c56), (v_toBool_52 σ k0 x1 x26 x51 x53 x55 hpre_0 hpre_1 hpre_2 hpre_3 ex1 tx1 c2 ex26 tx26 c27 ex51 tx51 c52 ex53 tx53 c54 ex55 tx55 c56)⟩ hP hS dX12_toBool_154
          · have c56 : x55.toInt = 4 := by have h := z_eq c56; rw [show (4 : Int32).toInt = 4 from by decide +kernel] at h; exact h
            refine lv_aload_n hx hb dX12_toBool_88 rfl (lv_at hl 1 rfl) ?_
            refine lv_iload_n hx hb dX12_toBool_89 rfl (lv_at hl 2 rfl) ?_
            refine lv_bipush (v := 116) hx hb dX12_toBool_90 (by decide +kernel) ?_
            refine lv_bipush (v := 114) hx hb dX12_toBool_92 (by decide +kernel) ?_
            refine lv_bipush (v := 117) hx hb dX12_toBool_94 (by decide +kernel) ?_
            refine lv_bipush (v := 101) hx hb dX12_toBool_96 (by decide +kernel) ?_
            refine lv_iconst (v := 0) hx hb dX12_toBool_98 (by decide +kernel) ?_
            refine r_callVi (As := [.int k0, .int 116, .int 114, .int 117, .int 101, .int 0]) (rest := []) C hP hS hl.1 ⟨Nat.zero_le _, Nat.zero_le _⟩ (M_spells l D cy sz0 sa ad σ s.heap.size k0 (116 : Int32) (114 : Int32) (117 : Int32) (101 : Int32) (0 : Int32) (v_toBool_53 σ k0 x1 x26 x51 x53 x55 hpre_0 hpre_1 ex1 tx1 c2 ex26 tx26 c27 ex51 tx51 c52 ex53 tx53 c54 ex55 tx55 c56)) (n := 6) ⟨wm_249, wm_247, by decide +kernel⟩ ⟨wm_250, wm_251, wm_10⟩ rfl rfl (lv_room (Nat.le_of_ble_eq_true rfl)) ⟨Nat.le_of_ble_eq_true rfl, Nat.le_of_ble_eq_true rfl⟩ dX12_toBool_99 (fun r59 u H locs hr59 hP hS => ?_)
            obtain ⟨hr59, hr59y⟩ := hr59
            have hr59y : ∀ s9 : List Int, QTT ((σ.2.2.1 52) k0.toNatClampNeg) ((σ.2.2.1 53) k0.toNatClampNeg) s9 → 0 ≤ (0 : Int32).toInt → (r59.toInt = 0 → ¬ s9 = (if 0 < (0 : Int32).toInt then [(116 : Int32).toInt, (114 : Int32).toInt, (117 : Int32).toInt, (101 : Int32).toInt, (0 : Int32).toInt] else [(116 : Int32).toInt, (114 : Int32).toInt, (117 : Int32).toInt, (101 : Int32).toInt])) ∧ (¬ r59.toInt = 0 → s9 = (if 0 < (0 : Int32).toInt then [(116 : Int32).toInt, (114 : Int32).toInt, (117 : Int32).toInt, (101 : Int32).toInt, (0 : Int32).toInt] else [(116 : Int32).toInt, (114 : Int32).toInt, (117 : Int32).toInt, (101 : Int32).toInt])) := hr59y
            have hr59 : True := hr59
            refine lv_istore_n (lv' := [(2, .int r59), (0, .ref (ad 0)), (1, .int k0)]) hx hb dX12_toBool_102 rfl hl (by decide) rfl (fun ls hl => ?_)
            refine lv_aload_n hx hb dX12_toBool_103 rfl (lv_at hl 1 rfl) ?_
            refine lv_iload_n hx hb dX12_toBool_104 rfl (lv_at hl 0 rfl) ?_
            refine lv_if_ne (tgt := 126) hx hb dX12_toBool_105 (by decide) (fun c60 => ?_) (fun c60 => ?_)
            · have c60 : ¬ r59.toInt = 0 := by have h := z_ne c60; rw [show (0 : Int32).toInt = 0 from by decide +kernel] at h; exact h
              refine lv_aload_n hx hb dX12_toBool_126 rfl (lv_at hl 1 rfl) ?_
              refine rg_56 (v := (σ.1 56)) C hP rfl wm_242 dX12_toBool_127 ?_
              refine lv_goto (tgt := 135) hx hb dX12_toBool_130 (by decide) ?_
              refine rp_56 C hP hS wm_242 dX12_toBool_135 (fun H locs hP hS => ?_)
              refine lv_aload_n hx hb dX12_toBool_138 rfl (lv_at hl 1 rfl) ?_
              refine lv_iload_n hx hb dX12_toBool_139 rfl (lv_at hl 2 rfl) ?_
              refine lv_iconst (v := 1) hx hb dX12_toBool_140 (by decide +kernel) ?_
              refine lv_iload_n hx hb dX12_toBool_141 rfl (lv_at hl 0 rfl) ?_
              refine lv_if_eq (tgt := 149) hx hb dX12_toBool_142 (by decide) (fun c61 => ?_) (fun c61 => ?_)
              · have c61 : r59.toInt = 0 := by have h := z_eq c61; rw [show (0 : Int32).toInt = 0 from by decide +kernel] at h; exact h
                exact absurd (v_toBool_54 r59 c60 c61) id
              · have c61 : ¬ r59.toInt = 0 := by have h := z_ne c61; rw [show (0 : Int32).toInt = 0 from by decide +kernel] at h; exact h
                refine lv_lconst (v := 1) hx hb dX12_toBool_145 rfl ?_
                refine lv_goto (tgt := 150) hx hb dX12_toBool_146 (by decide) ?_
                refine lv_dconst0 hx hb dX12_toBool_150 ?_
                refine r_callVv (As := [.int k0, .int 1, .long 1, .double FP.dconst0]) (rest := []) C hP hS hl.1 ⟨Nat.zero_le _, Nat.zero_le _⟩ (M_set l D cy sz0 sa ad (rS σ 56 (σ.1 56)) H.size k0 (1 : Int32) (1 : Int64) FP.dconst0 (v_toBool_53 σ k0 x1 x26 x51 x53 x55 hpre_0 hpre_1 ex1 tx1 c2 ex26 tx26 c27 ex51 tx51 c52 ex53 tx53 c54 ex55 tx55 c56)) (n := 4) ⟨wm_213, wm_207, by decide +kernel⟩ ⟨wm_214, wm_215, wm_10⟩ rfl rfl (lv_room (Nat.le_of_ble_eq_true rfl)) ⟨Nat.le_of_ble_eq_true rfl, Nat.le_of_ble_eq_true rfl⟩ dX12_toBool_151 (fun u H locs hr62 hP hS => ?_)
                have hr62 : True := hr62
                have hP : RP D cy ad (rR (rJ (rJ (rA (rS σ 56 (σ.1 56)) 51 (upd (σ.2.1 51) k0.toNatClampNeg (1 : Int32))) 52 (vp_updL (σ.2.2.1 52) k0.toNatClampNeg (1 : Int64))) 53 (vp_updL (σ.2.2.1 53) k0.toNatClampNeg (0 : Int64))) (vf_upd (σ.2.2.2) k0.toNatClampNeg FP.dconst0)) H := hP
                have hP : RP D cy ad (rS (rR (rJ (rJ (rA σ 51 (upd (σ.2.1 51) k0.toNatClampNeg (1 : Int32))) 52 (vp_updL (σ.2.2.1 52) k0.toNatClampNeg (1 : Int64))) 53 (vp_updL (σ.2.2.1 53) k0.toNatClampNeg (0 : Int64))) (vf_upd (σ.2.2.2) k0.toNatClampNeg FP.dconst0)) 56 (σ.1 56)) H := RP.cong hP (Eq.trans (b := (σ.1 0)) rfl rfl) (Eq.trans (b := (σ.1 1)) rfl rfl) (Eq.trans (b := (σ.2.1 2)) rfl rfl) (Eq.trans (b := (σ.1 3)) rfl rfl) (Eq.trans (b := (σ.2.1 4)) rfl rfl) (Eq.trans (b := (σ.2.1 5)) rfl rfl) (Eq.trans (b := (σ.2.2.1 6)) rfl rfl) (Eq.trans (b := (σ.2.1 7)) rfl rfl) (Eq.trans (b := (σ.1 8)) rfl rfl) (Eq.trans (b := (σ.1 9)) rfl rfl) (Eq.trans (b := (σ.1 10)) rfl rfl) (Eq.trans (b := (σ.2.1 11)) rfl rfl) (Eq.trans (b := (σ.2.2.1 12)) rfl rfl) (Eq.trans (b := (σ.2.1 13)) rfl rfl) (Eq.trans (b := (σ.1 14)) rfl rfl) (Eq.trans (b := (σ.1 15)) rfl rfl) (Eq.trans (b := (σ.1 16)) rfl rfl) (Eq.trans (b := (σ.1 17)) rfl rfl) (Eq.trans (b := (σ.1 18)) rfl rfl) (Eq.trans (b := (σ.1 19)) rfl rfl) (Eq.trans (b := (σ.2.1 20)) rfl rfl) (Eq.trans (b := (σ.2.1 21)) rfl rfl) (Eq.trans (b := (σ.2.1 22)) rfl rfl) (Eq.trans (b := (σ.2.1 23)) rfl rfl) (Eq.trans (b := (σ.2.1 24)) rfl rfl) (Eq.trans (b := (σ.2.1 25)) rfl rfl) (Eq.trans (b := (σ.2.1 26)) rfl rfl) (Eq.trans (b := (σ.2.1 27)) rfl rfl) (Eq.trans (b := (σ.2.1 28)) rfl rfl) (Eq.trans (b := (σ.1 29)) rfl rfl) (Eq.trans (b := (σ.2.1 30)) rfl rfl) (Eq.trans (b := (σ.2.1 31)) rfl rfl) (Eq.trans (b := (σ.2.1 32)) rfl rfl) (Eq.trans (b := (σ.1 33)) rfl rfl) (Eq.trans (b := (σ.1 34)) rfl rfl) (Eq.trans (b := (σ.1 35)) rfl rfl) (Eq.trans (b := (σ.2.1 36)) rfl rfl) (Eq.trans (b := (σ.2.1 37)) rfl rfl) (Eq.trans (b := (σ.2.1 38)) rfl rfl) (Eq.trans (b := (σ.2.1 39)) rfl rfl) (Eq.trans (b := (σ.2.1 40)) rfl rfl) (Eq.trans (b := (σ.2.1 41)) rfl rfl) (Eq.trans (b := (σ.2.1 42)) rfl rfl) (Eq.trans (b := (σ.2.1 43)) rfl rfl) (Eq.trans (b := (σ.2.1 44)) rfl rfl) (Eq.trans (b := (σ.2.1 45)) rfl rfl) (Eq.trans (b := (σ.2.1 46)) rfl rfl) (Eq.trans (b := (σ.1 47)) rfl rfl) (Eq.trans (b := (σ.2.1 48)) rfl rfl) (Eq.trans (b := (σ.1 49)) rfl rfl) (Eq.trans (b := (σ.2.1 50)) rfl rfl) (Eq.trans (b := (upd (σ.2.1 51) k0.toNatClampNeg (1 : Int32))) rfl rfl) (Eq.trans (b := (vp_updL (σ.2.2.1 52) k0.toNatClampNeg (1 : Int64))) rfl rfl) (Eq.trans (b := (vp_updL (σ.2.2.1 53) k0.toNatClampNeg (0 : Int64))) rfl rfl) (Eq.trans (b := (vf_upd (σ.2.2.2) k0.toNatClampNeg FP.dconst0)) rfl rfl) (Eq.trans (b := (σ.1 55)) rfl rfl) (Eq.trans (b := (σ.1 56)) rfl rfl) (Eq.trans (b := (σ.1 57)) rfl rfl) (Eq.trans (b := (σ.2.1 58)) rfl rfl) (Eq.trans (b := (σ.1 59)) rfl rfl)
                exact r_retv C ⟨(upd (σ.2.1 51) k0.toNatClampNeg (1 : Int32)), (vp_updL (σ.2.2.1 52) k0.toNatClampNeg (1 : Int64)), (vp_updL (σ.2.2.1 53) k0.toNatClampNeg (0 : Int64)), (vf_upd (σ.2.2.2) k0.toNatClampNeg FP.dconst0), (σ.1 56)⟩ ⟨(v_toBool_55 σ k0 x1 x26 x51 x53 x55 hpre_0 hpre_1 hpre_2 hpre_3 ex1 tx1 c2 ex26 tx26 c27 ex51 tx51 c52 ex53 tx53 c54 ex55 tx55 c56), (v_toBool_56 σ k0 x1 x26 x51 x53 x55 r59 hpre_0 hpre_1 hpre_2 hpre_3 ex1 tx1 c2 ex26 tx26 c27 ex51 tx51 c52 ex53 tx53 c54 ex55 tx55 c56 hr59y c60 c61)⟩ hP hS dX12_toBool_154
            · have c60 : r59.toInt = 0 := by have h := z_eq c60; rw [show (0 : Int32).toInt = 0 from by decide +kernel] at h; exact h
              refine lv_aload_n hx hb dX12_toBool_108 rfl (lv_at hl 1 rfl) ?_
              refine lv_iload_n hx hb dX12_toBool_109 rfl (lv_at hl 2 rfl) ?_
              refine lv_bipush (v := 102) hx hb dX12_toBool_110 (by decide +kernel) ?_
              refine lv_bipush (v := 97) hx hb dX12_toBool_112 (by decide +kernel) ?_
              refine lv_bipush (v := 108) hx hb dX12_toBool_114 (by decide +kernel) ?_
              refine lv_bipush (v := 115) hx hb dX12_toBool_116 (by decide +kernel) ?_
              refine lv_bipush (v := 101) hx hb dX12_toBool_118 (by decide +kernel) ?_
              refine r_callVi (As := [.int k0, .int 102, .int 97, .int 108, .int 115, .int 101]) (rest := [.ref (ad 0)]) C hP hS hl.1 ⟨Nat.zero_le _, Nat.zero_le _⟩ (M_spells l D cy sz0 sa ad σ H.size k0 (102 : Int32) (97 : Int32) (108 : Int32) (115 : Int32) (101 : Int32) (v_toBool_53 σ k0 x1 x26 x51 x53 x55 hpre_0 hpre_1 ex1 tx1 c2 ex26 tx26 c27 ex51 tx51 c52 ex53 tx53 c54 ex55 tx55 c56)) (n := 6) ⟨wm_249, wm_247, by decide +kernel⟩ ⟨wm_250, wm_251, wm_10⟩ rfl rfl (lv_room (Nat.le_of_ble_eq_true rfl)) ⟨Nat.le_of_ble_eq_true rfl, Nat.le_of_ble_eq_true rfl⟩ dX12_toBool_120 (fun r63 u H locs hr63 hP hS => ?_)
              obtain ⟨hr63, hr63y⟩ := hr63
              have hr63y : ∀ s9 : List Int, QTT ((σ.2.2.1 52) k0.toNatClampNeg) ((σ.2.2.1 53) k0.toNatClampNeg) s9 → 0 ≤ (101 : Int32).toInt → (r63.toInt = 0 → ¬ s9 = (if 0 < (101 : Int32).toInt then [(102 : Int32).toInt, (97 : Int32).toInt, (108 : Int32).toInt, (115 : Int32).toInt, (101 : Int32).toInt] else [(102 : Int32).toInt, (97 : Int32).toInt, (108 : Int32).toInt, (115 : Int32).toInt])) ∧ (¬ r63.toInt = 0 → s9 = (if 0 < (101 : Int32).toInt then [(102 : Int32).toInt, (97 : Int32).toInt, (108 : Int32).toInt, (115 : Int32).toInt, (101 : Int32).toInt] else [(102 : Int32).toInt, (97 : Int32).toInt, (108 : Int32).toInt, (115 : Int32).toInt])) := hr63y
              have hr63 : True := hr63
              refine lv_if_eq (tgt := 133) hx hb dX12_toBool_123 (by decide) (fun c64 => ?_) (fun c64 => ?_)
              · have c64 : r63.toInt = 0 := by have h := z_eq c64; rw [show (0 : Int32).toInt = 0 from by decide +kernel] at h; exact h
                refine lv_bipush (v := 10) hx hb dX12_toBool_133 (by decide +kernel) ?_
                refine rp_56 C hP hS wm_242 dX12_toBool_135 (fun H locs hP hS => ?_)
                refine lv_aload_n hx hb dX12_toBool_138 rfl (lv_at hl 1 rfl) ?_
                refine lv_iload_n hx hb dX12_toBool_139 rfl (lv_at hl 2 rfl) ?_
                refine lv_iconst (v := 1) hx hb dX12_toBool_140 (by decide +kernel) ?_
                refine lv_iload_n hx hb dX12_toBool_141 rfl (lv_at hl 0 rfl) ?_
                refine lv_if_eq (tgt := 149) hx hb dX12_toBool_142 (by decide) (fun c65 => ?_) (fun c65 => ?_)
                · have c65 : r59.toInt = 0 := by have h := z_eq c65; rw [show (0 : Int32).toInt = 0 from by decide +kernel] at h; exact h
                  refine lv_lconst (v := 0) hx hb dX12_toBool_149 rfl ?_
                  refine lv_dconst0 hx hb dX12_toBool_150 ?_
                  refine r_callVv (As := [.int k0, .int 1, .long 0, .double FP.dconst0]) (rest := []) C hP hS hl.1 ⟨Nat.zero_le _, Nat.zero_le _⟩ (M_set l D cy sz0 sa ad (rS σ 56 (10 : Int32)) H.size k0 (1 : Int32) (0 : Int64) FP.dconst0 (v_toBool_53 σ k0 x1 x26 x51 x53 x55 hpre_0 hpre_1 ex1 tx1 c2 ex26 tx26 c27 ex51 tx51 c52 ex53 tx53 c54 ex55 tx55 c56)) (n := 4) ⟨wm_213, wm_207, by decide +kernel⟩ ⟨wm_214, wm_215, wm_10⟩ rfl rfl (lv_room (Nat.le_of_ble_eq_true rfl)) ⟨Nat.le_of_ble_eq_true rfl, Nat.le_of_ble_eq_true rfl⟩ dX12_toBool_151 (fun u H locs hr66 hP hS => ?_)
                  have hr66 : True := hr66
                  have hP : RP D cy ad (rR (rJ (rJ (rA (rS σ 56 (10 : Int32)) 51 (upd (σ.2.1 51) k0.toNatClampNeg (1 : Int32))) 52 (vp_updL (σ.2.2.1 52) k0.toNatClampNeg (0 : Int64))) 53 (vp_updL (σ.2.2.1 53) k0.toNatClampNeg (0 : Int64))) (vf_upd (σ.2.2.2) k0.toNatClampNeg FP.dconst0)) H := hP
                  have hP : RP D cy ad (rS (rR (rJ (rJ (rA σ 51 (upd (σ.2.1 51) k0.toNatClampNeg (1 : Int32))) 52 (vp_updL (σ.2.2.1 52) k0.toNatClampNeg (0 : Int64))) 53 (vp_updL (σ.2.2.1 53) k0.toNatClampNeg (0 : Int64))) (vf_upd (σ.2.2.2) k0.toNatClampNeg FP.dconst0)) 56 (10 : Int32)) H := RP.cong hP (Eq.trans (b := (σ.1 0)) rfl rfl) (Eq.trans (b := (σ.1 1)) rfl rfl) (Eq.trans (b := (σ.2.1 2)) rfl rfl) (Eq.trans (b := (σ.1 3)) rfl rfl) (Eq.trans (b := (σ.2.1 4)) rfl rfl) (Eq.trans (b := (σ.2.1 5)) rfl rfl) (Eq.trans (b := (σ.2.2.1 6)) rfl rfl) (Eq.trans (b := (σ.2.1 7)) rfl rfl) (Eq.trans (b := (σ.1 8)) rfl rfl) (Eq.trans (b := (σ.1 9)) rfl rfl) (Eq.trans (b := (σ.1 10)) rfl rfl) (Eq.trans (b := (σ.2.1 11)) rfl rfl) (Eq.trans (b := (σ.2.2.1 12)) rfl rfl) (Eq.trans (b := (σ.2.1 13)) rfl rfl) (Eq.trans (b := (σ.1 14)) rfl rfl) (Eq.trans (b := (σ.1 15)) rfl rfl) (Eq.trans (b := (σ.1 16)) rfl rfl) (Eq.trans (b := (σ.1 17)) rfl rfl) (Eq.trans (b := (σ.1 18)) rfl rfl) (Eq.trans (b := (σ.1 19)) rfl rfl) (Eq.trans (b := (σ.2.1 20)) rfl rfl) (Eq.trans (b := (σ.2.1 21)) rfl rfl) (Eq.trans (b := (σ.2.1 22)) rfl rfl) (Eq.trans (b := (σ.2.1 23)) rfl rfl) (Eq.trans (b := (σ.2.1 24)) rfl rfl) (Eq.trans (b := (σ.2.1 25)) rfl rfl) (Eq.trans (b := (σ.2.1 26)) rfl rfl) (Eq.trans (b := (σ.2.1 27)) rfl rfl) (Eq.trans (b := (σ.2.1 28)) rfl rfl) (Eq.trans (b := (σ.1 29)) rfl rfl) (Eq.trans (b := (σ.2.1 30)) rfl rfl) (Eq.trans (b := (σ.2.1 31)) rfl rfl) (Eq.trans (b := (σ.2.1 32)) rfl rfl) (Eq.trans (b := (σ.1 33)) rfl rfl) (Eq.trans (b := (σ.1 34)) rfl rfl) (Eq.trans (b := (σ.1 35)) rfl rfl) (Eq.trans (b := (σ.2.1 36)) rfl rfl) (Eq.trans (b := (σ.2.1 37)) rfl rfl) (Eq.trans (b := (σ.2.1 38)) rfl rfl) (Eq.trans (b := (σ.2.1 39)) rfl rfl) (Eq.trans (b := (σ.2.1 40)) rfl rfl) (Eq.trans (b := (σ.2.1 41)) rfl rfl) (Eq.trans (b := (σ.2.1 42)) rfl rfl) (Eq.trans (b := (σ.2.1 43)) rfl rfl) (Eq.trans (b := (σ.2.1 44)) rfl rfl) (Eq.trans (b := (σ.2.1 45)) rfl rfl) (Eq.trans (b := (σ.2.1 46)) rfl rfl) (Eq.trans (b := (σ.1 47)) rfl rfl) (Eq.trans (b := (σ.2.1 48)) rfl rfl) (Eq.trans (b := (σ.1 49)) rfl rfl) (Eq.trans (b := (σ.2.1 50)) rfl rfl) (Eq.trans (b := (upd (σ.2.1 51) k0.toNatClampNeg (1 : Int32))) rfl rfl) (Eq.trans (b := (vp_updL (σ.2.2.1 52) k0.toNatClampNeg (0 : Int64))) rfl rfl) (Eq.trans (b := (vp_updL (σ.2.2.1 53) k0.toNatClampNeg (0 : Int64))) rfl rfl) (Eq.trans (b := (vf_upd (σ.2.2.2) k0.toNatClampNeg FP.dconst0)) rfl rfl) (Eq.trans (b := (σ.1 55)) rfl rfl) (Eq.trans (b := (10 : Int32)) rfl rfl) (Eq.trans (b := (σ.1 57)) rfl rfl) (Eq.trans (b := (σ.2.1 58)) rfl rfl) (Eq.trans (b := (σ.1 59)) rfl rfl)
                  exact r_retv C ⟨(upd (σ.2.1 51) k0.toNatClampNeg (1 : Int32)), (vp_updL (σ.2.2.1 52) k0.toNatClampNeg (0 : Int64)), (vp_updL (σ.2.2.1 53) k0.toNatClampNeg (0 : Int64)), (vf_upd (σ.2.2.2) k0.toNatClampNeg FP.dconst0), (10 : Int32)⟩ ⟨(v_toBool_57 σ k0 x1 x26 x51 x53 x55 hpre_0 hpre_1 ex1 tx1 c2 ex26 tx26 c27 ex51 tx51 c52 ex53 tx53 c54 ex55 tx55 c56), (v_toBool_58 σ k0 x1 x26 x51 x53 x55 r59 r63 hpre_0 hpre_1 hpre_2 hpre_3 ex1 tx1 c2 ex26 tx26 c27 ex51 tx51 c52 ex53 tx53 c54 ex55 tx55 c56 hr59y c60 hr63y c64 c65)⟩ hP hS dX12_toBool_154
                · have c65 : ¬ r59.toInt = 0 := by have h := z_ne c65; rw [show (0 : Int32).toInt = 0 from by decide +kernel] at h; exact h
                  exact absurd (v_toBool_59 r59 c60 c65) id
              · have c64 : ¬ r63.toInt = 0 := by have h := z_ne c64; rw [show (0 : Int32).toInt = 0 from by decide +kernel] at h; exact h
                refine lv_aload_n hx hb dX12_toBool_126 rfl (lv_at hl 1 rfl) ?_
                refine rg_56 (v := (σ.1 56)) C hP rfl wm_242 dX12_toBool_127 ?_
                refine lv_goto (tgt := 135) hx hb dX12_toBool_130 (by decide) ?_
                refine rp_56 C hP hS wm_242 dX12_toBool_135 (fun H locs hP hS => ?_)
                refine lv_aload_n hx hb dX12_toBool_138 rfl (lv_at hl 1 rfl) ?_
                refine lv_iload_n hx hb dX12_toBool_139 rfl (lv_at hl 2 rfl) ?_
                refine lv_iconst (v := 1) hx hb dX12_toBool_140 (by decide +kernel) ?_
                refine lv_iload_n hx hb dX12_toBool_141 rfl (lv_at hl 0 rfl) ?_
                refine lv_if_eq (tgt := 149) hx hb dX12_toBool_142 (by decide) (fun c67 => ?_) (fun c67 => ?_)
                · have c67 : r59.toInt = 0 := by have h := z_eq c67; rw [show (0 : Int32).toInt = 0 from by decide +kernel] at h; exact h
                  refine lv_lconst (v := 0) hx hb dX12_toBool_149 rfl ?_
                  refine lv_dconst0 hx hb dX12_toBool_150 ?_
                  refine r_callVv (As := [.int k0, .int 1, .long 0, .double FP.dconst0]) (rest := []) C hP hS hl.1 ⟨Nat.zero_le _, Nat.zero_le _⟩ (M_set l D cy sz0 sa ad (rS σ 56 (σ.1 56)) H.size k0 (1 : Int32) (0 : Int64) FP.dconst0 (v_toBool_53 σ k0 x1 x26 x51 x53 x55 hpre_0 hpre_1 ex1 tx1 c2 ex26 tx26 c27 ex51 tx51 c52 ex53 tx53 c54 ex55 tx55 c56)) (n := 4) ⟨wm_213, wm_207, by decide +kernel⟩ ⟨wm_214, wm_215, wm_10⟩ rfl rfl (lv_room (Nat.le_of_ble_eq_true rfl)) ⟨Nat.le_of_ble_eq_true rfl, Nat.le_of_ble_eq_true rfl⟩ dX12_toBool_151 (fun u H locs hr68 hP hS => ?_)
                  have hr68 : True := hr68
                  have hP : RP D cy ad (rR (rJ (rJ (rA (rS σ 56 (σ.1 56)) 51 (upd (σ.2.1 51) k0.toNatClampNeg (1 : Int32))) 52 (vp_updL (σ.2.2.1 52) k0.toNatClampNeg (0 : Int64))) 53 (vp_updL (σ.2.2.1 53) k0.toNatClampNeg (0 : Int64))) (vf_upd (σ.2.2.2) k0.toNatClampNeg FP.dconst0)) H := hP
                  have hP : RP D cy ad (rS (rR (rJ (rJ (rA σ 51 (upd (σ.2.1 51) k0.toNatClampNeg (1 : Int32))) 52 (vp_updL (σ.2.2.1 52) k0.toNatClampNeg (0 : Int64))) 53 (vp_updL (σ.2.2.1 53) k0.toNatClampNeg (0 : Int64))) (vf_upd (σ.2.2.2) k0.toNatClampNeg FP.dconst0)) 56 (σ.1 56)) H := RP.cong hP (Eq.trans (b := (σ.1 0)) rfl rfl) (Eq.trans (b := (σ.1 1)) rfl rfl) (Eq.trans (b := (σ.2.1 2)) rfl rfl) (Eq.trans (b := (σ.1 3)) rfl rfl) (Eq.trans (b := (σ.2.1 4)) rfl rfl) (Eq.trans (b := (σ.2.1 5)) rfl rfl) (Eq.trans (b := (σ.2.2.1 6)) rfl rfl) (Eq.trans (b := (σ.2.1 7)) rfl rfl) (Eq.trans (b := (σ.1 8)) rfl rfl) (Eq.trans (b := (σ.1 9)) rfl rfl) (Eq.trans (b := (σ.1 10)) rfl rfl) (Eq.trans (b := (σ.2.1 11)) rfl rfl) (Eq.trans (b := (σ.2.2.1 12)) rfl rfl) (Eq.trans (b := (σ.2.1 13)) rfl rfl) (Eq.trans (b := (σ.1 14)) rfl rfl) (Eq.trans (b := (σ.1 15)) rfl rfl) (Eq.trans (b := (σ.1 16)) rfl rfl) (Eq.trans (b := (σ.1 17)) rfl rfl) (Eq.trans (b := (σ.1 18)) rfl rfl) (Eq.trans (b := (σ.1 19)) rfl rfl) (Eq.trans (b := (σ.2.1 20)) rfl rfl) (Eq.trans (b := (σ.2.1 21)) rfl rfl) (Eq.trans (b := (σ.2.1 22)) rfl rfl) (Eq.trans (b := (σ.2.1 23)) rfl rfl) (Eq.trans (b := (σ.2.1 24)) rfl rfl) (Eq.trans (b := (σ.2.1 25)) rfl rfl) (Eq.trans (b := (σ.2.1 26)) rfl rfl) (Eq.trans (b := (σ.2.1 27)) rfl rfl) (Eq.trans (b := (σ.2.1 28)) rfl rfl) (Eq.trans (b := (σ.1 29)) rfl rfl) (Eq.trans (b := (σ.2.1 30)) rfl rfl) (Eq.trans (b := (σ.2.1 31)) rfl rfl) (Eq.trans (b := (σ.2.1 32)) rfl rfl) (Eq.trans (b := (σ.1 33)) rfl rfl) (Eq.trans (b := (σ.1 34)) rfl rfl) (Eq.trans (b := (σ.1 35)) rfl rfl) (Eq.trans (b := (σ.2.1 36)) rfl rfl) (Eq.trans (b := (σ.2.1 37)) rfl rfl) (Eq.trans (b := (σ.2.1 38)) rfl rfl) (Eq.trans (b := (σ.2.1 39)) rfl rfl) (Eq.trans (b := (σ.2.1 40)) rfl rfl) (Eq.trans (b := (σ.2.1 41)) rfl rfl) (Eq.trans (b := (σ.2.1 42)) rfl rfl) (Eq.trans (b := (σ.2.1 43)) rfl rfl) (Eq.trans (b := (σ.2.1 44)) rfl rfl) (Eq.trans (b := (σ.2.1 45)) rfl rfl) (Eq.trans (b := (σ.2.1 46)) rfl rfl) (Eq.trans (b := (σ.1 47)) rfl rfl) (Eq.trans (b := (σ.2.1 48)) rfl rfl) (Eq.trans (b := (σ.1 49)) rfl rfl) (Eq.trans (b := (σ.2.1 50)) rfl rfl) (Eq.trans (b := (upd (σ.2.1 51) k0.toNatClampNeg (1 : Int32))) rfl rfl) (Eq.trans (b := (vp_updL (σ.2.2.1 52) k0.toNatClampNeg (0 : Int64))) rfl rfl) (Eq.trans (b := (vp_updL (σ.2.2.1 53) k0.toNatClampNeg (0 : Int64))) rfl rfl) (Eq.trans (b := (vf_upd (σ.2.2.2) k0.toNatClampNeg FP.dconst0)) rfl rfl) (Eq.trans (b := (σ.1 55)) rfl rfl) (Eq.trans (b := (σ.1 56)) rfl rfl) (Eq.trans (b := (σ.1 57)) rfl rfl) (Eq.trans (b := (σ.2.1 58)) rfl rfl) (Eq.trans (b := (σ.1 59)) rfl rfl)
                  exact r_retv C ⟨(upd (σ.2.1 51) k0.toNatClampNeg (1 : Int32)), (vp_updL (σ.2.2.1 52) k0.toNatClampNeg (0 : Int64)), (vp_updL (σ.2.2.1 53) k0.toNatClampNeg (0 : Int64)), (vf_upd (σ.2.2.2) k0.toNatClampNeg FP.dconst0), (σ.1 56)⟩ ⟨(v_toBool_60 σ k0 x1 x26 x51 x53 x55 hpre_0 hpre_1 hpre_2 hpre_3 ex1 tx1 c2 ex26 tx26 c27 ex51 tx51 c52 ex53 tx53 c54 ex55 tx55 c56), (v_toBool_61 σ k0 x1 x26 x51 x53 x55 r59 r63 hpre_0 hpre_1 hpre_2 hpre_3 ex1 tx1 c2 ex26 tx26 c27 ex51 tx51 c52 ex53 tx53 c54 ex55 tx55 c56 hr59y c60 hr63y c64 c67)⟩ hP hS dX12_toBool_154
                · have c67 : ¬ r59.toInt = 0 := by have h := z_ne c67; rw [show (0 : Int32).toInt = 0 from by decide +kernel] at h; exact h
                  exact absurd (v_toBool_62 r59 c60 c67) id
        · have c54 : x53.toInt = 3 := by have h := z_eq c54; rw [show (3 : Int32).toInt = 3 from by decide +kernel] at h; exact h
          refine lv_aload_n hx hb dX12_toBool_58 rfl (lv_at hl 1 rfl) ?_
          refine rg_54 C hP wm_209 dX12_toBool_59 ?_
          refine lv_iload_n hx hb dX12_toBool_62 rfl (lv_at hl 2 rfl) ?_
          refine ra_54 (f := (σ.2.2.2)) C hP rfl (v_toBool_63 σ k0 x1 x26 x51 x53 hpre_0 hpre_1 ex1 tx1 c2 ex26 tx26 c27 ex51 tx51 c52 ex53 tx53 c54) dX12_toBool_63 (fun x69 ex69 => ?_)
          refine lv_dconst0 hx hb dX12_toBool_64 ?_
          refine lv_dcmp hx hb dX12_toBool_65 ?_
          refine lv_topi (fun x70 ex70 => ?_)
          refine lv_if_eq (tgt := 73) hx hb dX12_toBool_66 (by decide) (fun c71 => ?_) (fun c71 => ?_)
          · have c71 : x70.toInt = 0 := by have h := z_eq c71; rw [show (0 : Int32).toInt = 0 from by decide +kernel] at h; exact h
            refine lv_iconst (v := 0) hx hb dX12_toBool_73 (by decide +kernel) ?_
            refine lv_istore_n (lv' := [(2, .int 0), (0, .ref (ad 0)), (1, .int k0)]) hx hb dX12_toBool_74 rfl hl (by decide) rfl (fun ls hl => ?_)
            refine lv_goto (tgt := 138) hx hb dX12_toBool_75 (by decide) ?_
            refine lv_aload_n hx hb dX12_toBool_138 rfl (lv_at hl 1 rfl) ?_
            refine lv_iload_n hx hb dX12_toBool_139 rfl (lv_at hl 2 rfl) ?_
            refine lv_iconst (v := 1) hx hb dX12_toBool_140 (by decide +kernel) ?_
            refine lv_iload_n hx hb dX12_toBool_141 rfl (lv_at hl 0 rfl) ?_
            refine lv_if_eq (tgt := 149) hx hb dX12_toBool_142 (by decide) (fun _ => ?_) (fun c72 => absurd (by decide +kernel) c72)
            refine lv_lconst (v := 0) hx hb dX12_toBool_149 rfl ?_
            refine lv_dconst0 hx hb dX12_toBool_150 ?_
            refine r_callVv (As := [.int k0, .int 1, .long 0, .double FP.dconst0]) (rest := []) C hP hS hl.1 ⟨Nat.zero_le _, Nat.zero_le _⟩ (M_set l D cy sz0 sa ad σ s.heap.size k0 (1 : Int32) (0 : Int64) FP.dconst0 (v_toBool_64 σ k0 x1 x26 x51 x53 x69 x70 hpre_0 hpre_1 ex1 tx1 c2 ex26 tx26 c27 ex51 tx51 c52 ex53 tx53 c54 ex69 ex70 c71)) (n := 4) ⟨wm_213, wm_207, by decide +kernel⟩ ⟨wm_214, wm_215, wm_10⟩ rfl rfl (lv_room (Nat.le_of_ble_eq_true rfl)) ⟨Nat.le_of_ble_eq_true rfl, Nat.le_of_ble_eq_true rfl⟩ dX12_toBool_151 (fun u H locs hr73 hP hS => ?_)
            have hr73 : True := hr73
            have hP : RP D cy ad (rR (rJ (rJ (rA σ 51 (upd (σ.2.1 51) k0.toNatClampNeg (1 : Int32))) 52 (vp_updL (σ.2.2.1 52) k0.toNatClampNeg (0 : Int64))) 53 (vp_updL (σ.2.2.1 53) k0.toNatClampNeg (0 : Int64))) (vf_upd (σ.2.2.2) k0.toNatClampNeg FP.dconst0)) H := hP
            have hP : RP D cy ad (rS (rR (rJ (rJ (rA σ 51 (upd (σ.2.1 51) k0.toNatClampNeg (1 : Int32))) 52 (vp_updL (σ.2.2.1 52) k0.toNatClampNeg (0 : Int64))) 53 (vp_updL (σ.2.2.1 53) k0.toNatClampNeg (0 : Int64))) (vf_upd (σ.2.2.2) k0.toNatClampNeg FP.dconst0)) 56 (σ.1 56)) H := RP.cong hP (Eq.trans (b := (σ.1 0)) rfl rfl) (Eq.trans (b := (σ.1 1)) rfl rfl) (Eq.trans (b := (σ.2.1 2)) rfl rfl) (Eq.trans (b := (σ.1 3)) rfl rfl) (Eq.trans (b := (σ.2.1 4)) rfl rfl) (Eq.trans (b := (σ.2.1 5)) rfl rfl) (Eq.trans (b := (σ.2.2.1 6)) rfl rfl) (Eq.trans (b := (σ.2.1 7)) rfl rfl) (Eq.trans (b := (σ.1 8)) rfl rfl) (Eq.trans (b := (σ.1 9)) rfl rfl) (Eq.trans (b := (σ.1 10)) rfl rfl) (Eq.trans (b := (σ.2.1 11)) rfl rfl) (Eq.trans (b := (σ.2.2.1 12)) rfl rfl) (Eq.trans (b := (σ.2.1 13)) rfl rfl) (Eq.trans (b := (σ.1 14)) rfl rfl) (Eq.trans (b := (σ.1 15)) rfl rfl) (Eq.trans (b := (σ.1 16)) rfl rfl) (Eq.trans (b := (σ.1 17)) rfl rfl) (Eq.trans (b := (σ.1 18)) rfl rfl) (Eq.trans (b := (σ.1 19)) rfl rfl) (Eq.trans (b := (σ.2.1 20)) rfl rfl) (Eq.trans (b := (σ.2.1 21)) rfl rfl) (Eq.trans (b := (σ.2.1 22)) rfl rfl) (Eq.trans (b := (σ.2.1 23)) rfl rfl) (Eq.trans (b := (σ.2.1 24)) rfl rfl) (Eq.trans (b := (σ.2.1 25)) rfl rfl) (Eq.trans (b := (σ.2.1 26)) rfl rfl) (Eq.trans (b := (σ.2.1 27)) rfl rfl) (Eq.trans (b := (σ.2.1 28)) rfl rfl) (Eq.trans (b := (σ.1 29)) rfl rfl) (Eq.trans (b := (σ.2.1 30)) rfl rfl) (Eq.trans (b := (σ.2.1 31)) rfl rfl) (Eq.trans (b := (σ.2.1 32)) rfl rfl) (Eq.trans (b := (σ.1 33)) rfl rfl) (Eq.trans (b := (σ.1 34)) rfl rfl) (Eq.trans (b := (σ.1 35)) rfl rfl) (Eq.trans (b := (σ.2.1 36)) rfl rfl) (Eq.trans (b := (σ.2.1 37)) rfl rfl) (Eq.trans (b := (σ.2.1 38)) rfl rfl) (Eq.trans (b := (σ.2.1 39)) rfl rfl) (Eq.trans (b := (σ.2.1 40)) rfl rfl) (Eq.trans (b := (σ.2.1 41)) rfl rfl) (Eq.trans (b := (σ.2.1 42)) rfl rfl) (Eq.trans (b := (σ.2.1 43)) rfl rfl) (Eq.trans (b := (σ.2.1 44)) rfl rfl) (Eq.trans (b := (σ.2.1 45)) rfl rfl) (Eq.trans (b := (σ.2.1 46)) rfl rfl) (Eq.trans (b := (σ.1 47)) rfl rfl) (Eq.trans (b := (σ.2.1 48)) rfl rfl) (Eq.trans (b := (σ.1 49)) rfl rfl) (Eq.trans (b := (σ.2.1 50)) rfl rfl) (Eq.trans (b := (upd (σ.2.1 51) k0.toNatClampNeg (1 : Int32))) rfl rfl) (Eq.trans (b := (vp_updL (σ.2.2.1 52) k0.toNatClampNeg (0 : Int64))) rfl rfl) (Eq.trans (b := (vp_updL (σ.2.2.1 53) k0.toNatClampNeg (0 : Int64))) rfl rfl) (Eq.trans (b := (vf_upd (σ.2.2.2) k0.toNatClampNeg FP.dconst0)) rfl rfl) (Eq.trans (b := (σ.1 55)) rfl rfl) (Eq.trans (b := (σ.1 56)) rfl rfl) (Eq.trans (b := (σ.1 57)) rfl rfl) (Eq.trans (b := (σ.2.1 58)) rfl rfl) (Eq.trans (b := (σ.1 59)) rfl rfl)
            exact r_retv C ⟨(upd (σ.2.1 51) k0.toNatClampNeg (1 : Int32)), (vp_updL (σ.2.2.1 52) k0.toNatClampNeg (0 : Int64)), (vp_updL (σ.2.2.1 53) k0.toNatClampNeg (0 : Int64)), (vf_upd (σ.2.2.2) k0.toNatClampNeg FP.dconst0), (σ.1 56)⟩ ⟨(v_toBool_65 σ k0 x1 x26 x51 x53 x69 x70 hpre_0 hpre_1 hpre_2 hpre_3 ex1 tx1 c2 ex26 tx26 c27 ex51 tx51 c52 ex53 tx53 c54 ex69 ex70 c71), (v_toBool_66 σ k0 x1 x26 x51 x53 x69 x70 hpre_0 hpre_1 hpre_2 hpre_3 ex1 tx1 c2 ex26 tx26 c27 ex51 tx51 c52 ex53 tx53 c54 ex69 ex70 c71)⟩ hP hS dX12_toBool_154
          · have c71 : ¬ x70.toInt = 0 := by have h := z_ne c71; rw [show (0 : Int32).toInt = 0 from by decide +kernel] at h; exact h
            refine lv_iconst (v := 1) hx hb dX12_toBool_69 (by decide +kernel) ?_
            refine lv_goto (tgt := 74) hx hb dX12_toBool_70 (by decide) ?_
            refine lv_istore_n (lv' := [(2, .int 1), (0, .ref (ad 0)), (1, .int k0)]) hx hb dX12_toBool_74 rfl hl (by decide) rfl (fun ls hl => ?_)
            refine lv_goto (tgt := 138) hx hb dX12_toBool_75 (by decide) ?_
            refine lv_aload_n hx hb dX12_toBool_138 rfl (lv_at hl 1 rfl) ?_
            refine lv_iload_n hx hb dX12_toBool_139 rfl (lv_at hl 2 rfl) ?_
            refine lv_iconst (v := 1) hx hb dX12_toBool_140 (by decide +kernel) ?_
            refine lv_iload_n hx hb dX12_toBool_141 rfl (lv_at hl 0 rfl) ?_
            refine lv_if_eq (tgt := 149) hx hb dX12_toBool_142 (by decide) (fun c74 => absurd c74 (by decide +kernel)) (fun _ => ?_)
            refine lv_lconst (v := 1) hx hb dX12_toBool_145 rfl ?_
            refine lv_goto (tgt := 150) hx hb dX12_toBool_146 (by decide) ?_
            refine lv_dconst0 hx hb dX12_toBool_150 ?_
            refine r_callVv (As := [.int k0, .int 1, .long 1, .double FP.dconst0]) (rest := []) C hP hS hl.1 ⟨Nat.zero_le _, Nat.zero_le _⟩ (M_set l D cy sz0 sa ad σ s.heap.size k0 (1 : Int32) (1 : Int64) FP.dconst0 (v_toBool_67 σ k0 x1 x26 x51 x53 x69 x70 hpre_0 hpre_1 ex1 tx1 c2 ex26 tx26 c27 ex51 tx51 c52 ex53 tx53 c54 ex69 ex70 c71)) (n := 4) ⟨wm_213, wm_207, by decide +kernel⟩ ⟨wm_214, wm_215, wm_10⟩ rfl rfl (lv_room (Nat.le_of_ble_eq_true rfl)) ⟨Nat.le_of_ble_eq_true rfl, Nat.le_of_ble_eq_true rfl⟩ dX12_toBool_151 (fun u H locs hr75 hP hS => ?_)
            have hr75 : True := hr75
            have hP : RP D cy ad (rR (rJ (rJ (rA σ 51 (upd (σ.2.1 51) k0.toNatClampNeg (1 : Int32))) 52 (vp_updL (σ.2.2.1 52) k0.toNatClampNeg (1 : Int64))) 53 (vp_updL (σ.2.2.1 53) k0.toNatClampNeg (0 : Int64))) (vf_upd (σ.2.2.2) k0.toNatClampNeg FP.dconst0)) H := hP
            have hP : RP D cy ad (rS (rR (rJ (rJ (rA σ 51 (upd (σ.2.1 51) k0.toNatClampNeg (1 : Int32))) 52 (vp_updL (σ.2.2.1 52) k0.toNatClampNeg (1 : Int64))) 53 (vp_updL (σ.2.2.1 53) k0.toNatClampNeg (0 : Int64))) (vf_upd (σ.2.2.2) k0.toNatClampNeg FP.dconst0)) 56 (σ.1 56)) H := RP.cong hP (Eq.trans (b := (σ.1 0)) rfl rfl) (Eq.trans (b := (σ.1 1)) rfl rfl) (Eq.trans (b := (σ.2.1 2)) rfl rfl) (Eq.trans (b := (σ.1 3)) rfl rfl) (Eq.trans (b := (σ.2.1 4)) rfl rfl) (Eq.trans (b := (σ.2.1 5)) rfl rfl) (Eq.trans (b := (σ.2.2.1 6)) rfl rfl) (Eq.trans (b := (σ.2.1 7)) rfl rfl) (Eq.trans (b := (σ.1 8)) rfl rfl) (Eq.trans (b := (σ.1 9)) rfl rfl) (Eq.trans (b := (σ.1 10)) rfl rfl) (Eq.trans (b := (σ.2.1 11)) rfl rfl) (Eq.trans (b := (σ.2.2.1 12)) rfl rfl) (Eq.trans (b := (σ.2.1 13)) rfl rfl) (Eq.trans (b := (σ.1 14)) rfl rfl) (Eq.trans (b := (σ.1 15)) rfl rfl) (Eq.trans (b := (σ.1 16)) rfl rfl) (Eq.trans (b := (σ.1 17)) rfl rfl) (Eq.trans (b := (σ.1 18)) rfl rfl) (Eq.trans (b := (σ.1 19)) rfl rfl) (Eq.trans (b := (σ.2.1 20)) rfl rfl) (Eq.trans (b := (σ.2.1 21)) rfl rfl) (Eq.trans (b := (σ.2.1 22)) rfl rfl) (Eq.trans (b := (σ.2.1 23)) rfl rfl) (Eq.trans (b := (σ.2.1 24)) rfl rfl) (Eq.trans (b := (σ.2.1 25)) rfl rfl) (Eq.trans (b := (σ.2.1 26)) rfl rfl) (Eq.trans (b := (σ.2.1 27)) rfl rfl) (Eq.trans (b := (σ.2.1 28)) rfl rfl) (Eq.trans (b := (σ.1 29)) rfl rfl) (Eq.trans (b := (σ.2.1 30)) rfl rfl) (Eq.trans (b := (σ.2.1 31)) rfl rfl) (Eq.trans (b := (σ.2.1 32)) rfl rfl) (Eq.trans (b := (σ.1 33)) rfl rfl) (Eq.trans (b := (σ.1 34)) rfl rfl) (Eq.trans (b := (σ.1 35)) rfl rfl) (Eq.trans (b := (σ.2.1 36)) rfl rfl) (Eq.trans (b := (σ.2.1 37)) rfl rfl) (Eq.trans (b := (σ.2.1 38)) rfl rfl) (Eq.trans (b := (σ.2.1 39)) rfl rfl) (Eq.trans (b := (σ.2.1 40)) rfl rfl) (Eq.trans (b := (σ.2.1 41)) rfl rfl) (Eq.trans (b := (σ.2.1 42)) rfl rfl) (Eq.trans (b := (σ.2.1 43)) rfl rfl) (Eq.trans (b := (σ.2.1 44)) rfl rfl) (Eq.trans (b := (σ.2.1 45)) rfl rfl) (Eq.trans (b := (σ.2.1 46)) rfl rfl) (Eq.trans (b := (σ.1 47)) rfl rfl) (Eq.trans (b := (σ.2.1 48)) rfl rfl) (Eq.trans (b := (σ.1 49)) rfl rfl) (Eq.trans (b := (σ.2.1 50)) rfl rfl) (Eq.trans (b := (upd (σ.2.1 51) k0.toNatClampNeg (1 : Int32))) rfl rfl) (Eq.trans (b := (vp_updL (σ.2.2.1 52) k0.toNatClampNeg (1 : Int64))) rfl rfl) (Eq.trans (b := (vp_updL (σ.2.2.1 53) k0.toNatClampNeg (0 : Int64))) rfl rfl) (Eq.trans (b := (vf_upd (σ.2.2.2) k0.toNatClampNeg FP.dconst0)) rfl rfl) (Eq.trans (b := (σ.1 55)) rfl rfl) (Eq.trans (b := (σ.1 56)) rfl rfl) (Eq.trans (b := (σ.1 57)) rfl rfl) (Eq.trans (b := (σ.2.1 58)) rfl rfl) (Eq.trans (b := (σ.1 59)) rfl rfl)
            exact r_retv C ⟨(upd (σ.2.1 51) k0.toNatClampNeg (1 : Int32)), (vp_updL (σ.2.2.1 52) k0.toNatClampNeg (1 : Int64)), (vp_updL (σ.2.2.1 53) k0.toNatClampNeg (0 : Int64)), (vf_upd (σ.2.2.2) k0.toNatClampNeg FP.dconst0), (σ.1 56)⟩ ⟨(v_toBool_68 σ k0 x1 x26 x51 x53 x69 x70 hpre_0 hpre_1 hpre_2 hpre_3 ex1 tx1 c2 ex26 tx26 c27 ex51 tx51 c52 ex53 tx53 c54 ex69 ex70 c71), (v_toBool_69 σ k0 x1 x26 x51 x53 x69 x70 hpre_0 hpre_1 hpre_2 hpre_3 ex1 tx1 c2 ex26 tx26 c27 ex51 tx51 c52 ex53 tx53 c54 ex69 ex70 c71)⟩ hP hS dX12_toBool_154
      · have c52 : ¬ x51.toInt = 4 := by have h := z_ne c52; rw [show (4 : Int32).toInt = 4 from by decide +kernel] at h; exact h
        refine lv_aload_n hx hb dX12_toBool_31 rfl (lv_at hl 0 rfl) ?_
        refine rg_52 C hP wm_206 dX12_toBool_32 ?_
        refine lv_iload_n hx hb dX12_toBool_35 rfl (lv_at hl 1 rfl) ?_
        refine ra_52 (f := (σ.2.2.1 52)) C hP rfl (v_toBool_70 σ k0 x1 x26 x51 hpre_0 hpre_1 ex1 tx1 c2 ex26 tx26 c27 ex51 tx51 c52) dX12_toBool_36 (fun x76 ex76 => ?_)
        have tx76 : x76.toInt = ((σ.2.2.1 52) k0.toNatClampNeg).toInt := by rw [ex76]
        refine lv_lconst (v := 0) hx hb dX12_toBool_37 rfl ?_
        refine W.lcmp hx hb dX12_toBool_38 ?_
        refine lv_topi (fun x77 ex77 => ?_)
        have tx77 : (x77.toInt = 0 ↔ x76.toInt = 0) ∧ (x77.toInt < 0 ↔ x76.toInt < 0) := z_lcmp ex77 rfl (by decide +kernel)
        refine lv_if_eq (tgt := 46) hx hb dX12_toBool_39 (by decide) (fun c78 => ?_) (fun c78 => ?_)
        · have c78 : x77.toInt = 0 := by have h := z_eq c78; rw [show (0 : Int32).toInt = 0 from by decide +kernel] at h; exact h
          refine lv_iconst (v := 0) hx hb dX12_toBool_46 (by decide +kernel) ?_
          refine lv_istore_n (lv' := [(2, .int 0), (0, .ref (ad 0)), (1, .int k0)]) hx hb dX12_toBool_47 rfl hl (by decide) rfl (fun ls hl => ?_)
          refine lv_aload_n hx hb dX12_toBool_48 rfl (lv_at hl 1 rfl) ?_
          refine rg_51 C hP wm_205 dX12_toBool_49 ?_
          refine lv_iload_n hx hb dX12_toBool_52 rfl (lv_at hl 2 rfl) ?_
          refine ra_51 (f := (σ.2.1 51)) C hP rfl (v_toBool_71 σ k0 x1 x26 x51 x76 x77 hpre_0 hpre_1 ex1 tx1 c2 ex26 tx26 c27 ex51 tx51 c52 ex76 tx76 tx77 c78) dX12_toBool_53 (fun x79 ex79 => ?_)
          have tx79 : x79.toInt = ((σ.2.1 51) k0.toNatClampNeg).toInt := by rw [ex79]
          refine lv_iconst (v := 3) hx hb dX12_toBool_54 (by decide +kernel) ?_
          refine lv_icmp_ne (tgt := 78) hx hb dX12_toBool_55 (by decide) (fun c80 => ?_) (fun c80 => ?_)
          · have c80 : ¬ x79.toInt = 3 := by have h := z_ne c80; rw [show (3 : Int32).toInt = 3 from by decide +kernel] at h; exact h
            refine lv_aload_n hx hb dX12_toBool_78 rfl (lv_at hl 1 rfl) ?_
            refine rg_51 C hP wm_205 dX12_toBool_79 ?_
            refine lv_iload_n hx hb dX12_toBool_82 rfl (lv_at hl 2 rfl) ?_
            refine ra_51 (f := (σ.2.1 51)) C hP rfl (v_toBool_72 σ k0 x1 x26 x51 x76 x77 x79 hpre_0 hpre_1 ex1 tx1 c2 ex26 tx26 c27 ex51 tx51 c52 ex76 tx76 tx77 c78 ex79 tx79 c80) dX12_toBool_83 (fun x81 ex81 => ?_)
            have tx81 : x81.toInt = ((σ.2.1 51) k0.toNatClampNeg).toInt := by rw [ex81]
            refine lv_iconst (v := 4) hx hb dX12_toBool_84 (by decide +kernel) ?_
            refine lv_icmp_ne (tgt := 138) hx hb dX12_toBool_85 (by decide) (fun c82 => ?_) (fun c82 => ?_)
            · have c82 : ¬ x81.toInt = 4 := by have h := z_ne c82; rw [show (4 : Int32).toInt = 4 from by decide +kernel] at h; exact h
              refine lv_aload_n hx hb dX12_toBool_138 rfl (lv_at hl 1 rfl) ?_
              refine lv_iload_n hx hb dX12_toBool_139 rfl (lv_at hl 2 rfl) ?_
              refine lv_iconst (v := 1) hx hb dX12_toBool_140 (by decide +kernel) ?_
              refine lv_iload_n hx hb dX12_toBool_141 rfl (lv_at hl 0 rfl) ?_
              refine lv_if_eq (tgt := 149) hx hb dX12_toBool_142 (by decide) (fun _ => ?_) (fun c83 => absurd (by decide +kernel) c83)
              refine lv_lconst (v := 0) hx hb dX12_toBool_149 rfl ?_
              refine lv_dconst0 hx hb dX12_toBool_150 ?_
              refine r_callVv (As := [.int k0, .int 1, .long 0, .double FP.dconst0]) (rest := []) C hP hS hl.1 ⟨Nat.zero_le _, Nat.zero_le _⟩ (M_set l D cy sz0 sa ad σ s.heap.size k0 (1 : Int32) (0 : Int64) FP.dconst0 (v_toBool_73 σ k0 x1 x26 x51 x76 x77 x79 x81 hpre_0 hpre_1 ex1 tx1 c2 ex26 tx26 c27 ex51 tx51 c52 ex76 tx76 tx77 c78 ex79 tx79 c80 ex81 tx81 c82)) (n := 4) ⟨wm_213, wm_207, by decide +kernel⟩ ⟨wm_214, wm_215, wm_10⟩ rfl rfl (lv_room (Nat.le_of_ble_eq_true rfl)) ⟨Nat.le_of_ble_eq_true rfl, Nat.le_of_ble_eq_true rfl⟩ dX12_toBool_151 (fun u H locs hr84 hP hS => ?_)
              have hr84 : True := hr84
              have hP : RP D cy ad (rR (rJ (rJ (rA σ 51 (upd (σ.2.1 51) k0.toNatClampNeg (1 : Int32))) 52 (vp_updL (σ.2.2.1 52) k0.toNatClampNeg (0 : Int64))) 53 (vp_updL (σ.2.2.1 53) k0.toNatClampNeg (0 : Int64))) (vf_upd (σ.2.2.2) k0.toNatClampNeg FP.dconst0)) H := hP
              have hP : RP D cy ad (rS (rR (rJ (rJ (rA σ 51 (upd (σ.2.1 51) k0.toNatClampNeg (1 : Int32))) 52 (vp_updL (σ.2.2.1 52) k0.toNatClampNeg (0 : Int64))) 53 (vp_updL (σ.2.2.1 53) k0.toNatClampNeg (0 : Int64))) (vf_upd (σ.2.2.2) k0.toNatClampNeg FP.dconst0)) 56 (σ.1 56)) H := RP.cong hP (Eq.trans (b := (σ.1 0)) rfl rfl) (Eq.trans (b := (σ.1 1)) rfl rfl) (Eq.trans (b := (σ.2.1 2)) rfl rfl) (Eq.trans (b := (σ.1 3)) rfl rfl) (Eq.trans (b := (σ.2.1 4)) rfl rfl) (Eq.trans (b := (σ.2.1 5)) rfl rfl) (Eq.trans (b := (σ.2.2.1 6)) rfl rfl) (Eq.trans (b := (σ.2.1 7)) rfl rfl) (Eq.trans (b := (σ.1 8)) rfl rfl) (Eq.trans (b := (σ.1 9)) rfl rfl) (Eq.trans (b := (σ.1 10)) rfl rfl) (Eq.trans (b := (σ.2.1 11)) rfl rfl) (Eq.trans (b := (σ.2.2.1 12)) rfl rfl) (Eq.trans (b := (σ.2.1 13)) rfl rfl) (Eq.trans (b := (σ.1 14)) rfl rfl) (Eq.trans (b := (σ.1 15)) rfl rfl) (Eq.trans (b := (σ.1 16)) rfl rfl) (Eq.trans (b := (σ.1 17)) rfl rfl) (Eq.trans (b := (σ.1 18)) rfl rfl) (Eq.trans (b := (σ.1 19)) rfl rfl) (Eq.trans (b := (σ.2.1 20)) rfl rfl) (Eq.trans (b := (σ.2.1 21)) rfl rfl) (Eq.trans (b := (σ.2.1 22)) rfl rfl) (Eq.trans (b := (σ.2.1 23)) rfl rfl) (Eq.trans (b := (σ.2.1 24)) rfl rfl) (Eq.trans (b := (σ.2.1 25)) rfl rfl) (Eq.trans (b := (σ.2.1 26)) rfl rfl) (Eq.trans (b := (σ.2.1 27)) rfl rfl) (Eq.trans (b := (σ.2.1 28)) rfl rfl) (Eq.trans (b := (σ.1 29)) rfl rfl) (Eq.trans (b := (σ.2.1 30)) rfl rfl) (Eq.trans (b := (σ.2.1 31)) rfl rfl) (Eq.trans (b := (σ.2.1 32)) rfl rfl) (Eq.trans (b := (σ.1 33)) rfl rfl) (Eq.trans (b := (σ.1 34)) rfl rfl) (Eq.trans (b := (σ.1 35)) rfl rfl) (Eq.trans (b := (σ.2.1 36)) rfl rfl) (Eq.trans (b := (σ.2.1 37)) rfl rfl) (Eq.trans (b := (σ.2.1 38)) rfl rfl) (Eq.trans (b := (σ.2.1 39)) rfl rfl) (Eq.trans (b := (σ.2.1 40)) rfl rfl) (Eq.trans (b := (σ.2.1 41)) rfl rfl) (Eq.trans (b := (σ.2.1 42)) rfl rfl) (Eq.trans (b := (σ.2.1 43)) rfl rfl) (Eq.trans (b := (σ.2.1 44)) rfl rfl) (Eq.trans (b := (σ.2.1 45)) rfl rfl) (Eq.trans (b := (σ.2.1 46)) rfl rfl) (Eq.trans (b := (σ.1 47)) rfl rfl) (Eq.trans (b := (σ.2.1 48)) rfl rfl) (Eq.trans (b := (σ.1 49)) rfl rfl) (Eq.trans (b := (σ.2.1 50)) rfl rfl) (Eq.trans (b := (upd (σ.2.1 51) k0.toNatClampNeg (1 : Int32))) rfl rfl) (Eq.trans (b := (vp_updL (σ.2.2.1 52) k0.toNatClampNeg (0 : Int64))) rfl rfl) (Eq.trans (b := (vp_updL (σ.2.2.1 53) k0.toNatClampNeg (0 : Int64))) rfl rfl) (Eq.trans (b := (vf_upd (σ.2.2.2) k0.toNatClampNeg FP.dconst0)) rfl rfl) (Eq.trans (b := (σ.1 55)) rfl rfl) (Eq.trans (b := (σ.1 56)) rfl rfl) (Eq.trans (b := (σ.1 57)) rfl rfl) (Eq.trans (b := (σ.2.1 58)) rfl rfl) (Eq.trans (b := (σ.1 59)) rfl rfl)
              exact r_retv C ⟨(upd (σ.2.1 51) k0.toNatClampNeg (1 : Int32)), (vp_updL (σ.2.2.1 52) k0.toNatClampNeg (0 : Int64)), (vp_updL (σ.2.2.1 53) k0.toNatClampNeg (0 : Int64)), (vf_upd (σ.2.2.2) k0.toNatClampNeg FP.dconst0), (σ.1 56)⟩ ⟨(v_toBool_74 σ k0 x1 x26 x51 x76 x77 x79 x81 hpre_0 hpre_1 hpre_2 hpre_3 ex1 tx1 c2 ex26 tx26 c27 ex51 tx51 c52 ex76 tx76 tx77 c78 ex79 tx79 c80 ex81 tx81 c82), (v_toBool_75 σ k0 x1 x26 x51 x76 x77 x79 x81 hpre_0 hpre_1 hpre_2 hpre_3 ex1 tx1 c2 ex26 tx26 c27 ex51 tx51 c52 ex76 tx76 tx77 c78 ex79 tx79 c80 ex81 tx81 c82)⟩ hP hS dX12_toBool_154
            · have c82 : x81.toInt = 4 := by have h := z_eq c82; rw [show (4 : Int32).toInt = 4 from by decide +kernel] at h; exact h
              refine lv_aload_n hx hb dX12_toBool_88 rfl (lv_at hl 1 rfl) ?_
              refine lv_iload_n hx hb dX12_toBool_89 rfl (lv_at hl 2 rfl) ?_
              refine lv_bipush (v := 116) hx hb dX12_toBool_90 (by decide +kernel) ?_
              refine lv_bipush (v := 114) hx hb dX12_toBool_92 (by decide +kernel) ?_
              refine lv_bipush (v := 117) hx hb dX12_toBool_94 (by decide +kernel) ?_
              refine lv_bipush (v := 101) hx hb dX12_toBool_96 (by decide +kernel) ?_
              refine lv_iconst (v := 0) hx hb dX12_toBool_98 (by decide +kernel) ?_
              refine r_callVi (As := [.int k0, .int 116, .int 114, .int 117, .int 101, .int 0]) (rest := []) C hP hS hl.1 ⟨Nat.zero_le _, Nat.zero_le _⟩ (M_spells l D cy sz0 sa ad σ s.heap.size k0 (116 : Int32) (114 : Int32) (117 : Int32) (101 : Int32) (0 : Int32) (v_toBool_76 σ k0 x1 x26 x51 x76 x77 x79 x81 hpre_0 hpre_1 ex1 tx1 c2 ex26 tx26 c27 ex51 tx51 c52 ex76 tx76 tx77 c78 ex79 tx79 c80 ex81 tx81 c82)) (n := 6) ⟨wm_249, wm_247, by decide +kernel⟩ ⟨wm_250, wm_251, wm_10⟩ rfl rfl (lv_room (Nat.le_of_ble_eq_true rfl)) ⟨Nat.le_of_ble_eq_true rfl, Nat.le_of_ble_eq_true rfl⟩ dX12_toBool_99 (fun r85 u H locs hr85 hP hS => ?_)
              obtain ⟨hr85, hr85y⟩ := hr85
              have hr85y : ∀ s9 : List Int, QTT ((σ.2.2.1 52) k0.toNatClampNeg) ((σ.2.2.1 53) k0.toNatClampNeg) s9 → 0 ≤ (0 : Int32).toInt → (r85.toInt = 0 → ¬ s9 = (if 0 < (0 : Int32).toInt then [(116 : Int32).toInt, (114 : Int32).toInt, (117 : Int32).toInt, (101 : Int32).toInt, (0 : Int32).toInt] else [(116 : Int32).toInt, (114 : Int32).toInt, (117 : Int32).toInt, (101 : Int32).toInt])) ∧ (¬ r85.toInt = 0 → s9 = (if 0 < (0 : Int32).toInt then [(116 : Int32).toInt, (114 : Int32).toInt, (117 : Int32).toInt, (101 : Int32).toInt, (0 : Int32).toInt] else [(116 : Int32).toInt, (114 : Int32).toInt, (117 : Int32).toInt, (101 : Int32).toInt])) := hr85y
              have hr85 : True := hr85
              refine lv_istore_n (lv' := [(2, .int r85), (0, .ref (ad 0)), (1, .int k0)]) hx hb dX12_toBool_102 rfl hl (by decide) rfl (fun ls hl => ?_)
              refine lv_aload_n hx hb dX12_toBool_103 rfl (lv_at hl 1 rfl) ?_
              refine lv_iload_n hx hb dX12_toBool_104 rfl (lv_at hl 0 rfl) ?_
              refine lv_if_ne (tgt := 126) hx hb dX12_toBool_105 (by decide) (fun c86 => ?_) (fun c86 => ?_)
              · have c86 : ¬ r85.toInt = 0 := by have h := z_ne c86; rw [show (0 : Int32).toInt = 0 from by decide +kernel] at h; exact h
                refine lv_aload_n hx hb dX12_toBool_126 rfl (lv_at hl 1 rfl) ?_
                refine rg_56 (v := (σ.1 56)) C hP rfl wm_242 dX12_toBool_127 ?_
                refine lv_goto (tgt := 135) hx hb dX12_toBool_130 (by decide) ?_
                refine rp_56 C hP hS wm_242 dX12_toBool_135 (fun H locs hP hS => ?_)
                refine lv_aload_n hx hb dX12_toBool_138 rfl (lv_at hl 1 rfl) ?_
                refine lv_iload_n hx hb dX12_toBool_139 rfl (lv_at hl 2 rfl) ?_
                refine lv_iconst (v := 1) hx hb dX12_toBool_140 (by decide +kernel) ?_
                refine lv_iload_n hx hb dX12_toBool_141 rfl (lv_at hl 0 rfl) ?_
                refine lv_if_eq (tgt := 149) hx hb dX12_toBool_142 (by decide) (fun c87 => ?_) (fun c87 => ?_)
                · have c87 : r85.toInt = 0 := by have h := z_eq c87; rw [show (0 : Int32).toInt = 0 from by decide +kernel] at h; exact h
                  exact absurd (v_toBool_77 r85 c86 c87) id
                · have c87 : ¬ r85.toInt = 0 := by have h := z_ne c87; rw [show (0 : Int32).toInt = 0 from by decide +kernel] at h; exact h
                  refine lv_lconst (v := 1) hx hb dX12_toBool_145 rfl ?_
                  refine lv_goto (tgt := 150) hx hb dX12_toBool_146 (by decide) ?_
                  refine lv_dconst0 hx hb dX12_toBool_150 ?_
                  refine r_callVv (As := [.int k0, .int 1, .long 1, .double FP.dconst0]) (rest := []) C hP hS hl.1 ⟨Nat.zero_le _, Nat.zero_le _⟩ (M_set l D cy sz0 sa ad (rS σ 56 (σ.1 56)) H.size k0 (1 : Int32) (1 : Int64) FP.dconst0 (v_toBool_76 σ k0 x1 x26 x51 x76 x77 x79 x81 hpre_0 hpre_1 ex1 tx1 c2 ex26 tx26 c27 ex51 tx51 c52 ex76 tx76 tx77 c78 ex79 tx79 c80 ex81 tx81 c82)) (n := 4) ⟨wm_213, wm_207, by decide +kernel⟩ ⟨wm_214, wm_215, wm_10⟩ rfl rfl (lv_room (Nat.le_of_ble_eq_true rfl)) ⟨Nat.le_of_ble_eq_true rfl, Nat.le_of_ble_eq_true rfl⟩ dX12_toBool_151 (fun u H locs hr88 hP hS => ?_)
                  have hr88 : True := hr88
                  have hP : RP D cy ad (rR (rJ (rJ (rA (rS σ 56 (σ.1 56)) 51 (upd (σ.2.1 51) k0.toNatClampNeg (1 : Int32))) 52 (vp_updL (σ.2.2.1 52) k0.toNatClampNeg (1 : Int64))) 53 (vp_updL (σ.2.2.1 53) k0.toNatClampNeg (0 : Int64))) (vf_upd (σ.2.2.2) k0.toNatClampNeg FP.dconst0)) H := hP
                  have hP : RP D cy ad (rS (rR (rJ (rJ (rA σ 51 (upd (σ.2.1 51) k0.toNatClampNeg (1 : Int32))) 52 (vp_updL (σ.2.2.1 52) k0.toNatClampNeg (1 : Int64))) 53 (vp_updL (σ.2.2.1 53) k0.toNatClampNeg (0 : Int64))) (vf_upd (σ.2.2.2) k0.toNatClampNeg FP.dconst0)) 56 (σ.1 56)) H := RP.cong hP (Eq.trans (b := (σ.1 0)) rfl rfl) (Eq.trans (b := (σ.1 1)) rfl rfl) (Eq.trans (b := (σ.2.1 2)) rfl rfl) (Eq.trans (b := (σ.1 3)) rfl rfl) (Eq.trans (b := (σ.2.1 4)) rfl rfl) (Eq.trans (b := (σ.2.1 5)) rfl rfl) (Eq.trans (b := (σ.2.2.1 6)) rfl rfl) (Eq.trans (b := (σ.2.1 7)) rfl rfl) (Eq.trans (b := (σ.1 8)) rfl rfl) (Eq.trans (b := (σ.1 9)) rfl rfl) (Eq.trans (b := (σ.1 10)) rfl rfl) (Eq.trans (b := (σ.2.1 11)) rfl rfl) (Eq.trans (b := (σ.2.2.1 12)) rfl rfl) (Eq.trans (b := (σ.2.1 13)) rfl rfl) (Eq.trans (b := (σ.1 14)) rfl rfl) (Eq.trans (b := (σ.1 15)) rfl rfl) (Eq.trans (b := (σ.1 16)) rfl rfl) (Eq.trans (b := (σ.1 17)) rfl rfl) (Eq.trans (b := (σ.1 18)) rfl rfl) (Eq.trans (b := (σ.1 19)) rfl rfl) (Eq.trans (b := (σ.2.1 20)) rfl rfl) (Eq.trans (b := (σ.2.1 21)) rfl rfl) (Eq.trans (b := (σ.2.1 22)) rfl rfl) (Eq.trans (b := (σ.2.1 23)) rfl rfl) (Eq.trans (b := (σ.2.1 24)) rfl rfl) (Eq.trans (b := (σ.2.1 25)) rfl rfl) (Eq.trans (b := (σ.2.1 26)) rfl rfl) (Eq.trans (b := (σ.2.1 27)) rfl rfl) (Eq.trans (b := (σ.2.1 28)) rfl rfl) (Eq.trans (b := (σ.1 29)) rfl rfl) (Eq.trans (b := (σ.2.1 30)) rfl rfl) (Eq.trans (b := (σ.2.1 31)) rfl rfl) (Eq.trans (b := (σ.2.1 32)) rfl rfl) (Eq.trans (b := (σ.1 33)) rfl rfl) (Eq.trans (b := (σ.1 34)) rfl rfl) (Eq.trans (b := (σ.1 35)) rfl rfl) (Eq.trans (b := (σ.2.1 36)) rfl rfl) (Eq.trans (b := (σ.2.1 37)) rfl rfl) (Eq.trans (b := (σ.2.1 38)) rfl rfl) (Eq.trans (b := (σ.2.1 39)) rfl rfl) (Eq.trans (b := (σ.2.1 40)) rfl rfl) (Eq.trans (b := (σ.2.1 41)) rfl rfl) (Eq.trans (b := (σ.2.1 42)) rfl rfl) (Eq.trans (b := (σ.2.1 43)) rfl rfl) (Eq.trans (b := (σ.2.1 44)) rfl rfl) (Eq.trans (b := (σ.2.1 45)) rfl rfl) (Eq.trans (b := (σ.2.1 46)) rfl rfl) (Eq.trans (b := (σ.1 47)) rfl rfl) (Eq.trans (b := (σ.2.1 48)) rfl rfl) (Eq.trans (b := (σ.1 49)) rfl rfl) (Eq.trans (b := (σ.2.1 50)) rfl rfl) (Eq.trans (b := (upd (σ.2.1 51) k0.toNatClampNeg (1 : Int32))) rfl rfl) (Eq.trans (b := (vp_updL (σ.2.2.1 52) k0.toNatClampNeg (1 : Int64))) rfl rfl) (Eq.trans (b := (vp_updL (σ.2.2.1 53) k0.toNatClampNeg (0 : Int64))) rfl rfl) (Eq.trans (b := (vf_upd (σ.2.2.2) k0.toNatClampNeg FP.dconst0)) rfl rfl) (Eq.trans (b := (σ.1 55)) rfl rfl) (Eq.trans (b := (σ.1 56)) rfl rfl) (Eq.trans (b := (σ.1 57)) rfl rfl) (Eq.trans (b := (σ.2.1 58)) rfl rfl) (Eq.trans (b := (σ.1 59)) rfl rfl)
                  exact r_retv C ⟨(upd (σ.2.1 51) k0.toNatClampNeg (1 : Int32)), (vp_updL (σ.2.2.1 52) k0.toNatClampNeg (1 : Int64)), (vp_updL (σ.2.2.1 53) k0.toNatClampNeg (0 : Int64)), (vf_upd (σ.2.2.2) k0.toNatClampNeg FP.dconst0), (σ.1 56)⟩ ⟨(v_toBool_78 σ k0 x1 x26 x51 x76 x77 x79 x81 hpre_0 hpre_1 hpre_2 hpre_3 ex1 tx1 c2 ex26 tx26 c27 ex51 tx51 c52 ex76 tx76 tx77 c78 ex79 tx79 c80 ex81 tx81 c82), (v_toBool_79 σ k0 x1 x26 x51 x76 x77 x79 x81 r85 hpre_0 hpre_1 hpre_2 hpre_3 ex1 tx1 c2 ex26 tx26 c27 ex51 tx51 c52 ex76 tx76 tx77 c78 ex79 tx79 c80 ex81 tx81 c82 hr85y c86 c87)⟩ hP hS dX12_toBool_154
              · have c86 : r85.toInt = 0 := by have h := z_eq c86; rw [show (0 : Int32).toInt = 0 from by decide +kernel] at h; exact h
                refine lv_aload_n hx hb dX12_toBool_108 rfl (lv_at hl 1 rfl) ?_
                refine lv_iload_n hx hb dX12_toBool_109 rfl (lv_at hl 2 rfl) ?_
                refine lv_bipush (v := 102) hx hb dX12_toBool_110 (by decide +kernel) ?_
                refine lv_bipush (v := 97) hx hb dX12_toBool_112 (by decide +kernel) ?_
                refine lv_bipush (v := 108) hx hb dX12_toBool_114 (by decide +kernel) ?_
                refine lv_bipush (v := 115) hx hb dX12_toBool_116 (by decide +kernel) ?_
                refine lv_bipush (v := 101) hx hb dX12_toBool_118 (by decide +kernel) ?_
                refine r_callVi (As := [.int k0, .int 102, .int 97, .int 108, .int 115, .int 101]) (rest := [.ref (ad 0)]) C hP hS hl.1 ⟨Nat.zero_le _, Nat.zero_le _⟩ (M_spells l D cy sz0 sa ad σ H.size k0 (102 : Int32) (97 : Int32) (108 : Int32) (115 : Int32) (101 : Int32) (v_toBool_76 σ k0 x1 x26 x51 x76 x77 x79 x81 hpre_0 hpre_1 ex1 tx1 c2 ex26 tx26 c27 ex51 tx51 c52 ex76 tx76 tx77 c78 ex79 tx79 c80 ex81 tx81 c82)) (n := 6) ⟨wm_249, wm_247, by decide +kernel⟩ ⟨wm_250, wm_251, wm_10⟩ rfl rfl (lv_room (Nat.le_of_ble_eq_true rfl)) ⟨Nat.le_of_ble_eq_true rfl, Nat.le_of_ble_eq_true rfl⟩ dX12_toBool_120 (fun r89 u H locs hr89 hP hS => ?_)
                obtain ⟨hr89, hr89y⟩ := hr89
                have hr89y : ∀ s9 : List Int, QTT ((σ.2.2.1 52) k0.toNatClampNeg) ((σ.2.2.1 53) k0.toNatClampNeg) s9 → 0 ≤ (101 : Int32).toInt → (r89.toInt = 0 → ¬ s9 = (if 0 < (101 : Int32).toInt then [(102 : Int32).toInt, (97 : Int32).toInt, (108 : Int32).toInt, (115 : Int32).toInt, (101 : Int32).toInt] else [(102 : Int32).toInt, (97 : Int32).toInt, (108 : Int32).toInt, (115 : Int32).toInt])) ∧ (¬ r89.toInt = 0 → s9 = (if 0 < (101 : Int32).toInt then [(102 : Int32).toInt, (97 : Int32).toInt, (108 : Int32).toInt, (115 : Int32).toInt, (101 : Int32).toInt] else [(102 : Int32).toInt, (97 : Int32).toInt, (108 : Int32).toInt, (115 : Int32).toInt])) := hr89y
                have hr89 : True := hr89
                refine lv_if_eq (tgt := 133) hx hb dX12_toBool_123 (by decide) (fun c90 => ?_) (fun c90 => ?_)
                · have c90 : r89.toInt = 0 := by have h := z_eq c90; rw [show (0 : Int32).toInt = 0 from by decide +kernel] at h; exact h
                  refine lv_bipush (v := 10) hx hb dX12_toBool_133 (by decide +kernel) ?_
                  refine rp_56 C hP hS wm_242 dX12_toBool_135 (fun H locs hP hS => ?_)
                  refine lv_aload_n hx hb dX12_toBool_138 rfl (lv_at hl 1 rfl) ?_
                  refine lv_iload_n hx hb dX12_toBool_139 rfl (lv_at hl 2 rfl) ?_
                  refine lv_iconst (v := 1) hx hb dX12_toBool_140 (by decide +kernel) ?_
                  refine lv_iload_n hx hb dX12_toBool_141 rfl (lv_at hl 0 rfl) ?_
                  refine lv_if_eq (tgt := 149) hx hb dX12_toBool_142 (by decide) (fun c91 => ?_) (fun c91 => ?_)
                  · have c91 : r85.toInt = 0 := by have h := z_eq c91; rw [show (0 : Int32).toInt = 0 from by decide +kernel] at h; exact h
                    refine lv_lconst (v := 0) hx hb dX12_toBool_149 rfl ?_
                    refine lv_dconst0 hx hb dX12_toBool_150 ?_
                    refine r_callVv (As := [.int k0, .int 1, .long 0, .double FP.dconst0]) (rest := []) C hP hS hl.1 ⟨Nat.zero_le _, Nat.zero_le _⟩ (M_set l D cy sz0 sa ad (rS σ 56 (10 : Int32)) H.size k0 (1 : Int32) (0 : Int64) FP.dconst0 (v_toBool_76 σ k0 x1 x26 x51 x76 x77 x79 x81 hpre_0 hpre_1 ex1 tx1 c2 ex26 tx26 c27 ex51 tx51 c52 ex76 tx76 tx77 c78 ex79 tx79 c80 ex81 tx81 c82)) (n := 4) ⟨wm_213, wm_207, by decide +kernel⟩ ⟨wm_214, wm_215, wm_10⟩ rfl rfl (lv_room (Nat.le_of_ble_eq_true rfl)) ⟨Nat.le_of_ble_eq_true rfl, Nat.le_of_ble_eq_true rfl⟩ dX12_toBool_151 (fun u H locs hr92 hP hS => ?_)
                    have hr92 : True := hr92
                    have hP : RP D cy ad (rR (rJ (rJ (rA (rS σ 56 (10 : Int32)) 51 (upd (σ.2.1 51) k0.toNatClampNeg (1 : Int32))) 52 (vp_updL (σ.2.2.1 52) k0.toNatClampNeg (0 : Int64))) 53 (vp_updL (σ.2.2.1 53) k0.toNatClampNeg (0 : Int64))) (vf_upd (σ.2.2.2) k0.toNatClampNeg FP.dconst0)) H := hP
                    have hP : RP D cy ad (rS (rR (rJ (rJ (rA σ 51 (upd (σ.2.1 51) k0.toNatClampNeg (1 : Int32))) 52 (vp_updL (σ.2.2.1 52) k0.toNatClampNeg (0 : Int64))) 53 (vp_updL (σ.2.2.1 53) k0.toNatClampNeg (0 : Int64))) (vf_upd (σ.2.2.2) k0.toNatClampNeg FP.dconst0)) 56 (10 : Int32)) H := RP.cong hP (Eq.trans (b := (σ.1 0)) rfl rfl) (Eq.trans (b := (σ.1 1)) rfl rfl) (Eq.trans (b := (σ.2.1 2)) rfl rfl) (Eq.trans (b := (σ.1 3)) rfl rfl) (Eq.trans (b := (σ.2.1 4)) rfl rfl) (Eq.trans (b := (σ.2.1 5)) rfl rfl) (Eq.trans (b := (σ.2.2.1 6)) rfl rfl) (Eq.trans (b := (σ.2.1 7)) rfl rfl) (Eq.trans (b := (σ.1 8)) rfl rfl) (Eq.trans (b := (σ.1 9)) rfl rfl) (Eq.trans (b := (σ.1 10)) rfl rfl) (Eq.trans (b := (σ.2.1 11)) rfl rfl) (Eq.trans (b := (σ.2.2.1 12)) rfl rfl) (Eq.trans (b := (σ.2.1 13)) rfl rfl) (Eq.trans (b := (σ.1 14)) rfl rfl) (Eq.trans (b := (σ.1 15)) rfl rfl) (Eq.trans (b := (σ.1 16)) rfl rfl) (Eq.trans (b := (σ.1 17)) rfl rfl) (Eq.trans (b := (σ.1 18)) rfl rfl) (Eq.trans (b := (σ.1 19)) rfl rfl) (Eq.trans (b := (σ.2.1 20)) rfl rfl) (Eq.trans (b := (σ.2.1 21)) rfl rfl) (Eq.trans (b := (σ.2.1 22)) rfl rfl) (Eq.trans (b := (σ.2.1 23)) rfl rfl) (Eq.trans (b := (σ.2.1 24)) rfl rfl) (Eq.trans (b := (σ.2.1 25)) rfl rfl) (Eq.trans (b := (σ.2.1 26)) rfl rfl) (Eq.trans (b := (σ.2.1 27)) rfl rfl) (Eq.trans (b := (σ.2.1 28)) rfl rfl) (Eq.trans (b := (σ.1 29)) rfl rfl) (Eq.trans (b := (σ.2.1 30)) rfl rfl) (Eq.trans (b := (σ.2.1 31)) rfl rfl) (Eq.trans (b := (σ.2.1 32)) rfl rfl) (Eq.trans (b := (σ.1 33)) rfl rfl) (Eq.trans (b := (σ.1 34)) rfl rfl) (Eq.trans (b := (σ.1 35)) rfl rfl) (Eq.trans (b := (σ.2.1 36)) rfl rfl) (Eq.trans (b := (σ.2.1 37)) rfl rfl) (Eq.trans (b := (σ.2.1 38)) rfl rfl) (Eq.trans (b := (σ.2.1 39)) rfl rfl) (Eq.trans (b := (σ.2.1 40)) rfl rfl) (Eq.trans (b := (σ.2.1 41)) rfl rfl) (Eq.trans (b := (σ.2.1 42)) rfl rfl) (Eq.trans (b := (σ.2.1 43)) rfl rfl) (Eq.trans (b := (σ.2.1 44)) rfl rfl) (Eq.trans (b := (σ.2.1 45)) rfl rfl) (Eq.trans (b := (σ.2.1 46)) rfl rfl) (Eq.trans (b := (σ.1 47)) rfl rfl) (Eq.trans (b := (σ.2.1 48)) rfl rfl) (Eq.trans (b := (σ.1 49)) rfl rfl) (Eq.trans (b := (σ.2.1 50)) rfl rfl) (Eq.trans (b := (upd (σ.2.1 51) k0.toNatClampNeg (1 : Int32))) rfl rfl) (Eq.trans (b := (vp_updL (σ.2.2.1 52) k0.toNatClampNeg (0 : Int64))) rfl rfl) (Eq.trans (b := (vp_updL (σ.2.2.1 53) k0.toNatClampNeg (0 : Int64))) rfl rfl) (Eq.trans (b := (vf_upd (σ.2.2.2) k0.toNatClampNeg FP.dconst0)) rfl rfl) (Eq.trans (b := (σ.1 55)) rfl rfl) (Eq.trans (b := (10 : Int32)) rfl rfl) (Eq.trans (b := (σ.1 57)) rfl rfl) (Eq.trans (b := (σ.2.1 58)) rfl rfl) (Eq.trans (b := (σ.1 59)) rfl rfl)
                    exact r_retv C ⟨(upd (σ.2.1 51) k0.toNatClampNeg (1 : Int32)), (vp_updL (σ.2.2.1 52) k0.toNatClampNeg (0 : Int64)), (vp_updL (σ.2.2.1 53) k0.toNatClampNeg (0 : Int64)), (vf_upd (σ.2.2.2) k0.toNatClampNeg FP.dconst0), (10 : Int32)⟩ ⟨(v_toBool_80 σ k0 x1 x26 x51 x76 x77 x79 x81 hpre_0 hpre_1 ex1 tx1 c2 ex26 tx26 c27 ex51 tx51 c52 ex76 tx76 tx77 c78 ex79 tx79 c80 ex81 tx81 c82), (v_toBool_81 σ k0 x1 x26 x51 x76 x77 x79 x81 r85 r89 hpre_0 hpre_1 hpre_2 hpre_3 ex1 tx1 c2 ex26 tx26 c27 ex51 tx51 c52 ex76 tx76 tx77 c78 ex79 tx79 c80 ex81 tx81 c82 hr85y c86 hr89y c90 c91)⟩ hP hS dX12_toBool_154
                  · have c91 : ¬ r85.toInt = 0 := by have h := z_ne c91; rw [show (0 : Int32).toInt = 0 from by decide +kernel] at h; exact h
                    exact absurd (v_toBool_82 r85 c86 c91) id
                · have c90 : ¬ r89.toInt = 0 := by have h := z_ne c90; rw [show (0 : Int32).toInt = 0 from by decide +kernel] at h; exact h
                  refine lv_aload_n hx hb dX12_toBool_126 rfl (lv_at hl 1 rfl) ?_
                  refine rg_56 (v := (σ.1 56)) C hP rfl wm_242 dX12_toBool_127 ?_
                  refine lv_goto (tgt := 135) hx hb dX12_toBool_130 (by decide) ?_
                  refine rp_56 C hP hS wm_242 dX12_toBool_135 (fun H locs hP hS => ?_)
                  refine lv_aload_n hx hb dX12_toBool_138 rfl (lv_at hl 1 rfl) ?_
                  refine lv_iload_n hx hb dX12_toBool_139 rfl (lv_at hl 2 rfl) ?_
                  refine lv_iconst (v := 1) hx hb dX12_toBool_140 (by decide +kernel) ?_
                  refine lv_iload_n hx hb dX12_toBool_141 rfl (lv_at hl 0 rfl) ?_
                  refine lv_if_eq (tgt := 149) hx hb dX12_toBool_142 (by decide) (fun c93 => ?_) (fun c93 => ?_)
                  · have c93 : r85.toInt = 0 := by have h := z_eq c93; rw [show (0 : Int32).toInt = 0 from by decide +kernel] at h; exact h
                    refine lv_lconst (v := 0) hx hb dX12_toBool_149 rfl ?_
                    refine lv_dconst0 hx hb dX12_toBool_150 ?_
                    refine r_callVv (As := [.int k0, .int 1, .long 0, .double FP.dconst0]) (rest := []) C hP hS hl.1 ⟨Nat.zero_le _, Nat.zero_le _⟩ (M_set l D cy sz0 sa ad (rS σ 56 (σ.1 56)) H.size k0 (1 : Int32) (0 : Int64) FP.dconst0 (v_toBool_76 σ k0 x1 x26 x51 x76 x77 x79 x81 hpre_0 hpre_1 ex1 tx1 c2 ex26 tx26 c27 ex51 tx51 c52 ex76 tx76 tx77 c78 ex79 tx79 c80 ex81 tx81 c82)) (n := 4) ⟨wm_213, wm_207, by decide +kernel⟩ ⟨wm_214, wm_215, wm_10⟩ rfl rfl (lv_room (Nat.le_of_ble_eq_true rfl)) ⟨Nat.le_of_ble_eq_true rfl, Nat.le_of_ble_eq_true rfl⟩ dX12_toBool_151 (fun u H locs hr94 hP hS => ?_)
                    have hr94 : True := hr94
                    have hP : RP D cy ad (rR (rJ (rJ (rA (rS σ 56 (σ.1 56)) 51 (upd (σ.2.1 51) k0.toNatClampNeg (1 : Int32))) 52 (vp_updL (σ.2.2.1 52) k0.toNatClampNeg (0 : Int64))) 53 (vp_updL (σ.2.2.1 53) k0.toNatClampNeg (0 : Int64))) (vf_upd (σ.2.2.2) k0.toNatClampNeg FP.dconst0)) H := hP
                    have hP : RP D cy ad (rS (rR (rJ (rJ (rA σ 51 (upd (σ.2.1 51) k0.toNatClampNeg (1 : Int32))) 52 (vp_updL (σ.2.2.1 52) k0.toNatClampNeg (0 : Int64))) 53 (vp_updL (σ.2.2.1 53) k0.toNatClampNeg (0 : Int64))) (vf_upd (σ.2.2.2) k0.toNatClampNeg FP.dconst0)) 56 (σ.1 56)) H := RP.cong hP (Eq.trans (b := (σ.1 0)) rfl rfl) (Eq.trans (b := (σ.1 1)) rfl rfl) (Eq.trans (b := (σ.2.1 2)) rfl rfl) (Eq.trans (b := (σ.1 3)) rfl rfl) (Eq.trans (b := (σ.2.1 4)) rfl rfl) (Eq.trans (b := (σ.2.1 5)) rfl rfl) (Eq.trans (b := (σ.2.2.1 6)) rfl rfl) (Eq.trans (b := (σ.2.1 7)) rfl rfl) (Eq.trans (b := (σ.1 8)) rfl rfl) (Eq.trans (b := (σ.1 9)) rfl rfl) (Eq.trans (b := (σ.1 10)) rfl rfl) (Eq.trans (b := (σ.2.1 11)) rfl rfl) (Eq.trans (b := (σ.2.2.1 12)) rfl rfl) (Eq.trans (b := (σ.2.1 13)) rfl rfl) (Eq.trans (b := (σ.1 14)) rfl rfl) (Eq.trans (b := (σ.1 15)) rfl rfl) (Eq.trans (b := (σ.1 16)) rfl rfl) (Eq.trans (b := (σ.1 17)) rfl rfl) (Eq.trans (b := (σ.1 18)) rfl rfl) (Eq.trans (b := (σ.1 19)) rfl rfl) (Eq.trans (b := (σ.2.1 20)) rfl rfl) (Eq.trans (b := (σ.2.1 21)) rfl rfl) (Eq.trans (b := (σ.2.1 22)) rfl rfl) (Eq.trans (b := (σ.2.1 23)) rfl rfl) (Eq.trans (b := (σ.2.1 24)) rfl rfl) (Eq.trans (b := (σ.2.1 25)) rfl rfl) (Eq.trans (b := (σ.2.1 26)) rfl rfl) (Eq.trans (b := (σ.2.1 27)) rfl rfl) (Eq.trans (b := (σ.2.1 28)) rfl rfl) (Eq.trans (b := (σ.1 29)) rfl rfl) (Eq.trans (b := (σ.2.1 30)) rfl rfl) (Eq.trans (b := (σ.2.1 31)) rfl rfl) (Eq.trans (b := (σ.2.1 32)) rfl rfl) (Eq.trans (b := (σ.1 33)) rfl rfl) (Eq.trans (b := (σ.1 34)) rfl rfl) (Eq.trans (b := (σ.1 35)) rfl rfl) (Eq.trans (b := (σ.2.1 36)) rfl rfl) (Eq.trans (b := (σ.2.1 37)) rfl rfl) (Eq.trans (b := (σ.2.1 38)) rfl rfl) (Eq.trans (b := (σ.2.1 39)) rfl rfl) (Eq.trans (b := (σ.2.1 40)) rfl rfl) (Eq.trans (b := (σ.2.1 41)) rfl rfl) (Eq.trans (b := (σ.2.1 42)) rfl rfl) (Eq.trans (b := (σ.2.1 43)) rfl rfl) (Eq.trans (b := (σ.2.1 44)) rfl rfl) (Eq.trans (b := (σ.2.1 45)) rfl rfl) (Eq.trans (b := (σ.2.1 46)) rfl rfl) (Eq.trans (b := (σ.1 47)) rfl rfl) (Eq.trans (b := (σ.2.1 48)) rfl rfl) (Eq.trans (b := (σ.1 49)) rfl rfl) (Eq.trans (b := (σ.2.1 50)) rfl rfl) (Eq.trans (b := (upd (σ.2.1 51) k0.toNatClampNeg (1 : Int32))) rfl rfl) (Eq.trans (b := (vp_updL (σ.2.2.1 52) k0.toNatClampNeg (0 : Int64))) rfl rfl) (Eq.trans (b := (vp_updL (σ.2.2.1 53) k0.toNatClampNeg (0 : Int64))) rfl rfl) (Eq.trans (b := (vf_upd (σ.2.2.2) k0.toNatClampNeg FP.dconst0)) rfl rfl) (Eq.trans (b := (σ.1 55)) rfl rfl) (Eq.trans (b := (σ.1 56)) rfl rfl) (Eq.trans (b := (σ.1 57)) rfl rfl) (Eq.trans (b := (σ.2.1 58)) rfl rfl) (Eq.trans (b := (σ.1 59)) rfl rfl)
                    exact r_retv C ⟨(upd (σ.2.1 51) k0.toNatClampNeg (1 : Int32)), (vp_updL (σ.2.2.1 52) k0.toNatClampNeg (0 : Int64)), (vp_updL (σ.2.2.1 53) k0.toNatClampNeg (0 : Int64)), (vf_upd (σ.2.2.2) k0.toNatClampNeg FP.dconst0), (σ.1 56)⟩ ⟨(v_toBool_83 σ k0 x1 x26 x51 x76 x77 x79 x81 hpre_0 hpre_1 hpre_2 hpre_3 ex1 tx1 c2 ex26 tx26 c27 ex51 tx51 c52 ex76 tx76 tx77 c78 ex79 tx79 c80 ex81 tx81 c82), (v_toBool_84 σ k0 x1 x26 x51 x76 x77 x79 x81 r85 r89 hpre_0 hpre_1 hpre_2 hpre_3 ex1 tx1 c2 ex26 tx26 c27 ex51 tx51 c52 ex76 tx76 tx77 c78 ex79 tx79 c80 ex81 tx81 c82 hr85y c86 hr89y c90 c93)⟩ hP hS dX12_toBool_154
                  · have c93 : ¬ r85.toInt = 0 := by have h := z_ne c93; rw [show (0 : Int32).toInt = 0 from by decide +kernel] at h; exact h
                    exact absurd (v_toBool_85 r85 c86 c93) id
          · have c80 : x79.toInt = 3 := by have h := z_eq c80; rw [show (3 : Int32).toInt = 3 from by decide +kernel] at h; exact h
            refine lv_aload_n hx hb dX12_toBool_58 rfl (lv_at hl 1 rfl) ?_
            refine rg_54 C hP wm_209 dX12_toBool_59 ?_
            refine lv_iload_n hx hb dX12_toBool_62 rfl (lv_at hl 2 rfl) ?_
            refine ra_54 (f := (σ.2.2.2)) C hP rfl (v_toBool_86 σ k0 x1 x26 x51 x76 x77 x79 hpre_0 hpre_1 ex1 tx1 c2 ex26 tx26 c27 ex51 tx51 c52 ex76 tx76 tx77 c78 ex79 tx79 c80) dX12_toBool_63 (fun x95 ex95 => ?_)
            refine lv_dconst0 hx hb dX12_toBool_64 ?_
            refine lv_dcmp hx hb dX12_toBool_65 ?_
            refine lv_topi (fun x96 ex96 => ?_)
            refine lv_if_eq (tgt := 73) hx hb dX12_toBool_66 (by decide) (fun c97 => ?_) (fun c97 => ?_)
            · have c97 : x96.toInt = 0 := by have h := z_eq c97; rw [show (0 : Int32).toInt = 0 from by decide +kernel] at h; exact h
              refine lv_iconst (v := 0) hx hb dX12_toBool_73 (by decide +kernel) ?_
              refine lv_istore_n (lv' := [(2, .int 0), (0, .ref (ad 0)), (1, .int k0)]) hx hb dX12_toBool_74 rfl hl (by decide) rfl (fun ls hl => ?_)
              refine lv_goto (tgt := 138) hx hb dX12_toBool_75 (by decide) ?_
              refine lv_aload_n hx hb dX12_toBool_138 rfl (lv_at hl 1 rfl) ?_
              refine lv_iload_n hx hb dX12_toBool_139 rfl (lv_at hl 2 rfl) ?_
              refine lv_iconst (v := 1) hx hb dX12_toBool_140 (by decide +kernel) ?_
              refine lv_iload_n hx hb dX12_toBool_141 rfl (lv_at hl 0 rfl) ?_
              refine lv_if_eq (tgt := 149) hx hb dX12_toBool_142 (by decide) (fun _ => ?_) (fun c98 => absurd (by decide +kernel) c98)
              refine lv_lconst (v := 0) hx hb dX12_toBool_149 rfl ?_
              refine lv_dconst0 hx hb dX12_toBool_150 ?_
              refine r_callVv (As := [.int k0, .int 1, .long 0, .double FP.dconst0]) (rest := []) C hP hS hl.1 ⟨Nat.zero_le _, Nat.zero_le _⟩ (M_set l D cy sz0 sa ad σ s.heap.size k0 (1 : Int32) (0 : Int64) FP.dconst0 (v_toBool_87 σ k0 x1 x26 x51 x76 x77 x79 x95 x96 hpre_0 hpre_1 ex1 tx1 c2 ex26 tx26 c27 ex51 tx51 c52 ex76 tx76 tx77 c78 ex79 tx79 c80 ex95 ex96 c97)) (n := 4) ⟨wm_213, wm_207, by decide +kernel⟩ ⟨wm_214, wm_215, wm_10⟩ rfl rfl (lv_room (Nat.le_of_ble_eq_true rfl)) ⟨Nat.le_of_ble_eq_true rfl, Nat.le_of_ble_eq_true rfl⟩ dX12_toBool_151 (fun u H locs hr99 hP hS => ?_)
              have hr99 : True := hr99
              have hP : RP D cy ad (rR (rJ (rJ (rA σ 51 (upd (σ.2.1 51) k0.toNatClampNeg (1 : Int32))) 52 (vp_updL (σ.2.2.1 52) k0.toNatClampNeg (0 : Int64))) 53 (vp_updL (σ.2.2.1 53) k0.toNatClampNeg (0 : Int64))) (vf_upd (σ.2.2.2) k0.toNatClampNeg FP.dconst0)) H := hP
              have hP : RP D cy ad (rS (rR (rJ (rJ (rA σ 51 (upd (σ.2.1 51) k0.toNatClampNeg (1 : Int32))) 52 (vp_updL (σ.2.2.1 52) k0.toNatClampNeg (0 : Int64))) 53 (vp_updL (σ.2.2.1 53) k0.toNatClampNeg (0 : Int64))) (vf_upd (σ.2.2.2) k0.toNatClampNeg FP.dconst0)) 56 (σ.1 56)) H := RP.cong hP (Eq.trans (b := (σ.1 0)) rfl rfl) (Eq.trans (b := (σ.1 1)) rfl rfl) (Eq.trans (b := (σ.2.1 2)) rfl rfl) (Eq.trans (b := (σ.1 3)) rfl rfl) (Eq.trans (b := (σ.2.1 4)) rfl rfl) (Eq.trans (b := (σ.2.1 5)) rfl rfl) (Eq.trans (b := (σ.2.2.1 6)) rfl rfl) (Eq.trans (b := (σ.2.1 7)) rfl rfl) (Eq.trans (b := (σ.1 8)) rfl rfl) (Eq.trans (b := (σ.1 9)) rfl rfl) (Eq.trans (b := (σ.1 10)) rfl rfl) (Eq.trans (b := (σ.2.1 11)) rfl rfl) (Eq.trans (b := (σ.2.2.1 12)) rfl rfl) (Eq.trans (b := (σ.2.1 13)) rfl rfl) (Eq.trans (b := (σ.1 14)) rfl rfl) (Eq.trans (b := (σ.1 15)) rfl rfl) (Eq.trans (b := (σ.1 16)) rfl rfl) (Eq.trans (b := (σ.1 17)) rfl rfl) (Eq.trans (b := (σ.1 18)) rfl rfl) (Eq.trans (b := (σ.1 19)) rfl rfl) (Eq.trans (b := (σ.2.1 20)) rfl rfl) (Eq.trans (b := (σ.2.1 21)) rfl rfl) (Eq.trans (b := (σ.2.1 22)) rfl rfl) (Eq.trans (b := (σ.2.1 23)) rfl rfl) (Eq.trans (b := (σ.2.1 24)) rfl rfl) (Eq.trans (b := (σ.2.1 25)) rfl rfl) (Eq.trans (b := (σ.2.1 26)) rfl rfl) (Eq.trans (b := (σ.2.1 27)) rfl rfl) (Eq.trans (b := (σ.2.1 28)) rfl rfl) (Eq.trans (b := (σ.1 29)) rfl rfl) (Eq.trans (b := (σ.2.1 30)) rfl rfl) (Eq.trans (b := (σ.2.1 31)) rfl rfl) (Eq.trans (b := (σ.2.1 32)) rfl rfl) (Eq.trans (b := (σ.1 33)) rfl rfl) (Eq.trans (b := (σ.1 34)) rfl rfl) (Eq.trans (b := (σ.1 35)) rfl rfl) (Eq.trans (b := (σ.2.1 36)) rfl rfl) (Eq.trans (b := (σ.2.1 37)) rfl rfl) (Eq.trans (b := (σ.2.1 38)) rfl rfl) (Eq.trans (b := (σ.2.1 39)) rfl rfl) (Eq.trans (b := (σ.2.1 40)) rfl rfl) (Eq.trans (b := (σ.2.1 41)) rfl rfl) (Eq.trans (b := (σ.2.1 42)) rfl rfl) (Eq.trans (b := (σ.2.1 43)) rfl rfl) (Eq.trans (b := (σ.2.1 44)) rfl rfl) (Eq.trans (b := (σ.2.1 45)) rfl rfl) (Eq.trans (b := (σ.2.1 46)) rfl rfl) (Eq.trans (b := (σ.1 47)) rfl rfl) (Eq.trans (b := (σ.2.1 48)) rfl rfl) (Eq.trans (b := (σ.1 49)) rfl rfl) (Eq.trans (b := (σ.2.1 50)) rfl rfl) (Eq.trans (b := (upd (σ.2.1 51) k0.toNatClampNeg (1 : Int32))) rfl rfl) (Eq.trans (b := (vp_updL (σ.2.2.1 52) k0.toNatClampNeg (0 : Int64))) rfl rfl) (Eq.trans (b := (vp_updL (σ.2.2.1 53) k0.toNatClampNeg (0 : Int64))) rfl rfl) (Eq.trans (b := (vf_upd (σ.2.2.2) k0.toNatClampNeg FP.dconst0)) rfl rfl) (Eq.trans (b := (σ.1 55)) rfl rfl) (Eq.trans (b := (σ.1 56)) rfl rfl) (Eq.trans (b := (σ.1 57)) rfl rfl) (Eq.trans (b := (σ.2.1 58)) rfl rfl) (Eq.trans (b := (σ.1 59)) rfl rfl)
              exact r_retv C ⟨(upd (σ.2.1 51) k0.toNatClampNeg (1 : Int32)), (vp_updL (σ.2.2.1 52) k0.toNatClampNeg (0 : Int64)), (vp_updL (σ.2.2.1 53) k0.toNatClampNeg (0 : Int64)), (vf_upd (σ.2.2.2) k0.toNatClampNeg FP.dconst0), (σ.1 56)⟩ ⟨(v_toBool_88 σ k0 x1 x26 x51 x76 x77 x79 x95 x96 hpre_0 hpre_1 hpre_2 hpre_3 ex1 tx1 c2 ex26 tx26 c27 ex51 tx51 c52 ex76 tx76 tx77 c78 ex79 tx79 c80 ex95 ex96 c97), (v_toBool_89 σ k0 x1 x26 x51 x76 x77 x79 x95 x96 hpre_0 hpre_1 hpre_2 hpre_3 ex1 tx1 c2 ex26 tx26 c27 ex51 tx51 c52 ex76 tx76 tx77 c78 ex79 tx79 c80 ex95 ex96 c97)⟩ hP hS dX12_toBool_154
            · have c97 : ¬ x96.toInt = 0 := by have h := z_ne c97; rw [show (0 : Int32).toInt = 0 from by decide +kernel] at h; exact h
              refine lv_iconst (v := 1) hx hb dX12_toBool_69 (by decide +kernel) ?_
              refine lv_goto (tgt := 74) hx hb dX12_toBool_70 (by decide) ?_
              refine lv_istore_n (lv' := [(2, .int 1), (0, .ref (ad 0)), (1, .int k0)]) hx hb dX12_toBool_74 rfl hl (by decide) rfl (fun ls hl => ?_)
              refine lv_goto (tgt := 138) hx hb dX12_toBool_75 (by decide) ?_
              refine lv_aload_n hx hb dX12_toBool_138 rfl (lv_at hl 1 rfl) ?_
              refine lv_iload_n hx hb dX12_toBool_139 rfl (lv_at hl 2 rfl) ?_
              refine lv_iconst (v := 1) hx hb dX12_toBool_140 (by decide +kernel) ?_
              refine lv_iload_n hx hb dX12_toBool_141 rfl (lv_at hl 0 rfl) ?_
              refine lv_if_eq (tgt := 149) hx hb dX12_toBool_142 (by decide) (fun c100 => absurd c100 (by decide +kernel)) (fun _ => ?_)
              refine lv_lconst (v := 1) hx hb dX12_toBool_145 rfl ?_
              refine lv_goto (tgt := 150) hx hb dX12_toBool_146 (by decide) ?_
              refine lv_dconst0 hx hb dX12_toBool_150 ?_
              refine r_callVv (As := [.int k0, .int 1, .long 1, .double FP.dconst0]) (rest := []) C hP hS hl.1 ⟨Nat.zero_le _, Nat.zero_le _⟩ (M_set l D cy sz0 sa ad σ s.heap.size k0 (1 : Int32) (1 : Int64) FP.dconst0 (v_toBool_90 σ k0 x1 x26 x51 x76 x77 x79 x95 x96 hpre_0 hpre_1 ex1 tx1 c2 ex26 tx26 c27 ex51 tx51 c52 ex76 tx76 tx77 c78 ex79 tx79 c80 ex95 ex96 c97)) (n := 4) ⟨wm_213, wm_207, by decide +kernel⟩ ⟨wm_214, wm_215, wm_10⟩ rfl rfl (lv_room (Nat.le_of_ble_eq_true rfl)) ⟨Nat.le_of_ble_eq_true rfl, Nat.le_of_ble_eq_true rfl⟩ dX12_toBool_151 (fun u H locs hr101 hP hS => ?_)
              have hr101 : True := hr101
              have hP : RP D cy ad (rR (rJ (rJ (rA σ 51 (upd (σ.2.1 51) k0.toNatClampNeg (1 : Int32))) 52 (vp_updL (σ.2.2.1 52) k0.toNatClampNeg (1 : Int64))) 53 (vp_updL (σ.2.2.1 53) k0.toNatClampNeg (0 : Int64))) (vf_upd (σ.2.2.2) k0.toNatClampNeg FP.dconst0)) H := hP
              have hP : RP D cy ad (rS (rR (rJ (rJ (rA σ 51 (upd (σ.2.1 51) k0.toNatClampNeg (1 : Int32))) 52 (vp_updL (σ.2.2.1 52) k0.toNatClampNeg (1 : Int64))) 53 (vp_updL (σ.2.2.1 53) k0.toNatClampNeg (0 : Int64))) (vf_upd (σ.2.2.2) k0.toNatClampNeg FP.dconst0)) 56 (σ.1 56)) H := RP.cong hP (Eq.trans (b := (σ.1 0)) rfl rfl) (Eq.trans (b := (σ.1 1)) rfl rfl) (Eq.trans (b := (σ.2.1 2)) rfl rfl) (Eq.trans (b := (σ.1 3)) rfl rfl) (Eq.trans (b := (σ.2.1 4)) rfl rfl) (Eq.trans (b := (σ.2.1 5)) rfl rfl) (Eq.trans (b := (σ.2.2.1 6)) rfl rfl) (Eq.trans (b := (σ.2.1 7)) rfl rfl) (Eq.trans (b := (σ.1 8)) rfl rfl) (Eq.trans (b := (σ.1 9)) rfl rfl) (Eq.trans (b := (σ.1 10)) rfl rfl) (Eq.trans (b := (σ.2.1 11)) rfl rfl) (Eq.trans (b := (σ.2.2.1 12)) rfl rfl) (Eq.trans (b := (σ.2.1 13)) rfl rfl) (Eq.trans (b := (σ.1 14)) rfl rfl) (Eq.trans (b := (σ.1 15)) rfl rfl) (Eq.trans (b := (σ.1 16)) rfl rfl) (Eq.trans (b := (σ.1 17)) rfl rfl) (Eq.trans (b := (σ.1 18)) rfl rfl) (Eq.trans (b := (σ.1 19)) rfl rfl) (Eq.trans (b := (σ.2.1 20)) rfl rfl) (Eq.trans (b := (σ.2.1 21)) rfl rfl) (Eq.trans (b := (σ.2.1 22)) rfl rfl) (Eq.trans (b := (σ.2.1 23)) rfl rfl) (Eq.trans (b := (σ.2.1 24)) rfl rfl) (Eq.trans (b := (σ.2.1 25)) rfl rfl) (Eq.trans (b := (σ.2.1 26)) rfl rfl) (Eq.trans (b := (σ.2.1 27)) rfl rfl) (Eq.trans (b := (σ.2.1 28)) rfl rfl) (Eq.trans (b := (σ.1 29)) rfl rfl) (Eq.trans (b := (σ.2.1 30)) rfl rfl) (Eq.trans (b := (σ.2.1 31)) rfl rfl) (Eq.trans (b := (σ.2.1 32)) rfl rfl) (Eq.trans (b := (σ.1 33)) rfl rfl) (Eq.trans (b := (σ.1 34)) rfl rfl) (Eq.trans (b := (σ.1 35)) rfl rfl) (Eq.trans (b := (σ.2.1 36)) rfl rfl) (Eq.trans (b := (σ.2.1 37)) rfl rfl) (Eq.trans (b := (σ.2.1 38)) rfl rfl) (Eq.trans (b := (σ.2.1 39)) rfl rfl) (Eq.trans (b := (σ.2.1 40)) rfl rfl) (Eq.trans (b := (σ.2.1 41)) rfl rfl) (Eq.trans (b := (σ.2.1 42)) rfl rfl) (Eq.trans (b := (σ.2.1 43)) rfl rfl) (Eq.trans (b := (σ.2.1 44)) rfl rfl) (Eq.trans (b := (σ.2.1 45)) rfl rfl) (Eq.trans (b := (σ.2.1 46)) rfl rfl) (Eq.trans (b := (σ.1 47)) rfl rfl) (Eq.trans (b := (σ.2.1 48)) rfl rfl) (Eq.trans (b := (σ.1 49)) rfl rfl) (Eq.trans (b := (σ.2.1 50)) rfl rfl) (Eq.trans (b := (upd (σ.2.1 51) k0.toNatClampNeg (1 : Int32))) rfl rfl) (Eq.trans (b := (vp_updL (σ.2.2.1 52) k0.toNatClampNeg (1 : Int64))) rfl rfl) (Eq.trans (b := (vp_updL (σ.2.2.1 53) k0.toNatClampNeg (0 : Int64))) rfl rfl) (Eq.trans (b := (vf_upd (σ.2.2.2) k0.toNatClampNeg FP.dconst0)) rfl rfl) (Eq.trans (b := (σ.1 55)) rfl rfl) (Eq.trans (b := (σ.1 56)) rfl rfl) (Eq.trans (b := (σ.1 57)) rfl rfl) (Eq.trans (b := (σ.2.1 58)) rfl rfl) (Eq.trans (b := (σ.1 59)) rfl rfl)
              exact r_retv C ⟨(upd (σ.2.1 51) k0.toNatClampNeg (1 : Int32)), (vp_updL (σ.2.2.1 52) k0.toNatClampNeg (1 : Int64)), (vp_updL (σ.2.2.1 53) k0.toNatClampNeg (0 : Int64)), (vf_upd (σ.2.2.2) k0.toNatClampNeg FP.dconst0), (σ.1 56)⟩ ⟨(v_toBool_91 σ k0 x1 x26 x51 x76 x77 x79 x95 x96 hpre_0 hpre_1 hpre_2 hpre_3 ex1 tx1 c2 ex26 tx26 c27 ex51 tx51 c52 ex76 tx76 tx77 c78 ex79 tx79 c80 ex95 ex96 c97), (v_toBool_92 σ k0 x1 x26 x51 x76 x77 x79 x95 x96 hpre_0 hpre_1 hpre_2 hpre_3 ex1 tx1 c2 ex26 tx26 c27 ex51 tx51 c52 ex76 tx76 tx77 c78 ex79 tx79 c80 ex95 ex96 c97)⟩ hP hS dX12_toBool_154
        · have c78 : ¬ x77.toInt = 0 := by have h := z_ne c78; rw [show (0 : Int32).toInt = 0 from by decide +kernel] at h; exact h
          refine lv_iconst (v := 1) hx hb dX12_toBool_42 (by decide +kernel) ?_
          refine lv_goto (tgt := 47) hx hb dX12_toBool_43 (by decide) ?_
          refine lv_istore_n (lv' := [(2, .int 1), (0, .ref (ad 0)), (1, .int k0)]) hx hb dX12_toBool_47 rfl hl (by decide) rfl (fun ls hl => ?_)
          refine lv_aload_n hx hb dX12_toBool_48 rfl (lv_at hl 1 rfl) ?_
          refine rg_51 C hP wm_205 dX12_toBool_49 ?_
          refine lv_iload_n hx hb dX12_toBool_52 rfl (lv_at hl 2 rfl) ?_
          refine ra_51 (f := (σ.2.1 51)) C hP rfl (v_toBool_93 σ k0 x1 x26 x51 x76 x77 hpre_0 hpre_1 ex1 tx1 c2 ex26 tx26 c27 ex51 tx51 c52 ex76 tx76 tx77 c78) dX12_toBool_53 (fun x102 ex102 => ?_)
          have tx102 : x102.toInt = ((σ.2.1 51) k0.toNatClampNeg).toInt := by rw [ex102]
          refine lv_iconst (v := 3) hx hb dX12_toBool_54 (by decide +kernel) ?_
          refine lv_icmp_ne (tgt := 78) hx hb dX12_toBool_55 (by decide) (fun c103 => ?_) (fun c103 => ?_)
          · have c103 : ¬ x102.toInt = 3 := by have h := z_ne c103; rw [show (3 : Int32).toInt = 3 from by decide +kernel] at h; exact h
            refine lv_aload_n hx hb dX12_toBool_78 rfl (lv_at hl 1 rfl) ?_
            refine rg_51 C hP wm_205 dX12_toBool_79 ?_
            refine lv_iload_n hx hb dX12_toBool_82 rfl (lv_at hl 2 rfl) ?_
            refine ra_51 (f := (σ.2.1 51)) C hP rfl (v_toBool_94 σ k0 x1 x26 x51 x76 x77 x102 hpre_0 hpre_1 ex1 tx1 c2 ex26 tx26 c27 ex51 tx51 c52 ex76 tx76 tx77 c78 ex102 tx102 c103) dX12_toBool_83 (fun x104 ex104 => ?_)
            have tx104 : x104.toInt = ((σ.2.1 51) k0.toNatClampNeg).toInt := by rw [ex104]
            refine lv_iconst (v := 4) hx hb dX12_toBool_84 (by decide +kernel) ?_
            refine lv_icmp_ne (tgt := 138) hx hb dX12_toBool_85 (by decide) (fun c105 => ?_) (fun c105 => ?_)
            · have c105 : ¬ x104.toInt = 4 := by have h := z_ne c105; rw [show (4 : Int32).toInt = 4 from by decide +kernel] at h; exact h
              refine lv_aload_n hx hb dX12_toBool_138 rfl (lv_at hl 1 rfl) ?_
              refine lv_iload_n hx hb dX12_toBool_139 rfl (lv_at hl 2 rfl) ?_
              refine lv_iconst (v := 1) hx hb dX12_toBool_140 (by decide +kernel) ?_
              refine lv_iload_n hx hb dX12_toBool_141 rfl (lv_at hl 0 rfl) ?_
              refine lv_if_eq (tgt := 149) hx hb dX12_toBool_142 (by decide) (fun c106 => absurd c106 (by decide +kernel)) (fun _ => ?_)
              refine lv_lconst (v := 1) hx hb dX12_toBool_145 rfl ?_
              refine lv_goto (tgt := 150) hx hb dX12_toBool_146 (by decide) ?_
              refine lv_dconst0 hx hb dX12_toBool_150 ?_
              refine r_callVv (As := [.int k0, .int 1, .long 1, .double FP.dconst0]) (rest := []) C hP hS hl.1 ⟨Nat.zero_le _, Nat.zero_le _⟩ (M_set l D cy sz0 sa ad σ s.heap.size k0 (1 : Int32) (1 : Int64) FP.dconst0 (v_toBool_95 σ k0 x1 x26 x51 x76 x77 x102 x104 hpre_0 hpre_1 ex1 tx1 c2 ex26 tx26 c27 ex51 tx51 c52 ex76 tx76 tx77 c78 ex102 tx102 c103 ex104 tx104 c105)) (n := 4) ⟨wm_213, wm_207, by decide +kernel⟩ ⟨wm_214, wm_215, wm_10⟩ rfl rfl (lv_room (Nat.le_of_ble_eq_true rfl)) ⟨Nat.le_of_ble_eq_true rfl, Nat.le_of_ble_eq_true rfl⟩ dX12_toBool_151 (fun u H locs hr107 hP hS => ?_)
              have hr107 : True := hr107
              have hP : RP D cy ad (rR (rJ (rJ (rA σ 51 (upd (σ.2.1 51) k0.toNatClampNeg (1 : Int32))) 52 (vp_updL (σ.2.2.1 52) k0.toNatClampNeg (1 : Int64))) 53 (vp_updL (σ.2.2.1 53) k0.toNatClampNeg (0 : Int64))) (vf_upd (σ.2.2.2) k0.toNatClampNeg FP.dconst0)) H := hP
              have hP : RP D cy ad (rS (rR (rJ (rJ (rA σ 51 (upd (σ.2.1 51) k0.toNatClampNeg (1 : Int32))) 52 (vp_updL (σ.2.2.1 52) k0.toNatClampNeg (1 : Int64))) 53 (vp_updL (σ.2.2.1 53) k0.toNatClampNeg (0 : Int64))) (vf_upd (σ.2.2.2) k0.toNatClampNeg FP.dconst0)) 56 (σ.1 56)) H := RP.cong hP (Eq.trans (b := (σ.1 0)) rfl rfl) (Eq.trans (b := (σ.1 1)) rfl rfl) (Eq.trans (b := (σ.2.1 2)) rfl rfl) (Eq.trans (b := (σ.1 3)) rfl rfl) (Eq.trans (b := (σ.2.1 4)) rfl rfl) (Eq.trans (b := (σ.2.1 5)) rfl rfl) (Eq.trans (b := (σ.2.2.1 6)) rfl rfl) (Eq.trans (b := (σ.2.1 7)) rfl rfl) (Eq.trans (b := (σ.1 8)) rfl rfl) (Eq.trans (b := (σ.1 9)) rfl rfl) (Eq.trans (b := (σ.1 10)) rfl rfl) (Eq.trans (b := (σ.2.1 11)) rfl rfl) (Eq.trans (b := (σ.2.2.1 12)) rfl rfl) (Eq.trans (b := (σ.2.1 13)) rfl rfl) (Eq.trans (b := (σ.1 14)) rfl rfl) (Eq.trans (b := (σ.1 15)) rfl rfl) (Eq.trans (b := (σ.1 16)) rfl rfl) (Eq.trans (b := (σ.1 17)) rfl rfl) (Eq.trans (b := (σ.1 18)) rfl rfl) (Eq.trans (b := (σ.1 19)) rfl rfl) (Eq.trans (b := (σ.2.1 20)) rfl rfl) (Eq.trans (b := (σ.2.1 21)) rfl rfl) (Eq.trans (b := (σ.2.1 22)) rfl rfl) (Eq.trans (b := (σ.2.1 23)) rfl rfl) (Eq.trans (b := (σ.2.1 24)) rfl rfl) (Eq.trans (b := (σ.2.1 25)) rfl rfl) (Eq.trans (b := (σ.2.1 26)) rfl rfl) (Eq.trans (b := (σ.2.1 27)) rfl rfl) (Eq.trans (b := (σ.2.1 28)) rfl rfl) (Eq.trans (b := (σ.1 29)) rfl rfl) (Eq.trans (b := (σ.2.1 30)) rfl rfl) (Eq.trans (b := (σ.2.1 31)) rfl rfl) (Eq.trans (b := (σ.2.1 32)) rfl rfl) (Eq.trans (b := (σ.1 33)) rfl rfl) (Eq.trans (b := (σ.1 34)) rfl rfl) (Eq.trans (b := (σ.1 35)) rfl rfl) (Eq.trans (b := (σ.2.1 36)) rfl rfl) (Eq.trans (b := (σ.2.1 37)) rfl rfl) (Eq.trans (b := (σ.2.1 38)) rfl rfl) (Eq.trans (b := (σ.2.1 39)) rfl rfl) (Eq.trans (b := (σ.2.1 40)) rfl rfl) (Eq.trans (b := (σ.2.1 41)) rfl rfl) (Eq.trans (b := (σ.2.1 42)) rfl rfl) (Eq.trans (b := (σ.2.1 43)) rfl rfl) (Eq.trans (b := (σ.2.1 44)) rfl rfl) (Eq.trans (b := (σ.2.1 45)) rfl rfl) (Eq.trans (b := (σ.2.1 46)) rfl rfl) (Eq.trans (b := (σ.1 47)) rfl rfl) (Eq.trans (b := (σ.2.1 48)) rfl rfl) (Eq.trans (b := (σ.1 49)) rfl rfl) (Eq.trans (b := (σ.2.1 50)) rfl rfl) (Eq.trans (b := (upd (σ.2.1 51) k0.toNatClampNeg (1 : Int32))) rfl rfl) (Eq.trans (b := (vp_updL (σ.2.2.1 52) k0.toNatClampNeg (1 : Int64))) rfl rfl) (Eq.trans (b := (vp_updL (σ.2.2.1 53) k0.toNatClampNeg (0 : Int64))) rfl rfl) (Eq.trans (b := (vf_upd (σ.2.2.2) k0.toNatClampNeg FP.dconst0)) rfl rfl) (Eq.trans (b := (σ.1 55)) rfl rfl) (Eq.trans (b := (σ.1 56)) rfl rfl) (Eq.trans (b := (σ.1 57)) rfl rfl) (Eq.trans (b := (σ.2.1 58)) rfl rfl) (Eq.trans (b := (σ.1 59)) rfl rfl)
              exact r_retv C ⟨(upd (σ.2.1 51) k0.toNatClampNeg (1 : Int32)), (vp_updL (σ.2.2.1 52) k0.toNatClampNeg (1 : Int64)), (vp_updL (σ.2.2.1 53) k0.toNatClampNeg (0 : Int64)), (vf_upd (σ.2.2.2) k0.toNatClampNeg FP.dconst0), (σ.1 56)⟩ ⟨(v_toBool_96 σ k0 x1 x26 x51 x76 x77 x102 x104 hpre_0 hpre_1 hpre_2 hpre_3 ex1 tx1 c2 ex26 tx26 c27 ex51 tx51 c52 ex76 tx76 tx77 c78 ex102 tx102 c103 ex104 tx104 c105), (v_toBool_97 σ k0 x1 x26 x51 x76 x77 x102 x104 hpre_0 hpre_1 hpre_2 hpre_3 ex1 tx1 c2 ex26 tx26 c27 ex51 tx51 c52 ex76 tx76 tx77 c78 ex102 tx102 c103 ex104 tx104 c105)⟩ hP hS dX12_toBool_154
            · have c105 : x104.toInt = 4 := by have h := z_eq c105; rw [show (4 : Int32).toInt = 4 from by decide +kernel] at h; exact h
              refine lv_aload_n hx hb dX12_toBool_88 rfl (lv_at hl 1 rfl) ?_
              refine lv_iload_n hx hb dX12_toBool_89 rfl (lv_at hl 2 rfl) ?_
              refine lv_bipush (v := 116) hx hb dX12_toBool_90 (by decide +kernel) ?_
              refine lv_bipush (v := 114) hx hb dX12_toBool_92 (by decide +kernel) ?_
              refine lv_bipush (v := 117) hx hb dX12_toBool_94 (by decide +kernel) ?_
              refine lv_bipush (v := 101) hx hb dX12_toBool_96 (by decide +kernel) ?_
              refine lv_iconst (v := 0) hx hb dX12_toBool_98 (by decide +kernel) ?_
              refine r_callVi (As := [.int k0, .int 116, .int 114, .int 117, .int 101, .int 0]) (rest := []) C hP hS hl.1 ⟨Nat.zero_le _, Nat.zero_le _⟩ (M_spells l D cy sz0 sa ad σ s.heap.size k0 (116 : Int32) (114 : Int32) (117 : Int32) (101 : Int32) (0 : Int32) (v_toBool_98 σ k0 x1 x26 x51 x76 x77 x102 x104 hpre_0 hpre_1 ex1 tx1 c2 ex26 tx26 c27 ex51 tx51 c52 ex76 tx76 tx77 c78 ex102 tx102 c103 ex104 tx104 c105)) (n := 6) ⟨wm_249, wm_247, by decide +kernel⟩ ⟨wm_250, wm_251, wm_10⟩ rfl rfl (lv_room (Nat.le_of_ble_eq_true rfl)) ⟨Nat.le_of_ble_eq_true rfl, Nat.le_of_ble_eq_true rfl⟩ dX12_toBool_99 (fun r108 u H locs hr108 hP hS => ?_)
              obtain ⟨hr108, hr108y⟩ := hr108
              have hr108y : ∀ s9 : List Int, QTT ((σ.2.2.1 52) k0.toNatClampNeg) ((σ.2.2.1 53) k0.toNatClampNeg) s9 → 0 ≤ (0 : Int32).toInt → (r108.toInt = 0 → ¬ s9 = (if 0 < (0 : Int32).toInt then [(116 : Int32).toInt, (114 : Int32).toInt, (117 : Int32).toInt, (101 : Int32).toInt, (0 : Int32).toInt] else [(116 : Int32).toInt, (114 : Int32).toInt, (117 : Int32).toInt, (101 : Int32).toInt])) ∧ (¬ r108.toInt = 0 → s9 = (if 0 < (0 : Int32).toInt then [(116 : Int32).toInt, (114 : Int32).toInt, (117 : Int32).toInt, (101 : Int32).toInt, (0 : Int32).toInt] else [(116 : Int32).toInt, (114 : Int32).toInt, (117 : Int32).toInt, (101 : Int32).toInt])) := hr108y
              have hr108 : True := hr108
              refine lv_istore_n (lv' := [(2, .int r108), (0, .ref (ad 0)), (1, .int k0)]) hx hb dX12_toBool_102 rfl hl (by decide) rfl (fun ls hl => ?_)
              refine lv_aload_n hx hb dX12_toBool_103 rfl (lv_at hl 1 rfl) ?_
              refine lv_iload_n hx hb dX12_toBool_104 rfl (lv_at hl 0 rfl) ?_
              refine lv_if_ne (tgt := 126) hx hb dX12_toBool_105 (by decide) (fun c109 => ?_) (fun c109 => ?_)
              · have c109 : ¬ r108.toInt = 0 := by have h := z_ne c109; rw [show (0 : Int32).toInt = 0 from by decide +kernel] at h; exact h
                refine lv_aload_n hx hb dX12_toBool_126 rfl (lv_at hl 1 rfl) ?_
                refine rg_56 (v := (σ.1 56)) C hP rfl wm_242 dX12_toBool_127 ?_
                refine lv_goto (tgt := 135) hx hb dX12_toBool_130 (by decide) ?_
                refine rp_56 C hP hS wm_242 dX12_toBool_135 (fun H locs hP hS => ?_)
                refine lv_aload_n hx hb dX12_toBool_138 rfl (lv_at hl 1 rfl) ?_
                refine lv_iload_n hx hb dX12_toBool_139 rfl (lv_at hl 2 rfl) ?_
                refine lv_iconst (v := 1) hx hb dX12_toBool_140 (by decide +kernel) ?_
                refine lv_iload_n hx hb dX12_toBool_141 rfl (lv_at hl 0 rfl) ?_
                refine lv_if_eq (tgt := 149) hx hb dX12_toBool_142 (by decide) (fun c110 => ?_) (fun c110 => ?_)
                · have c110 : r108.toInt = 0 := by have h := z_eq c110; rw [show (0 : Int32).toInt = 0 from by decide +kernel] at h; exact h
                  exact absurd (v_toBool_99 r108 c109 c110) id
                · have c110 : ¬ r108.toInt = 0 := by have h := z_ne c110; rw [show (0 : Int32).toInt = 0 from by decide +kernel] at h; exact h
                  refine lv_lconst (v := 1) hx hb dX12_toBool_145 rfl ?_
                  refine lv_goto (tgt := 150) hx hb dX12_toBool_146 (by decide) ?_
                  refine lv_dconst0 hx hb dX12_toBool_150 ?_
                  refine r_callVv (As := [.int k0, .int 1, .long 1, .double FP.dconst0]) (rest := []) C hP hS hl.1 ⟨Nat.zero_le _, Nat.zero_le _⟩ (M_set l D cy sz0 sa ad (rS σ 56 (σ.1 56)) H.size k0 (1 : Int32) (1 : Int64) FP.dconst0 (v_toBool_98 σ k0 x1 x26 x51 x76 x77 x102 x104 hpre_0 hpre_1 ex1 tx1 c2 ex26 tx26 c27 ex51 tx51 c52 ex76 tx76 tx77 c78 ex102 tx102 c103 ex104 tx104 c105)) (n := 4) ⟨wm_213, wm_207, by decide +kernel⟩ ⟨wm_214, wm_215, wm_10⟩ rfl rfl (lv_room (Nat.le_of_ble_eq_true rfl)) ⟨Nat.le_of_ble_eq_true rfl, Nat.le_of_ble_eq_true rfl⟩ dX12_toBool_151 (fun u H locs hr111 hP hS => ?_)
                  have hr111 : True := hr111
                  have hP : RP D cy ad (rR (rJ (rJ (rA (rS σ 56 (σ.1 56)) 51 (upd (σ.2.1 51) k0.toNatClampNeg (1 : Int32))) 52 (vp_updL (σ.2.2.1 52) k0.toNatClampNeg (1 : Int64))) 53 (vp_updL (σ.2.2.1 53) k0.toNatClampNeg (0 : Int64))) (vf_upd (σ.2.2.2) k0.toNatClampNeg FP.dconst0)) H := hP
                  have hP : RP D cy ad (rS (rR (rJ (rJ (rA σ 51 (upd (σ.2.1 51) k0.toNatClampNeg (1 : Int32))) 52 (vp_updL (σ.2.2.1 52) k0.toNatClampNeg (1 : Int64))) 53 (vp_updL (σ.2.2.1 53) k0.toNatClampNeg (0 : Int64))) (vf_upd (σ.2.2.2) k0.toNatClampNeg FP.dconst0)) 56 (σ.1 56)) H := RP.cong hP (Eq.trans (b := (σ.1 0)) rfl rfl) (Eq.trans (b := (σ.1 1)) rfl rfl) (Eq.trans (b := (σ.2.1 2)) rfl rfl) (Eq.trans (b := (σ.1 3)) rfl rfl) (Eq.trans (b := (σ.2.1 4)) rfl rfl) (Eq.trans (b := (σ.2.1 5)) rfl rfl) (Eq.trans (b := (σ.2.2.1 6)) rfl rfl) (Eq.trans (b := (σ.2.1 7)) rfl rfl) (Eq.trans (b := (σ.1 8)) rfl rfl) (Eq.trans (b := (σ.1 9)) rfl rfl) (Eq.trans (b := (σ.1 10)) rfl rfl) (Eq.trans (b := (σ.2.1 11)) rfl rfl) (Eq.trans (b := (σ.2.2.1 12)) rfl rfl) (Eq.trans (b := (σ.2.1 13)) rfl rfl) (Eq.trans (b := (σ.1 14)) rfl rfl) (Eq.trans (b := (σ.1 15)) rfl rfl) (Eq.trans (b := (σ.1 16)) rfl rfl) (Eq.trans (b := (σ.1 17)) rfl rfl) (Eq.trans (b := (σ.1 18)) rfl rfl) (Eq.trans (b := (σ.1 19)) rfl rfl) (Eq.trans (b := (σ.2.1 20)) rfl rfl) (Eq.trans (b := (σ.2.1 21)) rfl rfl) (Eq.trans (b := (σ.2.1 22)) rfl rfl) (Eq.trans (b := (σ.2.1 23)) rfl rfl) (Eq.trans (b := (σ.2.1 24)) rfl rfl) (Eq.trans (b := (σ.2.1 25)) rfl rfl) (Eq.trans (b := (σ.2.1 26)) rfl rfl) (Eq.trans (b := (σ.2.1 27)) rfl rfl) (Eq.trans (b := (σ.2.1 28)) rfl rfl) (Eq.trans (b := (σ.1 29)) rfl rfl) (Eq.trans (b := (σ.2.1 30)) rfl rfl) (Eq.trans (b := (σ.2.1 31)) rfl rfl) (Eq.trans (b := (σ.2.1 32)) rfl rfl) (Eq.trans (b := (σ.1 33)) rfl rfl) (Eq.trans (b := (σ.1 34)) rfl rfl) (Eq.trans (b := (σ.1 35)) rfl rfl) (Eq.trans (b := (σ.2.1 36)) rfl rfl) (Eq.trans (b := (σ.2.1 37)) rfl rfl) (Eq.trans (b := (σ.2.1 38)) rfl rfl) (Eq.trans (b := (σ.2.1 39)) rfl rfl) (Eq.trans (b := (σ.2.1 40)) rfl rfl) (Eq.trans (b := (σ.2.1 41)) rfl rfl) (Eq.trans (b := (σ.2.1 42)) rfl rfl) (Eq.trans (b := (σ.2.1 43)) rfl rfl) (Eq.trans (b := (σ.2.1 44)) rfl rfl) (Eq.trans (b := (σ.2.1 45)) rfl rfl) (Eq.trans (b := (σ.2.1 46)) rfl rfl) (Eq.trans (b := (σ.1 47)) rfl rfl) (Eq.trans (b := (σ.2.1 48)) rfl rfl) (Eq.trans (b := (σ.1 49)) rfl rfl) (Eq.trans (b := (σ.2.1 50)) rfl rfl) (Eq.trans (b := (upd (σ.2.1 51) k0.toNatClampNeg (1 : Int32))) rfl rfl) (Eq.trans (b := (vp_updL (σ.2.2.1 52) k0.toNatClampNeg (1 : Int64))) rfl rfl) (Eq.trans (b := (vp_updL (σ.2.2.1 53) k0.toNatClampNeg (0 : Int64))) rfl rfl) (Eq.trans (b := (vf_upd (σ.2.2.2) k0.toNatClampNeg FP.dconst0)) rfl rfl) (Eq.trans (b := (σ.1 55)) rfl rfl) (Eq.trans (b := (σ.1 56)) rfl rfl) (Eq.trans (b := (σ.1 57)) rfl rfl) (Eq.trans (b := (σ.2.1 58)) rfl rfl) (Eq.trans (b := (σ.1 59)) rfl rfl)
                  exact r_retv C ⟨(upd (σ.2.1 51) k0.toNatClampNeg (1 : Int32)), (vp_updL (σ.2.2.1 52) k0.toNatClampNeg (1 : Int64)), (vp_updL (σ.2.2.1 53) k0.toNatClampNeg (0 : Int64)), (vf_upd (σ.2.2.2) k0.toNatClampNeg FP.dconst0), (σ.1 56)⟩ ⟨(v_toBool_100 σ k0 x1 x26 x51 x76 x77 x102 x104 hpre_0 hpre_1 hpre_2 hpre_3 ex1 tx1 c2 ex26 tx26 c27 ex51 tx51 c52 ex76 tx76 tx77 c78 ex102 tx102 c103 ex104 tx104 c105), (v_toBool_101 σ k0 x1 x26 x51 x76 x77 x102 x104 r108 hpre_0 hpre_1 hpre_2 hpre_3 ex1 tx1 c2 ex26 tx26 c27 ex51 tx51 c52 ex76 tx76 tx77 c78 ex102 tx102 c103 ex104 tx104 c105 hr108y c109 c110)⟩ hP hS dX12_toBool_154
              · have c109 : r108.toInt = 0 := by have h := z_eq c109; rw [show (0 : Int32).toInt = 0 from by decide +kernel] at h; exact h
                refine lv_aload_n hx hb dX12_toBool_108 rfl (lv_at hl 1 rfl) ?_
                refine lv_iload_n hx hb dX12_toBool_109 rfl (lv_at hl 2 rfl) ?_
                refine lv_bipush (v := 102) hx hb dX12_toBool_110 (by decide +kernel) ?_
                refine lv_bipush (v := 97) hx hb dX12_toBool_112 (by decide +kernel) ?_
                refine lv_bipush (v := 108) hx hb dX12_toBool_114 (by decide +kernel) ?_
                refine lv_bipush (v := 115) hx hb dX12_toBool_116 (by decide +kernel) ?_
                refine lv_bipush (v := 101) hx hb dX12_toBool_118 (by decide +kernel) ?_
                refine r_callVi (As := [.int k0, .int 102, .int 97, .int 108, .int 115, .int 101]) (rest := [.ref (ad 0)]) C hP hS hl.1 ⟨Nat.zero_le _, Nat.zero_le _⟩ (M_spells l D cy sz0 sa ad σ H.size k0 (102 : Int32) (97 : Int32) (108 : Int32) (115 : Int32) (101 : Int32) (v_toBool_98 σ k0 x1 x26 x51 x76 x77 x102 x104 hpre_0 hpre_1 ex1 tx1 c2 ex26 tx26 c27 ex51 tx51 c52 ex76 tx76 tx77 c78 ex102 tx102 c103 ex104 tx104 c105)) (n := 6) ⟨wm_249, wm_247, by decide +kernel⟩ ⟨wm_250, wm_251, wm_10⟩ rfl rfl (lv_room (Nat.le_of_ble_eq_true rfl)) ⟨Nat.le_of_ble_eq_true rfl, Nat.le_of_ble_eq_true rfl⟩ dX12_toBool_120 (fun r112 u H locs hr112 hP hS => ?_)
                obtain ⟨hr112, hr112y⟩ := hr112
                have hr112y : ∀ s9 : List Int, QTT ((σ.2.2.1 52) k0.toNatClampNeg) ((σ.2.2.1 53) k0.toNatClampNeg) s9 → 0 ≤ (101 : Int32).toInt → (r112.toInt = 0 → ¬ s9 = (if 0 < (101 : Int32).toInt then [(102 : Int32).toInt, (97 : Int32).toInt, (108 : Int32).toInt, (115 : Int32).toInt, (101 : Int32).toInt] else [(102 : Int32).toInt, (97 : Int32).toInt, (108 : Int32).toInt, (115 : Int32).toInt])) ∧ (¬ r112.toInt = 0 → s9 = (if 0 < (101 : Int32).toInt then [(102 : Int32).toInt, (97 : Int32).toInt, (108 : Int32).toInt, (115 : Int32).toInt, (101 : Int32).toInt] else [(102 : Int32).toInt, (97 : Int32).toInt, (108 : Int32).toInt, (115 : Int32).toInt])) := hr112y
                have hr112 : True := hr112
                refine lv_if_eq (tgt := 133) hx hb dX12_toBool_123 (by decide) (fun c113 => ?_) (fun c113 => ?_)
                · have c113 : r112.toInt = 0 := by have h := z_eq c113; rw [show (0 : Int32).toInt = 0 from by decide +kernel] at h; exact h
                  refine lv_bipush (v := 10) hx hb dX12_toBool_133 (by decide +kernel) ?_
                  refine rp_56 C hP hS wm_242 dX12_toBool_135 (fun H locs hP hS => ?_)
                  refine lv_aload_n hx hb dX12_toBool_138 rfl (lv_at hl 1 rfl) ?_
                  refine lv_iload_n hx hb dX12_toBool_139 rfl (lv_at hl 2 rfl) ?_
                  refine lv_iconst (v := 1) hx hb dX12_toBool_140 (by decide +kernel) ?_
                  refine lv_iload_n hx hb dX12_toBool_141 rfl (lv_at hl 0 rfl) ?_
                  refine lv_if_eq (tgt := 149) hx hb dX12_toBool_142 (by decide) (fun c114 => ?_) (fun c114 => ?_)
                  · have c114 : r108.toInt = 0 := by have h := z_eq c114; rw [show (0 : Int32).toInt = 0 from by decide +kernel] at h; exact h
                    refine lv_lconst (v := 0) hx hb dX12_toBool_149 rfl ?_
                    refine lv_dconst0 hx hb dX12_toBool_150 ?_
                    refine r_callVv (As := [.int k0, .int 1, .long 0, .double FP.dconst0]) (rest := []) C hP hS hl.1 ⟨Nat.zero_le _, Nat.zero_le _⟩ (M_set l D cy sz0 sa ad (rS σ 56 (10 : Int32)) H.size k0 (1 : Int32) (0 : Int64) FP.dconst0 (v_toBool_98 σ k0 x1 x26 x51 x76 x77 x102 x104 hpre_0 hpre_1 ex1 tx1 c2 ex26 tx26 c27 ex51 tx51 c52 ex76 tx76 tx77 c78 ex102 tx102 c103 ex104 tx104 c105)) (n := 4) ⟨wm_213, wm_207, by decide +kernel⟩ ⟨wm_214, wm_215, wm_10⟩ rfl rfl (lv_room (Nat.le_of_ble_eq_true rfl)) ⟨Nat.le_of_ble_eq_true rfl, Nat.le_of_ble_eq_true rfl⟩ dX12_toBool_151 (fun u H locs hr115 hP hS => ?_)
                    have hr115 : True := hr115
                    have hP : RP D cy ad (rR (rJ (rJ (rA (rS σ 56 (10 : Int32)) 51 (upd (σ.2.1 51) k0.toNatClampNeg (1 : Int32))) 52 (vp_updL (σ.2.2.1 52) k0.toNatClampNeg (0 : Int64))) 53 (vp_updL (σ.2.2.1 53) k0.toNatClampNeg (0 : Int64))) (vf_upd (σ.2.2.2) k0.toNatClampNeg FP.dconst0)) H := hP
                    have hP : RP D cy ad (rS (rR (rJ (rJ (rA σ 51 (upd (σ.2.1 51) k0.toNatClampNeg (1 : Int32))) 52 (vp_updL (σ.2.2.1 52) k0.toNatClampNeg (0 : Int64))) 53 (vp_updL (σ.2.2.1 53) k0.toNatClampNeg (0 : Int64))) (vf_upd (σ.2.2.2) k0.toNatClampNeg FP.dconst0)) 56 (10 : Int32)) H := RP.cong hP (Eq.trans (b := (σ.1 0)) rfl rfl) (Eq.trans (b := (σ.1 1)) rfl rfl) (Eq.trans (b := (σ.2.1 2)) rfl rfl) (Eq.trans (b := (σ.1 3)) rfl rfl) (Eq.trans (b := (σ.2.1 4)) rfl rfl) (Eq.trans (b := (σ.2.1 5)) rfl rfl) (Eq.trans (b := (σ.2.2.1 6)) rfl rfl) (Eq.trans (b := (σ.2.1 7)) rfl rfl) (Eq.trans (b := (σ.1 8)) rfl rfl) (Eq.trans (b := (σ.1 9)) rfl rfl) (Eq.trans (b := (σ.1 10)) rfl rfl) (Eq.trans (b := (σ.2.1 11)) rfl rfl) (Eq.trans (b := (σ.2.2.1 12)) rfl rfl) (Eq.trans (b := (σ.2.1 13)) rfl rfl) (Eq.trans (b := (σ.1 14)) rfl rfl) (Eq.trans (b := (σ.1 15)) rfl rfl) (Eq.trans (b := (σ.1 16)) rfl rfl) (Eq.trans (b := (σ.1 17)) rfl rfl) (Eq.trans (b := (σ.1 18)) rfl rfl) (Eq.trans (b := (σ.1 19)) rfl rfl) (Eq.trans (b := (σ.2.1 20)) rfl rfl) (Eq.trans (b := (σ.2.1 21)) rfl rfl) (Eq.trans (b := (σ.2.1 22)) rfl rfl) (Eq.trans (b := (σ.2.1 23)) rfl rfl) (Eq.trans (b := (σ.2.1 24)) rfl rfl) (Eq.trans (b := (σ.2.1 25)) rfl rfl) (Eq.trans (b := (σ.2.1 26)) rfl rfl) (Eq.trans (b := (σ.2.1 27)) rfl rfl) (Eq.trans (b := (σ.2.1 28)) rfl rfl) (Eq.trans (b := (σ.1 29)) rfl rfl) (Eq.trans (b := (σ.2.1 30)) rfl rfl) (Eq.trans (b := (σ.2.1 31)) rfl rfl) (Eq.trans (b := (σ.2.1 32)) rfl rfl) (Eq.trans (b := (σ.1 33)) rfl rfl) (Eq.trans (b := (σ.1 34)) rfl rfl) (Eq.trans (b := (σ.1 35)) rfl rfl) (Eq.trans (b := (σ.2.1 36)) rfl rfl) (Eq.trans (b := (σ.2.1 37)) rfl rfl) (Eq.trans (b := (σ.2.1 38)) rfl rfl) (Eq.trans (b := (σ.2.1 39)) rfl rfl) (Eq.trans (b := (σ.2.1 40)) rfl rfl) (Eq.trans (b := (σ.2.1 41)) rfl rfl) (Eq.trans (b := (σ.2.1 42)) rfl rfl) (Eq.trans (b := (σ.2.1 43)) rfl rfl) (Eq.trans (b := (σ.2.1 44)) rfl rfl) (Eq.trans (b := (σ.2.1 45)) rfl rfl) (Eq.trans (b := (σ.2.1 46)) rfl rfl) (Eq.trans (b := (σ.1 47)) rfl rfl) (Eq.trans (b := (σ.2.1 48)) rfl rfl) (Eq.trans (b := (σ.1 49)) rfl rfl) (Eq.trans (b := (σ.2.1 50)) rfl rfl) (Eq.trans (b := (upd (σ.2.1 51) k0.toNatClampNeg (1 : Int32))) rfl rfl) (Eq.trans (b := (vp_updL (σ.2.2.1 52) k0.toNatClampNeg (0 : Int64))) rfl rfl) (Eq.trans (b := (vp_updL (σ.2.2.1 53) k0.toNatClampNeg (0 : Int64))) rfl rfl) (Eq.trans (b := (vf_upd (σ.2.2.2) k0.toNatClampNeg FP.dconst0)) rfl rfl) (Eq.trans (b := (σ.1 55)) rfl rfl) (Eq.trans (b := (10 : Int32)) rfl rfl) (Eq.trans (b := (σ.1 57)) rfl rfl) (Eq.trans (b := (σ.2.1 58)) rfl rfl) (Eq.trans (b := (σ.1 59)) rfl rfl)
                    exact r_retv C ⟨(upd (σ.2.1 51) k0.toNatClampNeg (1 : Int32)), (vp_updL (σ.2.2.1 52) k0.toNatClampNeg (0 : Int64)), (vp_updL (σ.2.2.1 53) k0.toNatClampNeg (0 : Int64)), (vf_upd (σ.2.2.2) k0.toNatClampNeg FP.dconst0), (10 : Int32)⟩ ⟨(v_toBool_102 σ k0 x1 x26 x51 x76 x77 x102 x104 hpre_0 hpre_1 ex1 tx1 c2 ex26 tx26 c27 ex51 tx51 c52 ex76 tx76 tx77 c78 ex102 tx102 c103 ex104 tx104 c105), (v_toBool_103 σ k0 x1 x26 x51 x76 x77 x102 x104 r108 r112 hpre_0 hpre_1 hpre_2 hpre_3 ex1 tx1 c2 ex26 tx26 c27 ex51 tx51 c52 ex76 tx76 tx77 c78 ex102 tx102 c103 ex104 tx104 c105 hr108y c109 hr112y c113 c114)⟩ hP hS dX12_toBool_154
                  · have c114 : ¬ r108.toInt = 0 := by have h := z_ne c114; rw [show (0 : Int32).toInt = 0 from by decide +kernel] at h; exact h
                    exact absurd (v_toBool_104 r108 c109 c114) id
                · have c113 : ¬ r112.toInt = 0 := by have h := z_ne c113; rw [show (0 : Int32).toInt = 0 from by decide +kernel] at h; exact h
                  refine lv_aload_n hx hb dX12_toBool_126 rfl (lv_at hl 1 rfl) ?_
                  refine rg_56 (v := (σ.1 56)) C hP rfl wm_242 dX12_toBool_127 ?_
                  refine lv_goto (tgt := 135) hx hb dX12_toBool_130 (by decide) ?_
                  refine rp_56 C hP hS wm_242 dX12_toBool_135 (fun H locs hP hS => ?_)
                  refine lv_aload_n hx hb dX12_toBool_138 rfl (lv_at hl 1 rfl) ?_
                  refine lv_iload_n hx hb dX12_toBool_139 rfl (lv_at hl 2 rfl) ?_
                  refine lv_iconst (v := 1) hx hb dX12_toBool_140 (by decide +kernel) ?_
                  refine lv_iload_n hx hb dX12_toBool_141 rfl (lv_at hl 0 rfl) ?_
                  refine lv_if_eq (tgt := 149) hx hb dX12_toBool_142 (by decide) (fun c116 => ?_) (fun c116 => ?_)
                  · have c116 : r108.toInt = 0 := by have h := z_eq c116; rw [show (0 : Int32).toInt = 0 from by decide +kernel] at h; exact h
                    refine lv_lconst (v := 0) hx hb dX12_toBool_149 rfl ?_
                    refine lv_dconst0 hx hb dX12_toBool_150 ?_
                    refine r_callVv (As := [.int k0, .int 1, .long 0, .double FP.dconst0]) (rest := []) C hP hS hl.1 ⟨Nat.zero_le _, Nat.zero_le _⟩ (M_set l D cy sz0 sa ad (rS σ 56 (σ.1 56)) H.size k0 (1 : Int32) (0 : Int64) FP.dconst0 (v_toBool_98 σ k0 x1 x26 x51 x76 x77 x102 x104 hpre_0 hpre_1 ex1 tx1 c2 ex26 tx26 c27 ex51 tx51 c52 ex76 tx76 tx77 c78 ex102 tx102 c103 ex104 tx104 c105)) (n := 4) ⟨wm_213, wm_207, by decide +kernel⟩ ⟨wm_214, wm_215, wm_10⟩ rfl rfl (lv_room (Nat.le_of_ble_eq_true rfl)) ⟨Nat.le_of_ble_eq_true rfl, Nat.le_of_ble_eq_true rfl⟩ dX12_toBool_151 (fun u H locs hr117 hP hS => ?_)
                    have hr117 : True := hr117
                    have hP : RP D cy ad (rR (rJ (rJ (rA (rS σ 56 (σ.1 56)) 51 (upd (σ.2.1 51) k0.toNatClampNeg (1 : Int32))) 52 (vp_updL (σ.2.2.1 52) k0.toNatClampNeg (0 : Int64))) 53 (vp_updL (σ.2.2.1 53) k0.toNatClampNeg (0 : Int64))) (vf_upd (σ.2.2.2) k0.toNatClampNeg FP.dconst0)) H := hP
                    have hP : RP D cy ad (rS (rR (rJ (rJ (rA σ 51 (upd (σ.2.1 51) k0.toNatClampNeg (1 : Int32))) 52 (vp_updL (σ.2.2.1 52) k0.toNatClampNeg (0 : Int64))) 53 (vp_updL (σ.2.2.1 53) k0.toNatClampNeg (0 : Int64))) (vf_upd (σ.2.2.2) k0.toNatClampNeg FP.dconst0)) 56 (σ.1 56)) H := RP.cong hP (Eq.trans (b := (σ.1 0)) rfl rfl) (Eq.trans (b := (σ.1 1)) rfl rfl) (Eq.trans (b := (σ.2.1 2)) rfl rfl) (Eq.trans (b := (σ.1 3)) rfl rfl) (Eq.trans (b := (σ.2.1 4)) rfl rfl) (Eq.trans (b := (σ.2.1 5)) rfl rfl) (Eq.trans (b := (σ.2.2.1 6)) rfl rfl) (Eq.trans (b := (σ.2.1 7)) rfl rfl) (Eq.trans (b := (σ.1 8)) rfl rfl) (Eq.trans (b := (σ.1 9)) rfl rfl) (Eq.trans (b := (σ.1 10)) rfl rfl) (Eq.trans (b := (σ.2.1 11)) rfl rfl) (Eq.trans (b := (σ.2.2.1 12)) rfl rfl) (Eq.trans (b := (σ.2.1 13)) rfl rfl) (Eq.trans (b := (σ.1 14)) rfl rfl) (Eq.trans (b := (σ.1 15)) rfl rfl) (Eq.trans (b := (σ.1 16)) rfl rfl) (Eq.trans (b := (σ.1 17)) rfl rfl) (Eq.trans (b := (σ.1 18)) rfl rfl) (Eq.trans (b := (σ.1 19)) rfl rfl) (Eq.trans (b := (σ.2.1 20)) rfl rfl) (Eq.trans (b := (σ.2.1 21)) rfl rfl) (Eq.trans (b := (σ.2.1 22)) rfl rfl) (Eq.trans (b := (σ.2.1 23)) rfl rfl) (Eq.trans (b := (σ.2.1 24)) rfl rfl) (Eq.trans (b := (σ.2.1 25)) rfl rfl) (Eq.trans (b := (σ.2.1 26)) rfl rfl) (Eq.trans (b := (σ.2.1 27)) rfl rfl) (Eq.trans (b := (σ.2.1 28)) rfl rfl) (Eq.trans (b := (σ.1 29)) rfl rfl) (Eq.trans (b := (σ.2.1 30)) rfl rfl) (Eq.trans (b := (σ.2.1 31)) rfl rfl) (Eq.trans (b := (σ.2.1 32)) rfl rfl) (Eq.trans (b := (σ.1 33)) rfl rfl) (Eq.trans (b := (σ.1 34)) rfl rfl) (Eq.trans (b := (σ.1 35)) rfl rfl) (Eq.trans (b := (σ.2.1 36)) rfl rfl) (Eq.trans (b := (σ.2.1 37)) rfl rfl) (Eq.trans (b := (σ.2.1 38)) rfl rfl) (Eq.trans (b := (σ.2.1 39)) rfl rfl) (Eq.trans (b := (σ.2.1 40)) rfl rfl) (Eq.trans (b := (σ.2.1 41)) rfl rfl) (Eq.trans (b := (σ.2.1 42)) rfl rfl) (Eq.trans (b := (σ.2.1 43)) rfl rfl) (Eq.trans (b := (σ.2.1 44)) rfl rfl) (Eq.trans (b := (σ.2.1 45)) rfl rfl) (Eq.trans (b := (σ.2.1 46)) rfl rfl) (Eq.trans (b := (σ.1 47)) rfl rfl) (Eq.trans (b := (σ.2.1 48)) rfl rfl) (Eq.trans (b := (σ.1 49)) rfl rfl) (Eq.trans (b := (σ.2.1 50)) rfl rfl) (Eq.trans (b := (upd (σ.2.1 51) k0.toNatClampNeg (1 : Int32))) rfl rfl) (Eq.trans (b := (vp_updL (σ.2.2.1 52) k0.toNatClampNeg (0 : Int64))) rfl rfl) (Eq.trans (b := (vp_updL (σ.2.2.1 53) k0.toNatClampNeg (0 : Int64))) rfl rfl) (Eq.trans (b := (vf_upd (σ.2.2.2) k0.toNatClampNeg FP.dconst0)) rfl rfl) (Eq.trans (b := (σ.1 55)) rfl rfl) (Eq.trans (b := (σ.1 56)) rfl rfl) (Eq.trans (b := (σ.1 57)) rfl rfl) (Eq.trans (b := (σ.2.1 58)) rfl rfl) (Eq.trans (b := (σ.1 59)) rfl rfl)
                    exact r_retv C ⟨(upd (σ.2.1 51) k0.toNatClampNeg (1 : Int32)), (vp_updL (σ.2.2.1 52) k0.toNatClampNeg (0 : Int64)), (vp_updL (σ.2.2.1 53) k0.toNatClampNeg (0 : Int64)), (vf_upd (σ.2.2.2) k0.toNatClampNeg FP.dconst0), (σ.1 56)⟩ ⟨(v_toBool_105 σ k0 x1 x26 x51 x76 x77 x102 x104 hpre_0 hpre_1 hpre_2 hpre_3 ex1 tx1 c2 ex26 tx26 c27 ex51 tx51 c52 ex76 tx76 tx77 c78 ex102 tx102 c103 ex104 tx104 c105), (v_toBool_106 σ k0 x1 x26 x51 x76 x77 x102 x104 r108 r112 hpre_0 hpre_1 hpre_2 hpre_3 ex1 tx1 c2 ex26 tx26 c27 ex51 tx51 c52 ex76 tx76 tx77 c78 ex102 tx102 c103 ex104 tx104 c105 hr108y c109 hr112y c113 c116)⟩ hP hS dX12_toBool_154
                  · have c116 : ¬ r108.toInt = 0 := by have h := z_ne c116; rw [show (0 : Int32).toInt = 0 from by decide +kernel] at h; exact h
                    exact absurd (v_toBool_107 r108 c109 c116) id
          · have c103 : x102.toInt = 3 := by have h := z_eq c103; rw [show (3 : Int32).toInt = 3 from by decide +kernel] at h; exact h
            refine lv_aload_n hx hb dX12_toBool_58 rfl (lv_at hl 1 rfl) ?_
            refine rg_54 C hP wm_209 dX12_toBool_59 ?_
            refine lv_iload_n hx hb dX12_toBool_62 rfl (lv_at hl 2 rfl) ?_
            refine ra_54 (f := (σ.2.2.2)) C hP rfl (v_toBool_108 σ k0 x1 x26 x51 x76 x77 x102 hpre_0 hpre_1 ex1 tx1 c2 ex26 tx26 c27 ex51 tx51 c52 ex76 tx76 tx77 c78 ex102 tx102 c103) dX12_toBool_63 (fun x118 ex118 => ?_)
            refine lv_dconst0 hx hb dX12_toBool_64 ?_
            refine lv_dcmp hx hb dX12_toBool_65 ?_
            refine lv_topi (fun x119 ex119 => ?_)
            refine lv_if_eq (tgt := 73) hx hb dX12_toBool_66 (by decide) (fun c120 => ?_) (fun c120 => ?_)
            · have c120 : x119.toInt = 0 := by have h := z_eq c120; rw [show (0 : Int32).toInt = 0 from by decide +kernel] at h; exact h
              refine lv_iconst (v := 0) hx hb dX12_toBool_73 (by decide +kernel) ?_
              refine lv_istore_n (lv' := [(2, .int 0), (0, .ref (ad 0)), (1, .int k0)]) hx hb dX12_toBool_74 rfl hl (by decide) rfl (fun ls hl => ?_)
              refine lv_goto (tgt := 138) hx hb dX12_toBool_75 (by decide) ?_
              refine lv_aload_n hx hb dX12_toBool_138 rfl (lv_at hl 1 rfl) ?_
              refine lv_iload_n hx hb dX12_toBool_139 rfl (lv_at hl 2 rfl) ?_
              refine lv_iconst (v := 1) hx hb dX12_toBool_140 (by decide +kernel) ?_
              refine lv_iload_n hx hb dX12_toBool_141 rfl (lv_at hl 0 rfl) ?_
              refine lv_if_eq (tgt := 149) hx hb dX12_toBool_142 (by decide) (fun _ => ?_) (fun c121 => absurd (by decide +kernel) c121)
              refine lv_lconst (v := 0) hx hb dX12_toBool_149 rfl ?_
              refine lv_dconst0 hx hb dX12_toBool_150 ?_
              refine r_callVv (As := [.int k0, .int 1, .long 0, .double FP.dconst0]) (rest := []) C hP hS hl.1 ⟨Nat.zero_le _, Nat.zero_le _⟩ (M_set l D cy sz0 sa ad σ s.heap.size k0 (1 : Int32) (0 : Int64) FP.dconst0 (v_toBool_109 σ k0 x1 x26 x51 x76 x77 x102 x118 x119 hpre_0 hpre_1 ex1 tx1 c2 ex26 tx26 c27 ex51 tx51 c52 ex76 tx76 tx77 c78 ex102 tx102 c103 ex118 ex119 c120)) (n := 4) ⟨wm_213, wm_207, by decide +kernel⟩ ⟨wm_214, wm_215, wm_10⟩ rfl rfl (lv_room (Nat.le_of_ble_eq_true rfl)) ⟨Nat.le_of_ble_eq_true rfl, Nat.le_of_ble_eq_true rfl⟩ dX12_toBool_151 (fun u H locs hr122 hP hS => ?_)
              have hr122 : True := hr122
              have hP : RP D cy ad (rR (rJ (rJ (rA σ 51 (upd (σ.2.1 51) k0.toNatClampNeg (1 : Int32))) 52 (vp_updL (σ.2.2.1 52) k0.toNatClampNeg (0 : Int64))) 53 (vp_updL (σ.2.2.1 53) k0.toNatClampNeg (0 : Int64))) (vf_upd (σ.2.2.2) k0.toNatClampNeg FP.dconst0)) H := hP
              have hP : RP D cy ad (rS (rR (rJ (rJ (rA σ 51 (upd (σ.2.1 51) k0.toNatClampNeg (1 : Int32))) 52 (vp_updL (σ.2.2.1 52) k0.toNatClampNeg (0 : Int64))) 53 (vp_updL (σ.2.2.1 53) k0.toNatClampNeg (0 : Int64))) (vf_upd (σ.2.2.2) k0.toNatClampNeg FP.dconst0)) 56 (σ.1 56)) H := RP.cong hP (Eq.trans (b := (σ.1 0)) rfl rfl) (Eq.trans (b := (σ.1 1)) rfl rfl) (Eq.trans (b := (σ.2.1 2)) rfl rfl) (Eq.trans (b := (σ.1 3)) rfl rfl) (Eq.trans (b := (σ.2.1 4)) rfl rfl) (Eq.trans (b := (σ.2.1 5)) rfl rfl) (Eq.trans (b := (σ.2.2.1 6)) rfl rfl) (Eq.trans (b := (σ.2.1 7)) rfl rfl) (Eq.trans (b := (σ.1 8)) rfl rfl) (Eq.trans (b := (σ.1 9)) rfl rfl) (Eq.trans (b := (σ.1 10)) rfl rfl) (Eq.trans (b := (σ.2.1 11)) rfl rfl) (Eq.trans (b := (σ.2.2.1 12)) rfl rfl) (Eq.trans (b := (σ.2.1 13)) rfl rfl) (Eq.trans (b := (σ.1 14)) rfl rfl) (Eq.trans (b := (σ.1 15)) rfl rfl) (Eq.trans (b := (σ.1 16)) rfl rfl) (Eq.trans (b := (σ.1 17)) rfl rfl) (Eq.trans (b := (σ.1 18)) rfl rfl) (Eq.trans (b := (σ.1 19)) rfl rfl) (Eq.trans (b := (σ.2.1 20)) rfl rfl) (Eq.trans (b := (σ.2.1 21)) rfl rfl) (Eq.trans (b := (σ.2.1 22)) rfl rfl) (Eq.trans (b := (σ.2.1 23)) rfl rfl) (Eq.trans (b := (σ.2.1 24)) rfl rfl) (Eq.trans (b := (σ.2.1 25)) rfl rfl) (Eq.trans (b := (σ.2.1 26)) rfl rfl) (Eq.trans (b := (σ.2.1 27)) rfl rfl) (Eq.trans (b := (σ.2.1 28)) rfl rfl) (Eq.trans (b := (σ.1 29)) rfl rfl) (Eq.trans (b := (σ.2.1 30)) rfl rfl) (Eq.trans (b := (σ.2.1 31)) rfl rfl) (Eq.trans (b := (σ.2.1 32)) rfl rfl) (Eq.trans (b := (σ.1 33)) rfl rfl) (Eq.trans (b := (σ.1 34)) rfl rfl) (Eq.trans (b := (σ.1 35)) rfl rfl) (Eq.trans (b := (σ.2.1 36)) rfl rfl) (Eq.trans (b := (σ.2.1 37)) rfl rfl) (Eq.trans (b := (σ.2.1 38)) rfl rfl) (Eq.trans (b := (σ.2.1 39)) rfl rfl) (Eq.trans (b := (σ.2.1 40)) rfl rfl) (Eq.trans (b := (σ.2.1 41)) rfl rfl) (Eq.trans (b := (σ.2.1 42)) rfl rfl) (Eq.trans (b := (σ.2.1 43)) rfl rfl) (Eq.trans (b := (σ.2.1 44)) rfl rfl) (Eq.trans (b := (σ.2.1 45)) rfl rfl) (Eq.trans (b := (σ.2.1 46)) rfl rfl) (Eq.trans (b := (σ.1 47)) rfl rfl) (Eq.trans (b := (σ.2.1 48)) rfl rfl) (Eq.trans (b := (σ.1 49)) rfl rfl) (Eq.trans (b := (σ.2.1 50)) rfl rfl) (Eq.trans (b := (upd (σ.2.1 51) k0.toNatClampNeg (1 : Int32))) rfl rfl) (Eq.trans (b := (vp_updL (σ.2.2.1 52) k0.toNatClampNeg (0 : Int64))) rfl rfl) (Eq.trans (b := (vp_updL (σ.2.2.1 53) k0.toNatClampNeg (0 : Int64))) rfl rfl) (Eq.trans (b := (vf_upd (σ.2.2.2) k0.toNatClampNeg FP.dconst0)) rfl rfl) (Eq.trans (b := (σ.1 55)) rfl rfl) (Eq.trans (b := (σ.1 56)) rfl rfl) (Eq.trans (b := (σ.1 57)) rfl rfl) (Eq.trans (b := (σ.2.1 58)) rfl rfl) (Eq.trans (b := (σ.1 59)) rfl rfl)
              exact r_retv C ⟨(upd (σ.2.1 51) k0.toNatClampNeg (1 : Int32)), (vp_updL (σ.2.2.1 52) k0.toNatClampNeg (0 : Int64)), (vp_updL (σ.2.2.1 53) k0.toNatClampNeg (0 : Int64)), (vf_upd (σ.2.2.2) k0.toNatClampNeg FP.dconst0), (σ.1 56)⟩ ⟨(v_toBool_110 σ k0 x1 x26 x51 x76 x77 x102 x118 x119 hpre_0 hpre_1 hpre_2 hpre_3 ex1 tx1 c2 ex26 tx26 c27 ex51 tx51 c52 ex76 tx76 tx77 c78 ex102 tx102 c103 ex118 ex119 c120), (v_toBool_111 σ k0 x1 x26 x51 x76 x77 x102 x118 x119 hpre_0 hpre_1 hpre_2 hpre_3 ex1 tx1 c2 ex26 tx26 c27 ex51 tx51 c52 ex76 tx76 tx77 c78 ex102 tx102 c103 ex118 ex119 c120)⟩ hP hS dX12_toBool_154
            · have c120 : ¬ x119.toInt = 0 := by have h := z_ne c120; rw [show (0 : Int32).toInt = 0 from by decide +kernel] at h; exact h
              refine lv_iconst (v := 1) hx hb dX12_toBool_69 (by decide +kernel) ?_
              refine lv_goto (tgt := 74) hx hb dX12_toBool_70 (by decide) ?_
              refine lv_istore_n (lv' := [(2, .int 1), (0, .ref (ad 0)), (1, .int k0)]) hx hb dX12_toBool_74 rfl hl (by decide) rfl (fun ls hl => ?_)
              refine lv_goto (tgt := 138) hx hb dX12_toBool_75 (by decide) ?_
              refine lv_aload_n hx hb dX12_toBool_138 rfl (lv_at hl 1 rfl) ?_
              refine lv_iload_n hx hb dX12_toBool_139 rfl (lv_at hl 2 rfl) ?_
              refine lv_iconst (v := 1) hx hb dX12_toBool_140 (by decide +kernel) ?_
              refine lv_iload_n hx hb dX12_toBool_141 rfl (lv_at hl 0 rfl) ?_
              refine lv_if_eq (tgt := 149) hx hb dX12_toBool_142 (by decide) (fun c123 => absurd c123 (by decide +kernel)) (fun _ => ?_)
              refine lv_lconst (v := 1) hx hb dX12_toBool_145 rfl ?_
              refine lv_goto (tgt := 150) hx hb dX12_toBool_146 (by decide) ?_
              refine lv_dconst0 hx hb dX12_toBool_150 ?_
              refine r_callVv (As := [.int k0, .int 1, .long 1, .double FP.dconst0]) (rest := []) C hP hS hl.1 ⟨Nat.zero_le _, Nat.zero_le _⟩ (M_set l D cy sz0 sa ad σ s.heap.size k0 (1 : Int32) (1 : Int64) FP.dconst0 (v_toBool_112 σ k0 x1 x26 x51 x76 x77 x102 x118 x119 hpre_0 hpre_1 ex1 tx1 c2 ex26 tx26 c27 ex51 tx51 c52 ex76 tx76 tx77 c78 ex102 tx102 c103 ex118 ex119 c120)) (n := 4) ⟨wm_213, wm_207, by decide +kernel⟩ ⟨wm_214, wm_215, wm_10⟩ rfl rfl (lv_room (Nat.le_of_ble_eq_true rfl)) ⟨Nat.le_of_ble_eq_true rfl, Nat.le_of_ble_eq_true rfl⟩ dX12_toBool_151 (fun u H locs hr124 hP hS => ?_)
              have hr124 : True := hr124
              have hP : RP D cy ad (rR (rJ (rJ (rA σ 51 (upd (σ.2.1 51) k0.toNatClampNeg (1 : Int32))) 52 (vp_updL (σ.2.2.1 52) k0.toNatClampNeg (1 : Int64))) 53 (vp_updL (σ.2.2.1 53) k0.toNatClampNeg (0 : Int64))) (vf_upd (σ.2.2.2) k0.toNatClampNeg FP.dconst0)) H := hP
              have hP : RP D cy ad (rS (rR (rJ (rJ (rA σ 51 (upd (σ.2.1 51) k0.toNatClampNeg (1 : Int32))) 52 (vp_updL (σ.2.2.1 52) k0.toNatClampNeg (1 : Int64))) 53 (vp_updL (σ.2.2.1 53) k0.toNatClampNeg (0 : Int64))) (vf_upd (σ.2.2.2) k0.toNatClampNeg FP.dconst0)) 56 (σ.1 56)) H := RP.cong hP (Eq.trans (b := (σ.1 0)) rfl rfl) (Eq.trans (b := (σ.1 1)) rfl rfl) (Eq.trans (b := (σ.2.1 2)) rfl rfl) (Eq.trans (b := (σ.1 3)) rfl rfl) (Eq.trans (b := (σ.2.1 4)) rfl rfl) (Eq.trans (b := (σ.2.1 5)) rfl rfl) (Eq.trans (b := (σ.2.2.1 6)) rfl rfl) (Eq.trans (b := (σ.2.1 7)) rfl rfl) (Eq.trans (b := (σ.1 8)) rfl rfl) (Eq.trans (b := (σ.1 9)) rfl rfl) (Eq.trans (b := (σ.1 10)) rfl rfl) (Eq.trans (b := (σ.2.1 11)) rfl rfl) (Eq.trans (b := (σ.2.2.1 12)) rfl rfl) (Eq.trans (b := (σ.2.1 13)) rfl rfl) (Eq.trans (b := (σ.1 14)) rfl rfl) (Eq.trans (b := (σ.1 15)) rfl rfl) (Eq.trans (b := (σ.1 16)) rfl rfl) (Eq.trans (b := (σ.1 17)) rfl rfl) (Eq.trans (b := (σ.1 18)) rfl rfl) (Eq.trans (b := (σ.1 19)) rfl rfl) (Eq.trans (b := (σ.2.1 20)) rfl rfl) (Eq.trans (b := (σ.2.1 21)) rfl rfl) (Eq.trans (b := (σ.2.1 22)) rfl rfl) (Eq.trans (b := (σ.2.1 23)) rfl rfl) (Eq.trans (b := (σ.2.1 24)) rfl rfl) (Eq.trans (b := (σ.2.1 25)) rfl rfl) (Eq.trans (b := (σ.2.1 26)) rfl rfl) (Eq.trans (b := (σ.2.1 27)) rfl rfl) (Eq.trans (b := (σ.2.1 28)) rfl rfl) (Eq.trans (b := (σ.1 29)) rfl rfl) (Eq.trans (b := (σ.2.1 30)) rfl rfl) (Eq.trans (b := (σ.2.1 31)) rfl rfl) (Eq.trans (b := (σ.2.1 32)) rfl rfl) (Eq.trans (b := (σ.1 33)) rfl rfl) (Eq.trans (b := (σ.1 34)) rfl rfl) (Eq.trans (b := (σ.1 35)) rfl rfl) (Eq.trans (b := (σ.2.1 36)) rfl rfl) (Eq.trans (b := (σ.2.1 37)) rfl rfl) (Eq.trans (b := (σ.2.1 38)) rfl rfl) (Eq.trans (b := (σ.2.1 39)) rfl rfl) (Eq.trans (b := (σ.2.1 40)) rfl rfl) (Eq.trans (b := (σ.2.1 41)) rfl rfl) (Eq.trans (b := (σ.2.1 42)) rfl rfl) (Eq.trans (b := (σ.2.1 43)) rfl rfl) (Eq.trans (b := (σ.2.1 44)) rfl rfl) (Eq.trans (b := (σ.2.1 45)) rfl rfl) (Eq.trans (b := (σ.2.1 46)) rfl rfl) (Eq.trans (b := (σ.1 47)) rfl rfl) (Eq.trans (b := (σ.2.1 48)) rfl rfl) (Eq.trans (b := (σ.1 49)) rfl rfl) (Eq.trans (b := (σ.2.1 50)) rfl rfl) (Eq.trans (b := (upd (σ.2.1 51) k0.toNatClampNeg (1 : Int32))) rfl rfl) (Eq.trans (b := (vp_updL (σ.2.2.1 52) k0.toNatClampNeg (1 : Int64))) rfl rfl) (Eq.trans (b := (vp_updL (σ.2.2.1 53) k0.toNatClampNeg (0 : Int64))) rfl rfl) (Eq.trans (b := (vf_upd (σ.2.2.2) k0.toNatClampNeg FP.dconst0)) rfl rfl) (Eq.trans (b := (σ.1 55)) rfl rfl) (Eq.trans (b := (σ.1 56)) rfl rfl) (Eq.trans (b := (σ.1 57)) rfl rfl) (Eq.trans (b := (σ.2.1 58)) rfl rfl) (Eq.trans (b := (σ.1 59)) rfl rfl)
              exact r_retv C ⟨(upd (σ.2.1 51) k0.toNatClampNeg (1 : Int32)), (vp_updL (σ.2.2.1 52) k0.toNatClampNeg (1 : Int64)), (vp_updL (σ.2.2.1 53) k0.toNatClampNeg (0 : Int64)), (vf_upd (σ.2.2.2) k0.toNatClampNeg FP.dconst0), (σ.1 56)⟩ ⟨(v_toBool_113 σ k0 x1 x26 x51 x76 x77 x102 x118 x119 hpre_0 hpre_1 hpre_2 hpre_3 ex1 tx1 c2 ex26 tx26 c27 ex51 tx51 c52 ex76 tx76 tx77 c78 ex102 tx102 c103 ex118 ex119 c120), (v_toBool_114 σ k0 x1 x26 x51 x76 x77 x102 x118 x119 hpre_0 hpre_1 hpre_2 hpre_3 ex1 tx1 c2 ex26 tx26 c27 ex51 tx51 c52 ex76 tx76 tx77 c78 ex102 tx102 c103 ex118 ex119 c120)⟩ hP hS dX12_toBool_154
