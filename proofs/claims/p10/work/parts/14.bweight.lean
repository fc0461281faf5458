-- in@5 @5
theorem v_weight_1 (σ : RS) (k0 : Int32) (k1 : Int32) (hpre_0 : 0 ≤ (σ.1 35).toInt) (hpre_1 : (σ.1 35).toInt ≤ 5) (hpre_2 : CLS (σ.1 35).toInt (σ.2.1 36) (σ.2.1 37) (σ.2.1 40)) (hpre_3 : 0 ≤ k0.toInt) (hpre_4 : k0.toInt < 980) (hpre_5 : CV (σ.2.1 51) (σ.2.2.1 52) (σ.1 35).toInt (σ.1 47).toInt k0.toNatClampNeg) (hpre_6 : 0 ≤ k1.toInt) (hpre_7 : k1.toInt ≤ 12) (hpre_8 : k1.toInt = 5 ∨ ((σ.2.1 51) k0.toNatClampNeg).toInt = k1.toInt ∨ ((σ.2.1 51) k0.toNatClampNeg).toInt = 0 ∨ 8 ≤ ((σ.2.1 51) k0.toNatClampNeg).toInt) : vp_in k0 980 := by
  have cv_hpre_5 := id hpre_5
  unfold CV at cv_hpre_5
  exact vp_in_iff.mpr ⟨by omega, by omega⟩
-- post @20
theorem v_weight_2   : -2 ≤ (0 : Int32).toInt ∧ (0 : Int32).toInt ≤ 16 := by
  have q0 : (0 : Int32).toInt = 0 := by decide +kernel
  refine ⟨?_, ?_⟩ <;> first | assumption | omega | (subst_vars; omega) | trivial
-- post2 @20
theorem v_weight_3 (σ : RS) (k0 : Int32) (k1 : Int32) (x1 : Int32) (hpre_0 : 0 ≤ (σ.1 35).toInt) (hpre_1 : (σ.1 35).toInt ≤ 5) (hpre_2 : CLS (σ.1 35).toInt (σ.2.1 36) (σ.2.1 37) (σ.2.1 40)) (hpre_3 : 0 ≤ k0.toInt) (hpre_4 : k0.toInt < 980) (hpre_5 : CV (σ.2.1 51) (σ.2.2.1 52) (σ.1 35).toInt (σ.1 47).toInt k0.toNatClampNeg) (hpre_6 : 0 ≤ k1.toInt) (hpre_7 : k1.toInt ≤ 12) (hpre_8 : k1.toInt = 5 ∨ ((σ.2.1 51) k0.toNatClampNeg).toInt = k1.toInt ∨ ((σ.2.1 51) k0.toNatClampNeg).toInt = 0 ∨ 8 ≤ ((σ.2.1 51) k0.toNatClampNeg).toInt) (ex1 : x1 = (σ.2.1 51) k0.toNatClampNeg) (tx1 : x1.toInt = ((σ.2.1 51) k0.toNatClampNeg).toInt) (c2 : x1.toInt = k1.toInt) : ∀ v9 : QV, QAT (qH (σ.2.1 36) (σ.2.1 37) (σ.2.1 38) (σ.2.1 39) (σ.2.1 40) (σ.2.1 41) (σ.2.1 42) (σ.2.1 43) (σ.2.1 44) (σ.2.1 45) (σ.2.1 46) (σ.2.1 48)) (σ.1 47).toInt ((σ.2.1 51), (σ.2.2.1 52), (σ.2.2.1 53), (σ.2.2.2)) k0.toNatClampNeg v9 → (0 : Int32).toInt = qWei (qH (σ.2.1 36) (σ.2.1 37) (σ.2.1 38) (σ.2.1 39) (σ.2.1 40) (σ.2.1 41) (σ.2.1 42) (σ.2.1 43) (σ.2.1 44) (σ.2.1 45) (σ.2.1 46) (σ.2.1 48)) v9 k1.toInt := by
  have q0 : (0 : Int32).toInt = 0 := by decide +kernel
  have cv_hpre_5 := id hpre_5
  unfold CV at cv_hpre_5
  intro v9 h9
  have kd := h9.kd
  dsimp only at kd
  have kk := h9.ok.kd
  unfold qWei
  (repeat' split) <;> omega
-- in@15 @15
theorem v_weight_4 (σ : RS) (k0 : Int32) (k1 : Int32) (x1 : Int32) (hpre_0 : 0 ≤ (σ.1 35).toInt) (hpre_1 : (σ.1 35).toInt ≤ 5) (hpre_2 : CLS (σ.1 35).toInt (σ.2.1 36) (σ.2.1 37) (σ.2.1 40)) (hpre_3 : 0 ≤ k0.toInt) (hpre_4 : k0.toInt < 980) (hpre_5 : CV (σ.2.1 51) (σ.2.2.1 52) (σ.1 35).toInt (σ.1 47).toInt k0.toNatClampNeg) (hpre_6 : 0 ≤ k1.toInt) (hpre_7 : k1.toInt ≤ 12) (hpre_8 : k1.toInt = 5 ∨ ((σ.2.1 51) k0.toNatClampNeg).toInt = k1.toInt ∨ ((σ.2.1 51) k0.toNatClampNeg).toInt = 0 ∨ 8 ≤ ((σ.2.1 51) k0.toNatClampNeg).toInt) (ex1 : x1 = (σ.2.1 51) k0.toNatClampNeg) (tx1 : x1.toInt = ((σ.2.1 51) k0.toNatClampNeg).toInt) (c2 : ¬ x1.toInt = k1.toInt) : vp_in k0 980 := by
  have cv_hpre_5 := id hpre_5
  unfold CV at cv_hpre_5
  exact vp_in_iff.mpr ⟨by omega, by omega⟩
-- in@38 @38
theorem v_weight_5 (σ : RS) (k0 : Int32) (k1 : Int32) (x1 : Int32) (x3 : Int32) (hpre_0 : 0 ≤ (σ.1 35).toInt) (hpre_1 : (σ.1 35).toInt ≤ 5) (hpre_2 : CLS (σ.1 35).toInt (σ.2.1 36) (σ.2.1 37) (σ.2.1 40)) (hpre_3 : 0 ≤ k0.toInt) (hpre_4 : k0.toInt < 980) (hpre_5 : CV (σ.2.1 51) (σ.2.2.1 52) (σ.1 35).toInt (σ.1 47).toInt k0.toNatClampNeg) (hpre_6 : 0 ≤ k1.toInt) (hpre_7 : k1.toInt ≤ 12) (hpre_8 : k1.toInt = 5 ∨ ((σ.2.1 51) k0.toNatClampNeg).toInt = k1.toInt ∨ ((σ.2.1 51) k0.toNatClampNeg).toInt = 0 ∨ 8 ≤ ((σ.2.1 51) k0.toNatClampNeg).toInt) (ex1 : x1 = (σ.2.1 51) k0.toNatClampNeg) (tx1 : x1.toInt = ((σ.2.1 51) k0.toNatClampNeg).toInt) (c2 : ¬ x1.toInt = k1.toInt) (ex3 : x3 = (σ.2.1 51) k0.toNatClampNeg) (tx3 : x3.toInt = ((σ.2.1 51) k0.toNatClampNeg).toInt) (c4 : ¬ x3.toInt = 0) (c5 : ¬ k1.toInt = 5) : vp_in k0 980 := by
  have cv_hpre_5 := id hpre_5
  unfold CV at cv_hpre_5
  exact vp_in_iff.mpr ⟨by omega, by omega⟩
-- nw@41 @41
theorem v_weight_6 (σ : RS) (k0 : Int32) (k1 : Int32) (x1 : Int32) (x3 : Int32) (x6 : Int32) (x7 : Int32) (hpre_0 : 0 ≤ (σ.1 35).toInt) (hpre_1 : (σ.1 35).toInt ≤ 5) (hpre_2 : CLS (σ.1 35).toInt (σ.2.1 36) (σ.2.1 37) (σ.2.1 40)) (hpre_3 : 0 ≤ k0.toInt) (hpre_4 : k0.toInt < 980) (hpre_5 : CV (σ.2.1 51) (σ.2.2.1 52) (σ.1 35).toInt (σ.1 47).toInt k0.toNatClampNeg) (hpre_6 : 0 ≤ k1.toInt) (hpre_7 : k1.toInt ≤ 12) (hpre_8 : k1.toInt = 5 ∨ ((σ.2.1 51) k0.toNatClampNeg).toInt = k1.toInt ∨ ((σ.2.1 51) k0.toNatClampNeg).toInt = 0 ∨ 8 ≤ ((σ.2.1 51) k0.toNatClampNeg).toInt) (ex1 : x1 = (σ.2.1 51) k0.toNatClampNeg) (tx1 : x1.toInt = ((σ.2.1 51) k0.toNatClampNeg).toInt) (c2 : ¬ x1.toInt = k1.toInt) (ex3 : x3 = (σ.2.1 51) k0.toNatClampNeg) (tx3 : x3.toInt = ((σ.2.1 51) k0.toNatClampNeg).toInt) (c4 : ¬ x3.toInt = 0) (c5 : ¬ k1.toInt = 5) (ex6 : x6 = (σ.2.1 51) k0.toNatClampNeg) (tx6 : x6.toInt = ((σ.2.1 51) k0.toNatClampNeg).toInt) (ex7 : x7 = x6 - (8 : Int32)) : x7.toInt = x6.toInt - 8 := by
  have q8 : (8 : Int32).toInt = 8 := by decide +kernel
  have cv_hpre_5 := id hpre_5
  unfold CV at cv_hpre_5
  have w1 : (8 : Int32).toInt = 8 := by decide +kernel
  rw [ex7, z_sub (by omega) (by omega)]; first | done | omega
-- nw@45 @45
theorem v_weight_7 (σ : RS) (k0 : Int32) (k1 : Int32) (x1 : Int32) (x3 : Int32) (x6 : Int32) (x7 : Int32) (x8 : Int32) (hpre_0 : 0 ≤ (σ.1 35).toInt) (hpre_1 : (σ.1 35).toInt ≤ 5) (hpre_2 : CLS (σ.1 35).toInt (σ.2.1 36) (σ.2.1 37) (σ.2.1 40)) (hpre_3 : 0 ≤ k0.toInt) (hpre_4 : k0.toInt < 980) (hpre_5 : CV (σ.2.1 51) (σ.2.2.1 52) (σ.1 35).toInt (σ.1 47).toInt k0.toNatClampNeg) (hpre_6 : 0 ≤ k1.toInt) (hpre_7 : k1.toInt ≤ 12) (hpre_8 : k1.toInt = 5 ∨ ((σ.2.1 51) k0.toNatClampNeg).toInt = k1.toInt ∨ ((σ.2.1 51) k0.toNatClampNeg).toInt = 0 ∨ 8 ≤ ((σ.2.1 51) k0.toNatClampNeg).toInt) (ex1 : x1 = (σ.2.1 51) k0.toNatClampNeg) (tx1 : x1.toInt = ((σ.2.1 51) k0.toNatClampNeg).toInt) (c2 : ¬ x1.toInt = k1.toInt) (ex3 : x3 = (σ.2.1 51) k0.toNatClampNeg) (tx3 : x3.toInt = ((σ.2.1 51) k0.toNatClampNeg).toInt) (c4 : ¬ x3.toInt = 0) (c5 : ¬ k1.toInt = 5) (ex6 : x6 = (σ.2.1 51) k0.toNatClampNeg) (tx6 : x6.toInt = ((σ.2.1 51) k0.toNatClampNeg).toInt) (ex7 : x7 = x6 - (8 : Int32)) (tx7 : x7.toInt = x6.toInt - 8) (ex8 : x8 = k1 - (8 : Int32)) : x8.toInt = k1.toInt - 8 := by
  have q8 : (8 : Int32).toInt = 8 := by decide +kernel
  have cv_hpre_5 := id hpre_5
  unfold CV at cv_hpre_5
  have w1 : (8 : Int32).toInt = 8 := by decide +kernel
  rw [ex8, z_sub (by omega) (by omega)]; first | done | omega
-- pre:steps@46 @46
theorem v_weight_8 (σ : RS) (k0 : Int32) (k1 : Int32) (x1 : Int32) (x3 : Int32) (x6 : Int32) (x7 : Int32) (x8 : Int32) (hpre_0 : 0 ≤ (σ.1 35).toInt) (hpre_1 : (σ.1 35).toInt ≤ 5) (hpre_2 : CLS (σ.1 35).toInt (σ.2.1 36) (σ.2.1 37) (σ.2.1 40)) (hpre_3 : 0 ≤ k0.toInt) (hpre_4 : k0.toInt < 980) (hpre_5 : CV (σ.2.1 51) (σ.2.2.1 52) (σ.1 35).toInt (σ.1 47).toInt k0.toNatClampNeg) (hpre_6 : 0 ≤ k1.toInt) (hpre_7 : k1.toInt ≤ 12) (hpre_8 : k1.toInt = 5 ∨ ((σ.2.1 51) k0.toNatClampNeg).toInt = k1.toInt ∨ ((σ.2.1 51) k0.toNatClampNeg).toInt = 0 ∨ 8 ≤ ((σ.2.1 51) k0.toNatClampNeg).toInt) (ex1 : x1 = (σ.2.1 51) k0.toNatClampNeg) (tx1 : x1.toInt = ((σ.2.1 51) k0.toNatClampNeg).toInt) (c2 : ¬ x1.toInt = k1.toInt) (ex3 : x3 = (σ.2.1 51) k0.toNatClampNeg) (tx3 : x3.toInt = ((σ.2.1 51) k0.toNatClampNeg).toInt) (c4 : ¬ x3.toInt = 0) (c5 : ¬ k1.toInt = 5) (ex6 : x6 = (σ.2.1 51) k0.toNatClampNeg) (tx6 : x6.toInt = ((σ.2.1 51) k0.toNatClampNeg).toInt) (ex7 : x7 = x6 - (8 : Int32)) (tx7 : x7.toInt = x6.toInt - 8) (ex8 : x8 = k1 - (8 : Int32)) (tx8 : x8.toInt = k1.toInt - 8) : 0 ≤ (σ.1 35).toInt ∧ (σ.1 35).toInt ≤ 5 ∧ CLS (σ.1 35).toInt (σ.2.1 36) (σ.2.1 37) (σ.2.1 40) ∧ -1 ≤ x7.toInt ∧ x7.toInt < (σ.1 35).toInt := by
  have q8 : (8 : Int32).toInt = 8 := by decide +kernel
  have cv_hpre_5 := id hpre_5
  unfold CV at cv_hpre_5
  refine ⟨?_, ?_, ?_, ?_, ?_⟩ <;> first | assumption | omega | (subst_vars; omega) | trivial
-- nw@49 @49
theorem v_weight_9 (r9 : Int32) (x10 : Int32) (hr9_0 : -1 ≤ r9.toInt) (hr9_1 : r9.toInt ≤ 5) (ex10 : x10 = (2 : Int32) * r9) : x10.toInt = 2 * r9.toInt := by
  have q2 : (2 : Int32).toInt = 2 := by decide +kernel
  have w0 : (2 : Int32).toInt = 2 := by decide +kernel
  rw [ex10, z_mulc 2 w0 (by omega) (by omega)]
-- post @50
theorem v_weight_10 (r9 : Int32) (x10 : Int32) (hr9_0 : -1 ≤ r9.toInt) (hr9_1 : r9.toInt ≤ 5) (ex10 : x10 = (2 : Int32) * r9) (tx10 : x10.toInt = 2 * r9.toInt) : -2 ≤ x10.toInt ∧ x10.toInt ≤ 16 := by
  have q2 : (2 : Int32).toInt = 2 := by decide +kernel
  refine ⟨?_, ?_⟩ <;> first | assumption | omega | (subst_vars; omega) | trivial
-- post2 @50
theorem v_weight_11 (σ : RS) (k0 : Int32) (k1 : Int32) (x1 : Int32) (x3 : Int32) (x6 : Int32) (x7 : Int32) (x8 : Int32) (r9 : Int32) (x10 : Int32) (hpre_0 : 0 ≤ (σ.1 35).toInt) (hpre_1 : (σ.1 35).toInt ≤ 5) (hpre_2 : CLS (σ.1 35).toInt (σ.2.1 36) (σ.2.1 37) (σ.2.1 40)) (hpre_3 : 0 ≤ k0.toInt) (hpre_4 : k0.toInt < 980) (hpre_5 : CV (σ.2.1 51) (σ.2.2.1 52) (σ.1 35).toInt (σ.1 47).toInt k0.toNatClampNeg) (hpre_6 : 0 ≤ k1.toInt) (hpre_7 : k1.toInt ≤ 12) (hpre_8 : k1.toInt = 5 ∨ ((σ.2.1 51) k0.toNatClampNeg).toInt = k1.toInt ∨ ((σ.2.1 51) k0.toNatClampNeg).toInt = 0 ∨ 8 ≤ ((σ.2.1 51) k0.toNatClampNeg).toInt) (ex1 : x1 = (σ.2.1 51) k0.toNatClampNeg) (tx1 : x1.toInt = ((σ.2.1 51) k0.toNatClampNeg).toInt) (c2 : ¬ x1.toInt = k1.toInt) (ex3 : x3 = (σ.2.1 51) k0.toNatClampNeg) (tx3 : x3.toInt = ((σ.2.1 51) k0.toNatClampNeg).toInt) (c4 : ¬ x3.toInt = 0) (c5 : ¬ k1.toInt = 5) (ex6 : x6 = (σ.2.1 51) k0.toNatClampNeg) (tx6 : x6.toInt = ((σ.2.1 51) k0.toNatClampNeg).toInt) (ex7 : x7 = x6 - (8 : Int32)) (tx7 : x7.toInt = x6.toInt - 8) (ex8 : x8 = k1 - (8 : Int32)) (tx8 : x8.toInt = k1.toInt - 8) (hr9y : r9.toInt = qSteps (qAnc (qH (σ.2.1 36) (σ.2.1 37) (σ.2.1 38) (σ.2.1 39) (σ.2.1 40) (σ.2.1 41) (σ.2.1 42) (σ.2.1 43) (σ.2.1 44) (σ.2.1 45) (σ.2.1 46) (σ.2.1 48)) (x7.toInt)) x8.toInt) (hr9_0 : -1 ≤ r9.toInt) (hr9_1 : r9.toInt ≤ 5) (ex10 : x10 = (2 : Int32) * r9) (tx10 : x10.toInt = 2 * r9.toInt) : ∀ v9 : QV, QAT (qH (σ.2.1 36) (σ.2.1 37) (σ.2.1 38) (σ.2.1 39) (σ.2.1 40) (σ.2.1 41) (σ.2.1 42) (σ.2.1 43) (σ.2.1 44) (σ.2.1 45) (σ.2.1 46) (σ.2.1 48)) (σ.1 47).toInt ((σ.2.1 51), (σ.2.2.1 52), (σ.2.2.1 53), (σ.2.2.2)) k0.toNatClampNeg v9 → x10.toInt = qWei (qH (σ.2.1 36) (σ.2.1 37) (σ.2.1 38) (σ.2.1 39) (σ.2.1 40) (σ.2.1 41) (σ.2.1 42) (σ.2.1 43) (σ.2.1 44) (σ.2.1 45) (σ.2.1 46) (σ.2.1 48)) v9 k1.toInt := by
  have q2 : (2 : Int32).toInt = 2 := by decide +kernel
  have q8 : (8 : Int32).toInt = 8 := by decide +kernel
  have cv_hpre_5 := id hpre_5
  unfold CV at cv_hpre_5
  intro v9 h9
  have kd := h9.kd
  dsimp only at kd
  have kk := h9.ok.kd
  unfold qWei
  have st := hr9y
  rw [show x7.toInt = v9.1 - 8 by omega, show x8.toInt = k1.toInt - 8 by omega] at st
  (repeat' split) <;> omega
-- post @50
theorem v_weight_12   : -2 ≤ (16 : Int32).toInt ∧ (16 : Int32).toInt ≤ 16 := by
  have q16 : (16 : Int32).toInt = 16 := by decide +kernel
  refine ⟨?_, ?_⟩ <;> first | assumption | omega | (subst_vars; omega) | trivial
-- post2 @50
theorem v_weight_13 (σ : RS) (k0 : Int32) (k1 : Int32) (x1 : Int32) (x3 : Int32) (hpre_0 : 0 ≤ (σ.1 35).toInt) (hpre_1 : (σ.1 35).toInt ≤ 5) (hpre_2 : CLS (σ.1 35).toInt (σ.2.1 36) (σ.2.1 37) (σ.2.1 40)) (hpre_3 : 0 ≤ k0.toInt) (hpre_4 : k0.toInt < 980) (hpre_5 : CV (σ.2.1 51) (σ.2.2.1 52) (σ.1 35).toInt (σ.1 47).toInt k0.toNatClampNeg) (hpre_6 : 0 ≤ k1.toInt) (hpre_7 : k1.toInt ≤ 12) (hpre_8 : k1.toInt = 5 ∨ ((σ.2.1 51) k0.toNatClampNeg).toInt = k1.toInt ∨ ((σ.2.1 51) k0.toNatClampNeg).toInt = 0 ∨ 8 ≤ ((σ.2.1 51) k0.toNatClampNeg).toInt) (ex1 : x1 = (σ.2.1 51) k0.toNatClampNeg) (tx1 : x1.toInt = ((σ.2.1 51) k0.toNatClampNeg).toInt) (c2 : ¬ x1.toInt = k1.toInt) (ex3 : x3 = (σ.2.1 51) k0.toNatClampNeg) (tx3 : x3.toInt = ((σ.2.1 51) k0.toNatClampNeg).toInt) (c4 : ¬ x3.toInt = 0) (c5 : k1.toInt = 5) : ∀ v9 : QV, QAT (qH (σ.2.1 36) (σ.2.1 37) (σ.2.1 38) (σ.2.1 39) (σ.2.1 40) (σ.2.1 41) (σ.2.1 42) (σ.2.1 43) (σ.2.1 44) (σ.2.1 45) (σ.2.1 46) (σ.2.1 48)) (σ.1 47).toInt ((σ.2.1 51), (σ.2.2.1 52), (σ.2.2.1 53), (σ.2.2.2)) k0.toNatClampNeg v9 → (16 : Int32).toInt = qWei (qH (σ.2.1 36) (σ.2.1 37) (σ.2.1 38) (σ.2.1 39) (σ.2.1 40) (σ.2.1 41) (σ.2.1 42) (σ.2.1 43) (σ.2.1 44) (σ.2.1 45) (σ.2.1 46) (σ.2.1 48)) v9 k1.toInt := by
  have q16 : (16 : Int32).toInt = 16 := by decide +kernel
  have cv_hpre_5 := id hpre_5
  unfold CV at cv_hpre_5
  intro v9 h9
  have kd := h9.kd
  dsimp only at kd
  have kk := h9.ok.kd
  unfold qWei
  (repeat' split) <;> omega
-- post2 @20
theorem v_weight_14 (σ : RS) (k0 : Int32) (k1 : Int32) (x1 : Int32) (x3 : Int32) (hpre_0 : 0 ≤ (σ.1 35).toInt) (hpre_1 : (σ.1 35).toInt ≤ 5) (hpre_2 : CLS (σ.1 35).toInt (σ.2.1 36) (σ.2.1 37) (σ.2.1 40)) (hpre_3 : 0 ≤ k0.toInt) (hpre_4 : k0.toInt < 980) (hpre_5 : CV (σ.2.1 51) (σ.2.2.1 52) (σ.1 35).toInt (σ.1 47).toInt k0.toNatClampNeg) (hpre_6 : 0 ≤ k1.toInt) (hpre_7 : k1.toInt ≤ 12) (hpre_8 : k1.toInt = 5 ∨ ((σ.2.1 51) k0.toNatClampNeg).toInt = k1.toInt ∨ ((σ.2.1 51) k0.toNatClampNeg).toInt = 0 ∨ 8 ≤ ((σ.2.1 51) k0.toNatClampNeg).toInt) (ex1 : x1 = (σ.2.1 51) k0.toNatClampNeg) (tx1 : x1.toInt = ((σ.2.1 51) k0.toNatClampNeg).toInt) (c2 : ¬ x1.toInt = k1.toInt) (ex3 : x3 = (σ.2.1 51) k0.toNatClampNeg) (tx3 : x3.toInt = ((σ.2.1 51) k0.toNatClampNeg).toInt) (c4 : x3.toInt = 0) : ∀ v9 : QV, QAT (qH (σ.2.1 36) (σ.2.1 37) (σ.2.1 38) (σ.2.1 39) (σ.2.1 40) (σ.2.1 41) (σ.2.1 42) (σ.2.1 43) (σ.2.1 44) (σ.2.1 45) (σ.2.1 46) (σ.2.1 48)) (σ.1 47).toInt ((σ.2.1 51), (σ.2.2.1 52), (σ.2.2.1 53), (σ.2.2.2)) k0.toNatClampNeg v9 → (0 : Int32).toInt = qWei (qH (σ.2.1 36) (σ.2.1 37) (σ.2.1 38) (σ.2.1 39) (σ.2.1 40) (σ.2.1 41) (σ.2.1 42) (σ.2.1 43) (σ.2.1 44) (σ.2.1 45) (σ.2.1 46) (σ.2.1 48)) v9 k1.toInt := by
  have q0 : (0 : Int32).toInt = 0 := by decide +kernel
  have cv_hpre_5 := id hpre_5
  unfold CV at cv_hpre_5
  intro v9 h9
  have kd := h9.kd
  dsimp only at kd
  have kk := h9.ok.kd
  unfold qWei
  (repeat' split) <;> omega
set_option maxHeartbeats 4000000 in
set_option maxRecDepth 100000 in
theorem M_weight (l : Launch) (D : va_G) (cy : Nat → ClassId) (sz0 : Nat) (sa : Nat → Nat) (ad : Nat → Nat) (σ : RS) (sz : Nat) (k0 : Int32) (k1 : Int32) (hpre : 0 ≤ (σ.1 35).toInt ∧ (σ.1 35).toInt ≤ 5 ∧ CLS (σ.1 35).toInt (σ.2.1 36) (σ.2.1 37) (σ.2.1 40) ∧ 0 ≤ k0.toInt ∧ k0.toInt < 980 ∧ CV (σ.2.1 51) (σ.2.2.1 52) (σ.1 35).toInt (σ.1 47).toInt k0.toNatClampNeg ∧ 0 ≤ k1.toInt ∧ k1.toInt ≤ 12 ∧ (k1.toInt = 5 ∨ ((σ.2.1 51) k0.toNatClampNeg).toInt = k1.toInt ∨ ((σ.2.1 51) k0.toNatClampNeg).toInt = 0 ∨ 8 ≤ ((σ.2.1 51) k0.toNatClampNeg).toInt)) : Met l yX12_weight (Cond.code yX12_weight cX12_weight 3 (some .int) :: GWm) ({ frames := 1, cells := 0, slots := 0, locals := 24 }) (PcR D cy sz0 sa ad [.ref (ad 0), .int k0, .int k1] σ sz) (va_Qi (fun (r : Int32) (u : Unit) => (-2 ≤ r.toInt ∧ r.toInt ≤ 16) ∧ (∀ v9 : QV, QAT (qH (σ.2.1 36) (σ.2.1 37) (σ.2.1 38) (σ.2.1 39) (σ.2.1 40) (σ.2.1 41) (σ.2.1 42) (σ.2.1 43) (σ.2.1 44) (σ.2.1 45) (σ.2.1 46) (σ.2.1 48)) (σ.1 47).toInt ((σ.2.1 51), (σ.2.2.1 52), (σ.2.2.1 53), (σ.2.2.2)) k0.toNatClampNeg v9 → r.toInt = qWei (qH (σ.2.1 36) (σ.2.1 37) (σ.2.1 38) (σ.2.1 39) (σ.2.1 40) (σ.2.1 41) (σ.2.1 42) (σ.2.1 43) (σ.2.1 44) (σ.2.1 45) (σ.2.1 46) (σ.2.1 48)) v9 k1.toInt)) (fun (u : Unit) (t : State) => RP D cy ad σ t.heap) (AR cy ad sz)) 0 0 (AR cy ad sz) := by
  refine RM_of (loc0 := [(0, .ref (ad 0)), (1, .int k0), (2, .int k1)]) (by decide) rfl rfl (Nat.le_of_ble_eq_true rfl) ?_
  intro p e s m below meth c ls hsz C hP hS hl
  have hx := C.1
  have hb := C.2.1
  have hown := C.2.2.2.2.1
  have hw := C.2.2.2.2.2.1
  clear hsz
  obtain ⟨hpre_0, hpre_1, hpre_2, hpre_3, hpre_4, hpre_5, hpre_6, hpre_7, hpre_8⟩ := hpre
  refine lv_aload_n hx hb dX12_weight_0 rfl (lv_at hl 0 rfl) ?_
  refine rg_51 C hP wm_205 dX12_weight_1 ?_
  refine lv_iload_n hx hb dX12_weight_4 rfl (lv_at hl 1 rfl) ?_
  refine ra_51 (f := (σ.2.1 51)) C hP rfl (v_weight_1 σ k0 k1 hpre_0 hpre_1 hpre_2 hpre_3 hpre_4 hpre_5 hpre_6 hpre_7 hpre_8) dX12_weight_5 (fun x1 ex1 => ?_)
  have tx1 : x1.toInt = ((σ.2.1 51) k0.toNatClampNeg).toInt := by rw [ex1]
  refine lv_iload_n hx hb dX12_weight_6 rfl (lv_at hl 2 rfl) ?_
  refine lv_icmp_eq (tgt := 19) hx hb dX12_weight_7 (by decide) (fun c2 => ?_) (fun c2 => ?_)
  · have c2 : x1.toInt = k1.toInt := by have h := z_eq c2; exact h
    refine lv_iconst (v := 0) hx hb dX12_weight_19 (by decide +kernel) ?_
    exact r_reti C () ⟨(v_weight_2  ), (v_weight_3 σ k0 k1 x1 hpre_0 hpre_1 hpre_2 hpre_3 hpre_4 hpre_5 hpre_6 hpre_7 hpre_8 ex1 tx1 c2)⟩ hP hS dX12_weight_20
  · have c2 : ¬ x1.toInt = k1.toInt := by have h := z_ne c2; exact h
    refine lv_aload_n hx hb dX12_weight_10 rfl (lv_at hl 0 rfl) ?_
    refine rg_51 C hP wm_205 dX12_weight_11 ?_
    refine lv_iload_n hx hb dX12_weight_14 rfl (lv_at hl 1 rfl) ?_
    refine ra_51 (f := (σ.2.1 51)) C hP rfl (v_weight_4 σ k0 k1 x1 hpre_0 hpre_1 hpre_2 hpre_3 hpre_4 hpre_5 hpre_6 hpre_7 hpre_8 ex1 tx1 c2) dX12_weight_15 (fun x3 ex3 => ?_)
    have tx3 : x3.toInt = ((σ.2.1 51) k0.toNatClampNeg).toInt := by rw [ex3]
    refine lv_if_ne (tgt := 21) hx hb dX12_weight_16 (by decide) (fun c4 => ?_) (fun c4 => ?_)
    · have c4 : ¬ x3.toInt = 0 := by have h := z_ne c4; rw [show (0 : Int32).toInt = 0 from by decide +kernel] at h; exact h
      refine lv_iload_n hx hb dX12_weight_21 rfl (lv_at hl 2 rfl) ?_
      refine lv_iconst (v := 5) hx hb dX12_weight_22 (by decide +kernel) ?_
      refine lv_icmp_ne (tgt := 31) hx hb dX12_weight_23 (by decide) (fun c5 => ?_) (fun c5 => ?_)
      · have c5 : ¬ k1.toInt = 5 := by have h := z_ne c5; rw [show (5 : Int32).toInt = 5 from by decide +kernel] at h; exact h
        refine lv_iconst (v := 2) hx hb dX12_weight_31 (by decide +kernel) ?_
        refine lv_aload_n hx hb dX12_weight_32 rfl (lv_at hl 0 rfl) ?_
        refine lv_aload_n hx hb dX12_weight_33 rfl (lv_at hl 0 rfl) ?_
        refine rg_51 C hP wm_205 dX12_weight_34 ?_
        refine lv_iload_n hx hb dX12_weight_37 rfl (lv_at hl 1 rfl) ?_
        refine ra_51 (f := (σ.2.1 51)) C hP rfl (v_weight_5 σ k0 k1 x1 x3 hpre_0 hpre_1 hpre_2 hpre_3 hpre_4 hpre_5 hpre_6 hpre_7 hpre_8 ex1 tx1 c2 ex3 tx3 c4 c5) dX12_weight_38 (fun x6 ex6 => ?_)
        have tx6 : x6.toInt = ((σ.2.1 51) k0.toNatClampNeg).toInt := by rw [ex6]
        refine lv_bipush (v := 8) hx hb dX12_weight_39 (by decide +kernel) ?_
        refine lv_isub hx hb dX12_weight_41 ?_
        refine lv_topi (fun x7 ex7 => ?_)
        have tx7 : x7.toInt = x6.toInt - 8 := (v_weight_6 σ k0 k1 x1 x3 x6 x7 hpre_0 hpre_1 hpre_2 hpre_3 hpre_4 hpre_5 hpre_6 hpre_7 hpre_8 ex1 tx1 c2 ex3 tx3 c4 c5 ex6 tx6 ex7)
        refine lv_iload_n hx hb dX12_weight_42 rfl (lv_at hl 2 rfl) ?_
        refine lv_bipush (v := 8) hx hb dX12_weight_43 (by decide +kernel) ?_
        refine lv_isub hx hb dX12_weight_45 ?_
        refine lv_topi (fun x8 ex8 => ?_)
        have tx8 : x8.toInt = k1.toInt - 8 := (v_weight_7 σ k0 k1 x1 x3 x6 x7 x8 hpre_0 hpre_1 hpre_2 hpre_3 hpre_4 hpre_5 hpre_6 hpre_7 hpre_8 ex1 tx1 c2 ex3 tx3 c4 c5 ex6 tx6 ex7 tx7 ex8)
        refine r_callVi (As := [.int x7, .int x8]) (rest := [.int 2]) C hP hS hl.1 ⟨Nat.zero_le _, Nat.zero_le _⟩ (M_steps l D cy sz0 sa ad σ s.heap.size x7 x8 (v_weight_8 σ k0 k1 x1 x3 x6 x7 x8 hpre_0 hpre_1 hpre_2 hpre_3 hpre_4 hpre_5 hpre_6 hpre_7 hpre_8 ex1 tx1 c2 ex3 tx3 c4 c5 ex6 tx6 ex7 tx7 ex8 tx8)) (n := 2) ⟨wm_267, wm_265, by decide +kernel⟩ ⟨wm_268, wm_269, wm_10⟩ rfl rfl (lv_room (Nat.le_of_ble_eq_true rfl)) ⟨Nat.le_of_ble_eq_true rfl, Nat.le_of_ble_eq_true rfl⟩ dX12_weight_46 (fun r9 u H locs hr9 hP hS => ?_)
        obtain ⟨hr9, hr9y⟩ := hr9
        have hr9y : r9.toInt = qSteps (qAnc (qH (σ.2.1 36) (σ.2.1 37) (σ.2.1 38) (σ.2.1 39) (σ.2.1 40) (σ.2.1 41) (σ.2.1 42) (σ.2.1 43) (σ.2.1 44) (σ.2.1 45) (σ.2.1 46) (σ.2.1 48)) (x7.toInt)) x8.toInt := hr9y
        have hr9 : -1 ≤ r9.toInt ∧ r9.toInt ≤ 5 := hr9
        obtain ⟨hr9_0, hr9_1⟩ := hr9
        refine lv_imul hx hb dX12_weight_49 ?_
        refine lv_topi (fun x10 ex10 => ?_)
        have tx10 : x10.toInt = 2 * r9.toInt := (v_weight_9 r9 x10 hr9_0 hr9_1 ex10)
        exact r_reti C () ⟨(v_weight_10 r9 x10 hr9_0 hr9_1 ex10 tx10), (v_weight_11 σ k0 k1 x1 x3 x6 x7 x8 r9 x10 hpre_0 hpre_1 hpre_2 hpre_3 hpre_4 hpre_5 hpre_6 hpre_7 hpre_8 ex1 tx1 c2 ex3 tx3 c4 c5 ex6 tx6 ex7 tx7 ex8 tx8 hr9y hr9_0 hr9_1 ex10 tx10)⟩ hP hS dX12_weight_50
      · have c5 : k1.toInt = 5 := by have h := z_eq c5; rw [show (5 : Int32).toInt = 5 from by decide +kernel] at h; exact h
        refine lv_bipush (v := 16) hx hb dX12_weight_26 (by decide +kernel) ?_
        refine lv_goto (tgt := 50) hx hb dX12_weight_28 (by decide) ?_
        exact r_reti C () ⟨(v_weight_12  ), (v_weight_13 σ k0 k1 x1 x3 hpre_0 hpre_1 hpre_2 hpre_3 hpre_4 hpre_5 hpre_6 hpre_7 hpre_8 ex1 tx1 c2 ex3 tx3 c4 c5)⟩ hP hS dX12_weight_50
    · have c4 : x3.toInt = 0 := by have h := z_eq c4; rw [show (0 : Int32).toInt = 0 from by decide +kernel] at h; exact h
      refine lv_iconst (v := 0) hx hb dX12_weight_19 (by decide +kernel) ?_
      exact r_reti C () ⟨(v_weight_2  ), (v_weight_14 σ k0 k1 x1 x3 hpre_0 hpre_1 hpre_2 hpre_3 hpre_4 hpre_5 hpre_6 hpre_7 hpre_8 ex1 tx1 c2 ex3 tx3 c4)⟩ hP hS dX12_weight_20
