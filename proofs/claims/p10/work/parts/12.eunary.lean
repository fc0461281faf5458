-- nw@5 @5
theorem v_unary_1 (σ : RS) (x1 : Int32) (hpre_0 : 1 ≤ (σ.1 55).toInt) (hpre_1 : (σ.1 55).toInt ≤ 60) (hpre_2 : ((σ.2.1 51) ((σ.1 55).toInt - 1).toNat).toInt = 3 → FN ((σ.2.2.2) ((σ.1 55).toInt - 1).toNat)) (ex1 : x1 = (σ.1 55) - (1 : Int32)) : x1.toInt = (σ.1 55).toInt - 1 := by
  have q1 : (1 : Int32).toInt = 1 := by decide +kernel
  have w1 : (1 : Int32).toInt = 1 := by decide +kernel
  rw [ex1, z_sub (by omega) (by omega)]; first | done | omega
-- in@58 @58
theorem v_unary_2 (σ : RS) (x1 : Int32) (hpre_0 : 1 ≤ (σ.1 55).toInt) (hpre_1 : (σ.1 55).toInt ≤ 60) (hpre_2 : ((σ.2.1 51) ((σ.1 55).toInt - 1).toNat).toInt = 3 → FN ((σ.2.2.2) ((σ.1 55).toInt - 1).toNat)) (ex1 : x1 = (σ.1 55) - (1 : Int32)) (tx1 : x1.toInt = (σ.1 55).toInt - 1) : vp_in x1 980 := by
  have q1 : (1 : Int32).toInt = 1 := by decide +kernel
  exact vp_in_iff.mpr ⟨by omega, by omega⟩
-- in@89 @89
theorem v_unary_3 (σ : RS) (x1 : Int32) (x3 : Int32) (hpre_0 : 1 ≤ (σ.1 55).toInt) (hpre_1 : (σ.1 55).toInt ≤ 60) (hpre_2 : ((σ.2.1 51) ((σ.1 55).toInt - 1).toNat).toInt = 3 → FN ((σ.2.2.2) ((σ.1 55).toInt - 1).toNat)) (ex1 : x1 = (σ.1 55) - (1 : Int32)) (tx1 : x1.toInt = (σ.1 55).toInt - 1) (ex3 : x3 = (σ.2.1 51) x1.toNatClampNeg) (tx3 : x3.toInt = ((σ.2.1 51) ((σ.1 55).toInt - 1).toNat).toInt) (c4 : ¬ x3.toInt = 2) : vp_in x1 980 := by
  have q1 : (1 : Int32).toInt = 1 := by decide +kernel
  exact vp_in_iff.mpr ⟨by omega, by omega⟩
-- post @118
theorem v_unary_4 (σ : RS) (x1 : Int32) (x3 : Int32) (x5 : Int32) (hpre_0 : 1 ≤ (σ.1 55).toInt) (hpre_1 : (σ.1 55).toInt ≤ 60) (hpre_2 : ((σ.2.1 51) ((σ.1 55).toInt - 1).toNat).toInt = 3 → FN ((σ.2.2.2) ((σ.1 55).toInt - 1).toNat)) (ex1 : x1 = (σ.1 55) - (1 : Int32)) (tx1 : x1.toInt = (σ.1 55).toInt - 1) (ex3 : x3 = (σ.2.1 51) x1.toNatClampNeg) (tx3 : x3.toInt = ((σ.2.1 51) ((σ.1 55).toInt - 1).toNat).toInt) (c4 : ¬ x3.toInt = 2) (ex5 : x5 = (σ.2.1 51) x1.toNatClampNeg) (tx5 : x5.toInt = ((σ.2.1 51) ((σ.1 55).toInt - 1).toNat).toInt) (c6 : ¬ x5.toInt = 3) : 0 ≤ (1 : Int32).toInt ∧ (1 : Int32).toInt ≤ 11 ∧ (((σ.2.1 51) = (σ.2.1 51) ∧ (σ.2.2.1 52) = (σ.2.2.1 52) ∧ (σ.2.2.1 53) = (σ.2.2.1 53) ∧ (σ.2.2.2) = (σ.2.2.2)) ∨ (Cell1 (σ.2.1 51) (σ.2.1 51) (σ.2.2.1 52) (σ.2.2.1 52) (σ.2.2.2) (σ.2.2.2) ((σ.1 55).toInt - 1).toNat (fun k v r => 1 ≤ k ∧ k ≤ 4 ∧ (k = 3 → FN r)))) := by
  have q1 : (1 : Int32).toInt = 1 := by decide +kernel
  refine ⟨by omega, by omega, ?_⟩
  first
  | exact Or.inl ⟨rfl, rfl, rfl, rfl⟩
  | (refine Or.inr ⟨_, _, _, ?_, ?_, ?_, ?_⟩
     rotate_left 3
     · refine ⟨?_, ?_, fun h => ?_⟩ <;> first | omega | (subst_vars; exact fp_neg (by assumption)) | (subst_vars; exact fp_neg (hpre_3 (by omega))) | (subst_vars; exact fp_neg (hpre_2 (by omega)))
     all_goals (rw [clampN]; congr 1; omega))
  | (refine Or.inr ⟨_, _, _, by (rw [clampN]; congr 1; omega), by (rw [clampN]; congr 1; omega), by (rw [clampN]; congr 1; omega), ?_⟩
     refine ⟨?_, ?_, fun h => ?_⟩ <;> first | omega | (subst_vars; apply fp_neg; rw [clampN, tx1]; exact hpre_2 (by omega)))
-- post2 @118
theorem v_unary_5 (σ : RS) (k0 : Int32) (x1 : Int32) (x3 : Int32) (x5 : Int32) (hpre_0 : 1 ≤ (σ.1 55).toInt) (hpre_1 : (σ.1 55).toInt ≤ 60) (hpre_2 : ((σ.2.1 51) ((σ.1 55).toInt - 1).toNat).toInt = 3 → FN ((σ.2.2.2) ((σ.1 55).toInt - 1).toNat)) (hpre_3 : (σ.1 56).toInt = 0) (ex1 : x1 = (σ.1 55) - (1 : Int32)) (tx1 : x1.toInt = (σ.1 55).toInt - 1) (c2 : ¬ k0.toInt = 31) (ex3 : x3 = (σ.2.1 51) x1.toNatClampNeg) (tx3 : x3.toInt = ((σ.2.1 51) ((σ.1 55).toInt - 1).toNat).toInt) (c4 : ¬ x3.toInt = 2) (ex5 : x5 = (σ.2.1 51) x1.toNatClampNeg) (tx5 : x5.toInt = ((σ.2.1 51) ((σ.1 55).toInt - 1).toNat).toInt) (c6 : ¬ x5.toInt = 3) : ∀ v9 : QV, QAT (qH (σ.2.1 36) (σ.2.1 37) (σ.2.1 38) (σ.2.1 39) (σ.2.1 40) (σ.2.1 41) (σ.2.1 42) (σ.2.1 43) (σ.2.1 44) (σ.2.1 45) (σ.2.1 46) (σ.2.1 48)) (σ.1 47).toInt ((σ.2.1 51), (σ.2.2.1 52), (σ.2.2.1 53), (σ.2.2.2)) (((σ.1 55).toInt - 1).toNat) v9 → (σ.1 56).toInt = 0 → (k0.toInt = 30 ∨ k0.toInt = 31) → QRES (qH (σ.2.1 36) (σ.2.1 37) (σ.2.1 38) (σ.2.1 39) (σ.2.1 40) (σ.2.1 41) (σ.2.1 42) (σ.2.1 43) (σ.2.1 44) (σ.2.1 45) (σ.2.1 46) (σ.2.1 48)) (σ.1 47).toInt ((σ.2.1 51), (σ.2.2.1 52), (σ.2.2.1 53), (σ.2.2.2)) ((σ.2.1 51), (σ.2.2.1 52), (σ.2.2.1 53), (σ.2.2.2)) (((σ.1 55).toInt - 1).toNat) (1 : Int32).toInt (if k0.toInt = 31 then qNot v9 else qNeg v9) := by
  have q1 : (1 : Int32).toInt = 1 := by decide +kernel
  intro v9 h9 h0 hs
  have zx1 : x1.toNatClampNeg = ((σ.1 55).toInt - 1).toNat := by rw [clampN x1, tx1]
  try simp only [zx1] at *
  have kd := h9.kd
  dsimp only at kd
  rw [if_neg (by omega)]
  unfold qNeg
  rw [if_neg (by omega), if_neg (by omega)]
  exact ⟨by decide +kernel, by decide, by decide, QX.self⟩
-- in@99 @99
theorem v_unary_6 (σ : RS) (x1 : Int32) (x3 : Int32) (x5 : Int32) (hpre_0 : 1 ≤ (σ.1 55).toInt) (hpre_1 : (σ.1 55).toInt ≤ 60) (hpre_2 : ((σ.2.1 51) ((σ.1 55).toInt - 1).toNat).toInt = 3 → FN ((σ.2.2.2) ((σ.1 55).toInt - 1).toNat)) (ex1 : x1 = (σ.1 55) - (1 : Int32)) (tx1 : x1.toInt = (σ.1 55).toInt - 1) (ex3 : x3 = (σ.2.1 51) x1.toNatClampNeg) (tx3 : x3.toInt = ((σ.2.1 51) ((σ.1 55).toInt - 1).toNat).toInt) (c4 : ¬ x3.toInt = 2) (ex5 : x5 = (σ.2.1 51) x1.toNatClampNeg) (tx5 : x5.toInt = ((σ.2.1 51) ((σ.1 55).toInt - 1).toNat).toInt) (c6 : x5.toInt = 3) : vp_in x1 980 := by
  have q1 : (1 : Int32).toInt = 1 := by decide +kernel
  exact vp_in_iff.mpr ⟨by omega, by omega⟩
-- pre:set@107 @107
theorem v_unary_7 (σ : RS) (x1 : Int32) (x3 : Int32) (x5 : Int32) (x7 : UInt64) (x8 : UInt64) (hpre_0 : 1 ≤ (σ.1 55).toInt) (hpre_1 : (σ.1 55).toInt ≤ 60) (hpre_2 : ((σ.2.1 51) ((σ.1 55).toInt - 1).toNat).toInt = 3 → FN ((σ.2.2.2) ((σ.1 55).toInt - 1).toNat)) (ex1 : x1 = (σ.1 55) - (1 : Int32)) (tx1 : x1.toInt = (σ.1 55).toInt - 1) (ex3 : x3 = (σ.2.1 51) x1.toNatClampNeg) (tx3 : x3.toInt = ((σ.2.1 51) ((σ.1 55).toInt - 1).toNat).toInt) (c4 : ¬ x3.toInt = 2) (ex5 : x5 = (σ.2.1 51) x1.toNatClampNeg) (tx5 : x5.toInt = ((σ.2.1 51) ((σ.1 55).toInt - 1).toNat).toInt) (c6 : x5.toInt = 3) (ex7 : x7 = (σ.2.2.2) x1.toNatClampNeg) (ex8 : x8 = FP.dneg x7) : 0 ≤ x1.toInt ∧ x1.toInt < 980 := by
  have q1 : (1 : Int32).toInt = 1 := by decide +kernel
  refine ⟨?_, ?_⟩ <;> first | assumption | omega | (subst_vars; omega) | trivial
-- post @118
theorem v_unary_8 (σ : RS) (x1 : Int32) (x3 : Int32) (x5 : Int32) (x7 : UInt64) (x8 : UInt64) (hpre_0 : 1 ≤ (σ.1 55).toInt) (hpre_1 : (σ.1 55).toInt ≤ 60) (hpre_2 : ((σ.2.1 51) ((σ.1 55).toInt - 1).toNat).toInt = 3 → FN ((σ.2.2.2) ((σ.1 55).toInt - 1).toNat)) (hpre_3 : (σ.1 56).toInt = 0) (ex1 : x1 = (σ.1 55) - (1 : Int32)) (tx1 : x1.toInt = (σ.1 55).toInt - 1) (ex3 : x3 = (σ.2.1 51) x1.toNatClampNeg) (tx3 : x3.toInt = ((σ.2.1 51) ((σ.1 55).toInt - 1).toNat).toInt) (c4 : ¬ x3.toInt = 2) (ex5 : x5 = (σ.2.1 51) x1.toNatClampNeg) (tx5 : x5.toInt = ((σ.2.1 51) ((σ.1 55).toInt - 1).toNat).toInt) (c6 : x5.toInt = 3) (ex7 : x7 = (σ.2.2.2) x1.toNatClampNeg) (ex8 : x8 = FP.dneg x7) : 0 ≤ (σ.1 56).toInt ∧ (σ.1 56).toInt ≤ 11 ∧ (((upd (σ.2.1 51) x1.toNatClampNeg (3 : Int32)) = (σ.2.1 51) ∧ (vp_updL (σ.2.2.1 52) x1.toNatClampNeg (0 : Int64)) = (σ.2.2.1 52) ∧ (vp_updL (σ.2.2.1 53) x1.toNatClampNeg (0 : Int64)) = (σ.2.2.1 53) ∧ (vf_upd (σ.2.2.2) x1.toNatClampNeg x8) = (σ.2.2.2)) ∨ (Cell1 (σ.2.1 51) (upd (σ.2.1 51) x1.toNatClampNeg (3 : Int32)) (σ.2.2.1 52) (vp_updL (σ.2.2.1 52) x1.toNatClampNeg (0 : Int64)) (σ.2.2.2) (vf_upd (σ.2.2.2) x1.toNatClampNeg x8) ((σ.1 55).toInt - 1).toNat (fun k v r => 1 ≤ k ∧ k ≤ 4 ∧ (k = 3 → FN r)))) := by
  have q1 : (1 : Int32).toInt = 1 := by decide +kernel
  have q3 : (3 : Int32).toInt = 3 := by decide +kernel
  have ql0 : (0 : Int64).toInt = 0 := by decide +kernel
  refine ⟨by omega, by omega, ?_⟩
  first
  | exact Or.inl ⟨rfl, rfl, rfl, rfl⟩
  | (refine Or.inr ⟨_, _, _, ?_, ?_, ?_, ?_⟩
     rotate_left 3
     · refine ⟨?_, ?_, fun h => ?_⟩ <;> first | omega | (subst_vars; exact fp_neg (by assumption)) | (subst_vars; exact fp_neg (hpre_3 (by omega))) | (subst_vars; exact fp_neg (hpre_2 (by omega)))
     all_goals (rw [clampN]; congr 1; omega))
  | (refine Or.inr ⟨_, _, _, by (rw [clampN]; congr 1; omega), by (rw [clampN]; congr 1; omega), by (rw [clampN]; congr 1; omega), ?_⟩
     refine ⟨?_, ?_, fun h => ?_⟩ <;> first | omega | (subst_vars; apply fp_neg; rw [clampN, tx1]; exact hpre_2 (by omega)))
-- post2 @118
theorem v_unary_9 (σ : RS) (k0 : Int32) (x1 : Int32) (x3 : Int32) (x5 : Int32) (x7 : UInt64) (x8 : UInt64) (hpre_0 : 1 ≤ (σ.1 55).toInt) (hpre_1 : (σ.1 55).toInt ≤ 60) (hpre_2 : ((σ.2.1 51) ((σ.1 55).toInt - 1).toNat).toInt = 3 → FN ((σ.2.2.2) ((σ.1 55).toInt - 1).toNat)) (hpre_3 : (σ.1 56).toInt = 0) (ex1 : x1 = (σ.1 55) - (1 : Int32)) (tx1 : x1.toInt = (σ.1 55).toInt - 1) (c2 : ¬ k0.toInt = 31) (ex3 : x3 = (σ.2.1 51) x1.toNatClampNeg) (tx3 : x3.toInt = ((σ.2.1 51) ((σ.1 55).toInt - 1).toNat).toInt) (c4 : ¬ x3.toInt = 2) (ex5 : x5 = (σ.2.1 51) x1.toNatClampNeg) (tx5 : x5.toInt = ((σ.2.1 51) ((σ.1 55).toInt - 1).toNat).toInt) (c6 : x5.toInt = 3) (ex7 : x7 = (σ.2.2.2) x1.toNatClampNeg) (ex8 : x8 = FP.dneg x7) : ∀ v9 : QV, QAT (qH (σ.2.1 36) (σ.2.1 37) (σ.2.1 38) (σ.2.1 39) (σ.2.1 40) (σ.2.1 41) (σ.2.1 42) (σ.2.1 43) (σ.2.1 44) (σ.2.1 45) (σ.2.1 46) (σ.2.1 48)) (σ.1 47).toInt ((σ.2.1 51), (σ.2.2.1 52), (σ.2.2.1 53), (σ.2.2.2)) (((σ.1 55).toInt - 1).toNat) v9 → (σ.1 56).toInt = 0 → (k0.toInt = 30 ∨ k0.toInt = 31) → QRES (qH (σ.2.1 36) (σ.2.1 37) (σ.2.1 38) (σ.2.1 39) (σ.2.1 40) (σ.2.1 41) (σ.2.1 42) (σ.2.1 43) (σ.2.1 44) (σ.2.1 45) (σ.2.1 46) (σ.2.1 48)) (σ.1 47).toInt ((σ.2.1 51), (σ.2.2.1 52), (σ.2.2.1 53), (σ.2.2.2)) ((upd (σ.2.1 51) x1.toNatClampNeg (3 : Int32)), (vp_updL (σ.2.2.1 52) x1.toNatClampNeg (0 : Int64)), (vp_updL (σ.2.2.1 53) x1.toNatClampNeg (0 : Int64)), (vf_upd (σ.2.2.2) x1.toNatClampNeg x8)) (((σ.1 55).toInt - 1).toNat) (σ.1 56).toInt (if k0.toInt = 31 then qNot v9 else qNeg v9) := by
  have q1 : (1 : Int32).toInt = 1 := by decide +kernel
  have q3 : (3 : Int32).toInt = 3 := by decide +kernel
  have ql0 : (0 : Int64).toInt = 0 := by decide +kernel
  intro v9 h9 h0 hs
  have zx1 : x1.toNatClampNeg = ((σ.1 55).toInt - 1).toNat := by rw [clampN x1, tx1]
  try simp only [zx1] at *
  have kd := h9.kd
  dsimp only at kd
  obtain ⟨r, hr, rfl, e⟩ := h9.k3 (show ((σ.2.1 51) ((σ.1 55).toInt - 1).toNat).toInt = 3 by omega)
  dsimp only at e
  rw [if_neg (by omega)]
  refine ⟨h0, ?_⟩
  rw [show FP.dneg (qReal r).2.2.2 = x8 by rw [ex8, ex7, e]; rfl]
  exact QW.real q3 (by rw [ex8, ex7, e]; exact fp_neg hr)
-- in@68 @68
theorem v_unary_10 (σ : RS) (x1 : Int32) (x3 : Int32) (hpre_0 : 1 ≤ (σ.1 55).toInt) (hpre_1 : (σ.1 55).toInt ≤ 60) (hpre_2 : ((σ.2.1 51) ((σ.1 55).toInt - 1).toNat).toInt = 3 → FN ((σ.2.2.2) ((σ.1 55).toInt - 1).toNat)) (ex1 : x1 = (σ.1 55) - (1 : Int32)) (tx1 : x1.toInt = (σ.1 55).toInt - 1) (ex3 : x3 = (σ.2.1 51) x1.toNatClampNeg) (tx3 : x3.toInt = ((σ.2.1 51) ((σ.1 55).toInt - 1).toNat).toInt) (c4 : x3.toInt = 2) : vp_in x1 980 := by
  have q1 : (1 : Int32).toInt = 1 := by decide +kernel
  exact vp_in_iff.mpr ⟨by omega, by omega⟩
-- pre:set@78 @78
theorem v_unary_11 (σ : RS) (x1 : Int32) (x3 : Int32) (x10 : Int64) (x11 : Int32) (x12 : Int32) (x13 : Int64) (hpre_0 : 1 ≤ (σ.1 55).toInt) (hpre_1 : (σ.1 55).toInt ≤ 60) (hpre_2 : ((σ.2.1 51) ((σ.1 55).toInt - 1).toNat).toInt = 3 → FN ((σ.2.2.2) ((σ.1 55).toInt - 1).toNat)) (ex1 : x1 = (σ.1 55) - (1 : Int32)) (tx1 : x1.toInt = (σ.1 55).toInt - 1) (ex3 : x3 = (σ.2.1 51) x1.toNatClampNeg) (tx3 : x3.toInt = ((σ.2.1 51) ((σ.1 55).toInt - 1).toNat).toInt) (c4 : x3.toInt = 2) (ex10 : x10 = (σ.2.2.1 52) x1.toNatClampNeg) (tx10 : x10.toInt = ((σ.2.2.1 52) ((σ.1 55).toInt - 1).toNat).toInt) (ex11 : x11 = Int64.toInt32 x10) (tx11 : -2147483648 ≤ x10.toInt → x10.toInt < 2147483648 → x11.toInt = x10.toInt) (ex12 : x12 = -x11) (ex13 : x13 = Int32.toInt64 x12) (tx13 : x13.toInt = x12.toInt) : 0 ≤ x1.toInt ∧ x1.toInt < 980 := by
  have q1 : (1 : Int32).toInt = 1 := by decide +kernel
  refine ⟨?_, ?_⟩ <;> first | assumption | omega | (subst_vars; omega) | trivial
-- post @118
theorem v_unary_12 (σ : RS) (x1 : Int32) (x3 : Int32) (x10 : Int64) (x11 : Int32) (x12 : Int32) (x13 : Int64) (hpre_0 : 1 ≤ (σ.1 55).toInt) (hpre_1 : (σ.1 55).toInt ≤ 60) (hpre_2 : ((σ.2.1 51) ((σ.1 55).toInt - 1).toNat).toInt = 3 → FN ((σ.2.2.2) ((σ.1 55).toInt - 1).toNat)) (hpre_3 : (σ.1 56).toInt = 0) (ex1 : x1 = (σ.1 55) - (1 : Int32)) (tx1 : x1.toInt = (σ.1 55).toInt - 1) (ex3 : x3 = (σ.2.1 51) x1.toNatClampNeg) (tx3 : x3.toInt = ((σ.2.1 51) ((σ.1 55).toInt - 1).toNat).toInt) (c4 : x3.toInt = 2) (ex10 : x10 = (σ.2.2.1 52) x1.toNatClampNeg) (tx10 : x10.toInt = ((σ.2.2.1 52) ((σ.1 55).toInt - 1).toNat).toInt) (ex11 : x11 = Int64.toInt32 x10) (tx11 : -2147483648 ≤ x10.toInt → x10.toInt < 2147483648 → x11.toInt = x10.toInt) (ex12 : x12 = -x11) (ex13 : x13 = Int32.toInt64 x12) (tx13 : x13.toInt = x12.toInt) : 0 ≤ (σ.1 56).toInt ∧ (σ.1 56).toInt ≤ 11 ∧ (((upd (σ.2.1 51) x1.toNatClampNeg (2 : Int32)) = (σ.2.1 51) ∧ (vp_updL (σ.2.2.1 52) x1.toNatClampNeg x13) = (σ.2.2.1 52) ∧ (vp_updL (σ.2.2.1 53) x1.toNatClampNeg (0 : Int64)) = (σ.2.2.1 53) ∧ (vf_upd (σ.2.2.2) x1.toNatClampNeg FP.dconst0) = (σ.2.2.2)) ∨ (Cell1 (σ.2.1 51) (upd (σ.2.1 51) x1.toNatClampNeg (2 : Int32)) (σ.2.2.1 52) (vp_updL (σ.2.2.1 52) x1.toNatClampNeg x13) (σ.2.2.2) (vf_upd (σ.2.2.2) x1.toNatClampNeg FP.dconst0) ((σ.1 55).toInt - 1).toNat (fun k v r => 1 ≤ k ∧ k ≤ 4 ∧ (k = 3 → FN r)))) := by
  have q1 : (1 : Int32).toInt = 1 := by decide +kernel
  have q2 : (2 : Int32).toInt = 2 := by decide +kernel
  have ql0 : (0 : Int64).toInt = 0 := by decide +kernel
  refine ⟨by omega, by omega, ?_⟩
  first
  | exact Or.inl ⟨rfl, rfl, rfl, rfl⟩
  | (refine Or.inr ⟨_, _, _, ?_, ?_, ?_, ?_⟩
     rotate_left 3
     · refine ⟨?_, ?_, fun h => ?_⟩ <;> first | omega | (subst_vars; exact fp_neg (by assumption)) | (subst_vars; exact fp_neg (hpre_3 (by omega))) | (subst_vars; exact fp_neg (hpre_2 (by omega)))
     all_goals (rw [clampN]; congr 1; omega))
  | (refine Or.inr ⟨_, _, _, by (rw [clampN]; congr 1; omega), by (rw [clampN]; congr 1; omega), by (rw [clampN]; congr 1; omega), ?_⟩
     refine ⟨?_, ?_, fun h => ?_⟩ <;> first | omega | (subst_vars; apply fp_neg; rw [clampN, tx1]; exact hpre_2 (by omega)))
-- post2 @118
theorem v_unary_13 (σ : RS) (k0 : Int32) (x1 : Int32) (x3 : Int32) (x10 : Int64) (x11 : Int32) (x12 : Int32) (x13 : Int64) (hpre_0 : 1 ≤ (σ.1 55).toInt) (hpre_1 : (σ.1 55).toInt ≤ 60) (hpre_2 : ((σ.2.1 51) ((σ.1 55).toInt - 1).toNat).toInt = 3 → FN ((σ.2.2.2) ((σ.1 55).toInt - 1).toNat)) (hpre_3 : (σ.1 56).toInt = 0) (ex1 : x1 = (σ.1 55) - (1 : Int32)) (tx1 : x1.toInt = (σ.1 55).toInt - 1) (c2 : ¬ k0.toInt = 31) (ex3 : x3 = (σ.2.1 51) x1.toNatClampNeg) (tx3 : x3.toInt = ((σ.2.1 51) ((σ.1 55).toInt - 1).toNat).toInt) (c4 : x3.toInt = 2) (ex10 : x10 = (σ.2.2.1 52) x1.toNatClampNeg) (tx10 : x10.toInt = ((σ.2.2.1 52) ((σ.1 55).toInt - 1).toNat).toInt) (ex11 : x11 = Int64.toInt32 x10) (tx11 : -2147483648 ≤ x10.toInt → x10.toInt < 2147483648 → x11.toInt = x10.toInt) (ex12 : x12 = -x11) (ex13 : x13 = Int32.toInt64 x12) (tx13 : x13.toInt = x12.toInt) : ∀ v9 : QV, QAT (qH (σ.2.1 36) (σ.2.1 37) (σ.2.1 38) (σ.2.1 39) (σ.2.1 40) (σ.2.1 41) (σ.2.1 42) (σ.2.1 43) (σ.2.1 44) (σ.2.1 45) (σ.2.1 46) (σ.2.1 48)) (σ.1 47).toInt ((σ.2.1 51), (σ.2.2.1 52), (σ.2.2.1 53), (σ.2.2.2)) (((σ.1 55).toInt - 1).toNat) v9 → (σ.1 56).toInt = 0 → (k0.toInt = 30 ∨ k0.toInt = 31) → QRES (qH (σ.2.1 36) (σ.2.1 37) (σ.2.1 38) (σ.2.1 39) (σ.2.1 40) (σ.2.1 41) (σ.2.1 42) (σ.2.1 43) (σ.2.1 44) (σ.2.1 45) (σ.2.1 46) (σ.2.1 48)) (σ.1 47).toInt ((σ.2.1 51), (σ.2.2.1 52), (σ.2.2.1 53), (σ.2.2.2)) ((upd (σ.2.1 51) x1.toNatClampNeg (2 : Int32)), (vp_updL (σ.2.2.1 52) x1.toNatClampNeg x13), (vp_updL (σ.2.2.1 53) x1.toNatClampNeg (0 : Int64)), (vf_upd (σ.2.2.2) x1.toNatClampNeg FP.dconst0)) (((σ.1 55).toInt - 1).toNat) (σ.1 56).toInt (if k0.toInt = 31 then qNot v9 else qNeg v9) := by
  have q1 : (1 : Int32).toInt = 1 := by decide +kernel
  have q2 : (2 : Int32).toInt = 2 := by decide +kernel
  have ql0 : (0 : Int64).toInt = 0 := by decide +kernel
  intro v9 h9 h0 hs
  have zx1 : x1.toNatClampNeg = ((σ.1 55).toInt - 1).toNat := by rw [clampN x1, tx1]
  try simp only [zx1] at *
  have kd := h9.kd
  dsimp only at kd
  obtain ⟨n, rfl, hm⟩ := h9.k2 (show ((σ.2.1 51) ((σ.1 55).toInt - 1).toNat).toInt = 2 by omega)
  have e := q_l2i (x := x10) (by rw [ex10]; exact hm) ex11
  rw [if_neg (by omega)]
  refine ⟨h0, ?_⟩
  rw [show -Int32.ofInt (qInt n).2.1 = x12 by rw [ex12, e]; exact congrArg _ q_ofInt]
  exact QW.int q2 (by omega) (by decide +kernel)
-- in@44 @44
theorem v_unary_14 (σ : RS) (x1 : Int32) (x15 : Int32) (hpre_0 : 1 ≤ (σ.1 55).toInt) (hpre_1 : (σ.1 55).toInt ≤ 60) (hpre_2 : ((σ.2.1 51) ((σ.1 55).toInt - 1).toNat).toInt = 3 → FN ((σ.2.2.2) ((σ.1 55).toInt - 1).toNat)) (ex1 : x1 = (σ.1 55) - (1 : Int32)) (tx1 : x1.toInt = (σ.1 55).toInt - 1) (ex15 : x15 = (σ.2.1 51) x1.toNatClampNeg) (tx15 : x15.toInt = ((σ.2.1 51) ((σ.1 55).toInt - 1).toNat).toInt) (c16 : ¬ x15.toInt = 1) : vp_in x1 980 := by
  have q1 : (1 : Int32).toInt = 1 := by decide +kernel
  exact vp_in_iff.mpr ⟨by omega, by omega⟩
-- pre:set@47 @47
theorem v_unary_15 (σ : RS) (x1 : Int32) (x15 : Int32) (x17 : Int64) (x18 : Int64) (hpre_0 : 1 ≤ (σ.1 55).toInt) (hpre_1 : (σ.1 55).toInt ≤ 60) (hpre_2 : ((σ.2.1 51) ((σ.1 55).toInt - 1).toNat).toInt = 3 → FN ((σ.2.2.2) ((σ.1 55).toInt - 1).toNat)) (ex1 : x1 = (σ.1 55) - (1 : Int32)) (tx1 : x1.toInt = (σ.1 55).toInt - 1) (ex15 : x15 = (σ.2.1 51) x1.toNatClampNeg) (tx15 : x15.toInt = ((σ.2.1 51) ((σ.1 55).toInt - 1).toNat).toInt) (c16 : ¬ x15.toInt = 1) (ex17 : x17 = (σ.2.2.1 52) x1.toNatClampNeg) (tx17 : x17.toInt = ((σ.2.2.1 52) ((σ.1 55).toInt - 1).toNat).toInt) (ex18 : x18 = (1 : Int64) - x17) : 0 ≤ x1.toInt ∧ x1.toInt < 980 := by
  have q1 : (1 : Int32).toInt = 1 := by decide +kernel
  have ql1 : (1 : Int64).toInt = 1 := by decide +kernel
  refine ⟨?_, ?_⟩ <;> first | assumption | omega | (subst_vars; omega) | trivial
-- post @118
theorem v_unary_16 (σ : RS) (x1 : Int32) (x15 : Int32) (x17 : Int64) (x18 : Int64) (hpre_0 : 1 ≤ (σ.1 55).toInt) (hpre_1 : (σ.1 55).toInt ≤ 60) (hpre_2 : ((σ.2.1 51) ((σ.1 55).toInt - 1).toNat).toInt = 3 → FN ((σ.2.2.2) ((σ.1 55).toInt - 1).toNat)) (ex1 : x1 = (σ.1 55) - (1 : Int32)) (tx1 : x1.toInt = (σ.1 55).toInt - 1) (ex15 : x15 = (σ.2.1 51) x1.toNatClampNeg) (tx15 : x15.toInt = ((σ.2.1 51) ((σ.1 55).toInt - 1).toNat).toInt) (c16 : ¬ x15.toInt = 1) (ex17 : x17 = (σ.2.2.1 52) x1.toNatClampNeg) (tx17 : x17.toInt = ((σ.2.2.1 52) ((σ.1 55).toInt - 1).toNat).toInt) (ex18 : x18 = (1 : Int64) - x17) : 0 ≤ (1 : Int32).toInt ∧ (1 : Int32).toInt ≤ 11 ∧ (((upd (σ.2.1 51) x1.toNatClampNeg (1 : Int32)) = (σ.2.1 51) ∧ (vp_updL (σ.2.2.1 52) x1.toNatClampNeg x18) = (σ.2.2.1 52) ∧ (vp_updL (σ.2.2.1 53) x1.toNatClampNeg (0 : Int64)) = (σ.2.2.1 53) ∧ (vf_upd (σ.2.2.2) x1.toNatClampNeg FP.dconst0) = (σ.2.2.2)) ∨ (Cell1 (σ.2.1 51) (upd (σ.2.1 51) x1.toNatClampNeg (1 : Int32)) (σ.2.2.1 52) (vp_updL (σ.2.2.1 52) x1.toNatClampNeg x18) (σ.2.2.2) (vf_upd (σ.2.2.2) x1.toNatClampNeg FP.dconst0) ((σ.1 55).toInt - 1).toNat (fun k v r => 1 ≤ k ∧ k ≤ 4 ∧ (k = 3 → FN r)))) := by
  have q1 : (1 : Int32).toInt = 1 := by decide +kernel
  have ql0 : (0 : Int64).toInt = 0 := by decide +kernel
  have ql1 : (1 : Int64).toInt = 1 := by decide +kernel
  refine ⟨by omega, by omega, ?_⟩
  first
  | exact Or.inl ⟨rfl, rfl, rfl, rfl⟩
  | (refine Or.inr ⟨_, _, _, ?_, ?_, ?_, ?_⟩
     rotate_left 3
     · refine ⟨?_, ?_, fun h => ?_⟩ <;> first | omega | (subst_vars; exact fp_neg (by assumption)) | (subst_vars; exact fp_neg (hpre_3 (by omega))) | (subst_vars; exact fp_neg (hpre_2 (by omega)))
     all_goals (rw [clampN]; congr 1; omega))
  | (refine Or.inr ⟨_, _, _, by (rw [clampN]; congr 1; omega), by (rw [clampN]; congr 1; omega), by (rw [clampN]; congr 1; omega), ?_⟩
     refine ⟨?_, ?_, fun h => ?_⟩ <;> first | omega | (subst_vars; apply fp_neg; rw [clampN, tx1]; exact hpre_2 (by omega)))
-- post2 @118
theorem v_unary_17 (σ : RS) (k0 : Int32) (x1 : Int32) (x15 : Int32) (x17 : Int64) (x18 : Int64) (hpre_0 : 1 ≤ (σ.1 55).toInt) (hpre_1 : (σ.1 55).toInt ≤ 60) (hpre_2 : ((σ.2.1 51) ((σ.1 55).toInt - 1).toNat).toInt = 3 → FN ((σ.2.2.2) ((σ.1 55).toInt - 1).toNat)) (hpre_3 : (σ.1 56).toInt = 0) (ex1 : x1 = (σ.1 55) - (1 : Int32)) (tx1 : x1.toInt = (σ.1 55).toInt - 1) (c2 : k0.toInt = 31) (ex15 : x15 = (σ.2.1 51) x1.toNatClampNeg) (tx15 : x15.toInt = ((σ.2.1 51) ((σ.1 55).toInt - 1).toNat).toInt) (c16 : ¬ x15.toInt = 1) (ex17 : x17 = (σ.2.2.1 52) x1.toNatClampNeg) (tx17 : x17.toInt = ((σ.2.2.1 52) ((σ.1 55).toInt - 1).toNat).toInt) (ex18 : x18 = (1 : Int64) - x17) : ∀ v9 : QV, QAT (qH (σ.2.1 36) (σ.2.1 37) (σ.2.1 38) (σ.2.1 39) (σ.2.1 40) (σ.2.1 41) (σ.2.1 42) (σ.2.1 43) (σ.2.1 44) (σ.2.1 45) (σ.2.1 46) (σ.2.1 48)) (σ.1 47).toInt ((σ.2.1 51), (σ.2.2.1 52), (σ.2.2.1 53), (σ.2.2.2)) (((σ.1 55).toInt - 1).toNat) v9 → (σ.1 56).toInt = 0 → (k0.toInt = 30 ∨ k0.toInt = 31) → QRES (qH (σ.2.1 36) (σ.2.1 37) (σ.2.1 38) (σ.2.1 39) (σ.2.1 40) (σ.2.1 41) (σ.2.1 42) (σ.2.1 43) (σ.2.1 44) (σ.2.1 45) (σ.2.1 46) (σ.2.1 48)) (σ.1 47).toInt ((σ.2.1 51), (σ.2.2.1 52), (σ.2.2.1 53), (σ.2.2.2)) ((upd (σ.2.1 51) x1.toNatClampNeg (1 : Int32)), (vp_updL (σ.2.2.1 52) x1.toNatClampNeg x18), (vp_updL (σ.2.2.1 53) x1.toNatClampNeg (0 : Int64)), (vf_upd (σ.2.2.2) x1.toNatClampNeg FP.dconst0)) (((σ.1 55).toInt - 1).toNat) (1 : Int32).toInt (if k0.toInt = 31 then qNot v9 else qNeg v9) := by
  have q1 : (1 : Int32).toInt = 1 := by decide +kernel
  have ql0 : (0 : Int64).toInt = 0 := by decide +kernel
  have ql1 : (1 : Int64).toInt = 1 := by decide +kernel
  intro v9 h9 h0 hs
  have zx1 : x1.toNatClampNeg = ((σ.1 55).toInt - 1).toNat := by rw [clampN x1, tx1]
  try simp only [zx1] at *
  have kd := h9.kd
  dsimp only at kd
  rw [if_pos (by omega)]
  unfold qNot
  rw [if_neg (by omega)]
  exact ⟨by decide +kernel, by decide, by decide, QX.put⟩
-- in@44 @44
theorem v_unary_18 (σ : RS) (x1 : Int32) (x15 : Int32) (hpre_0 : 1 ≤ (σ.1 55).toInt) (hpre_1 : (σ.1 55).toInt ≤ 60) (hpre_2 : ((σ.2.1 51) ((σ.1 55).toInt - 1).toNat).toInt = 3 → FN ((σ.2.2.2) ((σ.1 55).toInt - 1).toNat)) (ex1 : x1 = (σ.1 55) - (1 : Int32)) (tx1 : x1.toInt = (σ.1 55).toInt - 1) (ex15 : x15 = (σ.2.1 51) x1.toNatClampNeg) (tx15 : x15.toInt = ((σ.2.1 51) ((σ.1 55).toInt - 1).toNat).toInt) (c16 : x15.toInt = 1) : vp_in x1 980 := by
  have q1 : (1 : Int32).toInt = 1 := by decide +kernel
  exact vp_in_iff.mpr ⟨by omega, by omega⟩
-- pre:set@47 @47
theorem v_unary_19 (σ : RS) (x1 : Int32) (x15 : Int32) (x20 : Int64) (x21 : Int64) (hpre_0 : 1 ≤ (σ.1 55).toInt) (hpre_1 : (σ.1 55).toInt ≤ 60) (hpre_2 : ((σ.2.1 51) ((σ.1 55).toInt - 1).toNat).toInt = 3 → FN ((σ.2.2.2) ((σ.1 55).toInt - 1).toNat)) (ex1 : x1 = (σ.1 55) - (1 : Int32)) (tx1 : x1.toInt = (σ.1 55).toInt - 1) (ex15 : x15 = (σ.2.1 51) x1.toNatClampNeg) (tx15 : x15.toInt = ((σ.2.1 51) ((σ.1 55).toInt - 1).toNat).toInt) (c16 : x15.toInt = 1) (ex20 : x20 = (σ.2.2.1 52) x1.toNatClampNeg) (tx20 : x20.toInt = ((σ.2.2.1 52) ((σ.1 55).toInt - 1).toNat).toInt) (ex21 : x21 = (1 : Int64) - x20) : 0 ≤ x1.toInt ∧ x1.toInt < 980 := by
  have q1 : (1 : Int32).toInt = 1 := by decide +kernel
  have ql1 : (1 : Int64).toInt = 1 := by decide +kernel
  refine ⟨?_, ?_⟩ <;> first | assumption | omega | (subst_vars; omega) | trivial
-- post @118
theorem v_unary_20 (σ : RS) (x1 : Int32) (x15 : Int32) (x20 : Int64) (x21 : Int64) (hpre_0 : 1 ≤ (σ.1 55).toInt) (hpre_1 : (σ.1 55).toInt ≤ 60) (hpre_2 : ((σ.2.1 51) ((σ.1 55).toInt - 1).toNat).toInt = 3 → FN ((σ.2.2.2) ((σ.1 55).toInt - 1).toNat)) (hpre_3 : (σ.1 56).toInt = 0) (ex1 : x1 = (σ.1 55) - (1 : Int32)) (tx1 : x1.toInt = (σ.1 55).toInt - 1) (ex15 : x15 = (σ.2.1 51) x1.toNatClampNeg) (tx15 : x15.toInt = ((σ.2.1 51) ((σ.1 55).toInt - 1).toNat).toInt) (c16 : x15.toInt = 1) (ex20 : x20 = (σ.2.2.1 52) x1.toNatClampNeg) (tx20 : x20.toInt = ((σ.2.2.1 52) ((σ.1 55).toInt - 1).toNat).toInt) (ex21 : x21 = (1 : Int64) - x20) : 0 ≤ (σ.1 56).toInt ∧ (σ.1 56).toInt ≤ 11 ∧ (((upd (σ.2.1 51) x1.toNatClampNeg (1 : Int32)) = (σ.2.1 51) ∧ (vp_updL (σ.2.2.1 52) x1.toNatClampNeg x21) = (σ.2.2.1 52) ∧ (vp_updL (σ.2.2.1 53) x1.toNatClampNeg (0 : Int64)) = (σ.2.2.1 53) ∧ (vf_upd (σ.2.2.2) x1.toNatClampNeg FP.dconst0) = (σ.2.2.2)) ∨ (Cell1 (σ.2.1 51) (upd (σ.2.1 51) x1.toNatClampNeg (1 : Int32)) (σ.2.2.1 52) (vp_updL (σ.2.2.1 52) x1.toNatClampNeg x21) (σ.2.2.2) (vf_upd (σ.2.2.2) x1.toNatClampNeg FP.dconst0) ((σ.1 55).toInt - 1).toNat (fun k v r => 1 ≤ k ∧ k ≤ 4 ∧ (k = 3 → FN r)))) := by
  have q1 : (1 : Int32).toInt = 1 := by decide +kernel
  have ql0 : (0 : Int64).toInt = 0 := by decide +kernel
  have ql1 : (1 : Int64).toInt = 1 := by decide +kernel
  refine ⟨by omega, by omega, ?_⟩
  first
  | exact Or.inl ⟨rfl, rfl, rfl, rfl⟩
  | (refine Or.inr ⟨_, _, _, ?_, ?_, ?_, ?_⟩
     rotate_left 3
     · refine ⟨?_, ?_, fun h => ?_⟩ <;> first | omega | (subst_vars; exact fp_neg (by assumption)) | (subst_vars; exact fp_neg (hpre_3 (by omega))) | (subst_vars; exact fp_neg (hpre_2 (by omega)))
     all_goals (rw [clampN]; congr 1; omega))
  | (refine Or.inr ⟨_, _, _, by (rw [clampN]; congr 1; omega), by (rw [clampN]; congr 1; omega), by (rw [clampN]; congr 1; omega), ?_⟩
     refine ⟨?_, ?_, fun h => ?_⟩ <;> first | omega | (subst_vars; apply fp_neg; rw [clampN, tx1]; exact hpre_2 (by omega)))
-- post2 @118
theorem v_unary_21 (σ : RS) (k0 : Int32) (x1 : Int32) (x15 : Int32) (x20 : Int64) (x21 : Int64) (hpre_0 : 1 ≤ (σ.1 55).toInt) (hpre_1 : (σ.1 55).toInt ≤ 60) (hpre_2 : ((σ.2.1 51) ((σ.1 55).toInt - 1).toNat).toInt = 3 → FN ((σ.2.2.2) ((σ.1 55).toInt - 1).toNat)) (hpre_3 : (σ.1 56).toInt = 0) (ex1 : x1 = (σ.1 55) - (1 : Int32)) (tx1 : x1.toInt = (σ.1 55).toInt - 1) (c2 : k0.toInt = 31) (ex15 : x15 = (σ.2.1 51) x1.toNatClampNeg) (tx15 : x15.toInt = ((σ.2.1 51) ((σ.1 55).toInt - 1).toNat).toInt) (c16 : x15.toInt = 1) (ex20 : x20 = (σ.2.2.1 52) x1.toNatClampNeg) (tx20 : x20.toInt = ((σ.2.2.1 52) ((σ.1 55).toInt - 1).toNat).toInt) (ex21 : x21 = (1 : Int64) - x20) : ∀ v9 : QV, QAT (qH (σ.2.1 36) (σ.2.1 37) (σ.2.1 38) (σ.2.1 39) (σ.2.1 40) (σ.2.1 41) (σ.2.1 42) (σ.2.1 43) (σ.2.1 44) (σ.2.1 45) (σ.2.1 46) (σ.2.1 48)) (σ.1 47).toInt ((σ.2.1 51), (σ.2.2.1 52), (σ.2.2.1 53), (σ.2.2.2)) (((σ.1 55).toInt - 1).toNat) v9 → (σ.1 56).toInt = 0 → (k0.toInt = 30 ∨ k0.toInt = 31) → QRES (qH (σ.2.1 36) (σ.2.1 37) (σ.2.1 38) (σ.2.1 39) (σ.2.1 40) (σ.2.1 41) (σ.2.1 42) (σ.2.1 43) (σ.2.1 44) (σ.2.1 45) (σ.2.1 46) (σ.2.1 48)) (σ.1 47).toInt ((σ.2.1 51), (σ.2.2.1 52), (σ.2.2.1 53), (σ.2.2.2)) ((upd (σ.2.1 51) x1.toNatClampNeg (1 : Int32)), (vp_updL (σ.2.2.1 52) x1.toNatClampNeg x21), (vp_updL (σ.2.2.1 53) x1.toNatClampNeg (0 : Int64)), (vf_upd (σ.2.2.2) x1.toNatClampNeg FP.dconst0)) (((σ.1 55).toInt - 1).toNat) (σ.1 56).toInt (if k0.toInt = 31 then qNot v9 else qNeg v9) := by
  have q1 : (1 : Int32).toInt = 1 := by decide +kernel
  have ql0 : (0 : Int64).toInt = 0 := by decide +kernel
  have ql1 : (1 : Int64).toInt = 1 := by decide +kernel
  intro v9 h9 h0 hs
  have zx1 : x1.toNatClampNeg = ((σ.1 55).toInt - 1).toNat := by rw [clampN x1, tx1]
  try simp only [zx1] at *
  have kd := h9.kd
  dsimp only at kd
  obtain ⟨b9, rfl, hb⟩ := h9.k1 (show ((σ.2.1 51) ((σ.1 55).toInt - 1).toNat).toInt = 1 by omega)
  dsimp only at hb
  rw [if_pos (by omega)]
  refine ⟨h0, ?_⟩
  have hb2 : 0 ≤ ((σ.2.2.1 52) ((σ.1 55).toInt - 1).toNat).toInt ∧ ((σ.2.2.1 52) ((σ.1 55).toInt - 1).toNat).toInt ≤ 1 := by rw [hb]; cases b9 <;> decide
  have e9 : x21.toInt = 1 - x20.toInt := by rw [ex21, zl_sub (by omega) (by omega), show (1 : Int64).toInt = 1 by decide +kernel]
  refine QW.bool q1 ?_ (by decide +kernel)
  cases b9
  · have hb : ((σ.2.2.1 52) ((σ.1 55).toInt - 1).toNat).toInt = 0 := hb
    show x21.toInt = 1
    omega
  · have hb : ((σ.2.2.1 52) ((σ.1 55).toInt - 1).toNat).toInt = 1 := hb
    show x21.toInt = 0
    omega
set_option maxHeartbeats 4000000 in
set_option maxRecDepth 100000 in
theorem M_unary (l : Launch) (D : va_G) (cy : Nat → ClassId) (sz0 : Nat) (sa : Nat → Nat) (ad : Nat → Nat) (σ : RS) (sz : Nat) (k0 : Int32) (hpre : 1 ≤ (σ.1 55).toInt ∧ (σ.1 55).toInt ≤ 60 ∧ (((σ.2.1 51) ((σ.1 55).toInt - 1).toNat).toInt = 3 → FN ((σ.2.2.2) ((σ.1 55).toInt - 1).toNat)) ∧ (σ.1 56).toInt = 0) : Met l yX12_unary (Cond.code yX12_unary cX12_unary 5 none :: GWm) ({ frames := 1, cells := 0, slots := 0, locals := 26 }) (PcR D cy sz0 sa ad [.ref (ad 0), .int k0] σ sz) (va_Qv (fun (u : (Nat → Int32) × (Nat → Int64) × (Nat → Int64) × (Nat → UInt64) × Int32) => (0 ≤ u.2.2.2.2.toInt ∧ u.2.2.2.2.toInt ≤ 11 ∧ ((u.1 = (σ.2.1 51) ∧ u.2.1 = (σ.2.2.1 52) ∧ u.2.2.1 = (σ.2.2.1 53) ∧ u.2.2.2.1 = (σ.2.2.2)) ∨ (Cell1 (σ.2.1 51) u.1 (σ.2.2.1 52) u.2.1 (σ.2.2.2) u.2.2.2.1 ((σ.1 55).toInt - 1).toNat (fun k v r => 1 ≤ k ∧ k ≤ 4 ∧ (k = 3 → FN r))))) ∧ (∀ v9 : QV, QAT (qH (σ.2.1 36) (σ.2.1 37) (σ.2.1 38) (σ.2.1 39) (σ.2.1 40) (σ.2.1 41) (σ.2.1 42) (σ.2.1 43) (σ.2.1 44) (σ.2.1 45) (σ.2.1 46) (σ.2.1 48)) (σ.1 47).toInt ((σ.2.1 51), (σ.2.2.1 52), (σ.2.2.1 53), (σ.2.2.2)) (((σ.1 55).toInt - 1).toNat) v9 → (σ.1 56).toInt = 0 → (k0.toInt = 30 ∨ k0.toInt = 31) → QRES (qH (σ.2.1 36) (σ.2.1 37) (σ.2.1 38) (σ.2.1 39) (σ.2.1 40) (σ.2.1 41) (σ.2.1 42) (σ.2.1 43) (σ.2.1 44) (σ.2.1 45) (σ.2.1 46) (σ.2.1 48)) (σ.1 47).toInt ((σ.2.1 51), (σ.2.2.1 52), (σ.2.2.1 53), (σ.2.2.2)) (u.1, u.2.1, u.2.2.1, u.2.2.2.1) (((σ.1 55).toInt - 1).toNat) u.2.2.2.2.toInt (if k0.toInt = 31 then qNot v9 else qNeg v9))) (fun (u : (Nat → Int32) × (Nat → Int64) × (Nat → Int64) × (Nat → UInt64) × Int32) (t : State) => RP D cy ad (rS (rR (rJ (rJ (rA σ 51 u.1) 52 u.2.1) 53 u.2.2.1) u.2.2.2.1) 56 u.2.2.2.2) t.heap) (AR cy ad sz)) 0 0 (AR cy ad sz) := by
  refine RM_of (loc0 := [(0, .ref (ad 0)), (1, .int k0)]) (by decide) rfl rfl (Nat.le_of_ble_eq_true rfl) ?_
  intro p e s m below meth c ls hsz C hP hS hl
  have hx := C.1
  have hb := C.2.1
  have hown := C.2.2.2.2.1
  have hw := C.2.2.2.2.2.1
  clear hsz
  obtain ⟨hpre_0, hpre_1, hpre_2, hpre_3⟩ := hpre
  refine lv_aload_n hx hb dX12_unary_0 rfl (lv_at hl 0 rfl) ?_
  refine rg_55 (v := (σ.1 55)) C hP rfl wm_212 dX12_unary_1 ?_
  refine lv_iconst (v := 1) hx hb dX12_unary_4 (by decide +kernel) ?_
  refine lv_isub hx hb dX12_unary_5 ?_
  refine lv_topi (fun x1 ex1 => ?_)
  have tx1 : x1.toInt = (σ.1 55).toInt - 1 := (v_unary_1 σ x1 hpre_0 hpre_1 hpre_2 ex1)
  refine lv_istore_n (lv' := [(2, .int x1), (0, .ref (ad 0)), (1, .int k0)]) hx hb dX12_unary_6 rfl hl (by decide) rfl (fun ls hl => ?_)
  refine lv_iload_n hx hb dX12_unary_7 rfl (lv_at hl 2 rfl) ?_
  refine lv_bipush (v := 31) hx hb dX12_unary_8 (by decide +kernel) ?_
  refine lv_icmp_ne (tgt := 53) hx hb dX12_unary_10 (by decide) (fun c2 => ?_) (fun c2 => ?_)
  · have c2 : ¬ k0.toInt = 31 := by have h := z_ne c2; rw [show (31 : Int32).toInt = 31 from by decide +kernel] at h; exact h
    refine lv_aload_n hx hb dX12_unary_53 rfl (lv_at hl 1 rfl) ?_
    refine rg_51 C hP wm_205 dX12_unary_54 ?_
    refine lv_iload_n hx hb dX12_unary_57 rfl (lv_at hl 0 rfl) ?_
    refine ra_51 (f := (σ.2.1 51)) C hP rfl (v_unary_2 σ x1 hpre_0 hpre_1 hpre_2 ex1 tx1) dX12_unary_58 (fun x3 ex3 => ?_)
    have tx3 : x3.toInt = ((σ.2.1 51) ((σ.1 55).toInt - 1).toNat).toInt := by rw [ex3, clampN, tx1]
    refine lv_iconst (v := 2) hx hb dX12_unary_59 (by decide +kernel) ?_
    refine lv_icmp_ne (tgt := 84) hx hb dX12_unary_60 (by decide) (fun c4 => ?_) (fun c4 => ?_)
    · have c4 : ¬ x3.toInt = 2 := by have h := z_ne c4; rw [show (2 : Int32).toInt = 2 from by decide +kernel] at h; exact h
      refine lv_aload_n hx hb dX12_unary_84 rfl (lv_at hl 1 rfl) ?_
      refine rg_51 C hP wm_205 dX12_unary_85 ?_
      refine lv_iload_n hx hb dX12_unary_88 rfl (lv_at hl 0 rfl) ?_
      refine ra_51 (f := (σ.2.1 51)) C hP rfl (v_unary_3 σ x1 x3 hpre_0 hpre_1 hpre_2 ex1 tx1 ex3 tx3 c4) dX12_unary_89 (fun x5 ex5 => ?_)
      have tx5 : x5.toInt = ((σ.2.1 51) ((σ.1 55).toInt - 1).toNat).toInt := by rw [ex5, clampN, tx1]
      refine lv_iconst (v := 3) hx hb dX12_unary_90 (by decide +kernel) ?_
      refine lv_icmp_ne (tgt := 113) hx hb dX12_unary_91 (by decide) (fun c6 => ?_) (fun c6 => ?_)
      · have c6 : ¬ x5.toInt = 3 := by have h := z_ne c6; rw [show (3 : Int32).toInt = 3 from by decide +kernel] at h; exact h
        refine lv_aload_n hx hb dX12_unary_113 rfl (lv_at hl 1 rfl) ?_
        refine lv_iconst (v := 1) hx hb dX12_unary_114 (by decide +kernel) ?_
        refine rp_56 C hP hS wm_242 dX12_unary_115 (fun H locs hP hS => ?_)
        have hP : RP D cy ad (rS (rR (rJ (rJ (rA σ 51 (σ.2.1 51)) 52 (σ.2.2.1 52)) 53 (σ.2.2.1 53)) (σ.2.2.2)) 56 (1 : Int32)) H := RP.cong hP (Eq.trans (b := (σ.1 0)) rfl rfl) (Eq.trans (b := (σ.1 1)) rfl rfl) (Eq.trans (b := (σ.2.1 2)) rfl rfl) (Eq.trans (b := (σ.1 3)) rfl rfl) (Eq.trans (b := (σ.2.1 4)) rfl rfl) (Eq.trans (b := (σ.2.1 5)) rfl rfl) (Eq.trans (b := (σ.2.2.1 6)) rfl rfl) (Eq.trans (b := (σ.2.1 7)) rfl rfl) (Eq.trans (b := (σ.1 8)) rfl rfl) (Eq.trans (b := (σ.1 9)) rfl rfl) (Eq.trans (b := (σ.1 10)) rfl rfl) (Eq.trans (b := (σ.2.1 11)) rfl rfl) (Eq.trans (b := (σ.2.2.1 12)) rfl rfl) (Eq.trans (b := (σ.2.1 13)) rfl rfl) (Eq.trans (b := (σ.1 14)) rfl rfl) (Eq.trans (b := (σ.1 15)) rfl rfl) (Eq.trans (b := (σ.1 16)) rfl rfl) (Eq.trans (b := (σ.1 17)) rfl rfl) (Eq.trans (b := (σ.1 18)) rfl rfl) (Eq.trans (b := (σ.1 19)) rfl rfl) (Eq.trans (b := (σ.2.1 20)) rfl rfl) (Eq.trans (b := (σ.2.1 21)) rfl rfl) (Eq.trans (b := (σ.2.1 22)) rfl rfl) (Eq.trans (b := (σ.2.1 23)) rfl rfl) (Eq.trans (b := (σ.2.1 24)) rfl rfl) (Eq.trans (b := (σ.2.1 25)) rfl rfl) (Eq.trans (b := (σ.2.1 26)) rfl rfl) (Eq.trans (b := (σ.2.1 27)) rfl rfl) (Eq.trans (b := (σ.2.1 28)) rfl rfl) (Eq.trans (b := (σ.1 29)) rfl rfl) (Eq.trans (b := (σ.2.1 30)) rfl rfl) (Eq.trans (b := (σ.2.1 31)) rfl rfl) (Eq.trans (b := (σ.2.1 32)) rfl rfl) (Eq.trans (b := (σ.1 33)) rfl rfl) (Eq.trans (b := (σ.1 34)) rfl rfl) (Eq.trans (b := (σ.1 35)) rfl rfl) (Eq.trans (b := (σ.2.1 36)) rfl rfl) (Eq.trans (b := (σ.2.1 37)) rfl rfl) (Eq.trans (b := (σ.2.1 38)) rfl rfl) (Eq.trans (b := (σ.2.1 39)) rfl rfl) (Eq.trans (b := (σ.2.1 40)) rfl rfl) (Eq.trans (b := (σ.2.1 41)) rfl rfl) (Eq.trans (b := (σ.2.1 42)) rfl rfl) (Eq.trans (b := (σ.2.1 43)) rfl rfl) (Eq.trans (b := (σ.2.1 44)) rfl rfl) (Eq.trans (b := (σ.2.1 45)) rfl rfl) (Eq.trans (b := (σ.2.1 46)) rfl rfl) (Eq.trans (b := (σ.1 47)) rfl rfl) (Eq.trans (b := (σ.2.1 48)) rfl rfl) (Eq.trans (b := (σ.1 49)) rfl rfl) (Eq.trans (b := (σ.2.1 50)) rfl rfl) (Eq.trans (b := (σ.2.1 51)) rfl rfl) (Eq.trans (b := (σ.2.2.1 52)) rfl rfl) (Eq.trans (b := (σ.2.2.1 53)) rfl rfl) (Eq.trans (b := (σ.2.2.2)) rfl rfl) (Eq.trans (b := (σ.1 55)) rfl rfl) (Eq.trans (b := (1 : Int32)) rfl rfl) (Eq.trans (b := (σ.1 57)) rfl rfl) (Eq.trans (b := (σ.2.1 58)) rfl rfl) (Eq.trans (b := (σ.1 59)) rfl rfl)
        exact r_retv C ⟨(σ.2.1 51), (σ.2.2.1 52), (σ.2.2.1 53), (σ.2.2.2), (1 : Int32)⟩ ⟨(v_unary_4 σ x1 x3 x5 hpre_0 hpre_1 hpre_2 ex1 tx1 ex3 tx3 c4 ex5 tx5 c6), (v_unary_5 σ k0 x1 x3 x5 hpre_0 hpre_1 hpre_2 hpre_3 ex1 tx1 c2 ex3 tx3 c4 ex5 tx5 c6)⟩ hP hS dX12_unary_118
      · have c6 : x5.toInt = 3 := by have h := z_eq c6; rw [show (3 : Int32).toInt = 3 from by decide +kernel] at h; exact h
        refine lv_aload_n hx hb dX12_unary_94 rfl (lv_at hl 1 rfl) ?_
        refine rg_54 C hP wm_209 dX12_unary_95 ?_
        refine lv_iload_n hx hb dX12_unary_98 rfl (lv_at hl 0 rfl) ?_
        refine ra_54 (f := (σ.2.2.2)) C hP rfl (v_unary_6 σ x1 x3 x5 hpre_0 hpre_1 hpre_2 ex1 tx1 ex3 tx3 c4 ex5 tx5 c6) dX12_unary_99 (fun x7 ex7 => ?_)
        refine lv_dneg hx hb dX12_unary_100 ?_
        refine lv_topd (fun x8 ex8 => ?_)
        refine lv_dstore_n (lv' := [(3, .double x8), (2, .int x1), (0, .ref (ad 0)), (1, .int k0)]) hx hb dX12_unary_101 rfl hl (by decide) rfl (fun ls hl => ?_)
        refine lv_aload_n hx hb dX12_unary_102 rfl (lv_at hl 2 rfl) ?_
        refine lv_iload_n hx hb dX12_unary_103 rfl (lv_at hl 1 rfl) ?_
        refine lv_iconst (v := 3) hx hb dX12_unary_104 (by decide +kernel) ?_
        refine lv_lconst (v := 0) hx hb dX12_unary_105 rfl ?_
        refine lv_dload_n hx hb dX12_unary_106 rfl (lv_at hl 0 rfl) ?_
        refine r_callVv (As := [.int x1, .int 3, .long 0, .double x8]) (rest := []) C hP hS hl.1 ⟨Nat.zero_le _, Nat.zero_le _⟩ (M_set l D cy sz0 sa ad σ s.heap.size x1 (3 : Int32) (0 : Int64) x8 (v_unary_7 σ x1 x3 x5 x7 x8 hpre_0 hpre_1 hpre_2 ex1 tx1 ex3 tx3 c4 ex5 tx5 c6 ex7 ex8)) (n := 4) ⟨wm_213, wm_207, by decide +kernel⟩ ⟨wm_214, wm_215, wm_10⟩ rfl rfl (lv_room (Nat.le_of_ble_eq_true rfl)) ⟨Nat.le_of_ble_eq_true rfl, Nat.le_of_ble_eq_true rfl⟩ dX12_unary_107 (fun u H locs hr9 hP hS => ?_)
        have hr9 : True := hr9
        have hP : RP D cy ad (rR (rJ (rJ (rA σ 51 (upd (σ.2.1 51) x1.toNatClampNeg (3 : Int32))) 52 (vp_updL (σ.2.2.1 52) x1.toNatClampNeg (0 : Int64))) 53 (vp_updL (σ.2.2.1 53) x1.toNatClampNeg (0 : Int64))) (vf_upd (σ.2.2.2) x1.toNatClampNeg x8)) H := hP
        refine lv_goto (tgt := 118) hx hb dX12_unary_110 (by decide) ?_
        have hP : RP D cy ad (rS (rR (rJ (rJ (rA σ 51 (upd (σ.2.1 51) x1.toNatClampNeg (3 : Int32))) 52 (vp_updL (σ.2.2.1 52) x1.toNatClampNeg (0 : Int64))) 53 (vp_updL (σ.2.2.1 53) x1.toNatClampNeg (0 : Int64))) (vf_upd (σ.2.2.2) x1.toNatClampNeg x8)) 56 (σ.1 56)) H := RP.cong hP (Eq.trans (b := (σ.1 0)) rfl rfl) (Eq.trans (b := (σ.1 1)) rfl rfl) (Eq.trans (b := (σ.2.1 2)) rfl rfl) (Eq.trans (b := (σ.1 3)) rfl rfl) (Eq.trans (b := (σ.2.1 4)) rfl rfl) (Eq.trans (b := (σ.2.1 5)) rfl rfl) (Eq.trans (b := (σ.2.2.1 6)) rfl rfl) (Eq.trans (b := (σ.2.1 7)) rfl rfl) (Eq.trans (b := (σ.1 8)) rfl rfl) (Eq.trans (b := (σ.1 9)) rfl rfl) (Eq.trans (b := (σ.1 10)) rfl rfl) (Eq.trans (b := (σ.2.1 11)) rfl rfl) (Eq.trans (b := (σ.2.2.1 12)) rfl rfl) (Eq.trans (b := (σ.2.1 13)) rfl rfl) (Eq.trans (b := (σ.1 14)) rfl rfl) (Eq.trans (b := (σ.1 15)) rfl rfl) (Eq.trans (b := (σ.1 16)) rfl rfl) (Eq.trans (b := (σ.1 17)) rfl rfl) (Eq.trans (b := (σ.1 18)) rfl rfl) (Eq.trans (b := (σ.1 19)) rfl rfl) (Eq.trans (b := (σ.2.1 20)) rfl rfl) (Eq.trans (b := (σ.2.1 21)) rfl rfl) (Eq.trans (b := (σ.2.1 22)) rfl rfl) (Eq.trans (b := (σ.2.1 23)) rfl rfl) (Eq.trans (b := (σ.2.1 24)) rfl rfl) (Eq.trans (b := (σ.2.1 25)) rfl rfl) (Eq.trans (b := (σ.2.1 26)) rfl rfl) (Eq.trans (b := (σ.2.1 27)) rfl rfl) (Eq.trans (b := (σ.2.1 28)) rfl rfl) (Eq.trans (b := (σ.1 29)) rfl rfl) (Eq.trans (b := (σ.2.1 30)) rfl rfl) (Eq.trans (b := (σ.2.1 31)) rfl rfl) (Eq.trans (b := (σ.2.1 32)) rfl rfl) (Eq.trans (b := (σ.1 33)) rfl rfl) (Eq.trans (b := (σ.1 34)) rfl rfl) (Eq.trans (b := (σ.1 35)) rfl rfl) (Eq.trans (b := (σ.2.1 36)) rfl rfl) (Eq.trans (b := (σ.2.1 37)) rfl rfl) (Eq.trans (b := (σ.2.1 38)) rfl rfl) (Eq.trans (b := (σ.2.1 39)) rfl rfl) (Eq.trans (b := (σ.2.1 40)) rfl rfl) (Eq.trans (b := (σ.2.1 41)) rfl rfl) (Eq.trans (b := (σ.2.1 42)) rfl rfl) (Eq.trans (b := (σ.2.1 43)) rfl rfl) (Eq.trans (b := (σ.2.1 44)) rfl rfl) (Eq.trans (b := (σ.2.1 45)) rfl rfl) (Eq.trans (b := (σ.2.1 46)) rfl rfl) (Eq.trans (b := (σ.1 47)) rfl rfl) (Eq.trans (b := (σ.2.1 48)) rfl rfl) (Eq.trans (b := (σ.1 49)) rfl rfl) (Eq.trans (b := (σ.2.1 50)) rfl rfl) (Eq.trans (b := (upd (σ.2.1 51) x1.toNatClampNeg (3 : Int32))) rfl rfl) (Eq.trans (b := (vp_updL (σ.2.2.1 52) x1.toNatClampNeg (0 : Int64))) rfl rfl) (Eq.trans (b := (vp_updL (σ.2.2.1 53) x1.toNatClampNeg (0 : Int64))) rfl rfl) (Eq.trans (b := (vf_upd (σ.2.2.2) x1.toNatClampNeg x8)) rfl rfl) (Eq.trans (b := (σ.1 55)) rfl rfl) (Eq.trans (b := (σ.1 56)) rfl rfl) (Eq.trans (b := (σ.1 57)) rfl rfl) (Eq.trans (b := (σ.2.1 58)) rfl rfl) (Eq.trans (b := (σ.1 59)) rfl rfl)
        exact r_retv C ⟨(upd (σ.2.1 51) x1.toNatClampNeg (3 : Int32)), (vp_updL (σ.2.2.1 52) x1.toNatClampNeg (0 : Int64)), (vp_updL (σ.2.2.1 53) x1.toNatClampNeg (0 : Int64)), (vf_upd (σ.2.2.2) x1.toNatClampNeg x8), (σ.1 56)⟩ ⟨(v_unary_8 σ x1 x3 x5 x7 x8 hpre_0 hpre_1 hpre_2 hpre_3 ex1 tx1 ex3 tx3 c4 ex5 tx5 c6 ex7 ex8), (v_unary_9 σ k0 x1 x3 x5 x7 x8 hpre_0 hpre_1 hpre_2 hpre_3 ex1 tx1 c2 ex3 tx3 c4 ex5 tx5 c6 ex7 ex8)⟩ hP hS dX12_unary_118
    · have c4 : x3.toInt = 2 := by have h := z_eq c4; rw [show (2 : Int32).toInt = 2 from by decide +kernel] at h; exact h
      refine lv_aload_n hx hb dX12_unary_63 rfl (lv_at hl 1 rfl) ?_
      refine rg_52 C hP wm_206 dX12_unary_64 ?_
      refine lv_iload_n hx hb dX12_unary_67 rfl (lv_at hl 0 rfl) ?_
      refine ra_52 (f := (σ.2.2.1 52)) C hP rfl (v_unary_10 σ x1 x3 hpre_0 hpre_1 hpre_2 ex1 tx1 ex3 tx3 c4) dX12_unary_68 (fun x10 ex10 => ?_)
      have tx10 : x10.toInt = ((σ.2.2.1 52) ((σ.1 55).toInt - 1).toNat).toInt := by rw [ex10, clampN, tx1]
      refine lv_l2i hx hb dX12_unary_69 rfl ?_
      refine lv_topi (fun x11 ex11 => ?_)
      have tx11 : -2147483648 ≤ x10.toInt → x10.toInt < 2147483648 → x11.toInt = x10.toInt := z_l2i ex11
      refine lv_ineg hx hb dX12_unary_70 ?_
      refine lv_topi (fun x12 ex12 => ?_)
      refine lv_istore_n (lv' := [(3, .int x12), (2, .int x1), (0, .ref (ad 0)), (1, .int k0)]) hx hb dX12_unary_71 rfl hl (by decide) rfl (fun ls hl => ?_)
      refine lv_aload_n hx hb dX12_unary_72 rfl (lv_at hl 2 rfl) ?_
      refine lv_iload_n hx hb dX12_unary_73 rfl (lv_at hl 1 rfl) ?_
      refine lv_iconst (v := 2) hx hb dX12_unary_74 (by decide +kernel) ?_
      refine lv_iload_n hx hb dX12_unary_75 rfl (lv_at hl 0 rfl) ?_
      refine lv_i2l hx hb dX12_unary_76 rfl ?_
      refine lv_topl (fun x13 ex13 => ?_)
      have tx13 : x13.toInt = x12.toInt := by rw [ex13]; exact Int32.toInt_toInt64 _
      refine lv_dconst0 hx hb dX12_unary_77 ?_
      refine r_callVv (As := [.int x1, .int 2, .long x13, .double FP.dconst0]) (rest := []) C hP hS hl.1 ⟨Nat.zero_le _, Nat.zero_le _⟩ (M_set l D cy sz0 sa ad σ s.heap.size x1 (2 : Int32) x13 FP.dconst0 (v_unary_11 σ x1 x3 x10 x11 x12 x13 hpre_0 hpre_1 hpre_2 ex1 tx1 ex3 tx3 c4 ex10 tx10 ex11 tx11 ex12 ex13 tx13)) (n := 4) ⟨wm_213, wm_207, by decide +kernel⟩ ⟨wm_214, wm_215, wm_10⟩ rfl rfl (lv_room (Nat.le_of_ble_eq_true rfl)) ⟨Nat.le_of_ble_eq_true rfl, Nat.le_of_ble_eq_true rfl⟩ dX12_unary_78 (fun u H locs hr14 hP hS => ?_)
      have hr14 : True := hr14
      have hP : RP D cy ad (rR (rJ (rJ (rA σ 51 (upd (σ.2.1 51) x1.toNatClampNeg (2 : Int32))) 52 (vp_updL (σ.2.2.1 52) x1.toNatClampNeg x13)) 53 (vp_updL (σ.2.2.1 53) x1.toNatClampNeg (0 : Int64))) (vf_upd (σ.2.2.2) x1.toNatClampNeg FP.dconst0)) H := hP
      refine lv_goto (tgt := 118) hx hb dX12_unary_81 (by decide) ?_
      have hP : RP D cy ad (rS (rR (rJ (rJ (rA σ 51 (upd (σ.2.1 51) x1.toNatClampNeg (2 : Int32))) 52 (vp_updL (σ.2.2.1 52) x1.toNatClampNeg x13)) 53 (vp_updL (σ.2.2.1 53) x1.toNatClampNeg (0 : Int64))) (vf_upd (σ.2.2.2) x1.toNatClampNeg FP.dconst0)) 56 (σ.1 56)) H := RP.cong hP (Eq.trans (b := (σ.1 0)) rfl rfl) (Eq.trans (b := (σ.1 1)) rfl rfl) (Eq.trans (b := (σ.2.1 2)) rfl rfl) (Eq.trans (b := (σ.1 3)) rfl rfl) (Eq.trans (b := (σ.2.1 4)) rfl rfl) (Eq.trans (b := (σ.2.1 5)) rfl rfl) (Eq.trans (b := (σ.2.2.1 6)) rfl rfl) (Eq.trans (b := (σ.2.1 7)) rfl rfl) (Eq.trans (b := (σ.1 8)) rfl rfl) (Eq.trans (b := (σ.1 9)) rfl rfl) (Eq.trans (b := (σ.1 10)) rfl rfl) (Eq.trans (b := (σ.2.1 11)) rfl rfl) (Eq.trans (b := (σ.2.2.1 12)) rfl rfl) (Eq.trans (b := (σ.2.1 13)) rfl rfl) (Eq.trans (b := (σ.1 14)) rfl rfl) (Eq.trans (b := (σ.1 15)) rfl rfl) (Eq.trans (b := (σ.1 16)) rfl rfl) (Eq.trans (b := (σ.1 17)) rfl rfl) (Eq.trans (b := (σ.1 18)) rfl rfl) (Eq.trans (b := (σ.1 19)) rfl rfl) (Eq.trans (b := (σ.2.1 20)) rfl rfl) (Eq.trans (b := (σ.2.1 21)) rfl rfl) (Eq.trans (b := (σ.2.1 22)) rfl rfl) (Eq.trans (b := (σ.2.1 23)) rfl rfl) (Eq.trans (b := (σ.2.1 24)) rfl rfl) (Eq.trans (b := (σ.2.1 25)) rfl rfl) (Eq.trans (b := (σ.2.1 26)) rfl rfl) (Eq.trans (b := (σ.2.1 27)) rfl rfl) (Eq.trans (b := (σ.2.1 28)) rfl rfl) (Eq.trans (b := (σ.1 29)) rfl rfl) (Eq.trans (b := (σ.2.1 30)) rfl rfl) (Eq.trans (b := (σ.2.1 31)) rfl rfl) (Eq.trans (b := (σ.2.1 32)) rfl rfl) (Eq.trans (b := (σ.1 33)) rfl rfl) (Eq.trans (b := (σ.1 34)) rfl rfl) (Eq.trans (b := (σ.1 35)) rfl rfl) (Eq.trans (b := (σ.2.1 36)) rfl rfl) (Eq.trans (b := (σ.2.1 37)) rfl rfl) (Eq.trans (b := (σ.2.1 38)) rfl rfl) (Eq.trans (b := (σ.2.1 39)) rfl rfl) (Eq.trans (b := (σ.2.1 40)) rfl rfl) (Eq.trans (b := (σ.2.1 41)) rfl rfl) (Eq.trans (b := (σ.2.1 42)) rfl rfl) (Eq.trans (b := (σ.2.1 43)) rfl rfl) (Eq.trans (b := (σ.2.1 44)) rfl rfl) (Eq.trans (b := (σ.2.1 45)) rfl rfl) (Eq.trans (b := (σ.2.1 46)) rfl rfl) (Eq.trans (b := (σ.1 47)) rfl rfl) (Eq.trans (b := (σ.2.1 48)) rfl rfl) (Eq.trans (b := (σ.1 49)) rfl rfl) (Eq.trans (b := (σ.2.1 50)) rfl rfl) (Eq.trans (b := (upd (σ.2.1 51) x1.toNatClampNeg (2 : Int32))) rfl rfl) (Eq.trans (b := (vp_updL (σ.2.2.1 52) x1.toNatClampNeg x13)) rfl rfl) (Eq.trans (b := (vp_updL (σ.2.2.1 53) x1.toNatClampNeg (0 : Int64))) rfl rfl) (Eq.trans (b := (vf_upd (σ.2.2.2) x1.toNatClampNeg FP.dconst0)) rfl rfl) (Eq.trans (b := (σ.1 55)) rfl rfl) (Eq.trans (b := (σ.1 56)) rfl rfl) (Eq.trans (b := (σ.1 57)) rfl rfl) (Eq.trans (b := (σ.2.1 58)) rfl rfl) (Eq.trans (b := (σ.1 59)) rfl rfl)
      exact r_retv C ⟨(upd (σ.2.1 51) x1.toNatClampNeg (2 : Int32)), (vp_updL (σ.2.2.1 52) x1.toNatClampNeg x13), (vp_updL (σ.2.2.1 53) x1.toNatClampNeg (0 : Int64)), (vf_upd (σ.2.2.2) x1.toNatClampNeg FP.dconst0), (σ.1 56)⟩ ⟨(v_unary_12 σ x1 x3 x10 x11 x12 x13 hpre_0 hpre_1 hpre_2 hpre_3 ex1 tx1 ex3 tx3 c4 ex10 tx10 ex11 tx11 ex12 ex13 tx13), (v_unary_13 σ k0 x1 x3 x10 x11 x12 x13 hpre_0 hpre_1 hpre_2 hpre_3 ex1 tx1 c2 ex3 tx3 c4 ex10 tx10 ex11 tx11 ex12 ex13 tx13)⟩ hP hS dX12_unary_118
  · have c2 : k0.toInt = 31 := by have h := z_eq c2; rw [show (31 : Int32).toInt = 31 from by decide +kernel] at h; exact h
    refine lv_aload_n hx hb dX12_unary_13 rfl (lv_at hl 1 rfl) ?_
    refine lv_aload_n hx hb dX12_unary_14 rfl (lv_at hl 1 rfl) ?_
    refine rg_51 C hP wm_205 dX12_unary_15 ?_
    refine lv_iload_n hx hb dX12_unary_18 rfl (lv_at hl 0 rfl) ?_
    refine ra_51 (f := (σ.2.1 51)) C hP rfl (v_unary_2 σ x1 hpre_0 hpre_1 hpre_2 ex1 tx1) dX12_unary_19 (fun x15 ex15 => ?_)
    have tx15 : x15.toInt = ((σ.2.1 51) ((σ.1 55).toInt - 1).toNat).toInt := by rw [ex15, clampN, tx1]
    refine lv_iconst (v := 1) hx hb dX12_unary_20 (by decide +kernel) ?_
    refine lv_icmp_ne (tgt := 31) hx hb dX12_unary_21 (by decide) (fun c16 => ?_) (fun c16 => ?_)
    · have c16 : ¬ x15.toInt = 1 := by have h := z_ne c16; rw [show (1 : Int32).toInt = 1 from by decide +kernel] at h; exact h
      refine lv_iconst (v := 1) hx hb dX12_unary_31 (by decide +kernel) ?_
      refine rp_56 C hP hS wm_242 dX12_unary_32 (fun H locs hP hS => ?_)
      refine lv_aload_n hx hb dX12_unary_35 rfl (lv_at hl 1 rfl) ?_
      refine lv_iload_n hx hb dX12_unary_36 rfl (lv_at hl 0 rfl) ?_
      refine lv_iconst (v := 1) hx hb dX12_unary_37 (by decide +kernel) ?_
      refine lv_lconst (v := 1) hx hb dX12_unary_38 rfl ?_
      refine lv_aload_n hx hb dX12_unary_39 rfl (lv_at hl 1 rfl) ?_
      refine rg_52 C hP wm_206 dX12_unary_40 ?_
      refine lv_iload_n hx hb dX12_unary_43 rfl (lv_at hl 0 rfl) ?_
      refine ra_52 (f := (σ.2.2.1 52)) C hP rfl (v_unary_14 σ x1 x15 hpre_0 hpre_1 hpre_2 ex1 tx1 ex15 tx15 c16) dX12_unary_44 (fun x17 ex17 => ?_)
      have tx17 : x17.toInt = ((σ.2.2.1 52) ((σ.1 55).toInt - 1).toNat).toInt := by rw [ex17, clampN, tx1]
      refine lv_lsub hx hb dX12_unary_45 ?_
      refine lv_topl (fun x18 ex18 => ?_)
      refine lv_dconst0 hx hb dX12_unary_46 ?_
      refine r_callVv (As := [.int x1, .int 1, .long x18, .double FP.dconst0]) (rest := []) C hP hS hl.1 ⟨Nat.zero_le _, Nat.zero_le _⟩ (M_set l D cy sz0 sa ad (rS σ 56 (1 : Int32)) H.size x1 (1 : Int32) x18 FP.dconst0 (v_unary_15 σ x1 x15 x17 x18 hpre_0 hpre_1 hpre_2 ex1 tx1 ex15 tx15 c16 ex17 tx17 ex18)) (n := 4) ⟨wm_213, wm_207, by decide +kernel⟩ ⟨wm_214, wm_215, wm_10⟩ rfl rfl (lv_room (Nat.le_of_ble_eq_true rfl)) ⟨Nat.le_of_ble_eq_true rfl, Nat.le_of_ble_eq_true rfl⟩ dX12_unary_47 (fun u H locs hr19 hP hS => ?_)
      have hr19 : True := hr19
      have hP : RP D cy ad (rR (rJ (rJ (rA (rS σ 56 (1 : Int32)) 51 (upd (σ.2.1 51) x1.toNatClampNeg (1 : Int32))) 52 (vp_updL (σ.2.2.1 52) x1.toNatClampNeg x18)) 53 (vp_updL (σ.2.2.1 53) x1.toNatClampNeg (0 : Int64))) (vf_upd (σ.2.2.2) x1.toNatClampNeg FP.dconst0)) H := hP
      refine lv_goto (tgt := 118) hx hb dX12_unary_50 (by decide) ?_
      have hP : RP D cy ad (rS (rR (rJ (rJ (rA σ 51 (upd (σ.2.1 51) x1.toNatClampNeg (1 : Int32))) 52 (vp_updL (σ.2.2.1 52) x1.toNatClampNeg x18)) 53 (vp_updL (σ.2.2.1 53) x1.toNatClampNeg (0 : Int64))) (vf_upd (σ.2.2.2) x1.toNatClampNeg FP.dconst0)) 56 (1 : Int32)) H := RP.cong hP (Eq.trans (b := (σ.1 0)) rfl rfl) (Eq.trans (b := (σ.1 1)) rfl rfl) (Eq.trans (b := (σ.2.1 2)) rfl rfl) (Eq.trans (b := (σ.1 3)) rfl rfl) (Eq.trans (b := (σ.2.1 4)) rfl rfl) (Eq.trans (b := (σ.2.1 5)) rfl rfl) (Eq.trans (b := (σ.2.2.1 6)) rfl rfl) (Eq.trans (b := (σ.2.1 7)) rfl rfl) (Eq.trans (b := (σ.1 8)) rfl rfl) (Eq.trans (b := (σ.1 9)) rfl rfl) (Eq.trans (b := (σ.1 10)) rfl rfl) (Eq.trans (b := (σ.2.1 11)) rfl rfl) (Eq.trans (b := (σ.2.2.1 12)) rfl rfl) (Eq.trans (b := (σ.2.1 13)) rfl rfl) (Eq.trans (b := (σ.1 14)) rfl rfl) (Eq.trans (b := (σ.1 15)) rfl rfl) (Eq.trans (b := (σ.1 16)) rfl rfl) (Eq.trans (b := (σ.1 17)) rfl rfl) (Eq.trans (b := (σ.1 18)) rfl rfl) (Eq.trans (b := (σ.1 19)) rfl rfl) (Eq.trans (b := (σ.2.1 20)) rfl rfl) (Eq.trans (b := (σ.2.1 21)) rfl rfl) (Eq.trans (b := (σ.2.1 22)) rfl rfl) (Eq.trans (b := (σ.2.1 23)) rfl rfl) (Eq.trans (b := (σ.2.1 24)) rfl rfl) (Eq.trans (b := (σ.2.1 25)) rfl rfl) (Eq.trans (b := (σ.2.1 26)) rfl rfl) (Eq.trans (b := (σ.2.1 27)) rfl rfl) (Eq.trans (b := (σ.2.1 28)) rfl rfl) (Eq.trans (b := (σ.1 29)) rfl rfl) (Eq.trans (b := (σ.2.1 30)) rfl rfl) (Eq.trans (b := (σ.2.1 31)) rfl rfl) (Eq.trans (b := (σ.2.1 32)) rfl rfl) (Eq.trans (b := (σ.1 33)) rfl rfl) (Eq.trans (b := (σ.1 34)) rfl rfl) (Eq.trans (b := (σ.1 35)) rfl rfl) (Eq.trans (b := (σ.2.1 36)) rfl rfl) (Eq.trans (b := (σ.2.1 37)) rfl rfl) (Eq.trans (b := (σ.2.1 38)) rfl rfl) (Eq.trans (b := (σ.2.1 39)) rfl rfl) (Eq.trans (b := (σ.2.1 40)) rfl rfl) (Eq.trans (b := (σ.2.1 41)) rfl rfl) (Eq.trans (b := (σ.2.1 42)) rfl rfl) (Eq.trans (b := (σ.2.1 43)) rfl rfl) (Eq.trans (b := (σ.2.1 44)) rfl rfl) (Eq.trans (b := (σ.2.1 45)) rfl rfl) (Eq.trans (b := (σ.2.1 46)) rfl rfl) (Eq.trans (b := (σ.1 47)) rfl rfl) (Eq.trans (b := (σ.2.1 48)) rfl rfl) (Eq.trans (b := (σ.1 49)) rfl rfl) (Eq.trans (b := (σ.2.1 50)) rfl rfl) (Eq.trans (b := (upd (σ.2.1 51) x1.toNatClampNeg (1 : Int32))) rfl rfl) (Eq.trans (b := (vp_updL (σ.2.2.1 52) x1.toNatClampNeg x18)) rfl rfl) (Eq.trans (b := (vp_updL (σ.2.2.1 53) x1.toNatClampNeg (0 : Int64))) rfl rfl) (Eq.trans (b := (vf_upd (σ.2.2.2) x1.toNatClampNeg FP.dconst0)) rfl rfl) (Eq.trans (b := (σ.1 55)) rfl rfl) (Eq.trans (b := (1 : Int32)) rfl rfl) (Eq.trans (b := (σ.1 57)) rfl rfl) (Eq.trans (b := (σ.2.1 58)) rfl rfl) (Eq.trans (b := (σ.1 59)) rfl rfl)
      exact r_retv C ⟨(upd (σ.2.1 51) x1.toNatClampNeg (1 : Int32)), (vp_updL (σ.2.2.1 52) x1.toNatClampNeg x18), (vp_updL (σ.2.2.1 53) x1.toNatClampNeg (0 : Int64)), (vf_upd (σ.2.2.2) x1.toNatClampNeg FP.dconst0), (1 : Int32)⟩ ⟨(v_unary_16 σ x1 x15 x17 x18 hpre_0 hpre_1 hpre_2 ex1 tx1 ex15 tx15 c16 ex17 tx17 ex18), (v_unary_17 σ k0 x1 x15 x17 x18 hpre_0 hpre_1 hpre_2 hpre_3 ex1 tx1 c2 ex15 tx15 c16 ex17 tx17 ex18)⟩ hP hS dX12_unary_118
    · have c16 : x15.toInt = 1 := by have h := z_eq c16; rw [show (1 : Int32).toInt = 1 from by decide +kernel] at h; exact h
      refine lv_aload_n hx hb dX12_unary_24 rfl (lv_at hl 1 rfl) ?_
      refine rg_56 (v := (σ.1 56)) C hP rfl wm_242 dX12_unary_25 ?_
      refine lv_goto (tgt := 32) hx hb dX12_unary_28 (by decide) ?_
      refine rp_56 C hP hS wm_242 dX12_unary_32 (fun H locs hP hS => ?_)
      refine lv_aload_n hx hb dX12_unary_35 rfl (lv_at hl 1 rfl) ?_
      refine lv_iload_n hx hb dX12_unary_36 rfl (lv_at hl 0 rfl) ?_
      refine lv_iconst (v := 1) hx hb dX12_unary_37 (by decide +kernel) ?_
      refine lv_lconst (v := 1) hx hb dX12_unary_38 rfl ?_
      refine lv_aload_n hx hb dX12_unary_39 rfl (lv_at hl 1 rfl) ?_
      refine rg_52 C hP wm_206 dX12_unary_40 ?_
      refine lv_iload_n hx hb dX12_unary_43 rfl (lv_at hl 0 rfl) ?_
      refine ra_52 (f := (σ.2.2.1 52)) C hP rfl (v_unary_18 σ x1 x15 hpre_0 hpre_1 hpre_2 ex1 tx1 ex15 tx15 c16) dX12_unary_44 (fun x20 ex20 => ?_)
      have tx20 : x20.toInt = ((σ.2.2.1 52) ((σ.1 55).toInt - 1).toNat).toInt := by rw [ex20, clampN, tx1]
      refine lv_lsub hx hb dX12_unary_45 ?_
      refine lv_topl (fun x21 ex21 => ?_)
      refine lv_dconst0 hx hb dX12_unary_46 ?_
      refine r_callVv (As := [.int x1, .int 1, .long x21, .double FP.dconst0]) (rest := []) C hP hS hl.1 ⟨Nat.zero_le _, Nat.zero_le _⟩ (M_set l D cy sz0 sa ad (rS σ 56 (σ.1 56)) H.size x1 (1 : Int32) x21 FP.dconst0 (v_unary_19 σ x1 x15 x20 x21 hpre_0 hpre_1 hpre_2 ex1 tx1 ex15 tx15 c16 ex20 tx20 ex21)) (n := 4) ⟨wm_213, wm_207, by decide +kernel⟩ ⟨wm_214, wm_215, wm_10⟩ rfl rfl (lv_room (Nat.le_of_ble_eq_true rfl)) ⟨Nat.le_of_ble_eq_true rfl, Nat.le_of_ble_eq_true rfl⟩ dX12_unary_47 (fun u H locs hr22 hP hS => ?_)
      have hr22 : True := hr22
      have hP : RP D cy ad (rR (rJ (rJ (rA (rS σ 56 (σ.1 56)) 51 (upd (σ.2.1 51) x1.toNatClampNeg (1 : Int32))) 52 (vp_updL (σ.2.2.1 52) x1.toNatClampNeg x21)) 53 (vp_updL (σ.2.2.1 53) x1.toNatClampNeg (0 : Int64))) (vf_upd (σ.2.2.2) x1.toNatClampNeg FP.dconst0)) H := hP
      refine lv_goto (tgt := 118) hx hb dX12_unary_50 (by decide) ?_
      have hP : RP D cy ad (rS (rR (rJ (rJ (rA σ 51 (upd (σ.2.1 51) x1.toNatClampNeg (1 : Int32))) 52 (vp_updL (σ.2.2.1 52) x1.toNatClampNeg x21)) 53 (vp_updL (σ.2.2.1 53) x1.toNatClampNeg (0 : Int64))) (vf_upd (σ.2.2.2) x1.toNatClampNeg FP.dconst0)) 56 (σ.1 56)) H := RP.cong hP (Eq.trans (b := (σ.1 0)) rfl rfl) (Eq.trans (b := (σ.1 1)) rfl rfl) (Eq.trans (b := (σ.2.1 2)) rfl rfl) (Eq.trans (b := (σ.1 3)) rfl rfl) (Eq.trans (b := (σ.2.1 4)) rfl rfl) (Eq.trans (b := (σ.2.1 5)) rfl rfl) (Eq.trans (b := (σ.2.2.1 6)) rfl rfl) (Eq.trans (b := (σ.2.1 7)) rfl rfl) (Eq.trans (b := (σ.1 8)) rfl rfl) (Eq.trans (b := (σ.1 9)) rfl rfl) (Eq.trans (b := (σ.1 10)) rfl rfl) (Eq.trans (b := (σ.2.1 11)) rfl rfl) (Eq.trans (b := (σ.2.2.1 12)) rfl rfl) (Eq.trans (b := (σ.2.1 13)) rfl rfl) (Eq.trans (b := (σ.1 14)) rfl rfl) (Eq.trans (b := (σ.1 15)) rfl rfl) (Eq.trans (b := (σ.1 16)) rfl rfl) (Eq.trans (b := (σ.1 17)) rfl rfl) (Eq.trans (b := (σ.1 18)) rfl rfl) (Eq.trans (b := (σ.1 19)) rfl rfl) (Eq.trans (b := (σ.2.1 20)) rfl rfl) (Eq.trans (b := (σ.2.1 21)) rfl rfl) (Eq.trans (b := (σ.2.1 22)) rfl rfl) (Eq.trans (b := (σ.2.1 23)) rfl rfl) (Eq.trans (b := (σ.2.1 24)) rfl rfl) (Eq.trans (b := (σ.2.1 25)) rfl rfl) (Eq.trans (b := (σ.2.1 26)) rfl rfl) (Eq.trans (b := (σ.2.1 27)) rfl rfl) (Eq.trans (b := (σ.2.1 28)) rfl rfl) (Eq.trans (b := (σ.1 29)) rfl rfl) (Eq.trans (b := (σ.2.1 30)) rfl rfl) (Eq.trans (b := (σ.2.1 31)) rfl rfl) (Eq.trans (b := (σ.2.1 32)) rfl rfl) (Eq.trans (b := (σ.1 33)) rfl rfl) (Eq.trans (b := (σ.1 34)) rfl rfl) (Eq.trans (b := (σ.1 35)) rfl rfl) (Eq.trans (b := (σ.2.1 36)) rfl rfl) (Eq.trans (b := (σ.2.1 37)) rfl rfl) (Eq.trans (b := (σ.2.1 38)) rfl rfl) (Eq.trans (b := (σ.2.1 39)) rfl rfl) (Eq.trans (b := (σ.2.1 40)) rfl rfl) (Eq.trans (b := (σ.2.1 41)) rfl rfl) (Eq.trans (b := (σ.2.1 42)) rfl rfl) (Eq.trans (b := (σ.2.1 43)) rfl rfl) (Eq.trans (b := (σ.2.1 44)) rfl rfl) (Eq.trans (b := (σ.2.1 45)) rfl rfl) (Eq.trans (b := (σ.2.1 46)) rfl rfl) (Eq.trans (b := (σ.1 47)) rfl rfl) (Eq.trans (b := (σ.2.1 48)) rfl rfl) (Eq.trans (b := (σ.1 49)) rfl rfl) (Eq.trans (b := (σ.2.1 50)) rfl rfl) (Eq.trans (b := (upd (σ.2.1 51) x1.toNatClampNeg (1 : Int32))) rfl rfl) (Eq.trans (b := (vp_updL (σ.2.2.1 52) x1.toNatClampNeg x21)) rfl rfl) (Eq.trans (b := (vp_updL (σ.2.2.1 53) x1.toNatClampNeg (0 : Int64))) rfl rfl) (Eq.trans (b := (vf_upd (σ.2.2.2) x1.toNatClampNeg FP.dconst0)) rfl rfl) (Eq.trans (b := (σ.1 55)) rfl rfl) (Eq.trans (b := (σ.1 56)) rfl rfl) (Eq.trans (b := (σ.1 57)) rfl rfl) (Eq.trans (b := (σ.2.1 58)) rfl rfl) (Eq.trans (b := (σ.1 59)) rfl rfl)
      exact r_retv C ⟨(upd (σ.2.1 51) x1.toNatClampNeg (1 : Int32)), (vp_updL (σ.2.2.1 52) x1.toNatClampNeg x21), (vp_updL (σ.2.2.1 53) x1.toNatClampNeg (0 : Int64)), (vf_upd (σ.2.2.2) x1.toNatClampNeg FP.dconst0), (σ.1 56)⟩ ⟨(v_unary_20 σ x1 x15 x20 x21 hpre_0 hpre_1 hpre_2 hpre_3 ex1 tx1 ex15 tx15 c16 ex20 tx20 ex21), (v_unary_21 σ k0 x1 x15 x20 x21 hpre_0 hpre_1 hpre_2 hpre_3 ex1 tx1 c2 ex15 tx15 c16 ex20 tx20 ex21)⟩ hP hS dX12_unary_118
