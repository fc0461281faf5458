-- pre:realOf@2 @2
theorem v_reals_1 (σ : RS) (k0 : Int32) (k1 : Int32) (hpre_0 : 0 ≤ k0.toInt) (hpre_1 : k0.toInt < 980) (hpre_2 : 0 ≤ k1.toInt) (hpre_3 : k1.toInt < 980) (hpre_4 : ((σ.2.1 51) k0.toNatClampNeg).toInt = 3 → FN ((σ.2.2.2) k0.toNatClampNeg)) (hpre_5 : ((σ.2.1 51) k1.toNatClampNeg).toInt = 3 → FN ((σ.2.2.2) k1.toNatClampNeg)) : 0 ≤ k0.toInt ∧ k0.toInt < 980 ∧ (((σ.2.1 51) k0.toNatClampNeg).toInt = 3 → FN ((σ.2.2.2) k0.toNatClampNeg)) := by
  refine ⟨?_, ?_, ?_⟩ <;> first | assumption | omega | (subst_vars; omega) | trivial
-- pre:realOf@9 @9
theorem v_reals_2 (σ : RS) (k0 : Int32) (k1 : Int32) (hpre_0 : 0 ≤ k0.toInt) (hpre_1 : k0.toInt < 980) (hpre_2 : 0 ≤ k1.toInt) (hpre_3 : k1.toInt < 980) (hpre_4 : ((σ.2.1 51) k0.toNatClampNeg).toInt = 3 → FN ((σ.2.2.2) k0.toNatClampNeg)) (hpre_5 : ((σ.2.1 51) k1.toNatClampNeg).toInt = 3 → FN ((σ.2.2.2) k1.toNatClampNeg)) : 0 ≤ k1.toInt ∧ k1.toInt < 980 ∧ (((σ.2.1 51) k1.toNatClampNeg).toInt = 3 → FN ((σ.2.2.2) k1.toNatClampNeg)) := by
  refine ⟨?_, ?_, ?_⟩ <;> first | assumption | omega | (subst_vars; omega) | trivial
-- dead@64 @75
theorem v_reals_3 (k2 : Int32) (hpre_7 : 16 ≤ k2.toInt) (hpre_8 : k2.toInt ≤ 19) (c3 : ¬ k2.toInt = 19) (c4 : ¬ k2.toInt = 16) (c5 : ¬ k2.toInt = 17) (c6 : ¬ k2.toInt = 18) : False := by
  first | assumption | omega | (subst_vars; omega) | trivial
-- nan@71 @71
theorem v_reals_4 (r1 : UInt64) (r2 : UInt64) (hr1 : FN r1) (hr2 : FN r2) : vf_n64 (FP.dmul r1 r2) := by
  obtain ⟨d, g1, g2⟩ := fp_mul hr1 hr2
  exact fp_n g1 g2
-- pre:set@118 @118
theorem v_reals_5 (σ : RS) (k0 : Int32) (k1 : Int32) (hpre_0 : 0 ≤ k0.toInt) (hpre_1 : k0.toInt < 980) (hpre_2 : 0 ≤ k1.toInt) (hpre_3 : k1.toInt < 980) (hpre_4 : ((σ.2.1 51) k0.toNatClampNeg).toInt = 3 → FN ((σ.2.2.2) k0.toNatClampNeg)) (hpre_5 : ((σ.2.1 51) k1.toNatClampNeg).toInt = 3 → FN ((σ.2.2.2) k1.toNatClampNeg)) : 0 ≤ k0.toInt ∧ k0.toInt < 980 := by
  refine ⟨?_, ?_⟩ <;> first | assumption | omega | (subst_vars; omega) | trivial
-- post @121
theorem v_reals_6 (σ : RS) (k0 : Int32) (k1 : Int32) (r1 : UInt64) (r2 : UInt64) (x7 : UInt64) (x8 : Int32) (hpre_0 : 0 ≤ k0.toInt) (hpre_1 : k0.toInt < 980) (hpre_2 : 0 ≤ k1.toInt) (hpre_3 : k1.toInt < 980) (hpre_4 : ((σ.2.1 51) k0.toNatClampNeg).toInt = 3 → FN ((σ.2.2.2) k0.toNatClampNeg)) (hpre_5 : ((σ.2.1 51) k1.toNatClampNeg).toInt = 3 → FN ((σ.2.2.2) k1.toNatClampNeg)) (hr1 : FN r1) (hr2 : FN r2) (ex7 : x7 = FP.dmul r1 r2) (ex8 : x8 = Op.cmpValue (FP.dcmp x7 (4786511204640096256 : UInt64)) .l) (c9 : 0 < x8.toInt) : 0 ≤ (3 : Int32).toInt ∧ (3 : Int32).toInt ≤ 11 ∧ (((3 : Int32).toInt = 2 ∧ (upd (σ.2.1 51) k0.toNatClampNeg (3 : Int32)) = (σ.2.1 51) ∧ (vp_updL (σ.2.2.1 52) k0.toNatClampNeg (0 : Int64)) = (σ.2.2.1 52) ∧ (vp_updL (σ.2.2.1 53) k0.toNatClampNeg (0 : Int64)) = (σ.2.2.1 53) ∧ (vf_upd (σ.2.2.2) k0.toNatClampNeg x7) = (σ.2.2.2)) ∨ (Cell1 (σ.2.1 51) (upd (σ.2.1 51) k0.toNatClampNeg (3 : Int32)) (σ.2.2.1 52) (vp_updL (σ.2.2.1 52) k0.toNatClampNeg (0 : Int64)) (σ.2.2.2) (vf_upd (σ.2.2.2) k0.toNatClampNeg x7) k0.toNatClampNeg (fun k v r => k = 3 ∧ ((3 : Int32).toInt = 0 → FN r)))) := by
  have q3 : (3 : Int32).toInt = 3 := by decide +kernel
  have ql0 : (0 : Int64).toInt = 0 := by decide +kernel
  refine ⟨by omega, by omega, Or.inr ⟨_, _, _, rfl, rfl, rfl, q3, fun h0 => ?_⟩⟩
  obtain ⟨d, g1, g2⟩ := fp_mul hr1 hr2
  rcases fp_inf g1 (ex7.trans g2) with h | h | h
  · exact h
  · exfalso
    have h_x8 := ex8; rw [h] at h_x8
    have k_x8 : x8.toInt = 1 := by rw [h_x8]; decide +kernel
    omega
  · exfalso
    have h_x8 := ex8; rw [h] at h_x8
    have k_x8 : x8.toInt = -1 := by rw [h_x8]; decide +kernel
    omega
-- post2 @121
theorem v_reals_7 (σ : RS) (k0 : Int32) (k1 : Int32) (k2 : Int32) (r1 : UInt64) (r2 : UInt64) (x7 : UInt64) (x8 : Int32) (hpre_0 : 0 ≤ k0.toInt) (hpre_1 : k0.toInt < 980) (hpre_2 : 0 ≤ k1.toInt) (hpre_3 : k1.toInt < 980) (hpre_4 : ((σ.2.1 51) k0.toNatClampNeg).toInt = 3 → FN ((σ.2.2.2) k0.toNatClampNeg)) (hpre_5 : ((σ.2.1 51) k1.toNatClampNeg).toInt = 3 → FN ((σ.2.2.2) k1.toNatClampNeg)) (hpre_6 : (σ.1 56).toInt = 0) (hpre_7 : 16 ≤ k2.toInt) (hpre_8 : k2.toInt ≤ 19) (hr1y : ∀ v9 : QV, QAT (qH (σ.2.1 36) (σ.2.1 37) (σ.2.1 38) (σ.2.1 39) (σ.2.1 40) (σ.2.1 41) (σ.2.1 42) (σ.2.1 43) (σ.2.1 44) (σ.2.1 45) (σ.2.1 46) (σ.2.1 48)) (σ.1 47).toInt ((σ.2.1 51), (σ.2.2.1 52), (σ.2.2.1 53), (σ.2.2.2)) k0.toNatClampNeg v9 → qNum v9 = true → r1 = qRe v9) (hr1 : FN r1) (hr2y : ∀ v9 : QV, QAT (qH (σ.2.1 36) (σ.2.1 37) (σ.2.1 38) (σ.2.1 39) (σ.2.1 40) (σ.2.1 41) (σ.2.1 42) (σ.2.1 43) (σ.2.1 44) (σ.2.1 45) (σ.2.1 46) (σ.2.1 48)) (σ.1 47).toInt ((σ.2.1 51), (σ.2.2.1 52), (σ.2.2.1 53), (σ.2.2.2)) k1.toNatClampNeg v9 → qNum v9 = true → r2 = qRe v9) (hr2 : FN r2) (c3 : ¬ k2.toInt = 19) (c4 : ¬ k2.toInt = 16) (c5 : ¬ k2.toInt = 17) (c6 : k2.toInt = 18) (ex7 : x7 = FP.dmul r1 r2) (ex8 : x8 = Op.cmpValue (FP.dcmp x7 (4786511204640096256 : UInt64)) .l) (c9 : 0 < x8.toInt) : ∀ v9 w9 : QV, QAT (qH (σ.2.1 36) (σ.2.1 37) (σ.2.1 38) (σ.2.1 39) (σ.2.1 40) (σ.2.1 41) (σ.2.1 42) (σ.2.1 43) (σ.2.1 44) (σ.2.1 45) (σ.2.1 46) (σ.2.1 48)) (σ.1 47).toInt ((σ.2.1 51), (σ.2.2.1 52), (σ.2.2.1 53), (σ.2.2.2)) k0.toNatClampNeg v9 → QAT (qH (σ.2.1 36) (σ.2.1 37) (σ.2.1 38) (σ.2.1 39) (σ.2.1 40) (σ.2.1 41) (σ.2.1 42) (σ.2.1 43) (σ.2.1 44) (σ.2.1 45) (σ.2.1 46) (σ.2.1 48)) (σ.1 47).toInt ((σ.2.1 51), (σ.2.2.1 52), (σ.2.2.1 53), (σ.2.2.2)) k1.toNatClampNeg w9 → qNum v9 = true → qNum w9 = true → (σ.1 56).toInt = 0 → (16 ≤ k2.toInt ∧ k2.toInt ≤ 19) → QRES (qH (σ.2.1 36) (σ.2.1 37) (σ.2.1 38) (σ.2.1 39) (σ.2.1 40) (σ.2.1 41) (σ.2.1 42) (σ.2.1 43) (σ.2.1 44) (σ.2.1 45) (σ.2.1 46) (σ.2.1 48)) (σ.1 47).toInt ((σ.2.1 51), (σ.2.2.1 52), (σ.2.2.1 53), (σ.2.2.2)) ((upd (σ.2.1 51) k0.toNatClampNeg (3 : Int32)), (vp_updL (σ.2.2.1 52) k0.toNatClampNeg (0 : Int64)), (vp_updL (σ.2.2.1 53) k0.toNatClampNeg (0 : Int64)), (vf_upd (σ.2.2.2) k0.toNatClampNeg x7)) k0.toNatClampNeg (3 : Int32).toInt (qReals (qRe v9) (qRe w9) k2.toInt) := by
  have q3 : (3 : Int32).toInt = 3 := by decide +kernel
  have ql0 : (0 : Int64).toInt = 0 := by decide +kernel
  intro v9 w9 h9 g9 nv nw h0 hs
  have a := hr1y v9 h9 nv
  have b := hr2y w9 g9 nw
  unfold qReals
  rw [if_neg (by rintro ⟨h, _⟩; omega)]
  have er : x7 = qOp (qRe v9) (qRe w9) k2.toInt := by
    unfold qOp
    rw [ex7, a, b, if_neg (by omega), if_neg (by omega), if_pos (by omega)]
  rw [← er]
  have z1 : qGt x7 4786511204640096256 = true := decide_eq_true (by rw [← ex8]; omega)
  rw [z1]
  exact ⟨by decide +kernel, by decide, by decide, QX.put⟩
-- post @121
theorem v_reals_8 (σ : RS) (k0 : Int32) (k1 : Int32) (r1 : UInt64) (r2 : UInt64) (x7 : UInt64) (x8 : Int32) (x11 : Int32) (hpre_0 : 0 ≤ k0.toInt) (hpre_1 : k0.toInt < 980) (hpre_2 : 0 ≤ k1.toInt) (hpre_3 : k1.toInt < 980) (hpre_4 : ((σ.2.1 51) k0.toNatClampNeg).toInt = 3 → FN ((σ.2.2.2) k0.toNatClampNeg)) (hpre_5 : ((σ.2.1 51) k1.toNatClampNeg).toInt = 3 → FN ((σ.2.2.2) k1.toNatClampNeg)) (hpre_6 : (σ.1 56).toInt = 0) (hr1 : FN r1) (hr2 : FN r2) (ex7 : x7 = FP.dmul r1 r2) (ex8 : x8 = Op.cmpValue (FP.dcmp x7 (4786511204640096256 : UInt64)) .l) (c9 : x8.toInt ≤ 0) (ex11 : x11 = Op.cmpValue (FP.dcmp x7 (14009883241494872064 : UInt64)) .g) (c12 : 0 ≤ x11.toInt) : 0 ≤ (σ.1 56).toInt ∧ (σ.1 56).toInt ≤ 11 ∧ (((σ.1 56).toInt = 2 ∧ (upd (σ.2.1 51) k0.toNatClampNeg (3 : Int32)) = (σ.2.1 51) ∧ (vp_updL (σ.2.2.1 52) k0.toNatClampNeg (0 : Int64)) = (σ.2.2.1 52) ∧ (vp_updL (σ.2.2.1 53) k0.toNatClampNeg (0 : Int64)) = (σ.2.2.1 53) ∧ (vf_upd (σ.2.2.2) k0.toNatClampNeg x7) = (σ.2.2.2)) ∨ (Cell1 (σ.2.1 51) (upd (σ.2.1 51) k0.toNatClampNeg (3 : Int32)) (σ.2.2.1 52) (vp_updL (σ.2.2.1 52) k0.toNatClampNeg (0 : Int64)) (σ.2.2.2) (vf_upd (σ.2.2.2) k0.toNatClampNeg x7) k0.toNatClampNeg (fun k v r => k = 3 ∧ ((σ.1 56).toInt = 0 → FN r)))) := by
  have q3 : (3 : Int32).toInt = 3 := by decide +kernel
  have ql0 : (0 : Int64).toInt = 0 := by decide +kernel
  refine ⟨by omega, by omega, Or.inr ⟨_, _, _, rfl, rfl, rfl, q3, fun h0 => ?_⟩⟩
  obtain ⟨d, g1, g2⟩ := fp_mul hr1 hr2
  rcases fp_inf g1 (ex7.trans g2) with h | h | h
  · exact h
  · exfalso
    have h_x8 := ex8; rw [h] at h_x8
    have k_x8 : x8.toInt = 1 := by rw [h_x8]; decide +kernel
    have h_x11 := ex11; rw [h] at h_x11
    have k_x11 : x11.toInt = 1 := by rw [h_x11]; decide +kernel
    omega
  · exfalso
    have h_x8 := ex8; rw [h] at h_x8
    have k_x8 : x8.toInt = -1 := by rw [h_x8]; decide +kernel
    have h_x11 := ex11; rw [h] at h_x11
    have k_x11 : x11.toInt = -1 := by rw [h_x11]; decide +kernel
    omega
-- post2 @121
theorem v_reals_9 (σ : RS) (k0 : Int32) (k1 : Int32) (k2 : Int32) (r1 : UInt64) (r2 : UInt64) (x7 : UInt64) (x8 : Int32) (x11 : Int32) (hpre_0 : 0 ≤ k0.toInt) (hpre_1 : k0.toInt < 980) (hpre_2 : 0 ≤ k1.toInt) (hpre_3 : k1.toInt < 980) (hpre_4 : ((σ.2.1 51) k0.toNatClampNeg).toInt = 3 → FN ((σ.2.2.2) k0.toNatClampNeg)) (hpre_5 : ((σ.2.1 51) k1.toNatClampNeg).toInt = 3 → FN ((σ.2.2.2) k1.toNatClampNeg)) (hpre_6 : (σ.1 56).toInt = 0) (hpre_7 : 16 ≤ k2.toInt) (hpre_8 : k2.toInt ≤ 19) (hr1y : ∀ v9 : QV, QAT (qH (σ.2.1 36) (σ.2.1 37) (σ.2.1 38) (σ.2.1 39) (σ.2.1 40) (σ.2.1 41) (σ.2.1 42) (σ.2.1 43) (σ.2.1 44) (σ.2.1 45) (σ.2.1 46) (σ.2.1 48)) (σ.1 47).toInt ((σ.2.1 51), (σ.2.2.1 52), (σ.2.2.1 53), (σ.2.2.2)) k0.toNatClampNeg v9 → qNum v9 = true → r1 = qRe v9) (hr1 : FN r1) (hr2y : ∀ v9 : QV, QAT (qH (σ.2.1 36) (σ.2.1 37) (σ.2.1 38) (σ.2.1 39) (σ.2.1 40) (σ.2.1 41) (σ.2.1 42) (σ.2.1 43) (σ.2.1 44) (σ.2.1 45) (σ.2.1 46) (σ.2.1 48)) (σ.1 47).toInt ((σ.2.1 51), (σ.2.2.1 52), (σ.2.2.1 53), (σ.2.2.2)) k1.toNatClampNeg v9 → qNum v9 = true → r2 = qRe v9) (hr2 : FN r2) (c3 : ¬ k2.toInt = 19) (c4 : ¬ k2.toInt = 16) (c5 : ¬ k2.toInt = 17) (c6 : k2.toInt = 18) (ex7 : x7 = FP.dmul r1 r2) (ex8 : x8 = Op.cmpValue (FP.dcmp x7 (4786511204640096256 : UInt64)) .l) (c9 : x8.toInt ≤ 0) (ex11 : x11 = Op.cmpValue (FP.dcmp x7 (14009883241494872064 : UInt64)) .g) (c12 : 0 ≤ x11.toInt) : ∀ v9 w9 : QV, QAT (qH (σ.2.1 36) (σ.2.1 37) (σ.2.1 38) (σ.2.1 39) (σ.2.1 40) (σ.2.1 41) (σ.2.1 42) (σ.2.1 43) (σ.2.1 44) (σ.2.1 45) (σ.2.1 46) (σ.2.1 48)) (σ.1 47).toInt ((σ.2.1 51), (σ.2.2.1 52), (σ.2.2.1 53), (σ.2.2.2)) k0.toNatClampNeg v9 → QAT (qH (σ.2.1 36) (σ.2.1 37) (σ.2.1 38) (σ.2.1 39) (σ.2.1 40) (σ.2.1 41) (σ.2.1 42) (σ.2.1 43) (σ.2.1 44) (σ.2.1 45) (σ.2.1 46) (σ.2.1 48)) (σ.1 47).toInt ((σ.2.1 51), (σ.2.2.1 52), (σ.2.2.1 53), (σ.2.2.2)) k1.toNatClampNeg w9 → qNum v9 = true → qNum w9 = true → (σ.1 56).toInt = 0 → (16 ≤ k2.toInt ∧ k2.toInt ≤ 19) → QRES (qH (σ.2.1 36) (σ.2.1 37) (σ.2.1 38) (σ.2.1 39) (σ.2.1 40) (σ.2.1 41) (σ.2.1 42) (σ.2.1 43) (σ.2.1 44) (σ.2.1 45) (σ.2.1 46) (σ.2.1 48)) (σ.1 47).toInt ((σ.2.1 51), (σ.2.2.1 52), (σ.2.2.1 53), (σ.2.2.2)) ((upd (σ.2.1 51) k0.toNatClampNeg (3 : Int32)), (vp_updL (σ.2.2.1 52) k0.toNatClampNeg (0 : Int64)), (vp_updL (σ.2.2.1 53) k0.toNatClampNeg (0 : Int64)), (vf_upd (σ.2.2.2) k0.toNatClampNeg x7)) k0.toNatClampNeg (σ.1 56).toInt (qReals (qRe v9) (qRe w9) k2.toInt) := by
  have q3 : (3 : Int32).toInt = 3 := by decide +kernel
  have ql0 : (0 : Int64).toInt = 0 := by decide +kernel
  intro v9 w9 h9 g9 nv nw h0 hs
  have a := hr1y v9 h9 nv
  have b := hr2y w9 g9 nw
  unfold qReals
  rw [if_neg (by rintro ⟨h, _⟩; omega)]
  have er : x7 = qOp (qRe v9) (qRe w9) k2.toInt := by
    unfold qOp
    rw [ex7, a, b, if_neg (by omega), if_neg (by omega), if_pos (by omega)]
  rw [← er]
  have z1 : qGt x7 4786511204640096256 = false := decide_eq_false (by rw [← ex8]; omega)
  have z2 : qLt x7 14009883241494872064 = false := decide_eq_false (by rw [← ex11]; omega)
  rw [z1, z2]
  refine ⟨h0, QW.real q3 ?_⟩
  rw [er] at z1 z2 ⊢
  exact q_opfin (h9.ok.re nv) (g9.ok.re nw) (fun e6 e7 e8 => by omega) z1 z2
-- post @121
theorem v_reals_10 (σ : RS) (k0 : Int32) (k1 : Int32) (r1 : UInt64) (r2 : UInt64) (x7 : UInt64) (x8 : Int32) (x11 : Int32) (hpre_0 : 0 ≤ k0.toInt) (hpre_1 : k0.toInt < 980) (hpre_2 : 0 ≤ k1.toInt) (hpre_3 : k1.toInt < 980) (hpre_4 : ((σ.2.1 51) k0.toNatClampNeg).toInt = 3 → FN ((σ.2.2.2) k0.toNatClampNeg)) (hpre_5 : ((σ.2.1 51) k1.toNatClampNeg).toInt = 3 → FN ((σ.2.2.2) k1.toNatClampNeg)) (hr1 : FN r1) (hr2 : FN r2) (ex7 : x7 = FP.dmul r1 r2) (ex8 : x8 = Op.cmpValue (FP.dcmp x7 (4786511204640096256 : UInt64)) .l) (c9 : x8.toInt ≤ 0) (ex11 : x11 = Op.cmpValue (FP.dcmp x7 (14009883241494872064 : UInt64)) .g) (c12 : x11.toInt < 0) : 0 ≤ (3 : Int32).toInt ∧ (3 : Int32).toInt ≤ 11 ∧ (((3 : Int32).toInt = 2 ∧ (upd (σ.2.1 51) k0.toNatClampNeg (3 : Int32)) = (σ.2.1 51) ∧ (vp_updL (σ.2.2.1 52) k0.toNatClampNeg (0 : Int64)) = (σ.2.2.1 52) ∧ (vp_updL (σ.2.2.1 53) k0.toNatClampNeg (0 : Int64)) = (σ.2.2.1 53) ∧ (vf_upd (σ.2.2.2) k0.toNatClampNeg x7) = (σ.2.2.2)) ∨ (Cell1 (σ.2.1 51) (upd (σ.2.1 51) k0.toNatClampNeg (3 : Int32)) (σ.2.2.1 52) (vp_updL (σ.2.2.1 52) k0.toNatClampNeg (0 : Int64)) (σ.2.2.2) (vf_upd (σ.2.2.2) k0.toNatClampNeg x7) k0.toNatClampNeg (fun k v r => k = 3 ∧ ((3 : Int32).toInt = 0 → FN r)))) := by
  have q3 : (3 : Int32).toInt = 3 := by decide +kernel
  have ql0 : (0 : Int64).toInt = 0 := by decide +kernel
  refine ⟨by omega, by omega, Or.inr ⟨_, _, _, rfl, rfl, rfl, q3, fun h0 => ?_⟩⟩
  obtain ⟨d, g1, g2⟩ := fp_mul hr1 hr2
  rcases fp_inf g1 (ex7.trans g2) with h | h | h
  · exact h
  · exfalso
    have h_x8 := ex8; rw [h] at h_x8
    have k_x8 : x8.toInt = 1 := by rw [h_x8]; decide +kernel
    have h_x11 := ex11; rw [h] at h_x11
    have k_x11 : x11.toInt = 1 := by rw [h_x11]; decide +kernel
    omega
  · exfalso
    have h_x8 := ex8; rw [h] at h_x8
    have k_x8 : x8.toInt = -1 := by rw [h_x8]; decide +kernel
    have h_x11 := ex11; rw [h] at h_x11
    have k_x11 : x11.toInt = -1 := by rw [h_x11]; decide +kernel
    omega
-- post2 @121
theorem v_reals_11 (σ : RS) (k0 : Int32) (k1 : Int32) (k2 : Int32) (r1 : UInt64) (r2 : UInt64) (x7 : UInt64) (x8 : Int32) (x11 : Int32) (hpre_0 : 0 ≤ k0.toInt) (hpre_1 : k0.toInt < 980) (hpre_2 : 0 ≤ k1.toInt) (hpre_3 : k1.toInt < 980) (hpre_4 : ((σ.2.1 51) k0.toNatClampNeg).toInt = 3 → FN ((σ.2.2.2) k0.toNatClampNeg)) (hpre_5 : ((σ.2.1 51) k1.toNatClampNeg).toInt = 3 → FN ((σ.2.2.2) k1.toNatClampNeg)) (hpre_6 : (σ.1 56).toInt = 0) (hpre_7 : 16 ≤ k2.toInt) (hpre_8 : k2.toInt ≤ 19) (hr1y : ∀ v9 : QV, QAT (qH (σ.2.1 36) (σ.2.1 37) (σ.2.1 38) (σ.2.1 39) (σ.2.1 40) (σ.2.1 41) (σ.2.1 42) (σ.2.1 43) (σ.2.1 44) (σ.2.1 45) (σ.2.1 46) (σ.2.1 48)) (σ.1 47).toInt ((σ.2.1 51), (σ.2.2.1 52), (σ.2.2.1 53), (σ.2.2.2)) k0.toNatClampNeg v9 → qNum v9 = true → r1 = qRe v9) (hr1 : FN r1) (hr2y : ∀ v9 : QV, QAT (qH (σ.2.1 36) (σ.2.1 37) (σ.2.1 38) (σ.2.1 39) (σ.2.1 40) (σ.2.1 41) (σ.2.1 42) (σ.2.1 43) (σ.2.1 44) (σ.2.1 45) (σ.2.1 46) (σ.2.1 48)) (σ.1 47).toInt ((σ.2.1 51), (σ.2.2.1 52), (σ.2.2.1 53), (σ.2.2.2)) k1.toNatClampNeg v9 → qNum v9 = true → r2 = qRe v9) (hr2 : FN r2) (c3 : ¬ k2.toInt = 19) (c4 : ¬ k2.toInt = 16) (c5 : ¬ k2.toInt = 17) (c6 : k2.toInt = 18) (ex7 : x7 = FP.dmul r1 r2) (ex8 : x8 = Op.cmpValue (FP.dcmp x7 (4786511204640096256 : UInt64)) .l) (c9 : x8.toInt ≤ 0) (ex11 : x11 = Op.cmpValue (FP.dcmp x7 (14009883241494872064 : UInt64)) .g) (c12 : x11.toInt < 0) : ∀ v9 w9 : QV, QAT (qH (σ.2.1 36) (σ.2.1 37) (σ.2.1 38) (σ.2.1 39) (σ.2.1 40) (σ.2.1 41) (σ.2.1 42) (σ.2.1 43) (σ.2.1 44) (σ.2.1 45) (σ.2.1 46) (σ.2.1 48)) (σ.1 47).toInt ((σ.2.1 51), (σ.2.2.1 52), (σ.2.2.1 53), (σ.2.2.2)) k0.toNatClampNeg v9 → QAT (qH (σ.2.1 36) (σ.2.1 37) (σ.2.1 38) (σ.2.1 39) (σ.2.1 40) (σ.2.1 41) (σ.2.1 42) (σ.2.1 43) (σ.2.1 44) (σ.2.1 45) (σ.2.1 46) (σ.2.1 48)) (σ.1 47).toInt ((σ.2.1 51), (σ.2.2.1 52), (σ.2.2.1 53), (σ.2.2.2)) k1.toNatClampNeg w9 → qNum v9 = true → qNum w9 = true → (σ.1 56).toInt = 0 → (16 ≤ k2.toInt ∧ k2.toInt ≤ 19) → QRES (qH (σ.2.1 36) (σ.2.1 37) (σ.2.1 38) (σ.2.1 39) (σ.2.1 40) (σ.2.1 41) (σ.2.1 42) (σ.2.1 43) (σ.2.1 44) (σ.2.1 45) (σ.2.1 46) (σ.2.1 48)) (σ.1 47).toInt ((σ.2.1 51), (σ.2.2.1 52), (σ.2.2.1 53), (σ.2.2.2)) ((upd (σ.2.1 51) k0.toNatClampNeg (3 : Int32)), (vp_updL (σ.2.2.1 52) k0.toNatClampNeg (0 : Int64)), (vp_updL (σ.2.2.1 53) k0.toNatClampNeg (0 : Int64)), (vf_upd (σ.2.2.2) k0.toNatClampNeg x7)) k0.toNatClampNeg (3 : Int32).toInt (qReals (qRe v9) (qRe w9) k2.toInt) := by
  have q3 : (3 : Int32).toInt = 3 := by decide +kernel
  have ql0 : (0 : Int64).toInt = 0 := by decide +kernel
  intro v9 w9 h9 g9 nv nw h0 hs
  have a := hr1y v9 h9 nv
  have b := hr2y w9 g9 nw
  unfold qReals
  rw [if_neg (by rintro ⟨h, _⟩; omega)]
  have er : x7 = qOp (qRe v9) (qRe w9) k2.toInt := by
    unfold qOp
    rw [ex7, a, b, if_neg (by omega), if_neg (by omega), if_pos (by omega)]
  rw [← er]
  have z1 : qGt x7 4786511204640096256 = false := decide_eq_false (by rw [← ex8]; omega)
  have z2 : qLt x7 14009883241494872064 = true := decide_eq_true (by rw [← ex11]; omega)
  rw [z1, z2]
  exact ⟨by decide +kernel, by decide, by decide, QX.put⟩
-- nan@57 @57
theorem v_reals_12 (r1 : UInt64) (r2 : UInt64) (hr1 : FN r1) (hr2 : FN r2) : vf_n64 (FP.dsub r1 r2) := by
  obtain ⟨d, g1, g2⟩ := fp_sub hr1 hr2
  exact fp_n g1 g2
-- post @121
theorem v_reals_13 (σ : RS) (k0 : Int32) (k1 : Int32) (r1 : UInt64) (r2 : UInt64) (x15 : UInt64) (x16 : Int32) (hpre_0 : 0 ≤ k0.toInt) (hpre_1 : k0.toInt < 980) (hpre_2 : 0 ≤ k1.toInt) (hpre_3 : k1.toInt < 980) (hpre_4 : ((σ.2.1 51) k0.toNatClampNeg).toInt = 3 → FN ((σ.2.2.2) k0.toNatClampNeg)) (hpre_5 : ((σ.2.1 51) k1.toNatClampNeg).toInt = 3 → FN ((σ.2.2.2) k1.toNatClampNeg)) (hr1 : FN r1) (hr2 : FN r2) (ex15 : x15 = FP.dsub r1 r2) (ex16 : x16 = Op.cmpValue (FP.dcmp x15 (4786511204640096256 : UInt64)) .l) (c17 : 0 < x16.toInt) : 0 ≤ (3 : Int32).toInt ∧ (3 : Int32).toInt ≤ 11 ∧ (((3 : Int32).toInt = 2 ∧ (upd (σ.2.1 51) k0.toNatClampNeg (3 : Int32)) = (σ.2.1 51) ∧ (vp_updL (σ.2.2.1 52) k0.toNatClampNeg (0 : Int64)) = (σ.2.2.1 52) ∧ (vp_updL (σ.2.2.1 53) k0.toNatClampNeg (0 : Int64)) = (σ.2.2.1 53) ∧ (vf_upd (σ.2.2.2) k0.toNatClampNeg x15) = (σ.2.2.2)) ∨ (Cell1 (σ.2.1 51) (upd (σ.2.1 51) k0.toNatClampNeg (3 : Int32)) (σ.2.2.1 52) (vp_updL (σ.2.2.1 52) k0.toNatClampNeg (0 : Int64)) (σ.2.2.2) (vf_upd (σ.2.2.2) k0.toNatClampNeg x15) k0.toNatClampNeg (fun k v r => k = 3 ∧ ((3 : Int32).toInt = 0 → FN r)))) := by
  have q3 : (3 : Int32).toInt = 3 := by decide +kernel
  have ql0 : (0 : Int64).toInt = 0 := by decide +kernel
  refine ⟨by omega, by omega, Or.inr ⟨_, _, _, rfl, rfl, rfl, q3, fun h0 => ?_⟩⟩
  obtain ⟨d, g1, g2⟩ := fp_sub hr1 hr2
  rcases fp_inf g1 (ex15.trans g2) with h | h | h
  · exact h
  · exfalso
    have h_x16 := ex16; rw [h] at h_x16
    have k_x16 : x16.toInt = 1 := by rw [h_x16]; decide +kernel
    omega
  · exfalso
    have h_x16 := ex16; rw [h] at h_x16
    have k_x16 : x16.toInt = -1 := by rw [h_x16]; decide +kernel
    omega
-- post2 @121
theorem v_reals_14 (σ : RS) (k0 : Int32) (k1 : Int32) (k2 : Int32) (r1 : UInt64) (r2 : UInt64) (x15 : UInt64) (x16 : Int32) (hpre_0 : 0 ≤ k0.toInt) (hpre_1 : k0.toInt < 980) (hpre_2 : 0 ≤ k1.toInt) (hpre_3 : k1.toInt < 980) (hpre_4 : ((σ.2.1 51) k0.toNatClampNeg).toInt = 3 → FN ((σ.2.2.2) k0.toNatClampNeg)) (hpre_5 : ((σ.2.1 51) k1.toNatClampNeg).toInt = 3 → FN ((σ.2.2.2) k1.toNatClampNeg)) (hpre_6 : (σ.1 56).toInt = 0) (hpre_7 : 16 ≤ k2.toInt) (hpre_8 : k2.toInt ≤ 19) (hr1y : ∀ v9 : QV, QAT (qH (σ.2.1 36) (σ.2.1 37) (σ.2.1 38) (σ.2.1 39) (σ.2.1 40) (σ.2.1 41) (σ.2.1 42) (σ.2.1 43) (σ.2.1 44) (σ.2.1 45) (σ.2.1 46) (σ.2.1 48)) (σ.1 47).toInt ((σ.2.1 51), (σ.2.2.1 52), (σ.2.2.1 53), (σ.2.2.2)) k0.toNatClampNeg v9 → qNum v9 = true → r1 = qRe v9) (hr1 : FN r1) (hr2y : ∀ v9 : QV, QAT (qH (σ.2.1 36) (σ.2.1 37) (σ.2.1 38) (σ.2.1 39) (σ.2.1 40) (σ.2.1 41) (σ.2.1 42) (σ.2.1 43) (σ.2.1 44) (σ.2.1 45) (σ.2.1 46) (σ.2.1 48)) (σ.1 47).toInt ((σ.2.1 51), (σ.2.2.1 52), (σ.2.2.1 53), (σ.2.2.2)) k1.toNatClampNeg v9 → qNum v9 = true → r2 = qRe v9) (hr2 : FN r2) (c3 : ¬ k2.toInt = 19) (c4 : ¬ k2.toInt = 16) (c5 : k2.toInt = 17) (ex15 : x15 = FP.dsub r1 r2) (ex16 : x16 = Op.cmpValue (FP.dcmp x15 (4786511204640096256 : UInt64)) .l) (c17 : 0 < x16.toInt) : ∀ v9 w9 : QV, QAT (qH (σ.2.1 36) (σ.2.1 37) (σ.2.1 38) (σ.2.1 39) (σ.2.1 40) (σ.2.1 41) (σ.2.1 42) (σ.2.1 43) (σ.2.1 44) (σ.2.1 45) (σ.2.1 46) (σ.2.1 48)) (σ.1 47).toInt ((σ.2.1 51), (σ.2.2.1 52), (σ.2.2.1 53), (σ.2.2.2)) k0.toNatClampNeg v9 → QAT (qH (σ.2.1 36) (σ.2.1 37) (σ.2.1 38) (σ.2.1 39) (σ.2.1 40) (σ.2.1 41) (σ.2.1 42) (σ.2.1 43) (σ.2.1 44) (σ.2.1 45) (σ.2.1 46) (σ.2.1 48)) (σ.1 47).toInt ((σ.2.1 51), (σ.2.2.1 52), (σ.2.2.1 53), (σ.2.2.2)) k1.toNatClampNeg w9 → qNum v9 = true → qNum w9 = true → (σ.1 56).toInt = 0 → (16 ≤ k2.toInt ∧ k2.toInt ≤ 19) → QRES (qH (σ.2.1 36) (σ.2.1 37) (σ.2.1 38) (σ.2.1 39) (σ.2.1 40) (σ.2.1 41) (σ.2.1 42) (σ.2.1 43) (σ.2.1 44) (σ.2.1 45) (σ.2.1 46) (σ.2.1 48)) (σ.1 47).toInt ((σ.2.1 51), (σ.2.2.1 52), (σ.2.2.1 53), (σ.2.2.2)) ((upd (σ.2.1 51) k0.toNatClampNeg (3 : Int32)), (vp_updL (σ.2.2.1 52) k0.toNatClampNeg (0 : Int64)), (vp_updL (σ.2.2.1 53) k0.toNatClampNeg (0 : Int64)), (vf_upd (σ.2.2.2) k0.toNatClampNeg x15)) k0.toNatClampNeg (3 : Int32).toInt (qReals (qRe v9) (qRe w9) k2.toInt) := by
  have q3 : (3 : Int32).toInt = 3 := by decide +kernel
  have ql0 : (0 : Int64).toInt = 0 := by decide +kernel
  intro v9 w9 h9 g9 nv nw h0 hs
  have a := hr1y v9 h9 nv
  have b := hr2y w9 g9 nw
  unfold qReals
  rw [if_neg (by rintro ⟨h, _⟩; omega)]
  have er : x15 = qOp (qRe v9) (qRe w9) k2.toInt := by
    unfold qOp
    rw [ex15, a, b, if_neg (by omega), if_pos (by omega)]
  rw [← er]
  have z1 : qGt x15 4786511204640096256 = true := decide_eq_true (by rw [← ex16]; omega)
  rw [z1]
  exact ⟨by decide +kernel, by decide, by decide, QX.put⟩
-- post @121
theorem v_reals_15 (σ : RS) (k0 : Int32) (k1 : Int32) (r1 : UInt64) (r2 : UInt64) (x15 : UInt64) (x16 : Int32) (x19 : Int32) (hpre_0 : 0 ≤ k0.toInt) (hpre_1 : k0.toInt < 980) (hpre_2 : 0 ≤ k1.toInt) (hpre_3 : k1.toInt < 980) (hpre_4 : ((σ.2.1 51) k0.toNatClampNeg).toInt = 3 → FN ((σ.2.2.2) k0.toNatClampNeg)) (hpre_5 : ((σ.2.1 51) k1.toNatClampNeg).toInt = 3 → FN ((σ.2.2.2) k1.toNatClampNeg)) (hpre_6 : (σ.1 56).toInt = 0) (hr1 : FN r1) (hr2 : FN r2) (ex15 : x15 = FP.dsub r1 r2) (ex16 : x16 = Op.cmpValue (FP.dcmp x15 (4786511204640096256 : UInt64)) .l) (c17 : x16.toInt ≤ 0) (ex19 : x19 = Op.cmpValue (FP.dcmp x15 (14009883241494872064 : UInt64)) .g) (c20 : 0 ≤ x19.toInt) : 0 ≤ (σ.1 56).toInt ∧ (σ.1 56).toInt ≤ 11 ∧ (((σ.1 56).toInt = 2 ∧ (upd (σ.2.1 51) k0.toNatClampNeg (3 : Int32)) = (σ.2.1 51) ∧ (vp_updL (σ.2.2.1 52) k0.toNatClampNeg (0 : Int64)) = (σ.2.2.1 52) ∧ (vp_updL (σ.2.2.1 53) k0.toNatClampNeg (0 : Int64)) = (σ.2.2.1 53) ∧ (vf_upd (σ.2.2.2) k0.toNatClampNeg x15) = (σ.2.2.2)) ∨ (Cell1 (σ.2.1 51) (upd (σ.2.1 51) k0.toNatClampNeg (3 : Int32)) (σ.2.2.1 52) (vp_updL (σ.2.2.1 52) k0.toNatClampNeg (0 : Int64)) (σ.2.2.2) (vf_upd (σ.2.2.2) k0.toNatClampNeg x15) k0.toNatClampNeg (fun k v r => k = 3 ∧ ((σ.1 56).toInt = 0 → FN r)))) := by
  have q3 : (3 : Int32).toInt = 3 := by decide +kernel
  have ql0 : (0 : Int64).toInt = 0 := by decide +kernel
  refine ⟨by omega, by omega, Or.inr ⟨_, _, _, rfl, rfl, rfl, q3, fun h0 => ?_⟩⟩
  obtain ⟨d, g1, g2⟩ := fp_sub hr1 hr2
  rcases fp_inf g1 (ex15.trans g2) with h | h | h
  · exact h
  · exfalso
    have h_x16 := ex16; rw [h] at h_x16
    have k_x16 : x16.toInt = 1 := by rw [h_x16]; decide +kernel
    have h_x19 := ex19; rw [h] at h_x19
    have k_x19 : x19.toInt = 1 := by rw [h_x19]; decide +kernel
    omega
  · exfalso
    have h_x16 := ex16; rw [h] at h_x16
    have k_x16 : x16.toInt = -1 := by rw [h_x16]; decide +kernel
    have h_x19 := ex19; rw [h] at h_x19
    have k_x19 : x19.toInt = -1 := by rw [h_x19]; decide +kernel
    omega
-- post2 @121
theorem v_reals_16 (σ : RS) (k0 : Int32) (k1 : Int32) (k2 : Int32) (r1 : UInt64) (r2 : UInt64) (x15 : UInt64) (x16 : Int32) (x19 : Int32) (hpre_0 : 0 ≤ k0.toInt) (hpre_1 : k0.toInt < 980) (hpre_2 : 0 ≤ k1.toInt) (hpre_3 : k1.toInt < 980) (hpre_4 : ((σ.2.1 51) k0.toNatClampNeg).toInt = 3 → FN ((σ.2.2.2) k0.toNatClampNeg)) (hpre_5 : ((σ.2.1 51) k1.toNatClampNeg).toInt = 3 → FN ((σ.2.2.2) k1.toNatClampNeg)) (hpre_6 : (σ.1 56).toInt = 0) (hpre_7 : 16 ≤ k2.toInt) (hpre_8 : k2.toInt ≤ 19) (hr1y : ∀ v9 : QV, QAT (qH (σ.2.1 36) (σ.2.1 37) (σ.2.1 38) (σ.2.1 39) (σ.2.1 40) (σ.2.1 41) (σ.2.1 42) (σ.2.1 43) (σ.2.1 44) (σ.2.1 45) (σ.2.1 46) (σ.2.1 48)) (σ.1 47).toInt ((σ.2.1 51), (σ.2.2.1 52), (σ.2.2.1 53), (σ.2.2.2)) k0.toNatClampNeg v9 → qNum v9 = true → r1 = qRe v9) (hr1 : FN r1) (hr2y : ∀ v9 : QV, QAT (qH (σ.2.1 36) (σ.2.1 37) (σ.2.1 38) (σ.2.1 39) (σ.2.1 40) (σ.2.1 41) (σ.2.1 42) (σ.2.1 43) (σ.2.1 44) (σ.2.1 45) (σ.2.1 46) (σ.2.1 48)) (σ.1 47).toInt ((σ.2.1 51), (σ.2.2.1 52), (σ.2.2.1 53), (σ.2.2.2)) k1.toNatClampNeg v9 → qNum v9 = true → r2 = qRe v9) (hr2 : FN r2) (c3 : ¬ k2.toInt = 19) (c4 : ¬ k2.toInt = 16) (c5 : k2.toInt = 17) (ex15 : x15 = FP.dsub r1 r2) (ex16 : x16 = Op.cmpValue (FP.dcmp x15 (4786511204640096256 : UInt64)) .l) (c17 : x16.toInt ≤ 0) (ex19 : x19 = Op.cmpValue (FP.dcmp x15 (14009883241494872064 : UInt64)) .g) (c20 : 0 ≤ x19.toInt) : ∀ v9 w9 : QV, QAT (qH (σ.2.1 36) (σ.2.1 37) (σ.2.1 38) (σ.2.1 39) (σ.2.1 40) (σ.2.1 41) (σ.2.1 42) (σ.2.1 43) (σ.2.1 44) (σ.2.1 45) (σ.2.1 46) (σ.2.1 48)) (σ.1 47).toInt ((σ.2.1 51), (σ.2.2.1 52), (σ.2.2.1 53), (σ.2.2.2)) k0.toNatClampNeg v9 → QAT (qH (σ.2.1 36) (σ.2.1 37) (σ.2.1 38) (σ.2.1 39) (σ.2.1 40) (σ.2.1 41) (σ.2.1 42) (σ.2.1 43) (σ.2.1 44) (σ.2.1 45) (σ.2.1 46) (σ.2.1 48)) (σ.1 47).toInt ((σ.2.1 51), (σ.2.2.1 52), (σ.2.2.1 53), (σ.2.2.2)) k1.toNatClampNeg w9 → qNum v9 = true → qNum w9 = true → (σ.1 56).toInt = 0 → (16 ≤ k2.toInt ∧ k2.toInt ≤ 19) → QRES (qH (σ.2.1 36) (σ.2.1 37) (σ.2.1 38) (σ.2.1 39) (σ.2.1 40) (σ.2.1 41) (σ.2.1 42) (σ.2.1 43) (σ.2.1 44) (σ.2.1 45) (σ.2.1 46) (σ.2.1 48)) (σ.1 47).toInt ((σ.2.1 51), (σ.2.2.1 52), (σ.2.2.1 53), (σ.2.2.2)) ((upd (σ.2.1 51) k0.toNatClampNeg (3 : Int32)), (vp_updL (σ.2.2.1 52) k0.toNatClampNeg (0 : Int64)), (vp_updL (σ.2.2.1 53) k0.toNatClampNeg (0 : Int64)), (vf_upd (σ.2.2.2) k0.toNatClampNeg x15)) k0.toNatClampNeg (σ.1 56).toInt (qReals (qRe v9) (qRe w9) k2.toInt) := by
  have q3 : (3 : Int32).toInt = 3 := by decide +kernel
  have ql0 : (0 : Int64).toInt = 0 := by decide +kernel
  intro v9 w9 h9 g9 nv nw h0 hs
  have a := hr1y v9 h9 nv
  have b := hr2y w9 g9 nw
  unfold qReals
  rw [if_neg (by rintro ⟨h, _⟩; omega)]
  have er : x15 = qOp (qRe v9) (qRe w9) k2.toInt := by
    unfold qOp
    rw [ex15, a, b, if_neg (by omega), if_pos (by omega)]
  rw [← er]
  have z1 : qGt x15 4786511204640096256 = false := decide_eq_false (by rw [← ex16]; omega)
  have z2 : qLt x15 14009883241494872064 = false := decide_eq_false (by rw [← ex19]; omega)
  rw [z1, z2]
  refine ⟨h0, QW.real q3 ?_⟩
  rw [er] at z1 z2 ⊢
  exact q_opfin (h9.ok.re nv) (g9.ok.re nw) (fun e6 e7 e8 => by omega) z1 z2
-- post @121
theorem v_reals_17 (σ : RS) (k0 : Int32) (k1 : Int32) (r1 : UInt64) (r2 : UInt64) (x15 : UInt64) (x16 : Int32) (x19 : Int32) (hpre_0 : 0 ≤ k0.toInt) (hpre_1 : k0.toInt < 980) (hpre_2 : 0 ≤ k1.toInt) (hpre_3 : k1.toInt < 980) (hpre_4 : ((σ.2.1 51) k0.toNatClampNeg).toInt = 3 → FN ((σ.2.2.2) k0.toNatClampNeg)) (hpre_5 : ((σ.2.1 51) k1.toNatClampNeg).toInt = 3 → FN ((σ.2.2.2) k1.toNatClampNeg)) (hr1 : FN r1) (hr2 : FN r2) (ex15 : x15 = FP.dsub r1 r2) (ex16 : x16 = Op.cmpValue (FP.dcmp x15 (4786511204640096256 : UInt64)) .l) (c17 : x16.toInt ≤ 0) (ex19 : x19 = Op.cmpValue (FP.dcmp x15 (14009883241494872064 : UInt64)) .g) (c20 : x19.toInt < 0) : 0 ≤ (3 : Int32).toInt ∧ (3 : Int32).toInt ≤ 11 ∧ (((3 : Int32).toInt = 2 ∧ (upd (σ.2.1 51) k0.toNatClampNeg (3 : Int32)) = (σ.2.1 51) ∧ (vp_updL (σ.2.2.1 52) k0.toNatClampNeg (0 : Int64)) = (σ.2.2.1 52) ∧ (vp_updL (σ.2.2.1 53) k0.toNatClampNeg (0 : Int64)) = (σ.2.2.1 53) ∧ (vf_upd (σ.2.2.2) k0.toNatClampNeg x15) = (σ.2.2.2)) ∨ (Cell1 (σ.2.1 51) (upd (σ.2.1 51) k0.toNatClampNeg (3 : Int32)) (σ.2.2.1 52) (vp_updL (σ.2.2.1 52) k0.toNatClampNeg (0 : Int64)) (σ.2.2.2) (vf_upd (σ.2.2.2) k0.toNatClampNeg x15) k0.toNatClampNeg (fun k v r => k = 3 ∧ ((3 : Int32).toInt = 0 → FN r)))) := by
  have q3 : (3 : Int32).toInt = 3 := by decide +kernel
  have ql0 : (0 : Int64).toInt = 0 := by decide +kernel
  refine ⟨by omega, by omega, Or.inr ⟨_, _, _, rfl, rfl, rfl, q3, fun h0 => ?_⟩⟩
  obtain ⟨d, g1, g2⟩ := fp_sub hr1 hr2
  rcases fp_inf g1 (ex15.trans g2) with h | h | h
  · exact h
  · exfalso
    have h_x16 := ex16; rw [h] at h_x16
    have k_x16 : x16.toInt = 1 := by rw [h_x16]; decide +kernel
    have h_x19 := ex19; rw [h] at h_x19
    have k_x19 : x19.toInt = 1 := by rw [h_x19]; decide +kernel
    omega
  · exfalso
    have h_x16 := ex16; rw [h] at h_x16
    have k_x16 : x16.toInt = -1 := by rw [h_x16]; decide +kernel
    have h_x19 := ex19; rw [h] at h_x19
    have k_x19 : x19.toInt = -1 := by rw [h_x19]; decide +kernel
    omega
-- post2 @121
theorem v_reals_18 (σ : RS) (k0 : Int32) (k1 : Int32) (k2 : Int32) (r1 : UInt64) (r2 : UInt64) (x15 : UInt64) (x16 : Int32) (x19 : Int32) (hpre_0 : 0 ≤ k0.toInt) (hpre_1 : k0.toInt < 980) (hpre_2 : 0 ≤ k1.toInt) (hpre_3 : k1.toInt < 980) (hpre_4 : ((σ.2.1 51) k0.toNatClampNeg).toInt = 3 → FN ((σ.2.2.2) k0.toNatClampNeg)) (hpre_5 : ((σ.2.1 51) k1.toNatClampNeg).toInt = 3 → FN ((σ.2.2.2) k1.toNatClampNeg)) (hpre_6 : (σ.1 56).toInt = 0) (hpre_7 : 16 ≤ k2.toInt) (hpre_8 : k2.toInt ≤ 19) (hr1y : ∀ v9 : QV, QAT (qH (σ.2.1 36) (σ.2.1 37) (σ.2.1 38) (σ.2.1 39) (σ.2.1 40) (σ.2.1 41) (σ.2.1 42) (σ.2.1 43) (σ.2.1 44) (σ.2.1 45) (σ.2.1 46) (σ.2.1 48)) (σ.1 47).toInt ((σ.2.1 51), (σ.2.2.1 52), (σ.2.2.1 53), (σ.2.2.2)) k0.toNatClampNeg v9 → qNum v9 = true → r1 = qRe v9) (hr1 : FN r1) (hr2y : ∀ v9 : QV, QAT (qH (σ.2.1 36) (σ.2.1 37) (σ.2.1 38) (σ.2.1 39) (σ.2.1 40) (σ.2.1 41) (σ.2.1 42) (σ.2.1 43) (σ.2.1 44) (σ.2.1 45) (σ.2.1 46) (σ.2.1 48)) (σ.1 47).toInt ((σ.2.1 51), (σ.2.2.1 52), (σ.2.2.1 53), (σ.2.2.2)) k1.toNatClampNeg v9 → qNum v9 = true → r2 = qRe v9) (hr2 : FN r2) (c3 : ¬ k2.toInt = 19) (c4 : ¬ k2.toInt = 16) (c5 : k2.toInt = 17) (ex15 : x15 = FP.dsub r1 r2) (ex16 : x16 = Op.cmpValue (FP.dcmp x15 (4786511204640096256 : UInt64)) .l) (c17 : x16.toInt ≤ 0) (ex19 : x19 = Op.cmpValue (FP.dcmp x15 (14009883241494872064 : UInt64)) .g) (c20 : x19.toInt < 0) : ∀ v9 w9 : QV, QAT (qH (σ.2.1 36) (σ.2.1 37) (σ.2.1 38) (σ.2.1 39) (σ.2.1 40) (σ.2.1 41) (σ.2.1 42) (σ.2.1 43) (σ.2.1 44) (σ.2.1 45) (σ.2.1 46) (σ.2.1 48)) (σ.1 47).toInt ((σ.2.1 51), (σ.2.2.1 52), (σ.2.2.1 53), (σ.2.2.2)) k0.toNatClampNeg v9 → QAT (qH (σ.2.1 36) (σ.2.1 37) (σ.2.1 38) (σ.2.1 39) (σ.2.1 40) (σ.2.1 41) (σ.2.1 42) (σ.2.1 43) (σ.2.1 44) (σ.2.1 45) (σ.2.1 46) (σ.2.1 48)) (σ.1 47).toInt ((σ.2.1 51), (σ.2.2.1 52), (σ.2.2.1 53), (σ.2.2.2)) k1.toNatClampNeg w9 → qNum v9 = true → qNum w9 = true → (σ.1 56).toInt = 0 → (16 ≤ k2.toInt ∧ k2.toInt ≤ 19) → QRES (qH (σ.2.1 36) (σ.2.1 37) (σ.2.1 38) (σ.2.1 39) (σ.2.1 40) (σ.2.1 41) (σ.2.1 42) (σ.2.1 43) (σ.2.1 44) (σ.2.1 45) (σ.2.1 46) (σ.2.1 48)) (σ.1 47).toInt ((σ.2.1 51), (σ.2.2.1 52), (σ.2.2.1 53), (σ.2.2.2)) ((upd (σ.2.1 51) k0.toNatClampNeg (3 : Int32)), (vp_updL (σ.2.2.1 52) k0.toNatClampNeg (0 : Int64)), (vp_updL (σ.2.2.1 53) k0.toNatClampNeg (0 : Int64)), (vf_upd (σ.2.2.2) k0.toNatClampNeg x15)) k0.toNatClampNeg (3 : Int32).toInt (qReals (qRe v9) (qRe w9) k2.toInt) := by
  have q3 : (3 : Int32).toInt = 3 := by decide +kernel
  have ql0 : (0 : Int64).toInt = 0 := by decide +kernel
  intro v9 w9 h9 g9 nv nw h0 hs
  have a := hr1y v9 h9 nv
  have b := hr2y w9 g9 nw
  unfold qReals
  rw [if_neg (by rintro ⟨h, _⟩; omega)]
  have er : x15 = qOp (qRe v9) (qRe w9) k2.toInt := by
    unfold qOp
    rw [ex15, a, b, if_neg (by omega), if_pos (by omega)]
  rw [← er]
  have z1 : qGt x15 4786511204640096256 = false := decide_eq_false (by rw [← ex16]; omega)
  have z2 : qLt x15 14009883241494872064 = true := decide_eq_true (by rw [← ex19]; omega)
  rw [z1, z2]
  exact ⟨by decide +kernel, by decide, by decide, QX.put⟩
-- nan@43 @43
theorem v_reals_19 (r1 : UInt64) (r2 : UInt64) (hr1 : FN r1) (hr2 : FN r2) : vf_n64 (FP.dadd r1 r2) := by
  obtain ⟨d, g1, g2⟩ := fp_add hr1 hr2
  exact fp_n g1 g2
-- post @121
theorem v_reals_20 (σ : RS) (k0 : Int32) (k1 : Int32) (r1 : UInt64) (r2 : UInt64) (x23 : UInt64) (x24 : Int32) (hpre_0 : 0 ≤ k0.toInt) (hpre_1 : k0.toInt < 980) (hpre_2 : 0 ≤ k1.toInt) (hpre_3 : k1.toInt < 980) (hpre_4 : ((σ.2.1 51) k0.toNatClampNeg).toInt = 3 → FN ((σ.2.2.2) k0.toNatClampNeg)) (hpre_5 : ((σ.2.1 51) k1.toNatClampNeg).toInt = 3 → FN ((σ.2.2.2) k1.toNatClampNeg)) (hr1 : FN r1) (hr2 : FN r2) (ex23 : x23 = FP.dadd r1 r2) (ex24 : x24 = Op.cmpValue (FP.dcmp x23 (4786511204640096256 : UInt64)) .l) (c25 : 0 < x24.toInt) : 0 ≤ (3 : Int32).toInt ∧ (3 : Int32).toInt ≤ 11 ∧ (((3 : Int32).toInt = 2 ∧ (upd (σ.2.1 51) k0.toNatClampNeg (3 : Int32)) = (σ.2.1 51) ∧ (vp_updL (σ.2.2.1 52) k0.toNatClampNeg (0 : Int64)) = (σ.2.2.1 52) ∧ (vp_updL (σ.2.2.1 53) k0.toNatClampNeg (0 : Int64)) = (σ.2.2.1 53) ∧ (vf_upd (σ.2.2.2) k0.toNatClampNeg x23) = (σ.2.2.2)) ∨ (Cell1 (σ.2.1 51) (upd (σ.2.1 51) k0.toNatClampNeg (3 : Int32)) (σ.2.2.1 52) (vp_updL (σ.2.2.1 52) k0.toNatClampNeg (0 : Int64)) (σ.2.2.2) (vf_upd (σ.2.2.2) k0.toNatClampNeg x23) k0.toNatClampNeg (fun k v r => k = 3 ∧ ((3 : Int32).toInt = 0 → FN r)))) := by
  have q3 : (3 : Int32).toInt = 3 := by decide +kernel
  have ql0 : (0 : Int64).toInt = 0 := by decide +kernel
  refine ⟨by omega, by omega, Or.inr ⟨_, _, _, rfl, rfl, rfl, q3, fun h0 => ?_⟩⟩
  obtain ⟨d, g1, g2⟩ := fp_add hr1 hr2
  rcases fp_inf g1 (ex23.trans g2) with h | h | h
  · exact h
  · exfalso
    have h_x24 := ex24; rw [h] at h_x24
    have k_x24 : x24.toInt = 1 := by rw [h_x24]; decide +kernel
    omega
  · exfalso
    have h_x24 := ex24; rw [h] at h_x24
    have k_x24 : x24.toInt = -1 := by rw [h_x24]; decide +kernel
    omega
-- post2 @121
theorem v_reals_21 (σ : RS) (k0 : Int32) (k1 : Int32) (k2 : Int32) (r1 : UInt64) (r2 : UInt64) (x23 : UInt64) (x24 : Int32) (hpre_0 : 0 ≤ k0.toInt) (hpre_1 : k0.toInt < 980) (hpre_2 : 0 ≤ k1.toInt) (hpre_3 : k1.toInt < 980) (hpre_4 : ((σ.2.1 51) k0.toNatClampNeg).toInt = 3 → FN ((σ.2.2.2) k0.toNatClampNeg)) (hpre_5 : ((σ.2.1 51) k1.toNatClampNeg).toInt = 3 → FN ((σ.2.2.2) k1.toNatClampNeg)) (hpre_6 : (σ.1 56).toInt = 0) (hpre_7 : 16 ≤ k2.toInt) (hpre_8 : k2.toInt ≤ 19) (hr1y : ∀ v9 : QV, QAT (qH (σ.2.1 36) (σ.2.1 37) (σ.2.1 38) (σ.2.1 39) (σ.2.1 40) (σ.2.1 41) (σ.2.1 42) (σ.2.1 43) (σ.2.1 44) (σ.2.1 45) (σ.2.1 46) (σ.2.1 48)) (σ.1 47).toInt ((σ.2.1 51), (σ.2.2.1 52), (σ.2.2.1 53), (σ.2.2.2)) k0.toNatClampNeg v9 → qNum v9 = true → r1 = qRe v9) (hr1 : FN r1) (hr2y : ∀ v9 : QV, QAT (qH (σ.2.1 36) (σ.2.1 37) (σ.2.1 38) (σ.2.1 39) (σ.2.1 40) (σ.2.1 41) (σ.2.1 42) (σ.2.1 43) (σ.2.1 44) (σ.2.1 45) (σ.2.1 46) (σ.2.1 48)) (σ.1 47).toInt ((σ.2.1 51), (σ.2.2.1 52), (σ.2.2.1 53), (σ.2.2.2)) k1.toNatClampNeg v9 → qNum v9 = true → r2 = qRe v9) (hr2 : FN r2) (c3 : ¬ k2.toInt = 19) (c4 : k2.toInt = 16) (ex23 : x23 = FP.dadd r1 r2) (ex24 : x24 = Op.cmpValue (FP.dcmp x23 (4786511204640096256 : UInt64)) .l) (c25 : 0 < x24.toInt) : ∀ v9 w9 : QV, QAT (qH (σ.2.1 36) (σ.2.1 37) (σ.2.1 38) (σ.2.1 39) (σ.2.1 40) (σ.2.1 41) (σ.2.1 42) (σ.2.1 43) (σ.2.1 44) (σ.2.1 45) (σ.2.1 46) (σ.2.1 48)) (σ.1 47).toInt ((σ.2.1 51), (σ.2.2.1 52), (σ.2.2.1 53), (σ.2.2.2)) k0.toNatClampNeg v9 → QAT (qH (σ.2.1 36) (σ.2.1 37) (σ.2.1 38) (σ.2.1 39) (σ.2.1 40) (σ.2.1 41) (σ.2.1 42) (σ.2.1 43) (σ.2.1 44) (σ.2.1 45) (σ.2.1 46) (σ.2.1 48)) (σ.1 47).toInt ((σ.2.1 51), (σ.2.2.1 52), (σ.2.2.1 53), (σ.2.2.2)) k1.toNatClampNeg w9 → qNum v9 = true → qNum w9 = true → (σ.1 56).toInt = 0 → (16 ≤ k2.toInt ∧ k2.toInt ≤ 19) → QRES (qH (σ.2.1 36) (σ.2.1 37) (σ.2.1 38) (σ.2.1 39) (σ.2.1 40) (σ.2.1 41) (σ.2.1 42) (σ.2.1 43) (σ.2.1 44) (σ.2.1 45) (σ.2.1 46) (σ.2.1 48)) (σ.1 47).toInt ((σ.2.1 51), (σ.2.2.1 52), (σ.2.2.1 53), (σ.2.2.2)) ((upd (σ.2.1 51) k0.toNatClampNeg (3 : Int32)), (vp_updL (σ.2.2.1 52) k0.toNatClampNeg (0 : Int64)), (vp_updL (σ.2.2.1 53) k0.toNatClampNeg (0 : Int64)), (vf_upd (σ.2.2.2) k0.toNatClampNeg x23)) k0.toNatClampNeg (3 : Int32).toInt (qReals (qRe v9) (qRe w9) k2.toInt) := by
  have q3 : (3 : Int32).toInt = 3 := by decide +kernel
  have ql0 : (0 : Int64).toInt = 0 := by decide +kernel
  intro v9 w9 h9 g9 nv nw h0 hs
  have a := hr1y v9 h9 nv
  have b := hr2y w9 g9 nw
  unfold qReals
  rw [if_neg (by rintro ⟨h, _⟩; omega)]
  have er : x23 = qOp (qRe v9) (qRe w9) k2.toInt := by
    unfold qOp
    rw [ex23, a, b, if_pos (by omega)]
  rw [← er]
  have z1 : qGt x23 4786511204640096256 = true := decide_eq_true (by rw [← ex24]; omega)
  rw [z1]
  exact ⟨by decide +kernel, by decide, by decide, QX.put⟩
-- post @121
theorem v_reals_22 (σ : RS) (k0 : Int32) (k1 : Int32) (r1 : UInt64) (r2 : UInt64) (x23 : UInt64) (x24 : Int32) (x27 : Int32) (hpre_0 : 0 ≤ k0.toInt) (hpre_1 : k0.toInt < 980) (hpre_2 : 0 ≤ k1.toInt) (hpre_3 : k1.toInt < 980) (hpre_4 : ((σ.2.1 51) k0.toNatClampNeg).toInt = 3 → FN ((σ.2.2.2) k0.toNatClampNeg)) (hpre_5 : ((σ.2.1 51) k1.toNatClampNeg).toInt = 3 → FN ((σ.2.2.2) k1.toNatClampNeg)) (hpre_6 : (σ.1 56).toInt = 0) (hr1 : FN r1) (hr2 : FN r2) (ex23 : x23 = FP.dadd r1 r2) (ex24 : x24 = Op.cmpValue (FP.dcmp x23 (4786511204640096256 : UInt64)) .l) (c25 : x24.toInt ≤ 0) (ex27 : x27 = Op.cmpValue (FP.dcmp x23 (14009883241494872064 : UInt64)) .g) (c28 : 0 ≤ x27.toInt) : 0 ≤ (σ.1 56).toInt ∧ (σ.1 56).toInt ≤ 11 ∧ (((σ.1 56).toInt = 2 ∧ (upd (σ.2.1 51) k0.toNatClampNeg (3 : Int32)) = (σ.2.1 51) ∧ (vp_updL (σ.2.2.1 52) k0.toNatClampNeg (0 : Int64)) = (σ.2.2.1 52) ∧ (vp_updL (σ.2.2.1 53) k0.toNatClampNeg (0 : Int64)) = (σ.2.2.1 53) ∧ (vf_upd (σ.2.2.2) k0.toNatClampNeg x23) = (σ.2.2.2)) ∨ (Cell1 (σ.2.1 51) (upd (σ.2.1 51) k0.toNatClampNeg (3 : Int32)) (σ.2.2.1 52) (vp_updL (σ.2.2.1 52) k0.toNatClampNeg (0 : Int64)) (σ.2.2.2) (vf_upd (σ.2.2.2) k0.toNatClampNeg x23) k0.toNatClampNeg (fun k v r => k = 3 ∧ ((σ.1 56).toInt = 0 → FN r)))) := by
  have q3 : (3 : Int32).toInt = 3 := by decide +kernel
  have ql0 : (0 : Int64).toInt = 0 := by decide +kernel
  refine ⟨by omega, by omega, Or.inr ⟨_, _, _, rfl, rfl, rfl, q3, fun h0 => ?_⟩⟩
  obtain ⟨d, g1, g2⟩ := fp_add hr1 hr2
  rcases fp_inf g1 (ex23.trans g2) with h | h | h
  · exact h
  · exfalso
    have h_x24 := ex24; rw [h] at h_x24
    have k_x24 : x24.toInt = 1 := by rw [h_x24]; decide +kernel
    have h_x27 := ex27; rw [h] at h_x27
    have k_x27 : x27.toInt = 1 := by rw [h_x27]; decide +kernel
    omega
  · exfalso
    have h_x24 := ex24; rw [h] at h_x24
    have k_x24 : x24.toInt = -1 := by rw [h_x24]; decide +kernel
    have h_x27 := ex27; rw [h] at h_x27
    have k_x27 : x27.toInt = -1 := by rw [h_x27]; decide +kernel
    omega
-- post2 @121
theorem v_reals_23 (σ : RS) (k0 : Int32) (k1 : Int32) (k2 : Int32) (r1 : UInt64) (r2 : UInt64) (x23 : UInt64) (x24 : Int32) (x27 : Int32) (hpre_0 : 0 ≤ k0.toInt) (hpre_1 : k0.toInt < 980) (hpre_2 : 0 ≤ k1.toInt) (hpre_3 : k1.toInt < 980) (hpre_4 : ((σ.2.1 51) k0.toNatClampNeg).toInt = 3 → FN ((σ.2.2.2) k0.toNatClampNeg)) (hpre_5 : ((σ.2.1 51) k1.toNatClampNeg).toInt = 3 → FN ((σ.2.2.2) k1.toNatClampNeg)) (hpre_6 : (σ.1 56).toInt = 0) (hpre_7 : 16 ≤ k2.toInt) (hpre_8 : k2.toInt ≤ 19) (hr1y : ∀ v9 : QV, QAT (qH (σ.2.1 36) (σ.2.1 37) (σ.2.1 38) (σ.2.1 39) (σ.2.1 40) (σ.2.1 41) (σ.2.1 42) (σ.2.1 43) (σ.2.1 44) (σ.2.1 45) (σ.2.1 46) (σ.2.1 48)) (σ.1 47).toInt ((σ.2.1 51), (σ.2.2.1 52), (σ.2.2.1 53), (σ.2.2.2)) k0.toNatClampNeg v9 → qNum v9 = true → r1 = qRe v9) (hr1 : FN r1) (hr2y : ∀ v9 : QV, QAT (qH (σ.2.1 36) (σ.2.1 37) (σ.2.1 38) (σ.2.1 39) (σ.2.1 40) (σ.2.1 41) (σ.2.1 42) (σ.2.1 43) (σ.2.1 44) (σ.2.1 45) (σ.2.1 46) (σ.2.1 48)) (σ.1 47).toInt ((σ.2.1 51), (σ.2.2.1 52), (σ.2.2.1 53), (σ.2.2.2)) k1.toNatClampNeg v9 → qNum v9 = true → r2 = qRe v9) (hr2 : FN r2) (c3 : ¬ k2.toInt = 19) (c4 : k2.toInt = 16) (ex23 : x23 = FP.dadd r1 r2) (ex24 : x24 = Op.cmpValue (FP.dcmp x23 (4786511204640096256 : UInt64)) .l) (c25 : x24.toInt ≤ 0) (ex27 : x27 = Op.cmpValue (FP.dcmp x23 (14009883241494872064 : UInt64)) .g) (c28 : 0 ≤ x27.toInt) : ∀ v9 w9 : QV, QAT (qH (σ.2.1 36) (σ.2.1 37) (σ.2.1 38) (σ.2.1 39) (σ.2.1 40) (σ.2.1 41) (σ.2.1 42) (σ.2.1 43) (σ.2.1 44) (σ.2.1 45) (σ.2.1 46) (σ.2.1 48)) (σ.1 47).toInt ((σ.2.1 51), (σ.2.2.1 52), (σ.2.2.1 53), (σ.2.2.2)) k0.toNatClampNeg v9 → QAT (qH (σ.2.1 36) (σ.2.1 37) (σ.2.1 38) (σ.2.1 39) (σ.2.1 40) (σ.2.1 41) (σ.2.1 42) (σ.2.1 43) (σ.2.1 44) (σ.2.1 45) (σ.2.1 46) (σ.2.1 48)) (σ.1 47).toInt ((σ.2.1 51), (σ.2.2.1 52), (σ.2.2.1 53), (σ.2.2.2)) k1.toNatClampNeg w9 → qNum v9 = true → qNum w9 = true → (σ.1 56).toInt = 0 → (16 ≤ k2.toInt ∧ k2.toInt ≤ 19) → QRES (qH (σ.2.1 36) (σ.2.1 37) (σ.2.1 38) (σ.2.1 39) (σ.2.1 40) (σ.2.1 41) (σ.2.1 42) (σ.2.1 43) (σ.2.1 44) (σ.2.1 45) (σ.2.1 46) (σ.2.1 48)) (σ.1 47).toInt ((σ.2.1 51), (σ.2.2.1 52), (σ.2.2.1 53), (σ.2.2.2)) ((upd (σ.2.1 51) k0.toNatClampNeg (3 : Int32)), (vp_updL (σ.2.2.1 52) k0.toNatClampNeg (0 : Int64)), (vp_updL (σ.2.2.1 53) k0.toNatClampNeg (0 : Int64)), (vf_upd (σ.2.2.2) k0.toNatClampNeg x23)) k0.toNatClampNeg (σ.1 56).toInt (qReals (qRe v9) (qRe w9) k2.toInt) := by
  have q3 : (3 : Int32).toInt = 3 := by decide +kernel
  have ql0 : (0 : Int64).toInt = 0 := by decide +kernel
  intro v9 w9 h9 g9 nv nw h0 hs
  have a := hr1y v9 h9 nv
  have b := hr2y w9 g9 nw
  unfold qReals
  rw [if_neg (by rintro ⟨h, _⟩; omega)]
  have er : x23 = qOp (qRe v9) (qRe w9) k2.toInt := by
    unfold qOp
    rw [ex23, a, b, if_pos (by omega)]
  rw [← er]
  have z1 : qGt x23 4786511204640096256 = false := decide_eq_false (by rw [← ex24]; omega)
  have z2 : qLt x23 14009883241494872064 = false := decide_eq_false (by rw [← ex27]; omega)
  rw [z1, z2]
  refine ⟨h0, QW.real q3 ?_⟩
  rw [er] at z1 z2 ⊢
  exact q_opfin (h9.ok.re nv) (g9.ok.re nw) (fun e6 e7 e8 => by omega) z1 z2
-- post @121
theorem v_reals_24 (σ : RS) (k0 : Int32) (k1 : Int32) (r1 : UInt64) (r2 : UInt64) (x23 : UInt64) (x24 : Int32) (x27 : Int32) (hpre_0 : 0 ≤ k0.toInt) (hpre_1 : k0.toInt < 980) (hpre_2 : 0 ≤ k1.toInt) (hpre_3 : k1.toInt < 980) (hpre_4 : ((σ.2.1 51) k0.toNatClampNeg).toInt = 3 → FN ((σ.2.2.2) k0.toNatClampNeg)) (hpre_5 : ((σ.2.1 51) k1.toNatClampNeg).toInt = 3 → FN ((σ.2.2.2) k1.toNatClampNeg)) (hr1 : FN r1) (hr2 : FN r2) (ex23 : x23 = FP.dadd r1 r2) (ex24 : x24 = Op.cmpValue (FP.dcmp x23 (4786511204640096256 : UInt64)) .l) (c25 : x24.toInt ≤ 0) (ex27 : x27 = Op.cmpValue (FP.dcmp x23 (14009883241494872064 : UInt64)) .g) (c28 : x27.toInt < 0) : 0 ≤ (3 : Int32).toInt ∧ (3 : Int32).toInt ≤ 11 ∧ (((3 : Int32).toInt = 2 ∧ (upd (σ.2.1 51) k0.toNatClampNeg (3 : Int32)) = (σ.2.1 51) ∧ (vp_updL (σ.2.2.1 52) k0.toNatClampNeg (0 : Int64)) = (σ.2.2.1 52) ∧ (vp_updL (σ.2.2.1 53) k0.toNatClampNeg (0 : Int64)) = (σ.2.2.1 53) ∧ (vf_upd (σ.2.2.2) k0.toNatClampNeg x23) = (σ.2.2.2)) ∨ (Cell1 (σ.2.1 51) (upd (σ.2.1 51) k0.toNatClampNeg (3 : Int32)) (σ.2.2.1 52) (vp_updL (σ.2.2.1 52) k0.toNatClampNeg (0 : Int64)) (σ.2.2.2) (vf_upd (σ.2.2.2) k0.toNatClampNeg x23) k0.toNatClampNeg (fun k v r => k = 3 ∧ ((3 : Int32).toInt = 0 → FN r)))) := by
  have q3 : (3 : Int32).toInt = 3 := by decide +kernel
  have ql0 : (0 : Int64).toInt = 0 := by decide +kernel
  refine ⟨by omega, by omega, Or.inr ⟨_, _, _, rfl, rfl, rfl, q3, fun h0 => ?_⟩⟩
  obtain ⟨d, g1, g2⟩ := fp_add hr1 hr2
  rcases fp_inf g1 (ex23.trans g2) with h | h | h
  · exact h
  · exfalso
    have h_x24 := ex24; rw [h] at h_x24
    have k_x24 : x24.toInt = 1 := by rw [h_x24]; decide +kernel
    have h_x27 := ex27; rw [h] at h_x27
    have k_x27 : x27.toInt = 1 := by rw [h_x27]; decide +kernel
    omega
  · exfalso
    have h_x24 := ex24; rw [h] at h_x24
    have k_x24 : x24.toInt = -1 := by rw [h_x24]; decide +kernel
    have h_x27 := ex27; rw [h] at h_x27
    have k_x27 : x27.toInt = -1 := by rw [h_x27]; decide +kernel
    omega
-- post2 @121
theorem v_reals_25 (σ : RS) (k0 : Int32) (k1 : Int32) (k2 : Int32) (r1 : UInt64) (r2 : UInt64) (x23 : UInt64) (x24 : Int32) (x27 : Int32) (hpre_0 : 0 ≤ k0.toInt) (hpre_1 : k0.toInt < 980) (hpre_2 : 0 ≤ k1.toInt) (hpre_3 : k1.toInt < 980) (hpre_4 : ((σ.2.1 51) k0.toNatClampNeg).toInt = 3 → FN ((σ.2.2.2) k0.toNatClampNeg)) (hpre_5 : ((σ.2.1 51) k1.toNatClampNeg).toInt = 3 → FN ((σ.2.2.2) k1.toNatClampNeg)) (hpre_6 : (σ.1 56).toInt = 0) (hpre_7 : 16 ≤ k2.toInt) (hpre_8 : k2.toInt ≤ 19) (hr1y : ∀ v9 : QV, QAT (qH (σ.2.1 36) (σ.2.1 37) (σ.2.1 38) (σ.2.1 39) (σ.2.1 40) (σ.2.1 41) (σ.2.1 42) (σ.2.1 43) (σ.2.1 44) (σ.2.1 45) (σ.2.1 46) (σ.2.1 48)) (σ.1 47).toInt ((σ.2.1 51), (σ.2.2.1 52), (σ.2.2.1 53), (σ.2.2.2)) k0.toNatClampNeg v9 → qNum v9 = true → r1 = qRe v9) (hr1 : FN r1) (hr2y : ∀ v9 : QV, QAT (qH (σ.2.1 36) (σ.2.1 37) (σ.2.1 38) (σ.2.1 39) (σ.2.1 40) (σ.2.1 41) (σ.2.1 42) (σ.2.1 43) (σ.2.1 44) (σ.2.1 45) (σ.2.1 46) (σ.2.1 48)) (σ.1 47).toInt ((σ.2.1 51), (σ.2.2.1 52), (σ.2.2.1 53), (σ.2.2.2)) k1.toNatClampNeg v9 → qNum v9 = true → r2 = qRe v9) (hr2 : FN r2) (c3 : ¬ k2.toInt = 19) (c4 : k2.toInt = 16) (ex23 : x23 = FP.dadd r1 r2) (ex24 : x24 = Op.cmpValue (FP.dcmp x23 (4786511204640096256 : UInt64)) .l) (c25 : x24.toInt ≤ 0) (ex27 : x27 = Op.cmpValue (FP.dcmp x23 (14009883241494872064 : UInt64)) .g) (c28 : x27.toInt < 0) : ∀ v9 w9 : QV, QAT (qH (σ.2.1 36) (σ.2.1 37) (σ.2.1 38) (σ.2.1 39) (σ.2.1 40) (σ.2.1 41) (σ.2.1 42) (σ.2.1 43) (σ.2.1 44) (σ.2.1 45) (σ.2.1 46) (σ.2.1 48)) (σ.1 47).toInt ((σ.2.1 51), (σ.2.2.1 52), (σ.2.2.1 53), (σ.2.2.2)) k0.toNatClampNeg v9 → QAT (qH (σ.2.1 36) (σ.2.1 37) (σ.2.1 38) (σ.2.1 39) (σ.2.1 40) (σ.2.1 41) (σ.2.1 42) (σ.2.1 43) (σ.2.1 44) (σ.2.1 45) (σ.2.1 46) (σ.2.1 48)) (σ.1 47).toInt ((σ.2.1 51), (σ.2.2.1 52), (σ.2.2.1 53), (σ.2.2.2)) k1.toNatClampNeg w9 → qNum v9 = true → qNum w9 = true → (σ.1 56).toInt = 0 → (16 ≤ k2.toInt ∧ k2.toInt ≤ 19) → QRES (qH (σ.2.1 36) (σ.2.1 37) (σ.2.1 38) (σ.2.1 39) (σ.2.1 40) (σ.2.1 41) (σ.2.1 42) (σ.2.1 43) (σ.2.1 44) (σ.2.1 45) (σ.2.1 46) (σ.2.1 48)) (σ.1 47).toInt ((σ.2.1 51), (σ.2.2.1 52), (σ.2.2.1 53), (σ.2.2.2)) ((upd (σ.2.1 51) k0.toNatClampNeg (3 : Int32)), (vp_updL (σ.2.2.1 52) k0.toNatClampNeg (0 : Int64)), (vp_updL (σ.2.2.1 53) k0.toNatClampNeg (0 : Int64)), (vf_upd (σ.2.2.2) k0.toNatClampNeg x23)) k0.toNatClampNeg (3 : Int32).toInt (qReals (qRe v9) (qRe w9) k2.toInt) := by
  have q3 : (3 : Int32).toInt = 3 := by decide +kernel
  have ql0 : (0 : Int64).toInt = 0 := by decide +kernel
  intro v9 w9 h9 g9 nv nw h0 hs
  have a := hr1y v9 h9 nv
  have b := hr2y w9 g9 nw
  unfold qReals
  rw [if_neg (by rintro ⟨h, _⟩; omega)]
  have er : x23 = qOp (qRe v9) (qRe w9) k2.toInt := by
    unfold qOp
    rw [ex23, a, b, if_pos (by omega)]
  rw [← er]
  have z1 : qGt x23 4786511204640096256 = false := decide_eq_false (by rw [← ex24]; omega)
  have z2 : qLt x23 14009883241494872064 = true := decide_eq_true (by rw [← ex27]; omega)
  rw [z1, z2]
  exact ⟨by decide +kernel, by decide, by decide, QX.put⟩
-- nan@79 @79
theorem v_reals_26 (r1 : UInt64) (r2 : UInt64) (x31 : Int32) (hr1 : FN r1) (hr2 : FN r2) (ex31 : x31 = Op.cmpValue (FP.dcmp r2 FP.dconst0) .l) (c32 : ¬ x31.toInt = 0) : vf_n64 (FP.ddiv r1 r2) := by
  obtain ⟨d, g1, g2⟩ := fp_div0 hr1 hr2 (fp_ne0 ex31 (by omega))
  exact fp_n g1 g2
-- post @121
theorem v_reals_27 (σ : RS) (k0 : Int32) (k1 : Int32) (r1 : UInt64) (r2 : UInt64) (x31 : Int32) (x36 : UInt64) (x37 : Int32) (hpre_0 : 0 ≤ k0.toInt) (hpre_1 : k0.toInt < 980) (hpre_2 : 0 ≤ k1.toInt) (hpre_3 : k1.toInt < 980) (hpre_4 : ((σ.2.1 51) k0.toNatClampNeg).toInt = 3 → FN ((σ.2.2.2) k0.toNatClampNeg)) (hpre_5 : ((σ.2.1 51) k1.toNatClampNeg).toInt = 3 → FN ((σ.2.2.2) k1.toNatClampNeg)) (hr1 : FN r1) (hr2 : FN r2) (ex31 : x31 = Op.cmpValue (FP.dcmp r2 FP.dconst0) .l) (c32 : ¬ x31.toInt = 0) (ex36 : x36 = FP.ddiv r1 r2) (ex37 : x37 = Op.cmpValue (FP.dcmp x36 (4786511204640096256 : UInt64)) .l) (c38 : 0 < x37.toInt) : 0 ≤ (3 : Int32).toInt ∧ (3 : Int32).toInt ≤ 11 ∧ (((3 : Int32).toInt = 2 ∧ (upd (σ.2.1 51) k0.toNatClampNeg (3 : Int32)) = (σ.2.1 51) ∧ (vp_updL (σ.2.2.1 52) k0.toNatClampNeg (0 : Int64)) = (σ.2.2.1 52) ∧ (vp_updL (σ.2.2.1 53) k0.toNatClampNeg (0 : Int64)) = (σ.2.2.1 53) ∧ (vf_upd (σ.2.2.2) k0.toNatClampNeg x36) = (σ.2.2.2)) ∨ (Cell1 (σ.2.1 51) (upd (σ.2.1 51) k0.toNatClampNeg (3 : Int32)) (σ.2.2.1 52) (vp_updL (σ.2.2.1 52) k0.toNatClampNeg (0 : Int64)) (σ.2.2.2) (vf_upd (σ.2.2.2) k0.toNatClampNeg x36) k0.toNatClampNeg (fun k v r => k = 3 ∧ ((3 : Int32).toInt = 0 → FN r)))) := by
  have q3 : (3 : Int32).toInt = 3 := by decide +kernel
  have ql0 : (0 : Int64).toInt = 0 := by decide +kernel
  refine ⟨by omega, by omega, Or.inr ⟨_, _, _, rfl, rfl, rfl, q3, fun h0 => ?_⟩⟩
  obtain ⟨d, g1, g2⟩ := fp_div0 hr1 hr2 (fp_ne0 ex31 (by omega))
  rcases fp_inf g1 (ex36.trans g2) with h | h | h
  · exact h
  · exfalso
    have h_x37 := ex37; rw [h] at h_x37
    have k_x37 : x37.toInt = 1 := by rw [h_x37]; decide +kernel
    omega
  · exfalso
    have h_x37 := ex37; rw [h] at h_x37
    have k_x37 : x37.toInt = -1 := by rw [h_x37]; decide +kernel
    omega
-- post2 @121
theorem v_reals_28 (σ : RS) (k0 : Int32) (k1 : Int32) (k2 : Int32) (r1 : UInt64) (r2 : UInt64) (x31 : Int32) (x36 : UInt64) (x37 : Int32) (hpre_0 : 0 ≤ k0.toInt) (hpre_1 : k0.toInt < 980) (hpre_2 : 0 ≤ k1.toInt) (hpre_3 : k1.toInt < 980) (hpre_4 : ((σ.2.1 51) k0.toNatClampNeg).toInt = 3 → FN ((σ.2.2.2) k0.toNatClampNeg)) (hpre_5 : ((σ.2.1 51) k1.toNatClampNeg).toInt = 3 → FN ((σ.2.2.2) k1.toNatClampNeg)) (hpre_6 : (σ.1 56).toInt = 0) (hpre_7 : 16 ≤ k2.toInt) (hpre_8 : k2.toInt ≤ 19) (hr1y : ∀ v9 : QV, QAT (qH (σ.2.1 36) (σ.2.1 37) (σ.2.1 38) (σ.2.1 39) (σ.2.1 40) (σ.2.1 41) (σ.2.1 42) (σ.2.1 43) (σ.2.1 44) (σ.2.1 45) (σ.2.1 46) (σ.2.1 48)) (σ.1 47).toInt ((σ.2.1 51), (σ.2.2.1 52), (σ.2.2.1 53), (σ.2.2.2)) k0.toNatClampNeg v9 → qNum v9 = true → r1 = qRe v9) (hr1 : FN r1) (hr2y : ∀ v9 : QV, QAT (qH (σ.2.1 36) (σ.2.1 37) (σ.2.1 38) (σ.2.1 39) (σ.2.1 40) (σ.2.1 41) (σ.2.1 42) (σ.2.1 43) (σ.2.1 44) (σ.2.1 45) (σ.2.1 46) (σ.2.1 48)) (σ.1 47).toInt ((σ.2.1 51), (σ.2.2.1 52), (σ.2.2.1 53), (σ.2.2.2)) k1.toNatClampNeg v9 → qNum v9 = true → r2 = qRe v9) (hr2 : FN r2) (c3 : k2.toInt = 19) (ex31 : x31 = Op.cmpValue (FP.dcmp r2 FP.dconst0) .l) (c32 : ¬ x31.toInt = 0) (c33 : ¬ k2.toInt = 16) (c34 : ¬ k2.toInt = 17) (c35 : ¬ k2.toInt = 18) (ex36 : x36 = FP.ddiv r1 r2) (ex37 : x37 = Op.cmpValue (FP.dcmp x36 (4786511204640096256 : UInt64)) .l) (c38 : 0 < x37.toInt) : ∀ v9 w9 : QV, QAT (qH (σ.2.1 36) (σ.2.1 37) (σ.2.1 38) (σ.2.1 39) (σ.2.1 40) (σ.2.1 41) (σ.2.1 42) (σ.2.1 43) (σ.2.1 44) (σ.2.1 45) (σ.2.1 46) (σ.2.1 48)) (σ.1 47).toInt ((σ.2.1 51), (σ.2.2.1 52), (σ.2.2.1 53), (σ.2.2.2)) k0.toNatClampNeg v9 → QAT (qH (σ.2.1 36) (σ.2.1 37) (σ.2.1 38) (σ.2.1 39) (σ.2.1 40) (σ.2.1 41) (σ.2.1 42) (σ.2.1 43) (σ.2.1 44) (σ.2.1 45) (σ.2.1 46) (σ.2.1 48)) (σ.1 47).toInt ((σ.2.1 51), (σ.2.2.1 52), (σ.2.2.1 53), (σ.2.2.2)) k1.toNatClampNeg w9 → qNum v9 = true → qNum w9 = true → (σ.1 56).toInt = 0 → (16 ≤ k2.toInt ∧ k2.toInt ≤ 19) → QRES (qH (σ.2.1 36) (σ.2.1 37) (σ.2.1 38) (σ.2.1 39) (σ.2.1 40) (σ.2.1 41) (σ.2.1 42) (σ.2.1 43) (σ.2.1 44) (σ.2.1 45) (σ.2.1 46) (σ.2.1 48)) (σ.1 47).toInt ((σ.2.1 51), (σ.2.2.1 52), (σ.2.2.1 53), (σ.2.2.2)) ((upd (σ.2.1 51) k0.toNatClampNeg (3 : Int32)), (vp_updL (σ.2.2.1 52) k0.toNatClampNeg (0 : Int64)), (vp_updL (σ.2.2.1 53) k0.toNatClampNeg (0 : Int64)), (vf_upd (σ.2.2.2) k0.toNatClampNeg x36)) k0.toNatClampNeg (3 : Int32).toInt (qReals (qRe v9) (qRe w9) k2.toInt) := by
  have q3 : (3 : Int32).toInt = 3 := by decide +kernel
  have ql0 : (0 : Int64).toInt = 0 := by decide +kernel
  intro v9 w9 h9 g9 nv nw h0 hs
  have a := hr1y v9 h9 nv
  have b := hr2y w9 g9 nw
  unfold qReals
  have zz := ex31
  rw [b] at zz
  have ze : qEq (qRe w9) FP.dconst0 = false := decide_eq_false (by rw [← zz]; omega)
  rw [if_neg (by rw [ze]; rintro ⟨_, h⟩; cases h)]
  have er : x36 = qOp (qRe v9) (qRe w9) k2.toInt := by
    unfold qOp
    rw [ex36, a, b, if_neg (by omega), if_neg (by omega), if_neg (by omega)]
  rw [← er]
  have z1 : qGt x36 4786511204640096256 = true := decide_eq_true (by rw [← ex37]; omega)
  rw [z1]
  exact ⟨by decide +kernel, by decide, by decide, QX.put⟩
-- post @121
theorem v_reals_29 (σ : RS) (k0 : Int32) (k1 : Int32) (r1 : UInt64) (r2 : UInt64) (x31 : Int32) (x36 : UInt64) (x37 : Int32) (x40 : Int32) (hpre_0 : 0 ≤ k0.toInt) (hpre_1 : k0.toInt < 980) (hpre_2 : 0 ≤ k1.toInt) (hpre_3 : k1.toInt < 980) (hpre_4 : ((σ.2.1 51) k0.toNatClampNeg).toInt = 3 → FN ((σ.2.2.2) k0.toNatClampNeg)) (hpre_5 : ((σ.2.1 51) k1.toNatClampNeg).toInt = 3 → FN ((σ.2.2.2) k1.toNatClampNeg)) (hpre_6 : (σ.1 56).toInt = 0) (hr1 : FN r1) (hr2 : FN r2) (ex31 : x31 = Op.cmpValue (FP.dcmp r2 FP.dconst0) .l) (c32 : ¬ x31.toInt = 0) (ex36 : x36 = FP.ddiv r1 r2) (ex37 : x37 = Op.cmpValue (FP.dcmp x36 (4786511204640096256 : UInt64)) .l) (c38 : x37.toInt ≤ 0) (ex40 : x40 = Op.cmpValue (FP.dcmp x36 (14009883241494872064 : UInt64)) .g) (c41 : 0 ≤ x40.toInt) : 0 ≤ (σ.1 56).toInt ∧ (σ.1 56).toInt ≤ 11 ∧ (((σ.1 56).toInt = 2 ∧ (upd (σ.2.1 51) k0.toNatClampNeg (3 : Int32)) = (σ.2.1 51) ∧ (vp_updL (σ.2.2.1 52) k0.toNatClampNeg (0 : Int64)) = (σ.2.2.1 52) ∧ (vp_updL (σ.2.2.1 53) k0.toNatClampNeg (0 : Int64)) = (σ.2.2.1 53) ∧ (vf_upd (σ.2.2.2) k0.toNatClampNeg x36) = (σ.2.2.2)) ∨ (Cell1 (σ.2.1 51) (upd (σ.2.1 51) k0.toNatClampNeg (3 : Int32)) (σ.2.2.1 52) (vp_updL (σ.2.2.1 52) k0.toNatClampNeg (0 : Int64)) (σ.2.2.2) (vf_upd (σ.2.2.2) k0.toNatClampNeg x36) k0.toNatClampNeg (fun k v r => k = 3 ∧ ((σ.1 56).toInt = 0 → FN r)))) := by
  have q3 : (3 : Int32).toInt = 3 := by decide +kernel
  have ql0 : (0 : Int64).toInt = 0 := by decide +kernel
  refine ⟨by omega, by omega, Or.inr ⟨_, _, _, rfl, rfl, rfl, q3, fun h0 => ?_⟩⟩
  obtain ⟨d, g1, g2⟩ := fp_div0 hr1 hr2 (fp_ne0 ex31 (by omega))
  rcases fp_inf g1 (ex36.trans g2) with h | h | h
  · exact h
  · exfalso
    have h_x37 := ex37; rw [h] at h_x37
    have k_x37 : x37.toInt = 1 := by rw [h_x37]; decide +kernel
    have h_x40 := ex40; rw [h] at h_x40
    have k_x40 : x40.toInt = 1 := by rw [h_x40]; decide +kernel
    omega
  · exfalso
    have h_x37 := ex37; rw [h] at h_x37
    have k_x37 : x37.toInt = -1 := by rw [h_x37]; decide +kernel
    have h_x40 := ex40; rw [h] at h_x40
    have k_x40 : x40.toInt = -1 := by rw [h_x40]; decide +kernel
    omega
-- post2 @121
theorem v_reals_30 (σ : RS) (k0 : Int32) (k1 : Int32) (k2 : Int32) (r1 : UInt64) (r2 : UInt64) (x31 : Int32) (x36 : UInt64) (x37 : Int32) (x40 : Int32) (hpre_0 : 0 ≤ k0.toInt) (hpre_1 : k0.toInt < 980) (hpre_2 : 0 ≤ k1.toInt) (hpre_3 : k1.toInt < 980) (hpre_4 : ((σ.2.1 51) k0.toNatClampNeg).toInt = 3 → FN ((σ.2.2.2) k0.toNatClampNeg)) (hpre_5 : ((σ.2.1 51) k1.toNatClampNeg).toInt = 3 → FN ((σ.2.2.2) k1.toNatClampNeg)) (hpre_6 : (σ.1 56).toInt = 0) (hpre_7 : 16 ≤ k2.toInt) (hpre_8 : k2.toInt ≤ 19) (hr1y : ∀ v9 : QV, QAT (qH (σ.2.1 36) (σ.2.1 37) (σ.2.1 38) (σ.2.1 39) (σ.2.1 40) (σ.2.1 41) (σ.2.1 42) (σ.2.1 43) (σ.2.1 44) (σ.2.1 45) (σ.2.1 46) (σ.2.1 48)) (σ.1 47).toInt ((σ.2.1 51), (σ.2.2.1 52), (σ.2.2.1 53), (σ.2.2.2)) k0.toNatClampNeg v9 → qNum v9 = true → r1 = qRe v9) (hr1 : FN r1) (hr2y : ∀ v9 : QV, QAT (qH (σ.2.1 36) (σ.2.1 37) (σ.2.1 38) (σ.2.1 39) (σ.2.1 40) (σ.2.1 41) (σ.2.1 42) (σ.2.1 43) (σ.2.1 44) (σ.2.1 45) (σ.2.1 46) (σ.2.1 48)) (σ.1 47).toInt ((σ.2.1 51), (σ.2.2.1 52), (σ.2.2.1 53), (σ.2.2.2)) k1.toNatClampNeg v9 → qNum v9 = true → r2 = qRe v9) (hr2 : FN r2) (c3 : k2.toInt = 19) (ex31 : x31 = Op.cmpValue (FP.dcmp r2 FP.dconst0) .l) (c32 : ¬ x31.toInt = 0) (c33 : ¬ k2.toInt = 16) (c34 : ¬ k2.toInt = 17) (c35 : ¬ k2.toInt = 18) (ex36 : x36 = FP.ddiv r1 r2) (ex37 : x37 = Op.cmpValue (FP.dcmp x36 (4786511204640096256 : UInt64)) .l) (c38 : x37.toInt ≤ 0) (ex40 : x40 = Op.cmpValue (FP.dcmp x36 (14009883241494872064 : UInt64)) .g) (c41 : 0 ≤ x40.toInt) : ∀ v9 w9 : QV, QAT (qH (σ.2.1 36) (σ.2.1 37) (σ.2.1 38) (σ.2.1 39) (σ.2.1 40) (σ.2.1 41) (σ.2.1 42) (σ.2.1 43) (σ.2.1 44) (σ.2.1 45) (σ.2.1 46) (σ.2.1 48)) (σ.1 47).toInt ((σ.2.1 51), (σ.2.2.1 52), (σ.2.2.1 53), (σ.2.2.2)) k0.toNatClampNeg v9 → QAT (qH (σ.2.1 36) (σ.2.1 37) (σ.2.1 38) (σ.2.1 39) (σ.2.1 40) (σ.2.1 41) (σ.2.1 42) (σ.2.1 43) (σ.2.1 44) (σ.2.1 45) (σ.2.1 46) (σ.2.1 48)) (σ.1 47).toInt ((σ.2.1 51), (σ.2.2.1 52), (σ.2.2.1 53), (σ.2.2.2)) k1.toNatClampNeg w9 → qNum v9 = true → qNum w9 = true → (σ.1 56).toInt = 0 → (16 ≤ k2.toInt ∧ k2.toInt ≤ 19) → QRES (qH (σ.2.1 36) (σ.2.1 37) (σ.2.1 38) (σ.2.1 39) (σ.2.1 40) (σ.2.1 41) (σ.2.1 42) (σ.2.1 43) (σ.2.1 44) (σ.2.1 45) (σ.2.1 46) (σ.2.1 48)) (σ.1 47).toInt ((σ.2.1 51), (σ.2.2.1 52), (σ.2.2.1 53), (σ.2.2.2)) ((upd (σ.2.1 51) k0.toNatClampNeg (3 : Int32)), (vp_updL (σ.2.2.1 52) k0.toNatClampNeg (0 : Int64)), (vp_updL (σ.2.2.1 53) k0.toNatClampNeg (0 : Int64)), (vf_upd (σ.2.2.2) k0.toNatClampNeg x36)) k0.toNatClampNeg (σ.1 56).toInt (qReals (qRe v9) (qRe w9) k2.toInt) := by
  have q3 : (3 : Int32).toInt = 3 := by decide +kernel
  have ql0 : (0 : Int64).toInt = 0 := by decide +kernel
  intro v9 w9 h9 g9 nv nw h0 hs
  have a := hr1y v9 h9 nv
  have b := hr2y w9 g9 nw
  unfold qReals
  have zz := ex31
  rw [b] at zz
  have ze : qEq (qRe w9) FP.dconst0 = false := decide_eq_false (by rw [← zz]; omega)
  rw [if_neg (by rw [ze]; rintro ⟨_, h⟩; cases h)]
  have er : x36 = qOp (qRe v9) (qRe w9) k2.toInt := by
    unfold qOp
    rw [ex36, a, b, if_neg (by omega), if_neg (by omega), if_neg (by omega)]
  rw [← er]
  have z1 : qGt x36 4786511204640096256 = false := decide_eq_false (by rw [← ex37]; omega)
  have z2 : qLt x36 14009883241494872064 = false := decide_eq_false (by rw [← ex40]; omega)
  rw [z1, z2]
  refine ⟨h0, QW.real q3 ?_⟩
  rw [er] at z1 z2 ⊢
  exact q_opfin (h9.ok.re nv) (g9.ok.re nw) (fun e6 e7 e8 => ze) z1 z2
-- post @121
theorem v_reals_31 (σ : RS) (k0 : Int32) (k1 : Int32) (r1 : UInt64) (r2 : UInt64) (x31 : Int32) (x36 : UInt64) (x37 : Int32) (x40 : Int32) (hpre_0 : 0 ≤ k0.toInt) (hpre_1 : k0.toInt < 980) (hpre_2 : 0 ≤ k1.toInt) (hpre_3 : k1.toInt < 980) (hpre_4 : ((σ.2.1 51) k0.toNatClampNeg).toInt = 3 → FN ((σ.2.2.2) k0.toNatClampNeg)) (hpre_5 : ((σ.2.1 51) k1.toNatClampNeg).toInt = 3 → FN ((σ.2.2.2) k1.toNatClampNeg)) (hr1 : FN r1) (hr2 : FN r2) (ex31 : x31 = Op.cmpValue (FP.dcmp r2 FP.dconst0) .l) (c32 : ¬ x31.toInt = 0) (ex36 : x36 = FP.ddiv r1 r2) (ex37 : x37 = Op.cmpValue (FP.dcmp x36 (4786511204640096256 : UInt64)) .l) (c38 : x37.toInt ≤ 0) (ex40 : x40 = Op.cmpValue (FP.dcmp x36 (14009883241494872064 : UInt64)) .g) (c41 : x40.toInt < 0) : 0 ≤ (3 : Int32).toInt ∧ (3 : Int32).toInt ≤ 11 ∧ (((3 : Int32).toInt = 2 ∧ (upd (σ.2.1 51) k0.toNatClampNeg (3 : Int32)) = (σ.2.1 51) ∧ (vp_updL (σ.2.2.1 52) k0.toNatClampNeg (0 : Int64)) = (σ.2.2.1 52) ∧ (vp_updL (σ.2.2.1 53) k0.toNatClampNeg (0 : Int64)) = (σ.2.2.1 53) ∧ (vf_upd (σ.2.2.2) k0.toNatClampNeg x36) = (σ.2.2.2)) ∨ (Cell1 (σ.2.1 51) (upd (σ.2.1 51) k0.toNatClampNeg (3 : Int32)) (σ.2.2.1 52) (vp_updL (σ.2.2.1 52) k0.toNatClampNeg (0 : Int64)) (σ.2.2.2) (vf_upd (σ.2.2.2) k0.toNatClampNeg x36) k0.toNatClampNeg (fun k v r => k = 3 ∧ ((3 : Int32).toInt = 0 → FN r)))) := by
  have q3 : (3 : Int32).toInt = 3 := by decide +kernel
  have ql0 : (0 : Int64).toInt = 0 := by decide +kernel
  refine ⟨by omega, by omega, Or.inr ⟨_, _, _, rfl, rfl, rfl, q3, fun h0 => ?_⟩⟩
  obtain ⟨d, g1, g2⟩ := fp_div0 hr1 hr2 (fp_ne0 ex31 (by omega))
  rcases fp_inf g1 (ex36.trans g2) with h | h | h
  · exact h
  · exfalso
    have h_x37 := ex37; rw [h] at h_x37
    have k_x37 : x37.toInt = 1 := by rw [h_x37]; decide +kernel
    have h_x40 := ex40; rw [h] at h_x40
    have k_x40 : x40.toInt = 1 := by rw [h_x40]; decide +kernel
    omega
  · exfalso
    have h_x37 := ex37; rw [h] at h_x37
    have k_x37 : x37.toInt = -1 := by rw [h_x37]; decide +kernel
    have h_x40 := ex40; rw [h] at h_x40
    have k_x40 : x40.toInt = -1 := by rw [h_x40]; decide +kernel
    omega
-- post2 @121
theorem v_reals_32 (σ : RS) (k0 : Int32) (k1 : Int32) (k2 : Int32) (r1 : UInt64) (r2 : UInt64) (x31 : Int32) (x36 : UInt64) (x37 : Int32) (x40 : Int32) (hpre_0 : 0 ≤ k0.toInt) (hpre_1 : k0.toInt < 980) (hpre_2 : 0 ≤ k1.toInt) (hpre_3 : k1.toInt < 980) (hpre_4 : ((σ.2.1 51) k0.toNatClampNeg).toInt = 3 → FN ((σ.2.2.2) k0.toNatClampNeg)) (hpre_5 : ((σ.2.1 51) k1.toNatClampNeg).toInt = 3 → FN ((σ.2.2.2) k1.toNatClampNeg)) (hpre_6 : (σ.1 56).toInt = 0) (hpre_7 : 16 ≤ k2.toInt) (hpre_8 : k2.toInt ≤ 19) (hr1y : ∀ v9 : QV, QAT (qH (σ.2.1 36) (σ.2.1 37) (σ.2.1 38) (σ.2.1 39) (σ.2.1 40) (σ.2.1 41) (σ.2.1 42) (σ.2.1 43) (σ.2.1 44) (σ.2.1 45) (σ.2.1 46) (σ.2.1 48)) (σ.1 47).toInt ((σ.2.1 51), (σ.2.2.1 52), (σ.2.2.1 53), (σ.2.2.2)) k0.toNatClampNeg v9 → qNum v9 = true → r1 = qRe v9) (hr1 : FN r1) (hr2y : ∀ v9 : QV, QAT (qH (σ.2.1 36) (σ.2.1 37) (σ.2.1 38) (σ.2.1 39) (σ.2.1 40) (σ.2.1 41) (σ.2.1 42) (σ.2.1 43) (σ.2.1 44) (σ.2.1 45) (σ.2.1 46) (σ.2.1 48)) (σ.1 47).toInt ((σ.2.1 51), (σ.2.2.1 52), (σ.2.2.1 53), (σ.2.2.2)) k1.toNatClampNeg v9 → qNum v9 = true → r2 = qRe v9) (hr2 : FN r2) (c3 : k2.toInt = 19) (ex31 : x31 = Op.cmpValue (FP.dcmp r2 FP.dconst0) .l) (c32 : ¬ x31.toInt = 0) (c33 : ¬ k2.toInt = 16) (c34 : ¬ k2.toInt = 17) (c35 : ¬ k2.toInt = 18) (ex36 : x36 = FP.ddiv r1 r2) (ex37 : x37 = Op.cmpValue (FP.dcmp x36 (4786511204640096256 : UInt64)) .l) (c38 : x37.toInt ≤ 0) (ex40 : x40 = Op.cmpValue (FP.dcmp x36 (14009883241494872064 : UInt64)) .g) (c41 : x40.toInt < 0) : ∀ v9 w9 : QV, QAT (qH (σ.2.1 36) (σ.2.1 37) (σ.2.1 38) (σ.2.1 39) (σ.2.1 40) (σ.2.1 41) (σ.2.1 42) (σ.2.1 43) (σ.2.1 44) (σ.2.1 45) (σ.2.1 46) (σ.2.1 48)) (σ.1 47).toInt ((σ.2.1 51), (σ.2.2.1 52), (σ.2.2.1 53), (σ.2.2.2)) k0.toNatClampNeg v9 → QAT (qH (σ.2.1 36) (σ.2.1 37) (σ.2.1 38) (σ.2.1 39) (σ.2.1 40) (σ.2.1 41) (σ.2.1 42) (σ.2.1 43) (σ.2.1 44) (σ.2.1 45) (σ.2.1 46) (σ.2.1 48)) (σ.1 47).toInt ((σ.2.1 51), (σ.2.2.1 52), (σ.2.2.1 53), (σ.2.2.2)) k1.toNatClampNeg w9 → qNum v9 = true → qNum w9 = true → (σ.1 56).toInt = 0 → (16 ≤ k2.toInt ∧ k2.toInt ≤ 19) → QRES (qH (σ.2.1 36) (σ.2.1 37) (σ.2.1 38) (σ.2.1 39) (σ.2.1 40) (σ.2.1 41) (σ.2.1 42) (σ.2.1 43) (σ.2.1 44) (σ.2.1 45) (σ.2.1 46) (σ.2.1 48)) (σ.1 47).toInt ((σ.2.1 51), (σ.2.2.1 52), (σ.2.2.1 53), (σ.2.2.2)) ((upd (σ.2.1 51) k0.toNatClampNeg (3 : Int32)), (vp_updL (σ.2.2.1 52) k0.toNatClampNeg (0 : Int64)), (vp_updL (σ.2.2.1 53) k0.toNatClampNeg (0 : Int64)), (vf_upd (σ.2.2.2) k0.toNatClampNeg x36)) k0.toNatClampNeg (3 : Int32).toInt (qReals (qRe v9) (qRe w9) k2.toInt) := by
  have q3 : (3 : Int32).toInt = 3 := by decide +kernel
  have ql0 : (0 : Int64).toInt = 0 := by decide +kernel
  intro v9 w9 h9 g9 nv nw h0 hs
  have a := hr1y v9 h9 nv
  have b := hr2y w9 g9 nw
  unfold qReals
  have zz := ex31
  rw [b] at zz
  have ze : qEq (qRe w9) FP.dconst0 = false := decide_eq_false (by rw [← zz]; omega)
  rw [if_neg (by rw [ze]; rintro ⟨_, h⟩; cases h)]
  have er : x36 = qOp (qRe v9) (qRe w9) k2.toInt := by
    unfold qOp
    rw [ex36, a, b, if_neg (by omega), if_neg (by omega), if_neg (by omega)]
  rw [← er]
  have z1 : qGt x36 4786511204640096256 = false := decide_eq_false (by rw [← ex37]; omega)
  have z2 : qLt x36 14009883241494872064 = true := decide_eq_true (by rw [← ex40]; omega)
  rw [z1, z2]
  exact ⟨by decide +kernel, by decide, by decide, QX.put⟩
-- dead@64 @67
theorem v_reals_33 (k2 : Int32) (hpre_7 : 16 ≤ k2.toInt) (hpre_8 : k2.toInt ≤ 19) (c3 : k2.toInt = 19) (c33 : ¬ k2.toInt = 16) (c34 : ¬ k2.toInt = 17) (c35 : k2.toInt = 18) : False := by
  first | assumption | omega | (subst_vars; omega) | trivial
-- dead@50 @53
theorem v_reals_34 (k2 : Int32) (hpre_7 : 16 ≤ k2.toInt) (hpre_8 : k2.toInt ≤ 19) (c3 : k2.toInt = 19) (c33 : ¬ k2.toInt = 16) (c34 : k2.toInt = 17) : False := by
  first | assumption | omega | (subst_vars; omega) | trivial
-- dead@36 @39
theorem v_reals_35 (k2 : Int32) (hpre_7 : 16 ≤ k2.toInt) (hpre_8 : k2.toInt ≤ 19) (c3 : k2.toInt = 19) (c33 : k2.toInt = 16) : False := by
  first | assumption | omega | (subst_vars; omega) | trivial
-- post @32
theorem v_reals_36 (σ : RS) (k0 : Int32) (k1 : Int32) (hpre_0 : 0 ≤ k0.toInt) (hpre_1 : k0.toInt < 980) (hpre_2 : 0 ≤ k1.toInt) (hpre_3 : k1.toInt < 980) (hpre_4 : ((σ.2.1 51) k0.toNatClampNeg).toInt = 3 → FN ((σ.2.2.2) k0.toNatClampNeg)) (hpre_5 : ((σ.2.1 51) k1.toNatClampNeg).toInt = 3 → FN ((σ.2.2.2) k1.toNatClampNeg)) : 0 ≤ (2 : Int32).toInt ∧ (2 : Int32).toInt ≤ 11 ∧ (((2 : Int32).toInt = 2 ∧ (σ.2.1 51) = (σ.2.1 51) ∧ (σ.2.2.1 52) = (σ.2.2.1 52) ∧ (σ.2.2.1 53) = (σ.2.2.1 53) ∧ (σ.2.2.2) = (σ.2.2.2)) ∨ (Cell1 (σ.2.1 51) (σ.2.1 51) (σ.2.2.1 52) (σ.2.2.1 52) (σ.2.2.2) (σ.2.2.2) k0.toNatClampNeg (fun k v r => k = 3 ∧ ((2 : Int32).toInt = 0 → FN r)))) := by
  have q2 : (2 : Int32).toInt = 2 := by decide +kernel
  exact ⟨by omega, by omega, Or.inl ⟨by omega, rfl, rfl, rfl, rfl⟩⟩
-- post2 @32
theorem v_reals_37 (σ : RS) (k0 : Int32) (k1 : Int32) (k2 : Int32) (r1 : UInt64) (r2 : UInt64) (x31 : Int32) (hpre_0 : 0 ≤ k0.toInt) (hpre_1 : k0.toInt < 980) (hpre_2 : 0 ≤ k1.toInt) (hpre_3 : k1.toInt < 980) (hpre_4 : ((σ.2.1 51) k0.toNatClampNeg).toInt = 3 → FN ((σ.2.2.2) k0.toNatClampNeg)) (hpre_5 : ((σ.2.1 51) k1.toNatClampNeg).toInt = 3 → FN ((σ.2.2.2) k1.toNatClampNeg)) (hpre_6 : (σ.1 56).toInt = 0) (hpre_7 : 16 ≤ k2.toInt) (hpre_8 : k2.toInt ≤ 19) (hr1y : ∀ v9 : QV, QAT (qH (σ.2.1 36) (σ.2.1 37) (σ.2.1 38) (σ.2.1 39) (σ.2.1 40) (σ.2.1 41) (σ.2.1 42) (σ.2.1 43) (σ.2.1 44) (σ.2.1 45) (σ.2.1 46) (σ.2.1 48)) (σ.1 47).toInt ((σ.2.1 51), (σ.2.2.1 52), (σ.2.2.1 53), (σ.2.2.2)) k0.toNatClampNeg v9 → qNum v9 = true → r1 = qRe v9) (hr1 : FN r1) (hr2y : ∀ v9 : QV, QAT (qH (σ.2.1 36) (σ.2.1 37) (σ.2.1 38) (σ.2.1 39) (σ.2.1 40) (σ.2.1 41) (σ.2.1 42) (σ.2.1 43) (σ.2.1 44) (σ.2.1 45) (σ.2.1 46) (σ.2.1 48)) (σ.1 47).toInt ((σ.2.1 51), (σ.2.2.1 52), (σ.2.2.1 53), (σ.2.2.2)) k1.toNatClampNeg v9 → qNum v9 = true → r2 = qRe v9) (hr2 : FN r2) (c3 : k2.toInt = 19) (ex31 : x31 = Op.cmpValue (FP.dcmp r2 FP.dconst0) .l) (c32 : x31.toInt = 0) : ∀ v9 w9 : QV, QAT (qH (σ.2.1 36) (σ.2.1 37) (σ.2.1 38) (σ.2.1 39) (σ.2.1 40) (σ.2.1 41) (σ.2.1 42) (σ.2.1 43) (σ.2.1 44) (σ.2.1 45) (σ.2.1 46) (σ.2.1 48)) (σ.1 47).toInt ((σ.2.1 51), (σ.2.2.1 52), (σ.2.2.1 53), (σ.2.2.2)) k0.toNatClampNeg v9 → QAT (qH (σ.2.1 36) (σ.2.1 37) (σ.2.1 38) (σ.2.1 39) (σ.2.1 40) (σ.2.1 41) (σ.2.1 42) (σ.2.1 43) (σ.2.1 44) (σ.2.1 45) (σ.2.1 46) (σ.2.1 48)) (σ.1 47).toInt ((σ.2.1 51), (σ.2.2.1 52), (σ.2.2.1 53), (σ.2.2.2)) k1.toNatClampNeg w9 → qNum v9 = true → qNum w9 = true → (σ.1 56).toInt = 0 → (16 ≤ k2.toInt ∧ k2.toInt ≤ 19) → QRES (qH (σ.2.1 36) (σ.2.1 37) (σ.2.1 38) (σ.2.1 39) (σ.2.1 40) (σ.2.1 41) (σ.2.1 42) (σ.2.1 43) (σ.2.1 44) (σ.2.1 45) (σ.2.1 46) (σ.2.1 48)) (σ.1 47).toInt ((σ.2.1 51), (σ.2.2.1 52), (σ.2.2.1 53), (σ.2.2.2)) ((σ.2.1 51), (σ.2.2.1 52), (σ.2.2.1 53), (σ.2.2.2)) k0.toNatClampNeg (2 : Int32).toInt (qReals (qRe v9) (qRe w9) k2.toInt) := by
  have q2 : (2 : Int32).toInt = 2 := by decide +kernel
  intro v9 w9 h9 g9 nv nw h0 hs
  have a := hr1y v9 h9 nv
  have b := hr2y w9 g9 nw
  unfold qReals
  have zz := ex31
  rw [b] at zz
  have ze : qEq (qRe w9) FP.dconst0 = true := decide_eq_true (by rw [← zz]; omega)
  rw [if_pos ⟨by omega, ze⟩]
  exact ⟨by decide +kernel, by decide, by decide, QX.self⟩
set_option maxHeartbeats 4000000 in
set_option maxRecDepth 100000 in
theorem M_reals (l : Launch) (D : va_G) (cy : Nat → ClassId) (sz0 : Nat) (sa : Nat → Nat) (ad : Nat → Nat) (σ : RS) (sz : Nat) (k0 : Int32) (k1 : Int32) (k2 : Int32) (hpre : 0 ≤ k0.toInt ∧ k0.toInt < 980 ∧ 0 ≤ k1.toInt ∧ k1.toInt < 980 ∧ (((σ.2.1 51) k0.toNatClampNeg).toInt = 3 → FN ((σ.2.2.2) k0.toNatClampNeg)) ∧ (((σ.2.1 51) k1.toNatClampNeg).toInt = 3 → FN ((σ.2.2.2) k1.toNatClampNeg)) ∧ (σ.1 56).toInt = 0 ∧ 16 ≤ k2.toInt ∧ k2.toInt ≤ 19) : Met l yX12_reals (Cond.code yX12_reals cX12_reals 10 none :: GWm) ({ frames := 1, cells := 0, slots := 0, locals := 26 }) (PcR D cy sz0 sa ad [.ref (ad 0), .int k0, .int k1, .int k2] σ sz) (va_Qv (fun (u : (Nat → Int32) × (Nat → Int64) × (Nat → Int64) × (Nat → UInt64) × Int32) => (0 ≤ u.2.2.2.2.toInt ∧ u.2.2.2.2.toInt ≤ 11 ∧ ((u.2.2.2.2.toInt = 2 ∧ u.1 = (σ.2.1 51) ∧ u.2.1 = (σ.2.2.1 52) ∧ u.2.2.1 = (σ.2.2.1 53) ∧ u.2.2.2.1 = (σ.2.2.2)) ∨ (Cell1 (σ.2.1 51) u.1 (σ.2.2.1 52) u.2.1 (σ.2.2.2) u.2.2.2.1 k0.toNatClampNeg (fun k v r => k = 3 ∧ (u.2.2.2.2.toInt = 0 → FN r))))) ∧ (∀ v9 w9 : QV, QAT (qH (σ.2.1 36) (σ.2.1 37) (σ.2.1 38) (σ.2.1 39) (σ.2.1 40) (σ.2.1 41) (σ.2.1 42) (σ.2.1 43) (σ.2.1 44) (σ.2.1 45) (σ.2.1 46) (σ.2.1 48)) (σ.1 47).toInt ((σ.2.1 51), (σ.2.2.1 52), (σ.2.2.1 53), (σ.2.2.2)) k0.toNatClampNeg v9 → QAT (qH (σ.2.1 36) (σ.2.1 37) (σ.2.1 38) (σ.2.1 39) (σ.2.1 40) (σ.2.1 41) (σ.2.1 42) (σ.2.1 43) (σ.2.1 44) (σ.2.1 45) (σ.2.1 46) (σ.2.1 48)) (σ.1 47).toInt ((σ.2.1 51), (σ.2.2.1 52), (σ.2.2.1 53), (σ.2.2.2)) k1.toNatClampNeg w9 → qNum v9 = true → qNum w9 = true → (σ.1 56).toInt = 0 → (16 ≤ k2.toInt ∧ k2.toInt ≤ 19) → QRES (qH (σ.2.1 36) (σ.2.1 37) (σ.2.1 38) (σ.2.1 39) (σ.2.1 40) (σ.2.1 41) (σ.2.1 42) (σ.2.1 43) (σ.2.1 44) (σ.2.1 45) (σ.2.1 46) (σ.2.1 48)) (σ.1 47).toInt ((σ.2.1 51), (σ.2.2.1 52), (σ.2.2.1 53), (σ.2.2.2)) (u.1, u.2.1, u.2.2.1, u.2.2.2.1) k0.toNatClampNeg u.2.2.2.2.toInt (qReals (qRe v9) (qRe w9) k2.toInt))) (fun (u : (Nat → Int32) × (Nat → Int64) × (Nat → Int64) × (Nat → UInt64) × Int32) (t : State) => RP D cy ad (rS (rR (rJ (rJ (rA σ 51 u.1) 52 u.2.1) 53 u.2.2.1) u.2.2.2.1) 56 u.2.2.2.2) t.heap) (AR cy ad sz)) 0 0 (AR cy ad sz) := by
  refine RM_of (loc0 := [(0, .ref (ad 0)), (1, .int k0), (2, .int k1), (3, .int k2)]) (by decide) rfl rfl (Nat.le_of_ble_eq_true rfl) ?_
  intro p e s m below meth c ls hsz C hP hS hl
  have hx := C.1
  have hb := C.2.1
  have hown := C.2.2.2.2.1
  have hw := C.2.2.2.2.2.1
  clear hsz
  obtain ⟨hpre_0, hpre_1, hpre_2, hpre_3, hpre_4, hpre_5, hpre_6, hpre_7, hpre_8⟩ := hpre
  refine lv_aload_n hx hb dX12_reals_0 rfl (lv_at hl 0 rfl) ?_
  refine lv_iload_n hx hb dX12_reals_1 rfl (lv_at hl 1 rfl) ?_
  refine r_callVd (As := [.int k0]) (rest := []) C hP hS hl.1 ⟨Nat.zero_le _, Nat.zero_le _⟩ (M_realOf l D cy sz0 sa ad σ s.heap.size k0 (v_reals_1 σ k0 k1 hpre_0 hpre_1 hpre_2 hpre_3 hpre_4 hpre_5)) (n := 1) ⟨wm_287, wm_282, by decide +kernel⟩ ⟨wm_288, wm_289, wm_10⟩ rfl rfl (lv_room (Nat.le_of_ble_eq_true rfl)) ⟨Nat.le_of_ble_eq_true rfl, Nat.le_of_ble_eq_true rfl⟩ dX12_reals_2 (fun r1 u H locs hr1 hP hS => ?_)
  obtain ⟨hr1, hr1y⟩ := hr1
  have hr1y : ∀ v9 : QV, QAT (qH (σ.2.1 36) (σ.2.1 37) (σ.2.1 38) (σ.2.1 39) (σ.2.1 40) (σ.2.1 41) (σ.2.1 42) (σ.2.1 43) (σ.2.1 44) (σ.2.1 45) (σ.2.1 46) (σ.2.1 48)) (σ.1 47).toInt ((σ.2.1 51), (σ.2.2.1 52), (σ.2.2.1 53), (σ.2.2.2)) k0.toNatClampNeg v9 → qNum v9 = true → r1 = qRe v9 := hr1y
  have hr1 : FN r1 := hr1
  refine lv_dstore (lv' := [(4, .double r1), (0, .ref (ad 0)), (1, .int k0), (2, .int k1), (3, .int k2)]) hx hb dX12_reals_5 hl (by decide) rfl (fun ls hl => ?_)
  refine lv_aload_n hx hb dX12_reals_7 rfl (lv_at hl 1 rfl) ?_
  refine lv_iload_n hx hb dX12_reals_8 rfl (lv_at hl 3 rfl) ?_
  refine r_callVd (As := [.int k1]) (rest := []) C hP hS hl.1 ⟨Nat.zero_le _, Nat.zero_le _⟩ (M_realOf l D cy sz0 sa ad σ H.size k1 (v_reals_2 σ k0 k1 hpre_0 hpre_1 hpre_2 hpre_3 hpre_4 hpre_5)) (n := 1) ⟨wm_287, wm_282, by decide +kernel⟩ ⟨wm_288, wm_289, wm_10⟩ rfl rfl (lv_room (Nat.le_of_ble_eq_true rfl)) ⟨Nat.le_of_ble_eq_true rfl, Nat.le_of_ble_eq_true rfl⟩ dX12_reals_9 (fun r2 u H locs hr2 hP hS => ?_)
  obtain ⟨hr2, hr2y⟩ := hr2
  have hr2y : ∀ v9 : QV, QAT (qH (σ.2.1 36) (σ.2.1 37) (σ.2.1 38) (σ.2.1 39) (σ.2.1 40) (σ.2.1 41) (σ.2.1 42) (σ.2.1 43) (σ.2.1 44) (σ.2.1 45) (σ.2.1 46) (σ.2.1 48)) (σ.1 47).toInt ((σ.2.1 51), (σ.2.2.1 52), (σ.2.2.1 53), (σ.2.2.2)) k1.toNatClampNeg v9 → qNum v9 = true → r2 = qRe v9 := hr2y
  have hr2 : FN r2 := hr2
  refine lv_dstore (lv' := [(6, .double r2), (4, .double r1), (0, .ref (ad 0)), (1, .int k0), (2, .int k1), (3, .int k2)]) hx hb dX12_reals_12 hl (by decide) rfl (fun ls hl => ?_)
  refine lv_iload_n hx hb dX12_reals_14 rfl (lv_at hl 5 rfl) ?_
  refine lv_bipush (v := 19) hx hb dX12_reals_15 (by decide +kernel) ?_
  refine lv_icmp_ne (tgt := 33) hx hb dX12_reals_17 (by decide) (fun c3 => ?_) (fun c3 => ?_)
  · have c3 : ¬ k2.toInt = 19 := by have h := z_ne c3; rw [show (19 : Int32).toInt = 19 from by decide +kernel] at h; exact h
    refine lv_iload_n hx hb dX12_reals_33 rfl (lv_at hl 5 rfl) ?_
    refine lv_bipush (v := 16) hx hb dX12_reals_34 (by decide +kernel) ?_
    refine lv_icmp_ne (tgt := 47) hx hb dX12_reals_36 (by decide) (fun c4 => ?_) (fun c4 => ?_)
    · have c4 : ¬ k2.toInt = 16 := by have h := z_ne c4; rw [show (16 : Int32).toInt = 16 from by decide +kernel] at h; exact h
      refine lv_iload_n hx hb dX12_reals_47 rfl (lv_at hl 5 rfl) ?_
      refine lv_bipush (v := 17) hx hb dX12_reals_48 (by decide +kernel) ?_
      refine lv_icmp_ne (tgt := 61) hx hb dX12_reals_50 (by decide) (fun c5 => ?_) (fun c5 => ?_)
      · have c5 : ¬ k2.toInt = 17 := by have h := z_ne c5; rw [show (17 : Int32).toInt = 17 from by decide +kernel] at h; exact h
        refine lv_iload_n hx hb dX12_reals_61 rfl (lv_at hl 5 rfl) ?_
        refine lv_bipush (v := 18) hx hb dX12_reals_62 (by decide +kernel) ?_
        refine lv_icmp_ne (tgt := 75) hx hb dX12_reals_64 (by decide) (fun c6 => ?_) (fun c6 => ?_)
        · have c6 : ¬ k2.toInt = 18 := by have h := z_ne c6; rw [show (18 : Int32).toInt = 18 from by decide +kernel] at h; exact h
          exact absurd (v_reals_3 k2 hpre_7 hpre_8 c3 c4 c5 c6) id
        · have c6 : k2.toInt = 18 := by have h := z_eq c6; rw [show (18 : Int32).toInt = 18 from by decide +kernel] at h; exact h
          refine lv_dload hx hb dX12_reals_67 (lv_at hl 1 rfl) ?_
          refine lv_dload hx hb dX12_reals_69 (lv_at hl 0 rfl) ?_
          refine lv_dmul hx hb dX12_reals_71 (v_reals_4 r1 r2 hr1 hr2) ?_
          refine lv_topd (fun x7 ex7 => ?_)
          refine lv_goto (tgt := 80) hx hb dX12_reals_72 (by decide) ?_
          refine lv_dstore (lv' := [(8, .double x7), (6, .double r2), (4, .double r1), (0, .ref (ad 0)), (1, .int k0), (2, .int k1), (3, .int k2)]) hx hb dX12_reals_80 hl (by decide) rfl (fun ls hl => ?_)
          refine lv_aload_n hx hb dX12_reals_82 rfl (lv_at hl 3 rfl) ?_
          refine lv_dload hx hb dX12_reals_83 (lv_at hl 0 rfl) ?_
          refine lv_ldc2d (v := 4786511204640096256) hx hb hown (hw _ wm_285) dX12_reals_85 ?_
          refine lv_dcmp hx hb dX12_reals_88 ?_
          refine lv_topi (fun x8 ex8 => ?_)
          refine lv_if_gt (tgt := 101) hx hb dX12_reals_89 (by decide) (fun c9 => ?_) (fun c9 => ?_)
          · have c9 : 0 < x8.toInt := by have h := z_lt c9; rw [show (0 : Int32).toInt = 0 from by decide +kernel] at h; exact h
            refine lv_iconst (v := 3) hx hb dX12_reals_101 (by decide +kernel) ?_
            refine lv_goto (tgt := 109) hx hb dX12_reals_102 (by decide) ?_
            refine rp_56 C hP hS wm_242 dX12_reals_109 (fun H locs hP hS => ?_)
            refine lv_aload_n hx hb dX12_reals_112 rfl (lv_at hl 3 rfl) ?_
            refine lv_iload_n hx hb dX12_reals_113 rfl (lv_at hl 4 rfl) ?_
            refine lv_iconst (v := 3) hx hb dX12_reals_114 (by decide +kernel) ?_
            refine lv_lconst (v := 0) hx hb dX12_reals_115 rfl ?_
            refine lv_dload hx hb dX12_reals_116 (lv_at hl 0 rfl) ?_
            refine r_callVv (As := [.int k0, .int 3, .long 0, .double x7]) (rest := []) C hP hS hl.1 ⟨Nat.zero_le _, Nat.zero_le _⟩ (M_set l D cy sz0 sa ad (rS σ 56 (3 : Int32)) H.size k0 (3 : Int32) (0 : Int64) x7 (v_reals_5 σ k0 k1 hpre_0 hpre_1 hpre_2 hpre_3 hpre_4 hpre_5)) (n := 4) ⟨wm_213, wm_207, by decide +kernel⟩ ⟨wm_214, wm_215, wm_10⟩ rfl rfl (lv_room (Nat.le_of_ble_eq_true rfl)) ⟨Nat.le_of_ble_eq_true rfl, Nat.le_of_ble_eq_true rfl⟩ dX12_reals_118 (fun u H locs hr10 hP hS => ?_)
            have hr10 : True := hr10
            have hP : RP D cy ad (rR (rJ (rJ (rA (rS σ 56 (3 : Int32)) 51 (upd (σ.2.1 51) k0.toNatClampNeg (3 : Int32))) 52 (vp_updL (σ.2.2.1 52) k0.toNatClampNeg (0 : Int64))) 53 (vp_updL (σ.2.2.1 53) k0.toNatClampNeg (0 : Int64))) (vf_upd (σ.2.2.2) k0.toNatClampNeg x7)) H := hP
            have hP : RP D cy ad (rS (rR (rJ (rJ (rA σ 51 (upd (σ.2.1 51) k0.toNatClampNeg (3 : Int32))) 52 (vp_updL (σ.2.2.1 52) k0.toNatClampNeg (0 : Int64))) 53 (vp_updL (σ.2.2.1 53) k0.toNatClampNeg (0 : Int64))) (vf_upd (σ.2.2.2) k0.toNatClampNeg x7)) 56 (3 : Int32)) H := RP.cong hP (Eq.trans (b := (σ.1 0)) rfl rfl) (Eq.trans (b := (σ.1 1)) rfl rfl) (Eq.trans (b := (σ.2.1 2)) rfl rfl) (Eq.trans (b := (σ.1 3)) rfl rfl) (Eq.trans (b := (σ.2.1 4)) rfl rfl) (Eq.trans (b := (σ.2.1 5)) rfl rfl) (Eq.trans (b := (σ.2.2.1 6)) rfl rfl) (Eq.trans (b := (σ.2.1 7)) rfl rfl) (Eq.trans (b := (σ.1 8)) rfl rfl) (Eq.trans (b := (σ.1 9)) rfl rfl) (Eq.trans (b := (σ.1 10)) rfl rfl) (Eq.trans (b := (σ.2.1 11)) rfl rfl) (Eq.trans (b := (σ.2.2.1 12)) rfl rfl) (Eq.trans (b := (σ.2.1 13)) rfl rfl) (Eq.trans (b := (σ.1 14)) rfl rfl) (Eq.trans (b := (σ.1 15)) rfl rfl) (Eq.trans (b := (σ.1 16)) rfl rfl) (Eq.trans (b := (σ.1 17)) rfl rfl) (Eq.trans (b := (σ.1 18)) rfl rfl) (Eq.trans (b := (σ.1 19)) rfl rfl) (Eq.trans (b := (σ.2.1 20)) rfl rfl) (Eq.trans (b := (σ.2.1 21)) rfl rfl) (Eq.trans (b := (σ.2.1 22)) rfl rfl) (Eq.trans (b := (σ.2.1 23)) rfl rfl) (Eq.trans (b := (σ.2.1 24)) rfl rfl) (Eq.trans (b := (σ.2.1 25)) rfl rfl) (Eq.trans (b := (σ.2.1 26)) rfl rfl) (Eq.trans (b := (σ.2.1 27)) rfl rfl) (Eq.trans (b := (σ.2.1 28)) rfl rfl) (Eq.trans (b := (σ.1 29)) rfl rfl) (Eq.trans (b := (σ.2.1 30)) rfl rfl) (Eq.trans (b := (σ.2.1 31)) rfl rfl) (Eq.trans (b := (σ.2.1 32)) rfl rfl) (Eq.trans (b := (σ.1 33)) rfl rfl) (Eq.trans (b := (σ.1 34)) rfl rfl) (Eq.trans (b := (σ.1 35)) rfl rfl) (Eq.trans (b := (σ.2.1 36)) rfl rfl) (Eq.trans (b := (σ.2.1 37)) rfl rfl) (Eq.trans (b := (σ.2.1 38)) rfl rfl) (Eq.trans (b := (σ.2.1 39)) rfl rfl) (Eq.trans (b := (σ.2.1 40)) rfl rfl) (Eq.trans (b := (σ.2.1 41)) rfl rfl) (Eq.trans (b := (σ.2.1 42)) rfl rfl) (Eq.trans (b := (σ.2.1 43)) rfl rfl) (Eq.trans (b := (σ.2.1 44)) rfl rfl) (Eq.trans (b := (σ.2.1 45)) rfl rfl) (Eq.trans (b := (σ.2.1 46)) rfl rfl) (Eq.trans (b := (σ.1 47)) rfl rfl) (Eq.trans (b := (σ.2.1 48)) rfl rfl) (Eq.trans (b := (σ.1 49)) rfl rfl) (Eq.trans (b := (σ.2.1 50)) rfl rfl) (Eq.trans (b := (upd (σ.2.1 51) k0.toNatClampNeg (3 : Int32))) rfl rfl) (Eq.trans (b := (vp_updL (σ.2.2.1 52) k0.toNatClampNeg (0 : Int64))) rfl rfl) (Eq.trans (b := (vp_updL (σ.2.2.1 53) k0.toNatClampNeg (0 : Int64))) rfl rfl) (Eq.trans (b := (vf_upd (σ.2.2.2) k0.toNatClampNeg x7)) rfl rfl) (Eq.trans (b := (σ.1 55)) rfl rfl) (Eq.trans (b := (3 : Int32)) rfl rfl) (Eq.trans (b := (σ.1 57)) rfl rfl) (Eq.trans (b := (σ.2.1 58)) rfl rfl) (Eq.trans (b := (σ.1 59)) rfl rfl)
            exact r_retv C ⟨(upd (σ.2.1 51) k0.toNatClampNeg (3 : Int32)), (vp_updL (σ.2.2.1 52) k0.toNatClampNeg (0 : Int64)), (vp_updL (σ.2.2.1 53) k0.toNatClampNeg (0 : Int64)), (vf_upd (σ.2.2.2) k0.toNatClampNeg x7), (3 : Int32)⟩ ⟨(v_reals_6 σ k0 k1 r1 r2 x7 x8 hpre_0 hpre_1 hpre_2 hpre_3 hpre_4 hpre_5 hr1 hr2 ex7 ex8 c9), (v_reals_7 σ k0 k1 k2 r1 r2 x7 x8 hpre_0 hpre_1 hpre_2 hpre_3 hpre_4 hpre_5 hpre_6 hpre_7 hpre_8 hr1y hr1 hr2y hr2 c3 c4 c5 c6 ex7 ex8 c9)⟩ hP hS dX12_reals_121
          · have c9 : x8.toInt ≤ 0 := by have h := z_nlt c9; rw [show (0 : Int32).toInt = 0 from by decide +kernel] at h; exact h
            refine lv_dload hx hb dX12_reals_92 (lv_at hl 0 rfl) ?_
            refine lv_ldc2d (v := 14009883241494872064) hx hb hown (hw _ wm_286) dX12_reals_94 ?_
            refine lv_dcmp hx hb dX12_reals_97 ?_
            refine lv_topi (fun x11 ex11 => ?_)
            refine lv_if_ge (tgt := 105) hx hb dX12_reals_98 (by decide) (fun c12 => ?_) (fun c12 => ?_)
            · have c12 : 0 ≤ x11.toInt := by have h := z_le c12; rw [show (0 : Int32).toInt = 0 from by decide +kernel] at h; exact h
              refine lv_aload_n hx hb dX12_reals_105 rfl (lv_at hl 3 rfl) ?_
              refine rg_56 (v := (σ.1 56)) C hP rfl wm_242 dX12_reals_106 ?_
              refine rp_56 C hP hS wm_242 dX12_reals_109 (fun H locs hP hS => ?_)
              refine lv_aload_n hx hb dX12_reals_112 rfl (lv_at hl 3 rfl) ?_
              refine lv_iload_n hx hb dX12_reals_113 rfl (lv_at hl 4 rfl) ?_
              refine lv_iconst (v := 3) hx hb dX12_reals_114 (by decide +kernel) ?_
              refine lv_lconst (v := 0) hx hb dX12_reals_115 rfl ?_
              refine lv_dload hx hb dX12_reals_116 (lv_at hl 0 rfl) ?_
              refine r_callVv (As := [.int k0, .int 3, .long 0, .double x7]) (rest := []) C hP hS hl.1 ⟨Nat.zero_le _, Nat.zero_le _⟩ (M_set l D cy sz0 sa ad (rS σ 56 (σ.1 56)) H.size k0 (3 : Int32) (0 : Int64) x7 (v_reals_5 σ k0 k1 hpre_0 hpre_1 hpre_2 hpre_3 hpre_4 hpre_5)) (n := 4) ⟨wm_213, wm_207, by decide +kernel⟩ ⟨wm_214, wm_215, wm_10⟩ rfl rfl (lv_room (Nat.le_of_ble_eq_true rfl)) ⟨Nat.le_of_ble_eq_true rfl, Nat.le_of_ble_eq_true rfl⟩ dX12_reals_118 (fun u H locs hr13 hP hS => ?_)
              have hr13 : True := hr13
              have hP : RP D cy ad (rR (rJ (rJ (rA (rS σ 56 (σ.1 56)) 51 (upd (σ.2.1 51) k0.toNatClampNeg (3 : Int32))) 52 (vp_updL (σ.2.2.1 52) k0.toNatClampNeg (0 : Int64))) 53 (vp_updL (σ.2.2.1 53) k0.toNatClampNeg (0 : Int64))) (vf_upd (σ.2.2.2) k0.toNatClampNeg x7)) H := hP
              have hP : RP D cy ad (rS (rR (rJ (rJ (rA σ 51 (upd (σ.2.1 51) k0.toNatClampNeg (3 : Int32))) 52 (vp_updL (σ.2.2.1 52) k0.toNatClampNeg (0 : Int64))) 53 (vp_updL (σ.2.2.1 53) k0.toNatClampNeg (0 : Int64))) (vf_upd (σ.2.2.2) k0.toNatClampNeg x7)) 56 (σ.1 56)) H := RP.cong hP (Eq.trans (b := (σ.1 0)) rfl rfl) (Eq.trans (b := (σ.1 1)) rfl rfl) (Eq.trans (b := (σ.2.1 2)) rfl rfl) (Eq.trans (b := (σ.1 3)) rfl rfl) (Eq.trans (b := (σ.2.1 4)) rfl rfl) (Eq.trans (b := (σ.2.1 5)) rfl rfl) (Eq.trans (b := (σ.2.2.1 6)) rfl rfl) (Eq.trans (b := (σ.2.1 7)) rfl rfl) (Eq.trans (b := (σ.1 8)) rfl rfl) (Eq.trans (b := (σ.1 9)) rfl rfl) (Eq.trans (b := (σ.1 10)) rfl rfl) (Eq.trans (b := (σ.2.1 11)) rfl rfl) (Eq.trans (b := (σ.2.2.1 12)) rfl rfl) (Eq.trans (b := (σ.2.1 13)) rfl rfl) (Eq.trans (b := (σ.1 14)) rfl rfl) (Eq.trans (b := (σ.1 15)) rfl rfl) (Eq.trans (b := (σ.1 16)) rfl rfl) (Eq.trans (b := (σ.1 17)) rfl rfl) (Eq.trans (b := (σ.1 18)) rfl rfl) (Eq.trans (b := (σ.1 19)) rfl rfl) (Eq.trans (b := (σ.2.1 20)) rfl rfl) (Eq.trans (b := (σ.2.1 21)) rfl rfl) (Eq.trans (b := (σ.2.1 22)) rfl rfl) (Eq.trans (b := (σ.2.1 23)) rfl rfl) (Eq.trans (b := (σ.2.1 24)) rfl rfl) (Eq.trans (b := (σ.2.1 25)) rfl rfl) (Eq.trans (b := (σ.2.1 26)) rfl rfl) (Eq.trans (b := (σ.2.1 27)) rfl rfl) (Eq.trans (b := (σ.2.1 28)) rfl rfl) (Eq.trans (b := (σ.1 29)) rfl rfl) (Eq.trans (b := (σ.2.1 30)) rfl rfl) (Eq.trans (b := (σ.2.1 31)) rfl rfl) (Eq.trans (b := (σ.2.1 32)) rfl rfl) (Eq.trans (b := (σ.1 33)) rfl rfl) (Eq.trans (b := (σ.1 34)) rfl rfl) (Eq.trans (b := (σ.1 35)) rfl rfl) (Eq.trans (b := (σ.2.1 36)) rfl rfl) (Eq.trans (b := (σ.2.1 37)) rfl rfl) (Eq.trans (b := (σ.2.1 38)) rfl rfl) (Eq.trans (b := (σ.2.1 39)) rfl rfl) (Eq.trans (b := (σ.2.1 40)) rfl rfl) (Eq.trans (b := (σ.2.1 41)) rfl rfl) (Eq.trans (b := (σ.2.1 42)) rfl rfl) (Eq.trans (b := (σ.2.1 43)) rfl rfl) (Eq.trans (b := (σ.2.1 44)) rfl rfl) (Eq.trans (b := (σ.2.1 45)) rfl rfl) (Eq.trans (b := (σ.2.1 46)) rfl rfl) (Eq.trans (b := (σ.1 47)) rfl rfl) (Eq.trans (b := (σ.2.1 48)) rfl rfl) (Eq.trans (b := (σ.1 49)) rfl rfl) (Eq.trans (b := (σ.2.1 50)) rfl rfl) (Eq.trans (b := (upd (σ.2.1 51) k0.toNatClampNeg (3 : Int32))) rfl rfl) (Eq.trans (b := (vp_updL (σ.2.2.1 52) k0.toNatClampNeg (0 : Int64))) rfl rfl) (Eq.trans (b := (vp_updL (σ.2.2.1 53) k0.toNatClampNeg (0 : Int64))) rfl rfl) (Eq.trans (b := (vf_upd (σ.2.2.2) k0.toNatClampNeg x7)) rfl rfl) (Eq.trans (b := (σ.1 55)) rfl rfl) (Eq.trans (b := (σ.1 56)) rfl rfl) (Eq.trans (b := (σ.1 57)) rfl rfl) (Eq.trans (b := (σ.2.1 58)) rfl rfl) (Eq.trans (b := (σ.1 59)) rfl rfl)
              exact r_retv C ⟨(upd (σ.2.1 51) k0.toNatClampNeg (3 : Int32)), (vp_updL (σ.2.2.1 52) k0.toNatClampNeg (0 : Int64)), (vp_updL (σ.2.2.1 53) k0.toNatClampNeg (0 : Int64)), (vf_upd (σ.2.2.2) k0.toNatClampNeg x7), (σ.1 56)⟩ ⟨(v_reals_8 σ k0 k1 r1 r2 x7 x8 x11 hpre_0 hpre_1 hpre_2 hpre_3 hpre_4 hpre_5 hpre_6 hr1 hr2 ex7 ex8 c9 ex11 c12), (v_reals_9 σ k0 k1 k2 r1 r2 x7 x8 x11 hpre_0 hpre_1 hpre_2 hpre_3 hpre_4 hpre_5 hpre_6 hpre_7 hpre_8 hr1y hr1 hr2y hr2 c3 c4 c5 c6 ex7 ex8 c9 ex11 c12)⟩ hP hS dX12_reals_121
            · have c12 : x11.toInt < 0 := by have h := z_nle c12; rw [show (0 : Int32).toInt = 0 from by decide +kernel] at h; exact h
              refine lv_iconst (v := 3) hx hb dX12_reals_101 (by decide +kernel) ?_
              refine lv_goto (tgt := 109) hx hb dX12_reals_102 (by decide) ?_
              refine rp_56 C hP hS wm_242 dX12_reals_109 (fun H locs hP hS => ?_)
              refine lv_aload_n hx hb dX12_reals_112 rfl (lv_at hl 3 rfl) ?_
              refine lv_iload_n hx hb dX12_reals_113 rfl (lv_at hl 4 rfl) ?_
              refine lv_iconst (v := 3) hx hb dX12_reals_114 (by decide +kernel) ?_
              refine lv_lconst (v := 0) hx hb dX12_reals_115 rfl ?_
              refine lv_dload hx hb dX12_reals_116 (lv_at hl 0 rfl) ?_
              refine r_callVv (As := [.int k0, .int 3, .long 0, .double x7]) (rest := []) C hP hS hl.1 ⟨Nat.zero_le _, Nat.zero_le _⟩ (M_set l D cy sz0 sa ad (rS σ 56 (3 : Int32)) H.size k0 (3 : Int32) (0 : Int64) x7 (v_reals_5 σ k0 k1 hpre_0 hpre_1 hpre_2 hpre_3 hpre_4 hpre_5)) (n := 4) ⟨wm_213, wm_207, by decide +kernel⟩ ⟨wm_214, wm_215, wm_10⟩ rfl rfl (lv_room (Nat.le_of_ble_eq_true rfl)) ⟨Nat.le_of_ble_eq_true rfl, Nat.le_of_ble_eq_true rfl⟩ dX12_reals_118 (fun u H locs hr14 hP hS => ?_)
              have hr14 : True := hr14
              have hP : RP D cy ad (rR (rJ (rJ (rA (rS σ 56 (3 : Int32)) 51 (upd (σ.2.1 51) k0.toNatClampNeg (3 : Int32))) 52 (vp_updL (σ.2.2.1 52) k0.toNatClampNeg (0 : Int64))) 53 (vp_updL (σ.2.2.1 53) k0.toNatClampNeg (0 : Int64))) (vf_upd (σ.2.2.2) k0.toNatClampNeg x7)) H := hP
              have hP : RP D cy ad (rS (rR (rJ (rJ (rA σ 51 (upd (σ.2.1 51) k0.toNatClampNeg (3 : Int32))) 52 (vp_updL (σ.2.2.1 52) k0.toNatClampNeg (0 : Int64))) 53 (vp_updL (σ.2.2.1 53) k0.toNatClampNeg (0 : Int64))) (vf_upd (σ.2.2.2) k0.toNatClampNeg x7)) 56 (3 : Int32)) H := RP.cong hP (Eq.trans (b := (σ.1 0)) rfl rfl) (Eq.trans (b := (σ.1 1)) rfl rfl) (Eq.trans (b := (σ.2.1 2)) rfl rfl) (Eq.trans (b := (σ.1 3)) rfl rfl) (Eq.trans (b := (σ.2.1 4)) rfl rfl) (Eq.trans (b := (σ.2.1 5)) rfl rfl) (Eq.trans (b := (σ.2.2.1 6)) rfl rfl) (Eq.trans (b := (σ.2.1 7)) rfl rfl) (Eq.trans (b := (σ.1 8)) rfl rfl) (Eq.trans (b := (σ.1 9)) rfl rfl) (Eq.trans (b := (σ.1 10)) rfl rfl) (Eq.trans (b := (σ.2.1 11)) rfl rfl) (Eq.trans (b := (σ.2.2.1 12)) rfl rfl) (Eq.trans (b := (σ.2.1 13)) rfl rfl) (Eq.trans (b := (σ.1 14)) rfl rfl) (Eq.trans (b := (σ.1 15)) rfl rfl) (Eq.trans (b := (σ.1 16)) rfl rfl) (Eq.trans (b := (σ.1 17)) rfl rfl) (Eq.trans (b := (σ.1 18)) rfl rfl) (Eq.trans (b := (σ.1 19)) rfl rfl) (Eq.trans (b := (σ.2.1 20)) rfl rfl) (Eq.trans (b := (σ.2.1 21)) rfl rfl) (Eq.trans (b := (σ.2.1 22)) rfl rfl) (Eq.trans (b := (σ.2.1 23)) rfl rfl) (Eq.trans (b := (σ.2.1 24)) rfl rfl) (Eq.trans (b := (σ.2.1 25)) rfl rfl) (Eq.trans (b := (σ.2.1 26)) rfl rfl) (Eq.trans (b := (σ.2.1 27)) rfl rfl) (Eq.trans (b := (σ.2.1 28)) rfl rfl) (Eq.trans (b := (σ.1 29)) rfl rfl) (Eq.trans (b := (σ.2.1 30)) rfl rfl) (Eq.trans (b := (σ.2.1 31)) rfl rfl) (Eq.trans (b := (σ.2.1 32)) rfl rfl) (Eq.trans (b := (σ.1 33)) rfl rfl) (Eq.trans (b := (σ.1 34)) rfl rfl) (Eq.trans (b := (σ.1 35)) rfl rfl) (Eq.trans (b := (σ.2.1 36)) rfl rfl) (Eq.trans (b := (σ.2.1 37)) rfl rfl) (Eq.trans (b := (σ.2.1 38)) rfl rfl) (Eq.trans (b := (σ.2.1 39)) rfl rfl) (Eq.trans (b := (σ.2.1 40)) rfl rfl) (Eq.trans (b := (σ.2.1 41)) rfl rfl) (Eq.trans (b := (σ.2.1 42)) rfl rfl) (Eq.trans (b := (σ.2.1 43)) rfl rfl) (Eq.trans (b := (σ.2.1 44)) rfl rfl) (Eq.trans (b := (σ.2.1 45)) rfl rfl) (Eq.trans (b := (σ.2.1 46)) rfl rfl) (Eq.trans (b := (σ.1 47)) rfl rfl) (Eq.trans (b := (σ.2.1 48)) rfl rfl) (Eq.trans (b := (σ.1 49)) rfl rfl) (Eq.trans (b := (σ.2.1 50)) rfl rfl) (Eq.trans (b := (upd (σ.2.1 51) k0.toNatClampNeg (3 : Int32))) rfl rfl) (Eq.trans (b := (vp_updL (σ.2.2.1 52) k0.toNatClampNeg (0 : Int64))) rfl rfl) (Eq.trans (b := (vp_updL (σ.2.2.1 53) k0.toNatClampNeg (0 : Int64))) rfl rfl) (Eq.trans (b := (vf_upd (σ.2.2.2) k0.toNatClampNeg x7)) rfl rfl) (Eq.trans (b := (σ.1 55)) rfl rfl) (Eq.trans (b := (3 : Int32)) rfl rfl) (Eq.trans (b := (σ.1 57)) rfl rfl) (Eq.trans (b := (σ.2.1 58)) rfl rfl) (Eq.trans (b := (σ.1 59)) rfl rfl)
              exact r_retv C ⟨(upd (σ.2.1 51) k0.toNatClampNeg (3 : Int32)), (vp_updL (σ.2.2.1 52) k0.toNatClampNeg (0 : Int64)), (vp_updL (σ.2.2.1 53) k0.toNatClampNeg (0 : Int64)), (vf_upd (σ.2.2.2) k0.toNatClampNeg x7), (3 : Int32)⟩ ⟨(v_reals_10 σ k0 k1 r1 r2 x7 x8 x11 hpre_0 hpre_1 hpre_2 hpre_3 hpre_4 hpre_5 hr1 hr2 ex7 ex8 c9 ex11 c12), (v_reals_11 σ k0 k1 k2 r1 r2 x7 x8 x11 hpre_0 hpre_1 hpre_2 hpre_3 hpre_4 hpre_5 hpre_6 hpre_7 hpre_8 hr1y hr1 hr2y hr2 c3 c4 c5 c6 ex7 ex8 c9 ex11 c12)⟩ hP hS dX12_reals_121
      · have c5 : k2.toInt = 17 := by have h := z_eq c5; rw [show (17 : Int32).toInt = 17 from by decide +kernel] at h; exact h
        refine lv_dload hx hb dX12_reals_53 (lv_at hl 1 rfl) ?_
        refine lv_dload hx hb dX12_reals_55 (lv_at hl 0 rfl) ?_
        refine lv_dsub hx hb dX12_reals_57 (v_reals_12 r1 r2 hr1 hr2) ?_
        refine lv_topd (fun x15 ex15 => ?_)
        refine lv_goto (tgt := 80) hx hb dX12_reals_58 (by decide) ?_
        refine lv_dstore (lv' := [(8, .double x15), (6, .double r2), (4, .double r1), (0, .ref (ad 0)), (1, .int k0), (2, .int k1), (3, .int k2)]) hx hb dX12_reals_80 hl (by decide) rfl (fun ls hl => ?_)
        refine lv_aload_n hx hb dX12_reals_82 rfl (lv_at hl 3 rfl) ?_
        refine lv_dload hx hb dX12_reals_83 (lv_at hl 0 rfl) ?_
        refine lv_ldc2d (v := 4786511204640096256) hx hb hown (hw _ wm_285) dX12_reals_85 ?_
        refine lv_dcmp hx hb dX12_reals_88 ?_
        refine lv_topi (fun x16 ex16 => ?_)
        refine lv_if_gt (tgt := 101) hx hb dX12_reals_89 (by decide) (fun c17 => ?_) (fun c17 => ?_)
        · have c17 : 0 < x16.toInt := by have h := z_lt c17; rw [show (0 : Int32).toInt = 0 from by decide +kernel] at h; exact h
          refine lv_iconst (v := 3) hx hb dX12_reals_101 (by decide +kernel) ?_
          refine lv_goto (tgt := 109) hx hb dX12_reals_102 (by decide) ?_
          refine rp_56 C hP hS wm_242 dX12_reals_109 (fun H locs hP hS => ?_)
          refine lv_aload_n hx hb dX12_reals_112 rfl (lv_at hl 3 rfl) ?_
          refine lv_iload_n hx hb dX12_reals_113 rfl (lv_at hl 4 rfl) ?_
          refine lv_iconst (v := 3) hx hb dX12_reals_114 (by decide +kernel) ?_
          refine lv_lconst (v := 0) hx hb dX12_reals_115 rfl ?_
          refine lv_dload hx hb dX12_reals_116 (lv_at hl 0 rfl) ?_
          refine r_callVv (As := [.int k0, .int 3, .long 0, .double x15]) (rest := []) C hP hS hl.1 ⟨Nat.zero_le _, Nat.zero_le _⟩ (M_set l D cy sz0 sa ad (rS σ 56 (3 : Int32)) H.size k0 (3 : Int32) (0 : Int64) x15 (v_reals_5 σ k0 k1 hpre_0 hpre_1 hpre_2 hpre_3 hpre_4 hpre_5)) (n := 4) ⟨wm_213, wm_207, by decide +kernel⟩ ⟨wm_214, wm_215, wm_10⟩ rfl rfl (lv_room (Nat.le_of_ble_eq_true rfl)) ⟨Nat.le_of_ble_eq_true rfl, Nat.le_of_ble_eq_true rfl⟩ dX12_reals_118 (fun u H locs hr18 hP hS => ?_)
          have hr18 : True := hr18
          have hP : RP D cy ad (rR (rJ (rJ (rA (rS σ 56 (3 : Int32)) 51 (upd (σ.2.1 51) k0.toNatClampNeg (3 : Int32))) 52 (vp_updL (σ.2.2.1 52) k0.toNatClampNeg (0 : Int64))) 53 (vp_updL (σ.2.2.1 53) k0.toNatClampNeg (0 : Int64))) (vf_upd (σ.2.2.2) k0.toNatClampNeg x15)) H := hP
          have hP : RP D cy ad (rS (rR (rJ (rJ (rA σ 51 (upd (σ.2.1 51) k0.toNatClampNeg (3 : Int32))) 52 (vp_updL (σ.2.2.1 52) k0.toNatClampNeg (0 : Int64))) 53 (vp_updL (σ.2.2.1 53) k0.toNatClampNeg (0 : Int64))) (vf_upd (σ.2.2.2) k0.toNatClampNeg x15)) 56 (3 : Int32)) H := RP.cong hP (Eq.trans (b := (σ.1 0)) rfl rfl) (Eq.trans (b := (σ.1 1)) rfl rfl) (Eq.trans (b := (σ.2.1 2)) rfl rfl) (Eq.trans (b := (σ.1 3)) rfl rfl) (Eq.trans (b := (σ.2.1 4)) rfl rfl) (Eq.trans (b := (σ.2.1 5)) rfl rfl) (Eq.trans (b := (σ.2.2.1 6)) rfl rfl) (Eq.trans (b := (σ.2.1 7)) rfl rfl) (Eq.trans (b := (σ.1 8)) rfl rfl) (Eq.trans (b := (σ.1 9)) rfl rfl) (Eq.trans (b := (σ.1 10)) rfl rfl) (Eq.trans (b := (σ.2.1 11)) rfl rfl) (Eq.trans (b := (σ.2.2.1 12)) rfl rfl) (Eq.trans (b := (σ.2.1 13)) rfl rfl) (Eq.trans (b := (σ.1 14)) rfl rfl) (Eq.trans (b := (σ.1 15)) rfl rfl) (Eq.trans (b := (σ.1 16)) rfl rfl) (Eq.trans (b := (σ.1 17)) rfl rfl) (Eq.trans (b := (σ.1 18)) rfl rfl) (Eq.trans (b := (σ.1 19)) rfl rfl) (Eq.trans (b := (σ.2.1 20)) rfl rfl) (Eq.trans (b := (σ.2.1 21)) rfl rfl) (Eq.trans (b := (σ.2.1 22)) rfl rfl) (Eq.trans (b := (σ.2.1 23)) rfl rfl) (Eq.trans (b := (σ.2.1 24)) rfl rfl) (Eq.trans (b := (σ.2.1 25)) rfl rfl) (Eq.trans (b := (σ.2.1 26)) rfl rfl) (Eq.trans (b := (σ.2.1 27)) rfl rfl) (Eq.trans (b := (σ.2.1 28)) rfl rfl) (Eq.trans (b := (σ.1 29)) rfl rfl) (Eq.trans (b := (σ.2.1 30)) rfl rfl) (Eq.trans (b := (σ.2.1 31)) rfl rfl) (Eq.trans (b := (σ.2.1 32)) rfl rfl) (Eq.trans (b := (σ.1 33)) rfl rfl) (Eq.trans (b := (σ.1 34)) rfl rfl) (Eq.trans (b := (σ.1 35)) rfl rfl) (Eq.trans (b := (σ.2.1 36)) rfl rfl) (Eq.trans (b := (σ.2.1 37)) rfl rfl) (Eq.trans (b := (σ.2.1 38)) rfl rfl) (Eq.trans (b := (σ.2.1 39)) rfl rfl) (Eq.trans (b := (σ.2.1 40)) rfl rfl) (Eq.trans (b := (σ.2.1 41)) rfl rfl) (Eq.trans (b := (σ.2.1 42)) rfl rfl) (Eq.trans (b := (σ.2.1 43)) rfl rfl) (Eq.trans (b := (σ.2.1 44)) rfl rfl) (Eq.trans (b := (σ.2.1 45)) rfl rfl) (Eq.trans (b := (σ.2.1 46)) rfl rfl) (Eq.trans (b := (σ.1 47)) rfl rfl) (Eq.trans (b := (σ.2.1 48)) rfl rfl) (Eq.trans (b := (σ.1 49)) rfl rfl) (Eq.trans (b := (σ.2.1 50)) rfl rfl) (Eq.trans (b := (upd (σ.2.1 51) k0.toNatClampNeg (3 : Int32))) rfl rfl) (Eq.trans (b := (vp_updL (σ.2.2.1 52) k0.toNatClampNeg (0 : Int64))) rfl rfl) (Eq.trans (b := (vp_updL (σ.2.2.1 53) k0.toNatClampNeg (0 : Int64))) rfl rfl) (Eq.trans (b := (vf_upd (σ.2.2.2) k0.toNatClampNeg x15)) rfl rfl) (Eq.trans (b := (σ.1 55)) rfl rfl) (Eq.trans (b := (3 : Int32)) rfl rfl) (Eq.trans (b := (σ.1 57)) rfl rfl) (Eq.trans (b := (σ.2.1 58)) rfl rfl) (Eq.trans (b := (σ.1 59)) rfl rfl)
          exact r_retv C ⟨(upd (σ.2.1 51) k0.toNatClampNeg (3 : Int32)), (vp_updL (σ.2.2.1 52) k0.toNatClampNeg (0 : Int64)), (vp_updL (σ.2.2.1 53) k0.toNatClampNeg (0 : Int64)), (vf_upd (σ.2.2.2) k0.toNatClampNeg x15), (3 : Int32)⟩ ⟨(v_reals_13 σ k0 k1 r1 r2 x15 x16 hpre_0 hpre_1 hpre_2 hpre_3 hpre_4 hpre_5 hr1 hr2 ex15 ex16 c17), (v_reals_14 σ k0 k1 k2 r1 r2 x15 x16 hpre_0 hpre_1 hpre_2 hpre_3 hpre_4 hpre_5 hpre_6 hpre_7 hpre_8 hr1y hr1 hr2y hr2 c3 c4 c5 ex15 ex16 c17)⟩ hP hS dX12_reals_121
        · have c17 : x16.toInt ≤ 0 := by have h := z_nlt c17; rw [show (0 : Int32).toInt = 0 from by decide +kernel] at h; exact h
          refine lv_dload hx hb dX12_reals_92 (lv_at hl 0 rfl) ?_
          refine lv_ldc2d (v := 14009883241494872064) hx hb hown (hw _ wm_286) dX12_reals_94 ?_
          refine lv_dcmp hx hb dX12_reals_97 ?_
          refine lv_topi (fun x19 ex19 => ?_)
          refine lv_if_ge (tgt := 105) hx hb dX12_reals_98 (by decide) (fun c20 => ?_) (fun c20 => ?_)
          · have c20 : 0 ≤ x19.toInt := by have h := z_le c20; rw [show (0 : Int32).toInt = 0 from by decide +kernel] at h; exact h
            refine lv_aload_n hx hb dX12_reals_105 rfl (lv_at hl 3 rfl) ?_
            refine rg_56 (v := (σ.1 56)) C hP rfl wm_242 dX12_reals_106 ?_
            refine rp_56 C hP hS wm_242 dX12_reals_109 (fun H locs hP hS => ?_)
            refine lv_aload_n hx hb dX12_reals_112 rfl (lv_at hl 3 rfl) ?_
            refine lv_iload_n hx hb dX12_reals_113 rfl (lv_at hl 4 rfl) ?_
            refine lv_iconst (v := 3) hx hb dX12_reals_114 (by decide +kernel) ?_
            refine lv_lconst (v := 0) hx hb dX12_reals_115 rfl ?_
            refine lv_dload hx hb dX12_reals_116 (lv_at hl 0 rfl) ?_
            refine r_callVv (As := [.int k0, .int 3, .long 0, .double x15]) (rest := []) C hP hS hl.1 ⟨Nat.zero_le _, Nat.zero_le _⟩ (M_set l D cy sz0 sa ad (rS σ 56 (σ.1 56)) H.size k0 (3 : Int32) (0 : Int64) x15 (v_reals_5 σ k0 k1 hpre_0 hpre_1 hpre_2 hpre_3 hpre_4 hpre_5)) (n := 4) ⟨wm_213, wm_207, by decide +kernel⟩ ⟨wm_214, wm_215, wm_10⟩ rfl rfl (lv_room (Nat.le_of_ble_eq_true rfl)) ⟨Nat.le_of_ble_eq_true rfl, Nat.le_of_ble_eq_true rfl⟩ dX12_reals_118 (fun u H locs hr21 hP hS => ?_)
            have hr21 : True := hr21
            have hP : RP D cy ad (rR (rJ (rJ (rA (rS σ 56 (σ.1 56)) 51 (upd (σ.2.1 51) k0.toNatClampNeg (3 : Int32))) 52 (vp_updL (σ.2.2.1 52) k0.toNatClampNeg (0 : Int64))) 53 (vp_updL (σ.2.2.1 53) k0.toNatClampNeg (0 : Int64))) (vf_upd (σ.2.2.2) k0.toNatClampNeg x15)) H := hP
            have hP : RP D cy ad (rS (rR (rJ (rJ (rA σ 51 (upd (σ.2.1 51) k0.toNatClampNeg (3 : Int32))) 52 (vp_updL (σ.2.2.1 52) k0.toNatClampNeg (0 : Int64))) 53 (vp_updL (σ.2.2.1 53) k0.toNatClampNeg (0 : Int64))) (vf_upd (σ.2.2.2) k0.toNatClampNeg x15)) 56 (σ.1 56)) H := RP.cong hP (Eq.trans (b := (σ.1 0)) rfl rfl) (Eq.trans (b := (σ.1 1)) rfl rfl) (Eq.trans (b := (σ.2.1 2)) rfl rfl) (Eq.trans (b := (σ.1 3)) rfl rfl) (Eq.trans (b := (σ.2.1 4)) rfl rfl) (Eq.trans (b := (σ.2.1 5)) rfl rfl) (Eq.trans (b := (σ.2.2.1 6)) rfl rfl) (Eq.trans (b := (σ.2.1 7)) rfl rfl) (Eq.trans (b := (σ.1 8)) rfl rfl) (Eq.trans (b := (σ.1 9)) rfl rfl) (Eq.trans (b := (σ.1 10)) rfl rfl) (Eq.trans (b := (σ.2.1 11)) rfl rfl) (Eq.trans (b := (σ.2.2.1 12)) rfl rfl) (Eq.trans (b := (σ.2.1 13)) rfl rfl) (Eq.trans (b := (σ.1 14)) rfl rfl) (Eq.trans (b := (σ.1 15)) rfl rfl) (Eq.trans (b := (σ.1 16)) rfl rfl) (Eq.trans (b := (σ.1 17)) rfl rfl) (Eq.trans (b := (σ.1 18)) rfl rfl) (Eq.trans (b := (σ.1 19)) rfl rfl) (Eq.trans (b := (σ.2.1 20)) rfl rfl) (Eq.trans (b := (σ.2.1 21)) rfl rfl) (Eq.trans (b := (σ.2.1 22)) rfl rfl) (Eq.trans (b := (σ.2.1 23)) rfl rfl) (Eq.trans (b := (σ.2.1 24)) rfl rfl) (Eq.trans (b := (σ.2.1 25)) rfl rfl) (Eq.trans (b := (σ.2.1 26)) rfl rfl) (Eq.trans (b := (σ.2.1 27)) rfl rfl) (Eq.trans (b := (σ.2.1 28)) rfl rfl) (Eq.trans (b := (σ.1 29)) rfl rfl) (Eq.trans (b := (σ.2.1 30)) rfl rfl) (Eq.trans (b := (σ.2.1 31)) rfl rfl) (Eq.trans (b := (σ.2.1 32)) rfl rfl) (Eq.trans (b := (σ.1 33)) rfl rfl) (Eq.trans (b := (σ.1 34)) rfl rfl) (Eq.trans (b := (σ.1 35)) rfl rfl) (Eq.trans (b := (σ.2.1 36)) rfl rfl) (Eq.trans (b := (σ.2.1 37)) rfl rfl) (Eq.trans (b := (σ.2.1 38)) rfl rfl) (Eq.trans (b := (σ.2.1 39)) rfl rfl) (Eq.trans (b := (σ.2.1 40)) rfl rfl) (Eq.trans (b := (σ.2.1 41)) rfl rfl) (Eq.trans (b := (σ.2.1 42)) rfl rfl) (Eq.trans (b := (σ.2.1 43)) rfl rfl) (Eq.trans (b := (σ.2.1 44)) rfl rfl) (Eq.trans (b := (σ.2.1 45)) rfl rfl) (Eq.trans (b := (σ.2.1 46)) rfl rfl) (Eq.trans (b := (σ.1 47)) rfl rfl) (Eq.trans (b := (σ.2.1 48)) rfl rfl) (Eq.trans (b := (σ.1 49)) rfl rfl) (Eq.trans (b := (σ.2.1 50)) rfl rfl) (Eq.trans (b := (upd (σ.2.1 51) k0.toNatClampNeg (3 : Int32))) rfl rfl) (Eq.trans (b := (vp_updL (σ.2.2.1 52) k0.toNatClampNeg (0 : Int64))) rfl rfl) (Eq.trans (b := (vp_updL (σ.2.2.1 53) k0.toNatClampNeg (0 : Int64))) rfl rfl) (Eq.trans (b := (vf_upd (σ.2.2.2) k0.toNatClampNeg x15)) rfl rfl) (Eq.trans (b := (σ.1 55)) rfl rfl) (Eq.trans (b := (σ.1 56)) rfl rfl) (Eq.trans (b := (σ.1 57)) rfl rfl) (Eq.trans (b := (σ.2.1 58)) rfl rfl) (Eq.trans (b := (σ.1 59)) rfl rfl)
            exact r_retv C ⟨(upd (σ.2.1 51) k0.toNatClampNeg (3 : Int32)), (vp_updL (σ.2.2.1 52) k0.toNatClampNeg (0 : Int64)), (vp_updL (σ.2.2.1 53) k0.toNatClampNeg (0 : Int64)), (vf_upd (σ.2.2.2) k0.toNatClampNeg x15), (σ.1 56)⟩ ⟨(v_reals_15 σ k0 k1 r1 r2 x15 x16 x19 hpre_0 hpre_1 hpre_2 hpre_3 hpre_4 hpre_5 hpre_6 hr1 hr2 ex15 ex16 c17 ex19 c20), (v_reals_16 σ k0 k1 k2 r1 r2 x15 x16 x19 hpre_0 hpre_1 hpre_2 hpre_3 hpre_4 hpre_5 hpre_6 hpre_7 hpre_8 hr1y hr1 hr2y hr2 c3 c4 c5 ex15 ex16 c17 ex19 c20)⟩ hP hS dX12_reals_121
          · have c20 : x19.toInt < 0 := by have h := z_nle c20; rw [show (0 : Int32).toInt = 0 from by decide +kernel] at h; exact h
            refine lv_iconst (v := 3) hx hb dX12_reals_101 (by decide +kernel) ?_
            refine lv_goto (tgt := 109) hx hb dX12_reals_102 (by decide) ?_
            refine rp_56 C hP hS wm_242 dX12_reals_109 (fun H locs hP hS => ?_)
            refine lv_aload_n hx hb dX12_reals_112 rfl (lv_at hl 3 rfl) ?_
            refine lv_iload_n hx hb dX12_reals_113 rfl (lv_at hl 4 rfl) ?_
            refine lv_iconst (v := 3) hx hb dX12_reals_114 (by decide +kernel) ?_
            refine lv_lconst (v := 0) hx hb dX12_reals_115 rfl ?_
            refine lv_dload hx hb dX12_reals_116 (lv_at hl 0 rfl) ?_
            refine r_callVv (As := [.int k0, .int 3, .long 0, .double x15]) (rest := []) C hP hS hl.1 ⟨Nat.zero_le _, Nat.zero_le _⟩ (M_set l D cy sz0 sa ad (rS σ 56 (3 : Int32)) H.size k0 (3 : Int32) (0 : Int64) x15 (v_reals_5 σ k0 k1 hpre_0 hpre_1 hpre_2 hpre_3 hpre_4 hpre_5)) (n := 4) ⟨wm_213, wm_207, by decide +kernel⟩ ⟨wm_214, wm_215, wm_10⟩ rfl rfl (lv_room (Nat.le_of_ble_eq_true rfl)) ⟨Nat.le_of_ble_eq_true rfl, Nat.le_of_ble_eq_true rfl⟩ dX12_reals_118 (fun u H locs hr22 hP hS => ?_)
            have hr22 : True := hr22
            have hP : RP D cy ad (rR (rJ (rJ (rA (rS σ 56 (3 : Int32)) 51 (upd (σ.2.1 51) k0.toNatClampNeg (3 : Int32))) 52 (vp_updL (σ.2.2.1 52) k0.toNatClampNeg (0 : Int64))) 53 (vp_updL (σ.2.2.1 53) k0.toNatClampNeg (0 : Int64))) (vf_upd (σ.2.2.2) k0.toNatClampNeg x15)) H := hP
            have hP : RP D cy ad (rS (rR (rJ (rJ (rA σ 51 (upd (σ.2.1 51) k0.toNatClampNeg (3 : Int32))) 52 (vp_updL (σ.2.2.1 52) k0.toNatClampNeg (0 : Int64))) 53 (vp_updL (σ.2.2.1 53) k0.toNatClampNeg (0 : Int64))) (vf_upd (σ.2.2.2) k0.toNatClampNeg x15)) 56 (3 : Int32)) H := RP.cong hP (Eq.trans (b := (σ.1 0)) rfl rfl) (Eq.trans (b := (σ.1 1)) rfl rfl) (Eq.trans (b := (σ.2.1 2)) rfl rfl) (Eq.trans (b := (σ.1 3)) rfl rfl) (Eq.trans (b := (σ.2.1 4)) rfl rfl) (Eq.trans (b := (σ.2.1 5)) rfl rfl) (Eq.trans (b := (σ.2.2.1 6)) rfl rfl) (Eq.trans (b := (σ.2.1 7)) rfl rfl) (Eq.trans (b := (σ.1 8)) rfl rfl) (Eq.trans (b := (σ.1 9)) rfl rfl) (Eq.trans (b := (σ.1 10)) rfl rfl) (Eq.trans (b := (σ.2.1 11)) rfl rfl) (Eq.trans (b := (σ.2.2.1 12)) rfl rfl) (Eq.trans (b := (σ.2.1 13)) rfl rfl) (Eq.trans (b := (σ.1 14)) rfl rfl) (Eq.trans (b := (σ.1 15)) rfl rfl) (Eq.trans (b := (σ.1 16)) rfl rfl) (Eq.trans (b := (σ.1 17)) rfl rfl) (Eq.trans (b := (σ.1 18)) rfl rfl) (Eq.trans (b := (σ.1 19)) rfl rfl) (Eq.trans (b := (σ.2.1 20)) rfl rfl) (Eq.trans (b := (σ.2.1 21)) rfl rfl) (Eq.trans (b := (σ.2.1 22)) rfl rfl) (Eq.trans (b := (σ.2.1 23)) rfl rfl) (Eq.trans (b := (σ.2.1 24)) rfl rfl) (Eq.trans (b := (σ.2.1 25)) rfl rfl) (Eq.trans (b := (σ.2.1 26)) rfl rfl) (Eq.trans (b := (σ.2.1 27)) rfl rfl) (Eq.trans (b := (σ.2.1 28)) rfl rfl) (Eq.trans (b := (σ.1 29)) rfl rfl) (Eq.trans (b := (σ.2.1 30)) rfl rfl) (Eq.trans (b := (σ.2.1 31)) rfl rfl) (Eq.trans (b := (σ.2.1 32)) rfl rfl) (Eq.trans (b := (σ.1 33)) rfl rfl) (Eq.trans (b := (σ.1 34)) rfl rfl) (Eq.trans (b := (σ.1 35)) rfl rfl) (Eq.trans (b := (σ.2.1 36)) rfl rfl) (Eq.trans (b := (σ.2.1 37)) rfl rfl) (Eq.trans (b := (σ.2.1 38)) rfl rfl) (Eq.trans (b := (σ.2.1 39)) rfl rfl) (Eq.trans (b := (σ.2.1 40)) rfl rfl) (Eq.trans (b := (σ.2.1 41)) rfl rfl) (Eq.trans (b := (σ.2.1 42)) rfl rfl) (Eq.trans (b := (σ.2.1 43)) rfl rfl) (Eq.trans (b := (σ.2.1 44)) rfl rfl) (Eq.trans (b := (σ.2.1 45)) rfl rfl) (Eq.trans (b := (σ.2.1 46)) rfl rfl) (Eq.trans (b := (σ.1 47)) rfl rfl) (Eq.trans (b := (σ.2.1 48)) rfl rfl) (Eq.trans (b := (σ.1 49)) rfl rfl) (Eq.trans (b := (σ.2.1 50)) rfl rfl) (Eq.trans (b := (upd (σ.2.1 51) k0.toNatClampNeg (3 : Int32))) rfl rfl) (Eq.trans (b := (vp_updL (σ.2.2.1 52) k0.toNatClampNeg (0 : Int64))) rfl rfl) (Eq.trans (b := (vp_updL (σ.2.2.1 53) k0.toNatClampNeg (0 : Int64))) rfl rfl) (Eq.trans (b := (vf_upd (σ.2.2.2) k0.toNatClampNeg x15)) rfl rfl) (Eq.trans (b := (σ.1 55)) rfl rfl) (Eq.trans (b := (3 : Int32)) rfl rfl) (Eq.trans (b := (σ.1 57)) rfl rfl) (Eq.trans (b := (σ.2.1 58)) rfl rfl) (Eq.trans (b := (σ.1 59)) rfl rfl)
            exact r_retv C ⟨(upd (σ.2.1 51) k0.toNatClampNeg (3 : Int32)), (vp_updL (σ.2.2.1 52) k0.toNatClampNeg (0 : Int64)), (vp_updL (σ.2.2.1 53) k0.toNatClampNeg (0 : Int64)), (vf_upd (σ.2.2.2) k0.toNatClampNeg x15), (3 : Int32)⟩ ⟨(v_reals_17 σ k0 k1 r1 r2 x15 x16 x19 hpre_0 hpre_1 hpre_2 hpre_3 hpre_4 hpre_5 hr1 hr2 ex15 ex16 c17 ex19 c20), (v_reals_18 σ k0 k1 k2 r1 r2 x15 x16 x19 hpre_0 hpre_1 hpre_2 hpre_3 hpre_4 hpre_5 hpre_6 hpre_7 hpre_8 hr1y hr1 hr2y hr2 c3 c4 c5 ex15 ex16 c17 ex19 c20)⟩ hP hS dX12_reals_121
    · have c4 : k2.toInt = 16 := by have h := z_eq c4; rw [show (16 : Int32).toInt = 16 from by decide +kernel] at h; exact h
      refine lv_dload hx hb dX12_reals_39 (lv_at hl 1 rfl) ?_
      refine lv_dload hx hb dX12_reals_41 (lv_at hl 0 rfl) ?_
      refine lv_dadd hx hb dX12_reals_43 (v_reals_19 r1 r2 hr1 hr2) ?_
      refine lv_topd (fun x23 ex23 => ?_)
      refine lv_goto (tgt := 80) hx hb dX12_reals_44 (by decide) ?_
      refine lv_dstore (lv' := [(8, .double x23), (6, .double r2), (4, .double r1), (0, .ref (ad 0)), (1, .int k0), (2, .int k1), (3, .int k2)]) hx hb dX12_reals_80 hl (by decide) rfl (fun ls hl => ?_)
      refine lv_aload_n hx hb dX12_reals_82 rfl (lv_at hl 3 rfl) ?_
      refine lv_dload hx hb dX12_reals_83 (lv_at hl 0 rfl) ?_
      refine lv_ldc2d (v := 4786511204640096256) hx hb hown (hw _ wm_285) dX12_reals_85 ?_
      refine lv_dcmp hx hb dX12_reals_88 ?_
      refine lv_topi (fun x24 ex24 => ?_)
      refine lv_if_gt (tgt := 101) hx hb dX12_reals_89 (by decide) (fun c25 => ?_) (fun c25 => ?_)
      · have c25 : 0 < x24.toInt := by have h := z_lt c25; rw [show (0 : Int32).toInt = 0 from by decide +kernel] at h; exact h
        refine lv_iconst (v := 3) hx hb dX12_reals_101 (by decide +kernel) ?_
        refine lv_goto (tgt := 109) hx hb dX12_reals_102 (by decide) ?_
        refine rp_56 C hP hS wm_242 dX12_reals_109 (fun H locs hP hS => ?_)
        refine lv_aload_n hx hb dX12_reals_112 rfl (lv_at hl 3 rfl) ?_
        refine lv_iload_n hx hb dX12_reals_113 rfl (lv_at hl 4 rfl) ?_
        refine lv_iconst (v := 3) hx hb dX12_reals_114 (by decide +kernel) ?_
        refine lv_lconst (v := 0) hx hb dX12_reals_115 rfl ?_
        refine lv_dload hx hb dX12_reals_116 (lv_at hl 0 rfl) ?_
        refine r_callVv (As := [.int k0, .int 3, .long 0, .double x23]) (rest := []) C hP hS hl.1 ⟨Nat.zero_le _, Nat.zero_le _⟩ (M_set l D cy sz0 sa ad (rS σ 56 (3 : Int32)) H.size k0 (3 : Int32) (0 : Int64) x23 (v_reals_5 σ k0 k1 hpre_0 hpre_1 hpre_2 hpre_3 hpre_4 hpre_5)) (n := 4) ⟨wm_213, wm_207, by decide +kernel⟩ ⟨wm_214, wm_215, wm_10⟩ rfl rfl (lv_room (Nat.le_of_ble_eq_true rfl)) ⟨Nat.le_of_ble_eq_true rfl, Nat.le_of_ble_eq_true rfl⟩ dX12_reals_118 (fun u H locs hr26 hP hS => ?_)
        have hr26 : True := hr26
        have hP : RP D cy ad (rR (rJ (rJ (rA (rS σ 56 (3 : Int32)) 51 (upd (σ.2.1 51) k0.toNatClampNeg (3 : Int32))) 52 (vp_updL (σ.2.2.1 52) k0.toNatClampNeg (0 : Int64))) 53 (vp_updL (σ.2.2.1 53) k0.toNatClampNeg (0 : Int64))) (vf_upd (σ.2.2.2) k0.toNatClampNeg x23)) H := hP
        have hP : RP D cy ad (rS (rR (rJ (rJ (rA σ 51 (upd (σ.2.1 51) k0.toNatClampNeg (3 : Int32))) 52 (vp_updL (σ.2.2.1 52) k0.toNatClampNeg (0 : Int64))) 53 (vp_updL (σ.2.2.1 53) k0.toNatClampNeg (0 : Int64))) (vf_upd (σ.2.2.2) k0.toNatClampNeg x23)) 56 (3 : Int32)) H := RP.cong hP (Eq.trans (b := (σ.1 0)) rfl rfl) (Eq.trans (b := (σ.1 1)) rfl rfl) (Eq.trans (b := (σ.2.1 2)) rfl rfl) (Eq.trans (b := (σ.1 3)) rfl rfl) (Eq.trans (b := (σ.2.1 4)) rfl rfl) (Eq.trans (b := (σ.2.1 5)) rfl rfl) (Eq.trans (b := (σ.2.2.1 6)) rfl rfl) (Eq.trans (b := (σ.2.1 7)) rfl rfl) (Eq.trans (b := (σ.1 8)) rfl rfl) (Eq.trans (b := (σ.1 9)) rfl rfl) (Eq.trans (b := (σ.1 10)) rfl rfl) (Eq.trans (b := (σ.2.1 11)) rfl rfl) (Eq.trans (b := (σ.2.2.1 12)) rfl rfl) (Eq.trans (b := (σ.2.1 13)) rfl rfl) (Eq.trans (b := (σ.1 14)) rfl rfl) (Eq.trans (b := (σ.1 15)) rfl rfl) (Eq.trans (b := (σ.1 16)) rfl rfl) (Eq.trans (b := (σ.1 17)) rfl rfl) (Eq.trans (b := (σ.1 18)) rfl rfl) (Eq.trans (b := (σ.1 19)) rfl rfl) (Eq.trans (b := (σ.2.1 20)) rfl rfl) (Eq.trans (b := (σ.2.1 21)) rfl rfl) (Eq.trans (b := (σ.2.1 22)) rfl rfl) (Eq.trans (b := (σ.2.1 23)) rfl rfl) (Eq.trans (b := (σ.2.1 24)) rfl rfl) (Eq.trans (b := (σ.2.1 25)) rfl rfl) (Eq.trans (b := (σ.2.1 26)) rfl rfl) (Eq.trans (b := (σ.2.1 27)) rfl rfl) (Eq.trans (b := (σ.2.1 28)) rfl rfl) (Eq.trans (b := (σ.1 29)) rfl rfl) (Eq.trans (b := (σ.2.1 30)) rfl rfl) (Eq.trans (b := (σ.2.1 31)) rfl rfl) (Eq.trans (b := (σ.2.1 32)) rfl rfl) (Eq.trans (b := (σ.1 33)) rfl rfl) (Eq.trans (b := (σ.1 34)) rfl rfl) (Eq.trans (b := (σ.1 35)) rfl rfl) (Eq.trans (b := (σ.2.1 36)) rfl rfl) (Eq.trans (b := (σ.2.1 37)) rfl rfl) (Eq.trans (b := (σ.2.1 38)) rfl rfl) (Eq.trans (b := (σ.2.1 39)) rfl rfl) (Eq.trans (b := (σ.2.1 40)) rfl rfl) (Eq.trans (b := (σ.2.1 41)) rfl rfl) (Eq.trans (b := (σ.2.1 42)) rfl rfl) (Eq.trans (b := (σ.2.1 43)) rfl rfl) (Eq.trans (b := (σ.2.1 44)) rfl rfl) (Eq.trans (b := (σ.2.1 45)) rfl rfl) (Eq.trans (b := (σ.2.1 46)) rfl rfl) (Eq.trans (b := (σ.1 47)) rfl rfl) (Eq.trans (b := (σ.2.1 48)) rfl rfl) (Eq.trans (b := (σ.1 49)) rfl rfl) (Eq.trans (b := (σ.2.1 50)) rfl rfl) (Eq.trans (b := (upd (σ.2.1 51) k0.toNatClampNeg (3 : Int32))) rfl rfl) (Eq.trans (b := (vp_updL (σ.2.2.1 52) k0.toNatClampNeg (0 : Int64))) rfl rfl) (Eq.trans (b := (vp_updL (σ.2.2.1 53) k0.toNatClampNeg (0 : Int64))) rfl rfl) (Eq.trans (b := (vf_upd (σ.2.2.2) k0.toNatClampNeg x23)) rfl rfl) (Eq.trans (b := (σ.1 55)) rfl rfl) (Eq.trans (b := (3 : Int32)) rfl rfl) (Eq.trans (b := (σ.1 57)) rfl rfl) (Eq.trans (b := (σ.2.1 58)) rfl rfl) (Eq.trans (b := (σ.1 59)) rfl rfl)
        exact r_retv C ⟨(upd (σ.2.1 51) k0.toNatClampNeg (3 : Int32)), (vp_updL (σ.2.2.1 52) k0.toNatClampNeg (0 : Int64)), (vp_updL (σ.2.2.1 53) k0.toNatClampNeg (0 : Int64)), (vf_upd (σ.2.2.2) k0.toNatClampNeg x23), (3 : Int32)⟩ ⟨(v_reals_20 σ k0 k1 r1 r2 x23 x24 hpre_0 hpre_1 hpre_2 hpre_3 hpre_4 hpre_5 hr1 hr2 ex23 ex24 c25), (v_reals_21 σ k0 k1 k2 r1 r2 x23 x24 hpre_0 hpre_1 hpre_2 hpre_3 hpre_4 hpre_5 hpre_6 hpre_7 hpre_8 hr1y hr1 hr2y hr2 c3 c4 ex23 ex24 c25)⟩ hP hS dX12_reals_121
      · have c25 : x24.toInt ≤ 0 := by have h := z_nlt c25; rw [show (0 : Int32).toInt = 0 from by decide +kernel] at h; exact h
        refine lv_dload hx hb dX12_reals_92 (lv_at hl 0 rfl) ?_
        refine lv_ldc2d (v := 14009883241494872064) hx hb hown (hw _ wm_286) dX12_reals_94 ?_
        refine lv_dcmp hx hb dX12_reals_97 ?_
        refine lv_topi (fun x27 ex27 => ?_)
        refine lv_if_ge (tgt := 105) hx hb dX12_reals_98 (by decide) (fun c28 => ?_) (fun c28 => ?_)
        · have c28 : 0 ≤ x27.toInt := by have h := z_le c28; rw [show (0 : Int32).toInt = 0 from by decide +kernel] at h; exact h
          refine lv_aload_n hx hb dX12_reals_105 rfl (lv_at hl 3 rfl) ?_
          refine rg_56 (v := (σ.1 56)) C hP rfl wm_242 dX12_reals_106 ?_
          refine rp_56 C hP hS wm_242 dX12_reals_109 (fun H locs hP hS => ?_)
          refine lv_aload_n hx hb dX12_reals_112 rfl (lv_at hl 3 rfl) ?_
          refine lv_iload_n hx hb dX12_reals_113 rfl (lv_at hl 4 rfl) ?_
          refine lv_iconst (v := 3) hx hb dX12_reals_114 (by decide +kernel) ?_
          refine lv_lconst (v := 0) hx hb dX12_reals_115 rfl ?_
          refine lv_dload hx hb dX12_reals_116 (lv_at hl 0 rfl) ?_
          refine r_callVv (As := [.int k0, .int 3, .long 0, .double x23]) (rest := []) C hP hS hl.1 ⟨Nat.zero_le _, Nat.zero_le _⟩ (M_set l D cy sz0 sa ad (rS σ 56 (σ.1 56)) H.size k0 (3 : Int32) (0 : Int64) x23 (v_reals_5 σ k0 k1 hpre_0 hpre_1 hpre_2 hpre_3 hpre_4 hpre_5)) (n := 4) ⟨wm_213, wm_207, by decide +kernel⟩ ⟨wm_214, wm_215, wm_10⟩ rfl rfl (lv_room (Nat.le_of_ble_eq_true rfl)) ⟨Nat.le_of_ble_eq_true rfl, Nat.le_of_ble_eq_true rfl⟩ dX12_reals_118 (fun u H locs hr29 hP hS => ?_)
          have hr29 : True := hr29
          have hP : RP D cy ad (rR (rJ (rJ (rA (rS σ 56 (σ.1 56)) 51 (upd (σ.2.1 51) k0.toNatClampNeg (3 : Int32))) 52 (vp_updL (σ.2.2.1 52) k0.toNatClampNeg (0 : Int64))) 53 (vp_updL (σ.2.2.1 53) k0.toNatClampNeg (0 : Int64))) (vf_upd (σ.2.2.2) k0.toNatClampNeg x23)) H := hP
          have hP : RP D cy ad (rS (rR (rJ (rJ (rA σ 51 (upd (σ.2.1 51) k0.toNatClampNeg (3 : Int32))) 52 (vp_updL (σ.2.2.1 52) k0.toNatClampNeg (0 : Int64))) 53 (vp_updL (σ.2.2.1 53) k0.toNatClampNeg (0 : Int64))) (vf_upd (σ.2.2.2) k0.toNatClampNeg x23)) 56 (σ.1 56)) H := RP.cong hP (Eq.trans (b := (σ.1 0)) rfl rfl) (Eq.trans (b := (σ.1 1)) rfl rfl) (Eq.trans (b := (σ.2.1 2)) rfl rfl) (Eq.trans (b := (σ.1 3)) rfl rfl) (Eq.trans (b := (σ.2.1 4)) rfl rfl) (Eq.trans (b := (σ.2.1 5)) rfl rfl) (Eq.trans (b := (σ.2.2.1 6)) rfl rfl) (Eq.trans (b := (σ.2.1 7)) rfl rfl) (Eq.trans (b := (σ.1 8)) rfl rfl) (Eq.trans (b := (σ.1 9)) rfl rfl) (Eq.trans (b := (σ.1 10)) rfl rfl) (Eq.trans (b := (σ.2.1 11)) rfl rfl) (Eq.trans (b := (σ.2.2.1 12)) rfl rfl) (Eq.trans (b := (σ.2.1 13)) rfl rfl) (Eq.trans (b := (σ.1 14)) rfl rfl) (Eq.trans (b := (σ.1 15)) rfl rfl) (Eq.trans (b := (σ.1 16)) rfl rfl) (Eq.trans (b := (σ.1 17)) rfl rfl) (Eq.trans (b := (σ.1 18)) rfl rfl) (Eq.trans (b := (σ.1 19)) rfl rfl) (Eq.trans (b := (σ.2.1 20)) rfl rfl) (Eq.trans (b := (σ.2.1 21)) rfl rfl) (Eq.trans (b := (σ.2.1 22)) rfl rfl) (Eq.trans (b := (σ.2.1 23)) rfl rfl) (Eq.trans (b := (σ.2.1 24)) rfl rfl) (Eq.trans (b := (σ.2.1 25)) rfl rfl) (Eq.trans (b := (σ.2.1 26)) rfl rfl) (Eq.trans (b := (σ.2.1 27)) rfl rfl) (Eq.trans (b := (σ.2.1 28)) rfl rfl) (Eq.trans (b := (σ.1 29)) rfl rfl) (Eq.trans (b := (σ.2.1 30)) rfl rfl) (Eq.trans (b := (σ.2.1 31)) rfl rfl) (Eq.trans (b := (σ.2.1 32)) rfl rfl) (Eq.trans (b := (σ.1 33)) rfl rfl) (Eq.trans (b := (σ.1 34)) rfl rfl) (Eq.trans (b := (σ.1 35)) rfl rfl) (Eq.trans (b := (σ.2.1 36)) rfl rfl) (Eq.trans (b := (σ.2.1 37)) rfl rfl) (Eq.trans (b := (σ.2.1 38)) rfl rfl) (Eq.trans (b := (σ.2.1 39)) rfl rfl) (Eq.trans (b := (σ.2.1 40)) rfl rfl) (Eq.trans (b := (σ.2.1 41)) rfl rfl) (Eq.trans (b := (σ.2.1 42)) rfl rfl) (Eq.trans (b := (σ.2.1 43)) rfl rfl) (Eq.trans (b := (σ.2.1 44)) rfl rfl) (Eq.trans (b := (σ.2.1 45)) rfl rfl) (Eq.trans (b := (σ.2.1 46)) rfl rfl) (Eq.trans (b := (σ.1 47)) rfl rfl) (Eq.trans (b := (σ.2.1 48)) rfl rfl) (Eq.trans (b := (σ.1 49)) rfl rfl) (Eq.trans (b := (σ.2.1 50)) rfl rfl) (Eq.trans (b := (upd (σ.2.1 51) k0.toNatClampNeg (3 : Int32))) rfl rfl) (Eq.trans (b := (vp_updL (σ.2.2.1 52) k0.toNatClampNeg (0 : Int64))) rfl rfl) (Eq.trans (b := (vp_updL (σ.2.2.1 53) k0.toNatClampNeg (0 : Int64))) rfl rfl) (Eq.trans (b := (vf_upd (σ.2.2.2) k0.toNatClampNeg x23)) rfl rfl) (Eq.trans (b := (σ.1 55)) rfl rfl) (Eq.trans (b := (σ.1 56)) rfl rfl) (Eq.trans (b := (σ.1 57)) rfl rfl) (Eq.trans (b := (σ.2.1 58)) rfl rfl) (Eq.trans (b := (σ.1 59)) rfl rfl)
          exact r_retv C ⟨(upd (σ.2.1 51) k0.toNatClampNeg (3 : Int32)), (vp_updL (σ.2.2.1 52) k0.toNatClampNeg (0 : Int64)), (vp_updL (σ.2.2.1 53) k0.toNatClampNeg (0 : Int64)), (vf_upd (σ.2.2.2) k0.toNatClampNeg x23), (σ.1 56)⟩ ⟨(v_reals_22 σ k0 k1 r1 r2 x23 x24 x27 hpre_0 hpre_1 hpre_2 hpre_3 hpre_4 hpre_5 hpre_6 hr1 hr2 ex23 ex24 c25 ex27 c28), (v_reals_23 σ k0 k1 k2 r1 r2 x23 x24 x27 hpre_0 hpre_1 hpre_2 hpre_3 hpre_4 hpre_5 hpre_6 hpre_7 hpre_8 hr1y hr1 hr2y hr2 c3 c4 ex23 ex24 c25 ex27 c28)⟩ hP hS dX12_reals_121
        · have c28 : x27.toInt < 0 := by have h := z_nle c28; rw [show (0 : Int32).toInt = 0 from by decide +kernel] at h; exact h
          refine lv_iconst (v := 3) hx hb dX12_reals_101 (by decide +kernel) ?_
          refine lv_goto (tgt := 109) hx hb dX12_reals_102 (by decide) ?_
          refine rp_56 C hP hS wm_242 dX12_reals_109 (fun H locs hP hS => ?_)
          refine lv_aload_n hx hb dX12_reals_112 rfl (lv_at hl 3 rfl) ?_
          refine lv_iload_n hx hb dX12_reals_113 rfl (lv_at hl 4 rfl) ?_
          refine lv_iconst (v := 3) hx hb dX12_reals_114 (by decide +kernel) ?_
          refine lv_lconst (v := 0) hx hb dX12_reals_115 rfl ?_
          refine lv_dload hx hb dX12_reals_116 (lv_at hl 0 rfl) ?_
          refine r_callVv (As := [.int k0, .int 3, .long 0, .double x23]) (rest := []) C hP hS hl.1 ⟨Nat.zero_le _, Nat.zero_le _⟩ (M_set l D cy sz0 sa ad (rS σ 56 (3 : Int32)) H.size k0 (3 : Int32) (0 : Int64) x23 (v_reals_5 σ k0 k1 hpre_0 hpre_1 hpre_2 hpre_3 hpre_4 hpre_5)) (n := 4) ⟨wm_213, wm_207, by decide +kernel⟩ ⟨wm_214, wm_215, wm_10⟩ rfl rfl (lv_room (Nat.le_of_ble_eq_true rfl)) ⟨Nat.le_of_ble_eq_true rfl, Nat.le_of_ble_eq_true rfl⟩ dX12_reals_118 (fun u H locs hr30 hP hS => ?_)
          have hr30 : True := hr30
          have hP : RP D cy ad (rR (rJ (rJ (rA (rS σ 56 (3 : Int32)) 51 (upd (σ.2.1 51) k0.toNatClampNeg (3 : Int32))) 52 (vp_updL (σ.2.2.1 52) k0.toNatClampNeg (0 : Int64))) 53 (vp_updL (σ.2.2.1 53) k0.toNatClampNeg (0 : Int64))) (vf_upd (σ.2.2.2) k0.toNatClampNeg x23)) H := hP
          have hP : RP D cy ad (rS (rR (rJ (rJ (rA σ 51 (upd (σ.2.1 51) k0.toNatClampNeg (3 : Int32))) 52 (vp_updL (σ.2.2.1 52) k0.toNatClampNeg (0 : Int64))) 53 (vp_updL (σ.2.2.1 53) k0.toNatClampNeg (0 : Int64))) (vf_upd (σ.2.2.2) k0.toNatClampNeg x23)) 56 (3 : Int32)) H := RP.cong hP (Eq.trans (b := (σ.1 0)) rfl rfl) (Eq.trans (b := (σ.1 1)) rfl rfl) (Eq.trans (b := (σ.2.1 2)) rfl rfl) (Eq.trans (b := (σ.1 3)) rfl rfl) (Eq.trans (b := (σ.2.1 4)) rfl rfl) (Eq.trans (b := (σ.2.1 5)) rfl rfl) (Eq.trans (b := (σ.2.2.1 6)) rfl rfl) (Eq.trans (b := (σ.2.1 7)) rfl rfl) (Eq.trans (b := (σ.1 8)) rfl rfl) (Eq.trans (b := (σ.1 9)) rfl rfl) (Eq.trans (b := (σ.1 10)) rfl rfl) (Eq.trans (b := (σ.2.1 11)) rfl rfl) (Eq.trans (b := (σ.2.2.1 12)) rfl rfl) (Eq.trans (b := (σ.2.1 13)) rfl rfl) (Eq.trans (b := (σ.1 14)) rfl rfl) (Eq.trans (b := (σ.1 15)) rfl rfl) (Eq.trans (b := (σ.1 16)) rfl rfl) (Eq.trans (b := (σ.1 17)) rfl rfl) (Eq.trans (b := (σ.1 18)) rfl rfl) (Eq.trans (b := (σ.1 19)) rfl rfl) (Eq.trans (b := (σ.2.1 20)) rfl rfl) (Eq.trans (b := (σ.2.1 21)) rfl rfl) (Eq.trans (b := (σ.2.1 22)) rfl rfl) (Eq.trans (b := (σ.2.1 23)) rfl rfl) (Eq.trans (b := (σ.2.1 24)) rfl rfl) (Eq.trans (b := (σ.2.1 25)) rfl rfl) (Eq.trans (b := (σ.2.1 26)) rfl rfl) (Eq.trans (b := (σ.2.1 27)) rfl rfl) (Eq.trans (b := (σ.2.1 28)) rfl rfl) (Eq.trans (b := (σ.1 29)) rfl rfl) (Eq.trans (b := (σ.2.1 30)) rfl rfl) (Eq.trans (b := (σ.2.1 31)) rfl rfl) (Eq.trans (b := (σ.2.1 32)) rfl rfl) (Eq.trans (b := (σ.1 33)) rfl rfl) (Eq.trans (b := (σ.1 34)) rfl rfl) (Eq.trans (b := (σ.1 35)) rfl rfl) (Eq.trans (b := (σ.2.1 36)) rfl rfl) (Eq.trans (b := (σ.2.1 37)) rfl rfl) (Eq.trans (b := (σ.2.1 38)) rfl rfl) (Eq.trans (b := (σ.2.1 39)) rfl rfl) (Eq.trans (b := (σ.2.1 40)) rfl rfl) (Eq.trans (b := (σ.2.1 41)) rfl rfl) (Eq.trans (b := (σ.2.1 42)) rfl rfl) (Eq.trans (b := (σ.2.1 43)) rfl rfl) (Eq.trans (b := (σ.2.1 44)) rfl rfl) (Eq.trans (b := (σ.2.1 45)) rfl rfl) (Eq.trans (b := (σ.2.1 46)) rfl rfl) (Eq.trans (b := (σ.1 47)) rfl rfl) (Eq.trans (b := (σ.2.1 48)) rfl rfl) (Eq.trans (b := (σ.1 49)) rfl rfl) (Eq.trans (b := (σ.2.1 50)) rfl rfl) (Eq.trans (b := (upd (σ.2.1 51) k0.toNatClampNeg (3 : Int32))) rfl rfl) (Eq.trans (b := (vp_updL (σ.2.2.1 52) k0.toNatClampNeg (0 : Int64))) rfl rfl) (Eq.trans (b := (vp_updL (σ.2.2.1 53) k0.toNatClampNeg (0 : Int64))) rfl rfl) (Eq.trans (b := (vf_upd (σ.2.2.2) k0.toNatClampNeg x23)) rfl rfl) (Eq.trans (b := (σ.1 55)) rfl rfl) (Eq.trans (b := (3 : Int32)) rfl rfl) (Eq.trans (b := (σ.1 57)) rfl rfl) (Eq.trans (b := (σ.2.1 58)) rfl rfl) (Eq.trans (b := (σ.1 59)) rfl rfl)
          exact r_retv C ⟨(upd (σ.2.1 51) k0.toNatClampNeg (3 : Int32)), (vp_updL (σ.2.2.1 52) k0.toNatClampNeg (0 : Int64)), (vp_updL (σ.2.2.1 53) k0.toNatClampNeg (0 : Int64)), (vf_upd (σ.2.2.2) k0.toNatClampNeg x23), (3 : Int32)⟩ ⟨(v_reals_24 σ k0 k1 r1 r2 x23 x24 x27 hpre_0 hpre_1 hpre_2 hpre_3 hpre_4 hpre_5 hr1 hr2 ex23 ex24 c25 ex27 c28), (v_reals_25 σ k0 k1 k2 r1 r2 x23 x24 x27 hpre_0 hpre_1 hpre_2 hpre_3 hpre_4 hpre_5 hpre_6 hpre_7 hpre_8 hr1y hr1 hr2y hr2 c3 c4 ex23 ex24 c25 ex27 c28)⟩ hP hS dX12_reals_121
  · have c3 : k2.toInt = 19 := by have h := z_eq c3; rw [show (19 : Int32).toInt = 19 from by decide +kernel] at h; exact h
    refine lv_dload hx hb dX12_reals_20 (lv_at hl 0 rfl) ?_
    refine lv_dconst0 hx hb dX12_reals_22 ?_
    refine lv_dcmp hx hb dX12_reals_23 ?_
    refine lv_topi (fun x31 ex31 => ?_)
    refine lv_if_ne (tgt := 33) hx hb dX12_reals_24 (by decide) (fun c32 => ?_) (fun c32 => ?_)
    · have c32 : ¬ x31.toInt = 0 := by have h := z_ne c32; rw [show (0 : Int32).toInt = 0 from by decide +kernel] at h; exact h
      refine lv_iload_n hx hb dX12_reals_33 rfl (lv_at hl 5 rfl) ?_
      refine lv_bipush (v := 16) hx hb dX12_reals_34 (by decide +kernel) ?_
      refine lv_icmp_ne (tgt := 47) hx hb dX12_reals_36 (by decide) (fun c33 => ?_) (fun c33 => ?_)
      · have c33 : ¬ k2.toInt = 16 := by have h := z_ne c33; rw [show (16 : Int32).toInt = 16 from by decide +kernel] at h; exact h
        refine lv_iload_n hx hb dX12_reals_47 rfl (lv_at hl 5 rfl) ?_
        refine lv_bipush (v := 17) hx hb dX12_reals_48 (by decide +kernel) ?_
        refine lv_icmp_ne (tgt := 61) hx hb dX12_reals_50 (by decide) (fun c34 => ?_) (fun c34 => ?_)
        · have c34 : ¬ k2.toInt = 17 := by have h := z_ne c34; rw [show (17 : Int32).toInt = 17 from by decide +kernel] at h; exact h
          refine lv_iload_n hx hb dX12_reals_61 rfl (lv_at hl 5 rfl) ?_
          refine lv_bipush (v := 18) hx hb dX12_reals_62 (by decide +kernel) ?_
          refine lv_icmp_ne (tgt := 75) hx hb dX12_reals_64 (by decide) (fun c35 => ?_) (fun c35 => ?_)
          · have c35 : ¬ k2.toInt = 18 := by have h := z_ne c35; rw [show (18 : Int32).toInt = 18 from by decide +kernel] at h; exact h
            refine lv_dload hx hb dX12_reals_75 (lv_at hl 1 rfl) ?_
            refine lv_dload hx hb dX12_reals_77 (lv_at hl 0 rfl) ?_
            refine lv_ddiv hx hb dX12_reals_79 (v_reals_26 r1 r2 x31 hr1 hr2 ex31 c32) ?_
            refine lv_topd (fun x36 ex36 => ?_)
            refine lv_dstore (lv' := [(8, .double x36), (6, .double r2), (4, .double r1), (0, .ref (ad 0)), (1, .int k0), (2, .int k1), (3, .int k2)]) hx hb dX12_reals_80 hl (by decide) rfl (fun ls hl => ?_)
            refine lv_aload_n hx hb dX12_reals_82 rfl (lv_at hl 3 rfl) ?_
            refine lv_dload hx hb dX12_reals_83 (lv_at hl 0 rfl) ?_
            refine lv_ldc2d (v := 4786511204640096256) hx hb hown (hw _ wm_285) dX12_reals_85 ?_
            refine lv_dcmp hx hb dX12_reals_88 ?_
            refine lv_topi (fun x37 ex37 => ?_)
            refine lv_if_gt (tgt := 101) hx hb dX12_reals_89 (by decide) (fun c38 => ?_) (fun c38 => ?_)
            · have c38 : 0 < x37.toInt := by have h := z_lt c38; rw [show (0 : Int32).toInt = 0 from by decide +kernel] at h; exact h
              refine lv_iconst (v := 3) hx hb dX12_reals_101 (by decide +kernel) ?_
              refine lv_goto (tgt := 109) hx hb dX12_reals_102 (by decide) ?_
              refine rp_56 C hP hS wm_242 dX12_reals_109 (fun H locs hP hS => ?_)
              refine lv_aload_n hx hb dX12_reals_112 rfl (lv_at hl 3 rfl) ?_
              refine lv_iload_n hx hb dX12_reals_113 rfl (lv_at hl 4 rfl) ?_
              refine lv_iconst (v := 3) hx hb dX12_reals_114 (by decide +kernel) ?_
              refine lv_lconst (v := 0) hx hb dX12_reals_115 rfl ?_
              refine lv_dload hx hb dX12_reals_116 (lv_at hl 0 rfl) ?_
              refine r_callVv (As := [.int k0, .int 3, .long 0, .double x36]) (rest := []) C hP hS hl.1 ⟨Nat.zero_le _, Nat.zero_le _⟩ (M_set l D cy sz0 sa ad (rS σ 56 (3 : Int32)) H.size k0 (3 : Int32) (0 : Int64) x36 (v_reals_5 σ k0 k1 hpre_0 hpre_1 hpre_2 hpre_3 hpre_4 hpre_5)) (n := 4) ⟨wm_213, wm_207, by decide +kernel⟩ ⟨wm_214, wm_215, wm_10⟩ rfl rfl (lv_room (Nat.le_of_ble_eq_true rfl)) ⟨Nat.le_of_ble_eq_true rfl, Nat.le_of_ble_eq_true rfl⟩ dX12_reals_118 (fun u H locs hr39 hP hS => ?_)
              have hr39 : True := hr39
              have hP : RP D cy ad (rR (rJ (rJ (rA (rS σ 56 (3 : Int32)) 51 (upd (σ.2.1 51) k0.toNatClampNeg (3 : Int32))) 52 (vp_updL (σ.2.2.1 52) k0.toNatClampNeg (0 : Int64))) 53 (vp_updL (σ.2.2.1 53) k0.toNatClampNeg (0 : Int64))) (vf_upd (σ.2.2.2) k0.toNatClampNeg x36)) H := hP
              have hP : RP D cy ad (rS (rR (rJ (rJ (rA σ 51 (upd (σ.2.1 51) k0.toNatClampNeg (3 : Int32))) 52 (vp_updL (σ.2.2.1 52) k0.toNatClampNeg (0 : Int64))) 53 (vp_updL (σ.2.2.1 53) k0.toNatClampNeg (0 : Int64))) (vf_upd (σ.2.2.2) k0.toNatClampNeg x36)) 56 (3 : Int32)) H := RP.cong hP (Eq.trans (b := (σ.1 0)) rfl rfl) (Eq.trans (b := (σ.1 1)) rfl rfl) (Eq.trans (b := (σ.2.1 2)) rfl rfl) (Eq.trans (b := (σ.1 3)) rfl rfl) (Eq.trans (b := (σ.2.1 4)) rfl rfl) (Eq.trans (b := (σ.2.1 5)) rfl rfl) (Eq.trans (b := (σ.2.2.1 6)) rfl rfl) (Eq.trans (b := (σ.2.1 7)) rfl rfl) (Eq.trans (b := (σ.1 8)) rfl rfl) (Eq.trans (b := (σ.1 9)) rfl rfl) (Eq.trans (b := (σ.1 10)) rfl rfl) (Eq.trans (b := (σ.2.1 11)) rfl rfl) (Eq.trans (b := (σ.2.2.1 12)) rfl rfl) (Eq.trans (b := (σ.2.1 13)) rfl rfl) (Eq.trans (b := (σ.1 14)) rfl rfl) (Eq.trans (b := (σ.1 15)) rfl rfl) (Eq.trans (b := (σ.1 16)) rfl rfl) (Eq.trans (b := (σ.1 17)) rfl rfl) (Eq.trans (b := (σ.1 18)) rfl rfl) (Eq.trans (b := (σ.1 19)) rfl rfl) (Eq.trans (b := (σ.2.1 20)) rfl rfl) (Eq.trans (b := (σ.2.1 21)) rfl rfl) (Eq.trans (b := (σ.2.1 22)) rfl rfl) (Eq.trans (b := (σ.2.1 23)) rfl rfl) (Eq.trans (b := (σ.2.1 24)) rfl rfl) (Eq.trans (b := (σ.2.1 25)) rfl rfl) (Eq.trans (b := (σ.2.1 26)) rfl rfl) (Eq.trans (b := (σ.2.1 27)) rfl rfl) (Eq.trans (b := (σ.2.1 28)) rfl rfl) (Eq.trans (b := (σ.1 29)) rfl rfl) (Eq.trans (b := (σ.2.1 30)) rfl rfl) (Eq.trans (b := (σ.2.1 31)) rfl rfl) (Eq.trans (b := (σ.2.1 32)) rfl rfl) (Eq.trans (b := (σ.1 33)) rfl rfl) (Eq.trans (b := (σ.1 34)) rfl rfl) (Eq.trans (b := (σ.1 35)) rfl rfl) (Eq.trans (b := (σ.2.1 36)) rfl rfl) (Eq.trans (b := (σ.2.1 37)) rfl rfl) (Eq.trans (b := (σ.2.1 38)) rfl rfl) (Eq.trans (b := (σ.2.1 39)) rfl rfl) (Eq.trans (b := (σ.2.1 40)) rfl rfl) (Eq.trans (b := (σ.2.1 41)) rfl rfl) (Eq.trans (b := (σ.2.1 42)) rfl rfl) (Eq.trans (b := (σ.2.1 43)) rfl rfl) (Eq.trans (b := (σ.2.1 44)) rfl rfl) (Eq.trans (b := (σ.2.1 45)) rfl rfl) (Eq.trans (b := (σ.2.1 46)) rfl rfl) (Eq.trans (b := (σ.1 47)) rfl rfl) (Eq.trans (b := (σ.2.1 48)) rfl rfl) (Eq.trans (b := (σ.1 49)) rfl rfl) (Eq.trans (b := (σ.2.1 50)) rfl rfl) (Eq.trans (b := (upd (σ.2.1 51) k0.toNatClampNeg (3 : Int32))) rfl rfl) (Eq.trans (b := (vp_updL (σ.2.2.1 52) k0.toNatClampNeg (0 : Int64))) rfl rfl) (Eq.trans (b := (vp_updL (σ.2.2.1 53) k0.toNatClampNeg (0 : Int64))) rfl rfl) (Eq.trans (b := (vf_upd (σ.2.2.2) k0.toNatClampNeg x36)) rfl rfl) (Eq.trans (b := (σ.1 55)) rfl rfl) (Eq.trans (b := (3 : Int32)) rfl rfl) (Eq.trans (b := (σ.1 57)) rfl rfl) (Eq.trans (b := (σ.2.1 58)) rfl rfl) (Eq.trans (b := (σ.1 59)) rfl rfl)
              exact r_retv C ⟨(upd (σ.2.1 51) k0.toNatClampNeg (3 : Int32)), (vp_updL (σ.2.2.1 52) k0.toNatClampNeg (0 : Int64)), (vp_updL (σ.2.2.1 53) k0.toNatClampNeg (0 : Int64)), (vf_upd (σ.2.2.2) k0.toNatClampNeg x36), (3 : Int32)⟩ ⟨(v_reals_27 σ k0 k1 r1 r2 x31 x36 x37 hpre_0 hpre_1 hpre_2 hpre_3 hpre_4 hpre_5 hr1 hr2 ex31 c32 ex36 ex37 c38), (v_reals_28 σ k0 k1 k2 r1 r2 x31 x36 x37 hpre_0 hpre_1 hpre_2 hpre_3 hpre_4 hpre_5 hpre_6 hpre_7 hpre_8 hr1y hr1 hr2y hr2 c3 ex31 c32 c33 c34 c35 ex36 ex37 c38)⟩ hP hS dX12_reals_121
            · have c38 : x37.toInt ≤ 0 := by have h := z_nlt c38; rw [show (0 : Int32).toInt = 0 from by decide +kernel] at h; exact h
              refine lv_dload hx hb dX12_reals_92 (lv_at hl 0 rfl) ?_
              refine lv_ldc2d (v := 14009883241494872064) hx hb hown (hw _ wm_286) dX12_reals_94 ?_
              refine lv_dcmp hx hb dX12_reals_97 ?_
              refine lv_topi (fun x40 ex40 => ?_)
              refine lv_if_ge (tgt := 105) hx hb dX12_reals_98 (by decide) (fun c41 => ?_) (fun c41 => ?_)
              · have c41 : 0 ≤ x40.toInt := by have h := z_le c41; rw [show (0 : Int32).toInt = 0 from by decide +kernel] at h; exact h
                refine lv_aload_n hx hb dX12_reals_105 rfl (lv_at hl 3 rfl) ?_
                refine rg_56 (v := (σ.1 56)) C hP rfl wm_242 dX12_reals_106 ?_
                refine rp_56 C hP hS wm_242 dX12_reals_109 (fun H locs hP hS => ?_)
                refine lv_aload_n hx hb dX12_reals_112 rfl (lv_at hl 3 rfl) ?_
                refine lv_iload_n hx hb dX12_reals_113 rfl (lv_at hl 4 rfl) ?_
                refine lv_iconst (v := 3) hx hb dX12_reals_114 (by decide +kernel) ?_
                refine lv_lconst (v := 0) hx hb dX12_reals_115 rfl ?_
                refine lv_dload hx hb dX12_reals_116 (lv_at hl 0 rfl) ?_
                refine r_callVv (As := [.int k0, .int 3, .long 0, .double x36]) (rest := []) C hP hS hl.1 ⟨Nat.zero_le _, Nat.zero_le _⟩ (M_set l D cy sz0 sa ad (rS σ 56 (σ.1 56)) H.size k0 (3 : Int32) (0 : Int64) x36 (v_reals_5 σ k0 k1 hpre_0 hpre_1 hpre_2 hpre_3 hpre_4 hpre_5)) (n := 4) ⟨wm_213, wm_207, by decide +kernel⟩ ⟨wm_214, wm_215, wm_10⟩ rfl rfl (lv_room (Nat.le_of_ble_eq_true rfl)) ⟨Nat.le_of_ble_eq_true rfl, Nat.le_of_ble_eq_true rfl⟩ dX12_reals_118 (fun u H locs hr42 hP hS => ?_)
                have hr42 : True := hr42
                have hP : RP D cy ad (rR (rJ (rJ (rA (rS σ 56 (σ.1 56)) 51 (upd (σ.2.1 51) k0.toNatClampNeg (3 : Int32))) 52 (vp_updL (σ.2.2.1 52) k0.toNatClampNeg (0 : Int64))) 53 (vp_updL (σ.2.2.1 53) k0.toNatClampNeg (0 : Int64))) (vf_upd (σ.2.2.2) k0.toNatClampNeg x36)) H := hP
                have hP : RP D cy ad (rS (rR (rJ (rJ (rA σ 51 (upd (σ.2.1 51) k0.toNatClampNeg (3 : Int32))) 52 (vp_updL (σ.2.2.1 52) k0.toNatClampNeg (0 : Int64))) 53 (vp_updL (σ.2.2.1 53) k0.toNatClampNeg (0 : Int64))) (vf_upd (σ.2.2.2) k0.toNatClampNeg x36)) 56 (σ.1 56)) H := RP.cong hP (Eq.trans (b := (σ.1 0)) rfl rfl) (Eq.trans (b := (σ.1 1)) rfl rfl) (Eq.trans (b := (σ.2.1 2)) rfl rfl) (Eq.trans (b := (σ.1 3)) rfl rfl) (Eq.trans (b := (σ.2.1 4)) rfl rfl) (Eq.trans (b := (σ.2.1 5)) rfl rfl) (Eq.trans (b := (σ.2.2.1 6)) rfl rfl) (Eq.trans (b := (σ.2.1 7)) rfl rfl) (Eq.trans (b := (σ.1 8)) rfl rfl) (Eq.trans (b := (σ.1 9)) rfl rfl) (Eq.trans (b := (σ.1 10)) rfl rfl) (Eq.trans (b := (σ.2.1 11)) rfl rfl) (Eq.trans (b := (σ.2.2.1 12)) rfl rfl) (Eq.trans (b := (σ.2.1 13)) rfl rfl) (Eq.trans (b := (σ.1 14)) rfl rfl) (Eq.trans (b := (σ.1 15)) rfl rfl) (Eq.trans (b := (σ.1 16)) rfl rfl) (Eq.trans (b := (σ.1 17)) rfl rfl) (Eq.trans (b := (σ.1 18)) rfl rfl) (Eq.trans (b := (σ.1 19)) rfl rfl) (Eq.trans (b := (σ.2.1 20)) rfl rfl) (Eq.trans (b := (σ.2.1 21)) rfl rfl) (Eq.trans (b := (σ.2.1 22)) rfl rfl) (Eq.trans (b := (σ.2.1 23)) rfl rfl) (Eq.trans (b := (σ.2.1 24)) rfl rfl) (Eq.trans (b := (σ.2.1 25)) rfl rfl) (Eq.trans (b := (σ.2.1 26)) rfl rfl) (Eq.trans (b := (σ.2.1 27)) rfl rfl) (Eq.trans (b := (σ.2.1 28)) rfl rfl) (Eq.trans (b := (σ.1 29)) rfl rfl) (Eq.trans (b := (σ.2.1 30)) rfl rfl) (Eq.trans (b := (σ.2.1 31)) rfl rfl) (Eq.trans (b := (σ.2.1 32)) rfl rfl) (Eq.trans (b := (σ.1 33)) rfl rfl) (Eq.trans (b := (σ.1 34)) rfl rfl) (Eq.trans (b := (σ.1 35)) rfl rfl) (Eq.trans (b := (σ.2.1 36)) rfl rfl) (Eq.trans (b := (σ.2.1 37)) rfl rfl) (Eq.trans (b := (σ.2.1 38)) rfl rfl) (Eq.trans (b := (σ.2.1 39)) rfl rfl) (Eq.trans (b := (σ.2.1 40)) rfl rfl) (Eq.trans (b := (σ.2.1 41)) rfl rfl) (Eq.trans (b := (σ.2.1 42)) rfl rfl) (Eq.trans (b := (σ.2.1 43)) rfl rfl) (Eq.trans (b := (σ.2.1 44)) rfl rfl) (Eq.trans (b := (σ.2.1 45)) rfl rfl) (Eq.trans (b := (σ.2.1 46)) rfl rfl) (Eq.trans (b := (σ.1 47)) rfl rfl) (Eq.trans (b := (σ.2.1 48)) rfl rfl) (Eq.trans (b := (σ.1 49)) rfl rfl) (Eq.trans (b := (σ.2.1 50)) rfl rfl) (Eq.trans (b := (upd (σ.2.1 51) k0.toNatClampNeg (3 : Int32))) rfl rfl) (Eq.trans (b := (vp_updL (σ.2.2.1 52) k0.toNatClampNeg (0 : Int64))) rfl rfl) (Eq.trans (b := (vp_updL (σ.2.2.1 53) k0.toNatClampNeg (0 : Int64))) rfl rfl) (Eq.trans (b := (vf_upd (σ.2.2.2) k0.toNatClampNeg x36)) rfl rfl) (Eq.trans (b := (σ.1 55)) rfl rfl) (Eq.trans (b := (σ.1 56)) rfl rfl) (Eq.trans (b := (σ.1 57)) rfl rfl) (Eq.trans (b := (σ.2.1 58)) rfl rfl) (Eq.trans (b := (σ.1 59)) rfl rfl)
                exact r_retv C ⟨(upd (σ.2.1 51) k0.toNatClampNeg (3 : Int32)), (vp_updL (σ.2.2.1 52) k0.toNatClampNeg (0 : Int64)), (vp_updL (σ.2.2.1 53) k0.toNatClampNeg (0 : Int64)), (vf_upd (σ.2.2.2) k0.toNatClampNeg x36), (σ.1 56)⟩ ⟨(v_reals_29 σ k0 k1 r1 r2 x31 x36 x37 x40 hpre_0 hpre_1 hpre_2 hpre_3 hpre_4 hpre_5 hpre_6 hr1 hr2 ex31 c32 ex36 ex37 c38 ex40 c41), (v_reals_30 σ k0 k1 k2 r1 r2 x31 x36 x37 x40 hpre_0 hpre_1 hpre_2 hpre_3 hpre_4 hpre_5 hpre_6 hpre_7 hpre_8 hr1y hr1 hr2y hr2 c3 ex31 c32 c33 c34 c35 ex36 ex37 c38 ex40 c41)⟩ hP hS dX12_reals_121
              · have c41 : x40.toInt < 0 := by have h := z_nle c41; rw [show (0 : Int32).toInt = 0 from by decide +kernel] at h; exact h
                refine lv_iconst (v := 3) hx hb dX12_reals_101 (by decide +kernel) ?_
                refine lv_goto (tgt := 109) hx hb dX12_reals_102 (by decide) ?_
                refine rp_56 C hP hS wm_242 dX12_reals_109 (fun H locs hP hS => ?_)
                refine lv_aload_n hx hb dX12_reals_112 rfl (lv_at hl 3 rfl) ?_
                refine lv_iload_n hx hb dX12_reals_113 rfl (lv_at hl 4 rfl) ?_
                refine lv_iconst (v := 3) hx hb dX12_reals_114 (by decide +kernel) ?_
                refine lv_lconst (v := 0) hx hb dX12_reals_115 rfl ?_
                refine lv_dload hx hb dX12_reals_116 (lv_at hl 0 rfl) ?_
                refine r_callVv (As := [.int k0, .int 3, .long 0, .double x36]) (rest := []) C hP hS hl.1 ⟨Nat.zero_le _, Nat.zero_le _⟩ (M_set l D cy sz0 sa ad (rS σ 56 (3 : Int32)) H.size k0 (3 : Int32) (0 : Int64) x36 (v_reals_5 σ k0 k1 hpre_0 hpre_1 hpre_2 hpre_3 hpre_4 hpre_5)) (n := 4) ⟨wm_213, wm_207, by decide +kernel⟩ ⟨wm_214, wm_215, wm_10⟩ rfl rfl (lv_room (Nat.le_of_ble_eq_true rfl)) ⟨Nat.le_of_ble_eq_true rfl, Nat.le_of_ble_eq_true rfl⟩ dX12_reals_118 (fun u H locs hr43 hP hS => ?_)
                have hr43 : True := hr43
                have hP : RP D cy ad (rR (rJ (rJ (rA (rS σ 56 (3 : Int32)) 51 (upd (σ.2.1 51) k0.toNatClampNeg (3 : Int32))) 52 (vp_updL (σ.2.2.1 52) k0.toNatClampNeg (0 : Int64))) 53 (vp_updL (σ.2.2.1 53) k0.toNatClampNeg (0 : Int64))) (vf_upd (σ.2.2.2) k0.toNatClampNeg x36)) H := hP
                have hP : RP D cy ad (rS (rR (rJ (rJ (rA σ 51 (upd (σ.2.1 51) k0.toNatClampNeg (3 : Int32))) 52 (vp_updL (σ.2.2.1 52) k0.toNatClampNeg (0 : Int64))) 53 (vp_updL (σ.2.2.1 53) k0.toNatClampNeg (0 : Int64))) (vf_upd (σ.2.2.2) k0.toNatClampNeg x36)) 56 (3 : Int32)) H := RP.cong hP (Eq.trans (b := (σ.1 0)) rfl rfl) (Eq.trans (b := (σ.1 1)) rfl rfl) (Eq.trans (b := (σ.2.1 2)) rfl rfl) (Eq.trans (b := (σ.1 3)) rfl rfl) (Eq.trans (b := (σ.2.1 4)) rfl rfl) (Eq.trans (b := (σ.2.1 5)) rfl rfl) (Eq.trans (b := (σ.2.2.1 6)) rfl rfl) (Eq.trans (b := (σ.2.1 7)) rfl rfl) (Eq.trans (b := (σ.1 8)) rfl rfl) (Eq.trans (b := (σ.1 9)) rfl rfl) (Eq.trans (b := (σ.1 10)) rfl rfl) (Eq.trans (b := (σ.2.1 11)) rfl rfl) (Eq.trans (b := (σ.2.2.1 12)) rfl rfl) (Eq.trans (b := (σ.2.1 13)) rfl rfl) (Eq.trans (b := (σ.1 14)) rfl rfl) (Eq.trans (b := (σ.1 15)) rfl rfl) (Eq.trans (b := (σ.1 16)) rfl rfl) (Eq.trans (b := (σ.1 17)) rfl rfl) (Eq.trans (b := (σ.1 18)) rfl rfl) (Eq.trans (b := (σ.1 19)) rfl rfl) (Eq.trans (b := (σ.2.1 20)) rfl rfl) (Eq.trans (b := (σ.2.1 21)) rfl rfl) (Eq.trans (b := (σ.2.1 22)) rfl rfl) (Eq.trans (b := (σ.2.1 23)) rfl rfl) (Eq.trans (b := (σ.2.1 24)) rfl rfl) (Eq.trans (b := (σ.2.1 25)) rfl rfl) (Eq.trans (b := (σ.2.1 26)) rfl rfl) (Eq.trans (b := (σ.2.1 27)) rfl rfl) (Eq.trans (b := (σ.2.1 28)) rfl rfl) (Eq.trans (b := (σ.1 29)) rfl rfl) (Eq.trans (b := (σ.2.1 30)) rfl rfl) (Eq.trans (b := (σ.2.1 31)) rfl rfl) (Eq.trans (b := (σ.2.1 32)) rfl rfl) (Eq.trans (b := (σ.1 33)) rfl rfl) (Eq.trans (b := (σ.1 34)) rfl rfl) (Eq.trans (b := (σ.1 35)) rfl rfl) (Eq.trans (b := (σ.2.1 36)) rfl rfl) (Eq.trans (b := (σ.2.1 37)) rfl rfl) (Eq.trans (b := (σ.2.1 38)) rfl rfl) (Eq.trans (b := (σ.2.1 39)) rfl rfl) (Eq.trans (b := (σ.2.1 40)) rfl rfl) (Eq.trans (b := (σ.2.1 41)) rfl rfl) (Eq.trans (b := (σ.2.1 42)) rfl rfl) (Eq.trans (b := (σ.2.1 43)) rfl rfl) (Eq.trans (b := (σ.2.1 44)) rfl rfl) (Eq.trans (b := (σ.2.1 45)) rfl rfl) (Eq.trans (b := (σ.2.1 46)) rfl rfl) (Eq.trans (b := (σ.1 47)) rfl rfl) (Eq.trans (b := (σ.2.1 48)) rfl rfl) (Eq.trans (b := (σ.1 49)) rfl rfl) (Eq.trans (b := (σ.2.1 50)) rfl rfl) (Eq.trans (b := (upd (σ.2.1 51) k0.toNatClampNeg (3 : Int32))) rfl rfl) (Eq.trans (b := (vp_updL (σ.2.2.1 52) k0.toNatClampNeg (0 : Int64))) rfl rfl) (Eq.trans (b := (vp_updL (σ.2.2.1 53) k0.toNatClampNeg (0 : Int64))) rfl rfl) (Eq.trans (b := (vf_upd (σ.2.2.2) k0.toNatClampNeg x36)) rfl rfl) (Eq.trans (b := (σ.1 55)) rfl rfl) (Eq.trans (b := (3 : Int32)) rfl rfl) (Eq.trans (b := (σ.1 57)) rfl rfl) (Eq.trans (b := (σ.2.1 58)) rfl rfl) (Eq.trans (b := (σ.1 59)) rfl rfl)
                exact r_retv C ⟨(upd (σ.2.1 51) k0.toNatClampNeg (3 : Int32)), (vp_updL (σ.2.2.1 52) k0.toNatClampNeg (0 : Int64)), (vp_updL (σ.2.2.1 53) k0.toNatClampNeg (0 : Int64)), (vf_upd (σ.2.2.2) k0.toNatClampNeg x36), (3 : Int32)⟩ ⟨(v_reals_31 σ k0 k1 r1 r2 x31 x36 x37 x40 hpre_0 hpre_1 hpre_2 hpre_3 hpre_4 hpre_5 hr1 hr2 ex31 c32 ex36 ex37 c38 ex40 c41), (v_reals_32 σ k0 k1 k2 r1 r2 x31 x36 x37 x40 hpre_0 hpre_1 hpre_2 hpre_3 hpre_4 hpre_5 hpre_6 hpre_7 hpre_8 hr1y hr1 hr2y hr2 c3 ex31 c32 c33 c34 c35 ex36 ex37 c38 ex40 c41)⟩ hP hS dX12_reals_121
          · have c35 : k2.toInt = 18 := by have h := z_eq c35; rw [show (18 : Int32).toInt = 18 from by decide +kernel] at h; exact h
            exact absurd (v_reals_33 k2 hpre_7 hpre_8 c3 c33 c34 c35) id
        · have c34 : k2.toInt = 17 := by have h := z_eq c34; rw [show (17 : Int32).toInt = 17 from by decide +kernel] at h; exact h
          exact absurd (v_reals_34 k2 hpre_7 hpre_8 c3 c33 c34) id
      · have c33 : k2.toInt = 16 := by have h := z_eq c33; rw [show (16 : Int32).toInt = 16 from by decide +kernel] at h; exact h
        exact absurd (v_reals_35 k2 hpre_7 hpre_8 c3 c33) id
    · have c32 : x31.toInt = 0 := by have h := z_eq c32; rw [show (0 : Int32).toInt = 0 from by decide +kernel] at h; exact h
      refine lv_aload_n hx hb dX12_reals_27 rfl (lv_at hl 2 rfl) ?_
      refine lv_iconst (v := 2) hx hb dX12_reals_28 (by decide +kernel) ?_
      refine rp_56 C hP hS wm_242 dX12_reals_29 (fun H locs hP hS => ?_)
      have hP : RP D cy ad (rS (rR (rJ (rJ (rA σ 51 (σ.2.1 51)) 52 (σ.2.2.1 52)) 53 (σ.2.2.1 53)) (σ.2.2.2)) 56 (2 : Int32)) H := RP.cong hP (Eq.trans (b := (σ.1 0)) rfl rfl) (Eq.trans (b := (σ.1 1)) rfl rfl) (Eq.trans (b := (σ.2.1 2)) rfl rfl) (Eq.trans (b := (σ.1 3)) rfl rfl) (Eq.trans (b := (σ.2.1 4)) rfl rfl) (Eq.trans (b := (σ.2.1 5)) rfl rfl) (Eq.trans (b := (σ.2.2.1 6)) rfl rfl) (Eq.trans (b := (σ.2.1 7)) rfl rfl) (Eq.trans (b := (σ.1 8)) rfl rfl) (Eq.trans (b := (σ.1 9)) rfl rfl) (Eq.trans (b := (σ.1 10)) rfl rfl) (Eq.trans (b := (σ.2.1 11)) rfl rfl) (Eq.trans (b := (σ.2.2.1 12)) rfl rfl) (Eq.trans (b := (σ.2.1 13)) rfl rfl) (Eq.trans (b := (σ.1 14)) rfl rfl) (Eq.trans (b := (σ.1 15)) rfl rfl) (Eq.trans (b := (σ.1 16)) rfl rfl) (Eq.trans (b := (σ.1 17)) rfl rfl) (Eq.trans (b := (σ.1 18)) rfl rfl) (Eq.trans (b := (σ.1 19)) rfl rfl) (Eq.trans (b := (σ.2.1 20)) rfl rfl) (Eq.trans (b := (σ.2.1 21)) rfl rfl) (Eq.trans (b := (σ.2.1 22)) rfl rfl) (Eq.trans (b := (σ.2.1 23)) rfl rfl) (Eq.trans (b := (σ.2.1 24)) rfl rfl) (Eq.trans (b := (σ.2.1 25)) rfl rfl) (Eq.trans (b := (σ.2.1 26)) rfl rfl) (Eq.trans (b := (σ.2.1 27)) rfl rfl) (Eq.trans (b := (σ.2.1 28)) rfl rfl) (Eq.trans (b := (σ.1 29)) rfl rfl) (Eq.trans (b := (σ.2.1 30)) rfl rfl) (Eq.trans (b := (σ.2.1 31)) rfl rfl) (Eq.trans (b := (σ.2.1 32)) rfl rfl) (Eq.trans (b := (σ.1 33)) rfl rfl) (Eq.trans (b := (σ.1 34)) rfl rfl) (Eq.trans (b := (σ.1 35)) rfl rfl) (Eq.trans (b := (σ.2.1 36)) rfl rfl) (Eq.trans (b := (σ.2.1 37)) rfl rfl) (Eq.trans (b := (σ.2.1 38)) rfl rfl) (Eq.trans (b := (σ.2.1 39)) rfl rfl) (Eq.trans (b := (σ.2.1 40)) rfl rfl) (Eq.trans (b := (σ.2.1 41)) rfl rfl) (Eq.trans (b := (σ.2.1 42)) rfl rfl) (Eq.trans (b := (σ.2.1 43)) rfl rfl) (Eq.trans (b := (σ.2.1 44)) rfl rfl) (Eq.trans (b := (σ.2.1 45)) rfl rfl) (Eq.trans (b := (σ.2.1 46)) rfl rfl) (Eq.trans (b := (σ.1 47)) rfl rfl) (Eq.trans (b := (σ.2.1 48)) rfl rfl) (Eq.trans (b := (σ.1 49)) rfl rfl) (Eq.trans (b := (σ.2.1 50)) rfl rfl) (Eq.trans (b := (σ.2.1 51)) rfl rfl) (Eq.trans (b := (σ.2.2.1 52)) rfl rfl) (Eq.trans (b := (σ.2.2.1 53)) rfl rfl) (Eq.trans (b := (σ.2.2.2)) rfl rfl) (Eq.trans (b := (σ.1 55)) rfl rfl) (Eq.trans (b := (2 : Int32)) rfl rfl) (Eq.trans (b := (σ.1 57)) rfl rfl) (Eq.trans (b := (σ.2.1 58)) rfl rfl) (Eq.trans (b := (σ.1 59)) rfl rfl)
      exact r_retv C ⟨(σ.2.1 51), (σ.2.2.1 52), (σ.2.2.1 53), (σ.2.2.2), (2 : Int32)⟩ ⟨(v_reals_36 σ k0 k1 hpre_0 hpre_1 hpre_2 hpre_3 hpre_4 hpre_5), (v_reals_37 σ k0 k1 k2 r1 r2 x31 hpre_0 hpre_1 hpre_2 hpre_3 hpre_4 hpre_5 hpre_6 hpre_7 hpre_8 hr1y hr1 hr2y hr2 c3 ex31 c32)⟩ hP hS dX12_reals_32
