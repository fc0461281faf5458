-- in@5 @5
theorem v_ints_1 (k0 : Int32) (hpre_0 : 0 ≤ k0.toInt) (hpre_1 : k0.toInt < 980) : vp_in k0 980 := by
  exact vp_in_iff.mpr ⟨by omega, by omega⟩
-- in@14 @14
theorem v_ints_2 (k1 : Int32) (hpre_2 : 0 ≤ k1.toInt) (hpre_3 : k1.toInt < 980) : vp_in k1 980 := by
  exact vp_in_iff.mpr ⟨by omega, by omega⟩
-- dead@66 @77
theorem v_ints_3 (k2 : Int32) (hpre_5 : 16 ≤ k2.toInt) (hpre_6 : k2.toInt ≤ 20) (c5 : k2.toInt < 19) (c6 : ¬ k2.toInt = 16) (c7 : ¬ k2.toInt = 17) (c8 : ¬ k2.toInt = 18) : False := by
  first | assumption | omega | (subst_vars; omega) | trivial
-- pre:set@105 @105
theorem v_ints_4 (σ : RS) (k0 : Int32) (k1 : Int32) (x1 : Int64) (x2 : Int32) (x3 : Int64) (x4 : Int32) (x9 : Int32) (x10 : Int64) (hpre_0 : 0 ≤ k0.toInt) (hpre_1 : k0.toInt < 980) (hpre_2 : 0 ≤ k1.toInt) (hpre_3 : k1.toInt < 980) (ex1 : x1 = (σ.2.2.1 52) k0.toNatClampNeg) (tx1 : x1.toInt = ((σ.2.2.1 52) k0.toNatClampNeg).toInt) (ex2 : x2 = Int64.toInt32 x1) (tx2 : -2147483648 ≤ x1.toInt → x1.toInt < 2147483648 → x2.toInt = x1.toInt) (ex3 : x3 = (σ.2.2.1 52) k1.toNatClampNeg) (tx3 : x3.toInt = ((σ.2.2.1 52) k1.toNatClampNeg).toInt) (ex4 : x4 = Int64.toInt32 x3) (ex9 : x9 = x2 * x4) (ex10 : x10 = Int32.toInt64 x9) (tx10 : x10.toInt = x9.toInt) : 0 ≤ k0.toInt ∧ k0.toInt < 980 := by
  refine ⟨?_, ?_⟩ <;> first | assumption | omega | (subst_vars; omega) | trivial
-- post @108
theorem v_ints_5 (σ : RS) (k0 : Int32) (k1 : Int32) (x1 : Int64) (x2 : Int32) (x3 : Int64) (x4 : Int32) (x9 : Int32) (x10 : Int64) (hpre_0 : 0 ≤ k0.toInt) (hpre_1 : k0.toInt < 980) (hpre_2 : 0 ≤ k1.toInt) (hpre_3 : k1.toInt < 980) (hpre_4 : (σ.1 56).toInt = 0) (ex1 : x1 = (σ.2.2.1 52) k0.toNatClampNeg) (tx1 : x1.toInt = ((σ.2.2.1 52) k0.toNatClampNeg).toInt) (ex2 : x2 = Int64.toInt32 x1) (tx2 : -2147483648 ≤ x1.toInt → x1.toInt < 2147483648 → x2.toInt = x1.toInt) (ex3 : x3 = (σ.2.2.1 52) k1.toNatClampNeg) (tx3 : x3.toInt = ((σ.2.2.1 52) k1.toNatClampNeg).toInt) (ex4 : x4 = Int64.toInt32 x3) (tx4 : -2147483648 ≤ x3.toInt → x3.toInt < 2147483648 → x4.toInt = x3.toInt) (ex9 : x9 = x2 * x4) (ex10 : x10 = Int32.toInt64 x9) (tx10 : x10.toInt = x9.toInt) : 0 ≤ (σ.1 56).toInt ∧ (σ.1 56).toInt ≤ 11 ∧ (((σ.1 56).toInt = 2 ∧ (upd (σ.2.1 51) k0.toNatClampNeg (2 : Int32)) = (σ.2.1 51) ∧ (vp_updL (σ.2.2.1 52) k0.toNatClampNeg x10) = (σ.2.2.1 52) ∧ (vp_updL (σ.2.2.1 53) k0.toNatClampNeg (0 : Int64)) = (σ.2.2.1 53) ∧ (vf_upd (σ.2.2.2) k0.toNatClampNeg FP.dconst0) = (σ.2.2.2)) ∨ (Cell1 (σ.2.1 51) (upd (σ.2.1 51) k0.toNatClampNeg (2 : Int32)) (σ.2.2.1 52) (vp_updL (σ.2.2.1 52) k0.toNatClampNeg x10) (σ.2.2.2) (vf_upd (σ.2.2.2) k0.toNatClampNeg FP.dconst0) k0.toNatClampNeg (fun k v r => k = 2))) := by
  have q2 : (2 : Int32).toInt = 2 := by decide +kernel
  have ql0 : (0 : Int64).toInt = 0 := by decide +kernel
  refine ⟨by omega, by omega, ?_⟩
  first
  | exact Or.inl ⟨by omega, rfl, rfl, rfl, rfl⟩
  | exact Or.inr ⟨_, _, _, rfl, rfl, rfl, q2⟩
-- post2 @108
theorem v_ints_6 (σ : RS) (k0 : Int32) (k1 : Int32) (k2 : Int32) (x1 : Int64) (x2 : Int32) (x3 : Int64) (x4 : Int32) (x9 : Int32) (x10 : Int64) (hpre_0 : 0 ≤ k0.toInt) (hpre_1 : k0.toInt < 980) (hpre_2 : 0 ≤ k1.toInt) (hpre_3 : k1.toInt < 980) (hpre_4 : (σ.1 56).toInt = 0) (hpre_5 : 16 ≤ k2.toInt) (hpre_6 : k2.toInt ≤ 20) (ex1 : x1 = (σ.2.2.1 52) k0.toNatClampNeg) (tx1 : x1.toInt = ((σ.2.2.1 52) k0.toNatClampNeg).toInt) (ex2 : x2 = Int64.toInt32 x1) (tx2 : -2147483648 ≤ x1.toInt → x1.toInt < 2147483648 → x2.toInt = x1.toInt) (ex3 : x3 = (σ.2.2.1 52) k1.toNatClampNeg) (tx3 : x3.toInt = ((σ.2.2.1 52) k1.toNatClampNeg).toInt) (ex4 : x4 = Int64.toInt32 x3) (tx4 : -2147483648 ≤ x3.toInt → x3.toInt < 2147483648 → x4.toInt = x3.toInt) (c5 : k2.toInt < 19) (c6 : ¬ k2.toInt = 16) (c7 : ¬ k2.toInt = 17) (c8 : k2.toInt = 18) (ex9 : x9 = x2 * x4) (ex10 : x10 = Int32.toInt64 x9) (tx10 : x10.toInt = x9.toInt) : ∀ n9 m9 : Int32, QAT (qH (σ.2.1 36) (σ.2.1 37) (σ.2.1 38) (σ.2.1 39) (σ.2.1 40) (σ.2.1 41) (σ.2.1 42) (σ.2.1 43) (σ.2.1 44) (σ.2.1 45) (σ.2.1 46) (σ.2.1 48)) (σ.1 47).toInt ((σ.2.1 51), (σ.2.2.1 52), (σ.2.2.1 53), (σ.2.2.2)) k0.toNatClampNeg (qInt n9) → QAT (qH (σ.2.1 36) (σ.2.1 37) (σ.2.1 38) (σ.2.1 39) (σ.2.1 40) (σ.2.1 41) (σ.2.1 42) (σ.2.1 43) (σ.2.1 44) (σ.2.1 45) (σ.2.1 46) (σ.2.1 48)) (σ.1 47).toInt ((σ.2.1 51), (σ.2.2.1 52), (σ.2.2.1 53), (σ.2.2.2)) k1.toNatClampNeg (qInt m9) → (σ.1 56).toInt = 0 → (16 ≤ k2.toInt ∧ k2.toInt ≤ 20) → QRES (qH (σ.2.1 36) (σ.2.1 37) (σ.2.1 38) (σ.2.1 39) (σ.2.1 40) (σ.2.1 41) (σ.2.1 42) (σ.2.1 43) (σ.2.1 44) (σ.2.1 45) (σ.2.1 46) (σ.2.1 48)) (σ.1 47).toInt ((σ.2.1 51), (σ.2.2.1 52), (σ.2.2.1 53), (σ.2.2.2)) ((upd (σ.2.1 51) k0.toNatClampNeg (2 : Int32)), (vp_updL (σ.2.2.1 52) k0.toNatClampNeg x10), (vp_updL (σ.2.2.1 53) k0.toNatClampNeg (0 : Int64)), (vf_upd (σ.2.2.2) k0.toNatClampNeg FP.dconst0)) k0.toNatClampNeg (σ.1 56).toInt (qInts n9 m9 k2.toInt) := by
  have q2 : (2 : Int32).toInt = 2 := by decide +kernel
  have ql0 : (0 : Int64).toInt = 0 := by decide +kernel
  intro n9 m9 h9 g9 h0 hs
  have a := q_l2i (x := x1) (n := n9) (by rw [ex1]; exact (h9.2.2.2.2 (show ¬ (2 : Int) = 3 by decide) (show ¬ (2 : Int) = 4 by decide)).1) ex2
  have b := q_l2i (x := x3) (n := m9) (by rw [ex3]; exact (g9.2.2.2.2 (show ¬ (2 : Int) = 3 by decide) (show ¬ (2 : Int) = 4 by decide)).1) ex4
  have z0 : (0 : Int32).toInt = 0 := by decide +kernel
  rw [qInts_n (by rintro ⟨h1, h2⟩; rw [← b] at h2; have h2 := congrArg Int32.toInt h2; omega)]
  refine ⟨h0, ?_⟩
  rw [if_neg (by omega), if_neg (by omega), if_pos (by omega)]
  rw [← a, ← b, ← ex9]
  exact QW.int q2 (by omega) (by decide +kernel)
-- pre:set@105 @105
theorem v_ints_7 (σ : RS) (k0 : Int32) (k1 : Int32) (x1 : Int64) (x2 : Int32) (x3 : Int64) (x4 : Int32) (x12 : Int32) (x13 : Int64) (hpre_0 : 0 ≤ k0.toInt) (hpre_1 : k0.toInt < 980) (hpre_2 : 0 ≤ k1.toInt) (hpre_3 : k1.toInt < 980) (ex1 : x1 = (σ.2.2.1 52) k0.toNatClampNeg) (tx1 : x1.toInt = ((σ.2.2.1 52) k0.toNatClampNeg).toInt) (ex2 : x2 = Int64.toInt32 x1) (tx2 : -2147483648 ≤ x1.toInt → x1.toInt < 2147483648 → x2.toInt = x1.toInt) (ex3 : x3 = (σ.2.2.1 52) k1.toNatClampNeg) (tx3 : x3.toInt = ((σ.2.2.1 52) k1.toNatClampNeg).toInt) (ex4 : x4 = Int64.toInt32 x3) (ex12 : x12 = x2 - x4) (ex13 : x13 = Int32.toInt64 x12) (tx13 : x13.toInt = x12.toInt) : 0 ≤ k0.toInt ∧ k0.toInt < 980 := by
  refine ⟨?_, ?_⟩ <;> first | assumption | omega | (subst_vars; omega) | trivial
-- post @108
theorem v_ints_8 (σ : RS) (k0 : Int32) (k1 : Int32) (x1 : Int64) (x2 : Int32) (x3 : Int64) (x4 : Int32) (x12 : Int32) (x13 : Int64) (hpre_0 : 0 ≤ k0.toInt) (hpre_1 : k0.toInt < 980) (hpre_2 : 0 ≤ k1.toInt) (hpre_3 : k1.toInt < 980) (hpre_4 : (σ.1 56).toInt = 0) (ex1 : x1 = (σ.2.2.1 52) k0.toNatClampNeg) (tx1 : x1.toInt = ((σ.2.2.1 52) k0.toNatClampNeg).toInt) (ex2 : x2 = Int64.toInt32 x1) (tx2 : -2147483648 ≤ x1.toInt → x1.toInt < 2147483648 → x2.toInt = x1.toInt) (ex3 : x3 = (σ.2.2.1 52) k1.toNatClampNeg) (tx3 : x3.toInt = ((σ.2.2.1 52) k1.toNatClampNeg).toInt) (ex4 : x4 = Int64.toInt32 x3) (tx4 : -2147483648 ≤ x3.toInt → x3.toInt < 2147483648 → x4.toInt = x3.toInt) (ex12 : x12 = x2 - x4) (ex13 : x13 = Int32.toInt64 x12) (tx13 : x13.toInt = x12.toInt) : 0 ≤ (σ.1 56).toInt ∧ (σ.1 56).toInt ≤ 11 ∧ (((σ.1 56).toInt = 2 ∧ (upd (σ.2.1 51) k0.toNatClampNeg (2 : Int32)) = (σ.2.1 51) ∧ (vp_updL (σ.2.2.1 52) k0.toNatClampNeg x13) = (σ.2.2.1 52) ∧ (vp_updL (σ.2.2.1 53) k0.toNatClampNeg (0 : Int64)) = (σ.2.2.1 53) ∧ (vf_upd (σ.2.2.2) k0.toNatClampNeg FP.dconst0) = (σ.2.2.2)) ∨ (Cell1 (σ.2.1 51) (upd (σ.2.1 51) k0.toNatClampNeg (2 : Int32)) (σ.2.2.1 52) (vp_updL (σ.2.2.1 52) k0.toNatClampNeg x13) (σ.2.2.2) (vf_upd (σ.2.2.2) k0.toNatClampNeg FP.dconst0) k0.toNatClampNeg (fun k v r => k = 2))) := by
  have q2 : (2 : Int32).toInt = 2 := by decide +kernel
  have ql0 : (0 : Int64).toInt = 0 := by decide +kernel
  refine ⟨by omega, by omega, ?_⟩
  first
  | exact Or.inl ⟨by omega, rfl, rfl, rfl, rfl⟩
  | exact Or.inr ⟨_, _, _, rfl, rfl, rfl, q2⟩
-- post2 @108
theorem v_ints_9 (σ : RS) (k0 : Int32) (k1 : Int32) (k2 : Int32) (x1 : Int64) (x2 : Int32) (x3 : Int64) (x4 : Int32) (x12 : Int32) (x13 : Int64) (hpre_0 : 0 ≤ k0.toInt) (hpre_1 : k0.toInt < 980) (hpre_2 : 0 ≤ k1.toInt) (hpre_3 : k1.toInt < 980) (hpre_4 : (σ.1 56).toInt = 0) (hpre_5 : 16 ≤ k2.toInt) (hpre_6 : k2.toInt ≤ 20) (ex1 : x1 = (σ.2.2.1 52) k0.toNatClampNeg) (tx1 : x1.toInt = ((σ.2.2.1 52) k0.toNatClampNeg).toInt) (ex2 : x2 = Int64.toInt32 x1) (tx2 : -2147483648 ≤ x1.toInt → x1.toInt < 2147483648 → x2.toInt = x1.toInt) (ex3 : x3 = (σ.2.2.1 52) k1.toNatClampNeg) (tx3 : x3.toInt = ((σ.2.2.1 52) k1.toNatClampNeg).toInt) (ex4 : x4 = Int64.toInt32 x3) (tx4 : -2147483648 ≤ x3.toInt → x3.toInt < 2147483648 → x4.toInt = x3.toInt) (c5 : k2.toInt < 19) (c6 : ¬ k2.toInt = 16) (c7 : k2.toInt = 17) (ex12 : x12 = x2 - x4) (ex13 : x13 = Int32.toInt64 x12) (tx13 : x13.toInt = x12.toInt) : ∀ n9 m9 : Int32, QAT (qH (σ.2.1 36) (σ.2.1 37) (σ.2.1 38) (σ.2.1 39) (σ.2.1 40) (σ.2.1 41) (σ.2.1 42) (σ.2.1 43) (σ.2.1 44) (σ.2.1 45) (σ.2.1 46) (σ.2.1 48)) (σ.1 47).toInt ((σ.2.1 51), (σ.2.2.1 52), (σ.2.2.1 53), (σ.2.2.2)) k0.toNatClampNeg (qInt n9) → QAT (qH (σ.2.1 36) (σ.2.1 37) (σ.2.1 38) (σ.2.1 39) (σ.2.1 40) (σ.2.1 41) (σ.2.1 42) (σ.2.1 43) (σ.2.1 44) (σ.2.1 45) (σ.2.1 46) (σ.2.1 48)) (σ.1 47).toInt ((σ.2.1 51), (σ.2.2.1 52), (σ.2.2.1 53), (σ.2.2.2)) k1.toNatClampNeg (qInt m9) → (σ.1 56).toInt = 0 → (16 ≤ k2.toInt ∧ k2.toInt ≤ 20) → QRES (qH (σ.2.1 36) (σ.2.1 37) (σ.2.1 38) (σ.2.1 39) (σ.2.1 40) (σ.2.1 41) (σ.2.1 42) (σ.2.1 43) (σ.2.1 44) (σ.2.1 45) (σ.2.1 46) (σ.2.1 48)) (σ.1 47).toInt ((σ.2.1 51), (σ.2.2.1 52), (σ.2.2.1 53), (σ.2.2.2)) ((upd (σ.2.1 51) k0.toNatClampNeg (2 : Int32)), (vp_updL (σ.2.2.1 52) k0.toNatClampNeg x13), (vp_updL (σ.2.2.1 53) k0.toNatClampNeg (0 : Int64)), (vf_upd (σ.2.2.2) k0.toNatClampNeg FP.dconst0)) k0.toNatClampNeg (σ.1 56).toInt (qInts n9 m9 k2.toInt) := by
  have q2 : (2 : Int32).toInt = 2 := by decide +kernel
  have ql0 : (0 : Int64).toInt = 0 := by decide +kernel
  intro n9 m9 h9 g9 h0 hs
  have a := q_l2i (x := x1) (n := n9) (by rw [ex1]; exact (h9.2.2.2.2 (show ¬ (2 : Int) = 3 by decide) (show ¬ (2 : Int) = 4 by decide)).1) ex2
  have b := q_l2i (x := x3) (n := m9) (by rw [ex3]; exact (g9.2.2.2.2 (show ¬ (2 : Int) = 3 by decide) (show ¬ (2 : Int) = 4 by decide)).1) ex4
  have z0 : (0 : Int32).toInt = 0 := by decide +kernel
  rw [qInts_n (by rintro ⟨h1, h2⟩; rw [← b] at h2; have h2 := congrArg Int32.toInt h2; omega)]
  refine ⟨h0, ?_⟩
  rw [if_neg (by omega), if_pos (by omega)]
  rw [← a, ← b, ← ex12]
  exact QW.int q2 (by omega) (by decide +kernel)
-- pre:set@105 @105
theorem v_ints_10 (σ : RS) (k0 : Int32) (k1 : Int32) (x1 : Int64) (x2 : Int32) (x3 : Int64) (x4 : Int32) (x15 : Int32) (x16 : Int64) (hpre_0 : 0 ≤ k0.toInt) (hpre_1 : k0.toInt < 980) (hpre_2 : 0 ≤ k1.toInt) (hpre_3 : k1.toInt < 980) (ex1 : x1 = (σ.2.2.1 52) k0.toNatClampNeg) (tx1 : x1.toInt = ((σ.2.2.1 52) k0.toNatClampNeg).toInt) (ex2 : x2 = Int64.toInt32 x1) (tx2 : -2147483648 ≤ x1.toInt → x1.toInt < 2147483648 → x2.toInt = x1.toInt) (ex3 : x3 = (σ.2.2.1 52) k1.toNatClampNeg) (tx3 : x3.toInt = ((σ.2.2.1 52) k1.toNatClampNeg).toInt) (ex4 : x4 = Int64.toInt32 x3) (ex15 : x15 = x2 + x4) (ex16 : x16 = Int32.toInt64 x15) (tx16 : x16.toInt = x15.toInt) : 0 ≤ k0.toInt ∧ k0.toInt < 980 := by
  refine ⟨?_, ?_⟩ <;> first | assumption | omega | (subst_vars; omega) | trivial
-- post @108
theorem v_ints_11 (σ : RS) (k0 : Int32) (k1 : Int32) (x1 : Int64) (x2 : Int32) (x3 : Int64) (x4 : Int32) (x15 : Int32) (x16 : Int64) (hpre_0 : 0 ≤ k0.toInt) (hpre_1 : k0.toInt < 980) (hpre_2 : 0 ≤ k1.toInt) (hpre_3 : k1.toInt < 980) (hpre_4 : (σ.1 56).toInt = 0) (ex1 : x1 = (σ.2.2.1 52) k0.toNatClampNeg) (tx1 : x1.toInt = ((σ.2.2.1 52) k0.toNatClampNeg).toInt) (ex2 : x2 = Int64.toInt32 x1) (tx2 : -2147483648 ≤ x1.toInt → x1.toInt < 2147483648 → x2.toInt = x1.toInt) (ex3 : x3 = (σ.2.2.1 52) k1.toNatClampNeg) (tx3 : x3.toInt = ((σ.2.2.1 52) k1.toNatClampNeg).toInt) (ex4 : x4 = Int64.toInt32 x3) (tx4 : -2147483648 ≤ x3.toInt → x3.toInt < 2147483648 → x4.toInt = x3.toInt) (ex15 : x15 = x2 + x4) (ex16 : x16 = Int32.toInt64 x15) (tx16 : x16.toInt = x15.toInt) : 0 ≤ (σ.1 56).toInt ∧ (σ.1 56).toInt ≤ 11 ∧ (((σ.1 56).toInt = 2 ∧ (upd (σ.2.1 51) k0.toNatClampNeg (2 : Int32)) = (σ.2.1 51) ∧ (vp_updL (σ.2.2.1 52) k0.toNatClampNeg x16) = (σ.2.2.1 52) ∧ (vp_updL (σ.2.2.1 53) k0.toNatClampNeg (0 : Int64)) = (σ.2.2.1 53) ∧ (vf_upd (σ.2.2.2) k0.toNatClampNeg FP.dconst0) = (σ.2.2.2)) ∨ (Cell1 (σ.2.1 51) (upd (σ.2.1 51) k0.toNatClampNeg (2 : Int32)) (σ.2.2.1 52) (vp_updL (σ.2.2.1 52) k0.toNatClampNeg x16) (σ.2.2.2) (vf_upd (σ.2.2.2) k0.toNatClampNeg FP.dconst0) k0.toNatClampNeg (fun k v r => k = 2))) := by
  have q2 : (2 : Int32).toInt = 2 := by decide +kernel
  have ql0 : (0 : Int64).toInt = 0 := by decide +kernel
  refine ⟨by omega, by omega, ?_⟩
  first
  | exact Or.inl ⟨by omega, rfl, rfl, rfl, rfl⟩
  | exact Or.inr ⟨_, _, _, rfl, rfl, rfl, q2⟩
-- post2 @108
theorem v_ints_12 (σ : RS) (k0 : Int32) (k1 : Int32) (k2 : Int32) (x1 : Int64) (x2 : Int32) (x3 : Int64) (x4 : Int32) (x15 : Int32) (x16 : Int64) (hpre_0 : 0 ≤ k0.toInt) (hpre_1 : k0.toInt < 980) (hpre_2 : 0 ≤ k1.toInt) (hpre_3 : k1.toInt < 980) (hpre_4 : (σ.1 56).toInt = 0) (hpre_5 : 16 ≤ k2.toInt) (hpre_6 : k2.toInt ≤ 20) (ex1 : x1 = (σ.2.2.1 52) k0.toNatClampNeg) (tx1 : x1.toInt = ((σ.2.2.1 52) k0.toNatClampNeg).toInt) (ex2 : x2 = Int64.toInt32 x1) (tx2 : -2147483648 ≤ x1.toInt → x1.toInt < 2147483648 → x2.toInt = x1.toInt) (ex3 : x3 = (σ.2.2.1 52) k1.toNatClampNeg) (tx3 : x3.toInt = ((σ.2.2.1 52) k1.toNatClampNeg).toInt) (ex4 : x4 = Int64.toInt32 x3) (tx4 : -2147483648 ≤ x3.toInt → x3.toInt < 2147483648 → x4.toInt = x3.toInt) (c5 : k2.toInt < 19) (c6 : k2.toInt = 16) (ex15 : x15 = x2 + x4) (ex16 : x16 = Int32.toInt64 x15) (tx16 : x16.toInt = x15.toInt) : ∀ n9 m9 : Int32, QAT (qH (σ.2.1 36) (σ.2.1 37) (σ.2.1 38) (σ.2.1 39) (σ.2.1 40) (σ.2.1 41) (σ.2.1 42) (σ.2.1 43) (σ.2.1 44) (σ.2.1 45) (σ.2.1 46) (σ.2.1 48)) (σ.1 47).toInt ((σ.2.1 51), (σ.2.2.1 52), (σ.2.2.1 53), (σ.2.2.2)) k0.toNatClampNeg (qInt n9) → QAT (qH (σ.2.1 36) (σ.2.1 37) (σ.2.1 38) (σ.2.1 39) (σ.2.1 40) (σ.2.1 41) (σ.2.1 42) (σ.2.1 43) (σ.2.1 44) (σ.2.1 45) (σ.2.1 46) (σ.2.1 48)) (σ.1 47).toInt ((σ.2.1 51), (σ.2.2.1 52), (σ.2.2.1 53), (σ.2.2.2)) k1.toNatClampNeg (qInt m9) → (σ.1 56).toInt = 0 → (16 ≤ k2.toInt ∧ k2.toInt ≤ 20) → QRES (qH (σ.2.1 36) (σ.2.1 37) (σ.2.1 38) (σ.2.1 39) (σ.2.1 40) (σ.2.1 41) (σ.2.1 42) (σ.2.1 43) (σ.2.1 44) (σ.2.1 45) (σ.2.1 46) (σ.2.1 48)) (σ.1 47).toInt ((σ.2.1 51), (σ.2.2.1 52), (σ.2.2.1 53), (σ.2.2.2)) ((upd (σ.2.1 51) k0.toNatClampNeg (2 : Int32)), (vp_updL (σ.2.2.1 52) k0.toNatClampNeg x16), (vp_updL (σ.2.2.1 53) k0.toNatClampNeg (0 : Int64)), (vf_upd (σ.2.2.2) k0.toNatClampNeg FP.dconst0)) k0.toNatClampNeg (σ.1 56).toInt (qInts n9 m9 k2.toInt) := by
  have q2 : (2 : Int32).toInt = 2 := by decide +kernel
  have ql0 : (0 : Int64).toInt = 0 := by decide +kernel
  intro n9 m9 h9 g9 h0 hs
  have a := q_l2i (x := x1) (n := n9) (by rw [ex1]; exact (h9.2.2.2.2 (show ¬ (2 : Int) = 3 by decide) (show ¬ (2 : Int) = 4 by decide)).1) ex2
  have b := q_l2i (x := x3) (n := m9) (by rw [ex3]; exact (g9.2.2.2.2 (show ¬ (2 : Int) = 3 by decide) (show ¬ (2 : Int) = 4 by decide)).1) ex4
  have z0 : (0 : Int32).toInt = 0 := by decide +kernel
  rw [qInts_n (by rintro ⟨h1, h2⟩; rw [← b] at h2; have h2 := congrArg Int32.toInt h2; omega)]
  refine ⟨h0, ?_⟩
  rw [if_pos (by omega)]
  rw [← a, ← b, ← ex15]
  exact QW.int q2 (by omega) (by decide +kernel)
-- div@95 @95
theorem v_ints_13 (σ : RS) (k0 : Int32) (k1 : Int32) (x1 : Int64) (x2 : Int32) (x3 : Int64) (x4 : Int32) (hpre_0 : 0 ≤ k0.toInt) (hpre_1 : k0.toInt < 980) (hpre_2 : 0 ≤ k1.toInt) (hpre_3 : k1.toInt < 980) (ex1 : x1 = (σ.2.2.1 52) k0.toNatClampNeg) (tx1 : x1.toInt = ((σ.2.2.1 52) k0.toNatClampNeg).toInt) (ex2 : x2 = Int64.toInt32 x1) (ex3 : x3 = (σ.2.2.1 52) k1.toNatClampNeg) (tx3 : x3.toInt = ((σ.2.2.1 52) k1.toNatClampNeg).toInt) (ex4 : x4 = Int64.toInt32 x3) (tx4 : -2147483648 ≤ x3.toInt → x3.toInt < 2147483648 → x4.toInt = x3.toInt) (c18 : ¬ x4.toInt = 0) : ¬ x4 = 0 := by
  intro h
  first
  | (have h := congrArg Int32.toInt h; have z9 : (0 : Int32).toInt = 0 := (by decide +kernel); omega)
  | (subst h; first | omega | simp_all)
-- pre:set@105 @105
theorem v_ints_14 (σ : RS) (k0 : Int32) (k1 : Int32) (x1 : Int64) (x2 : Int32) (x3 : Int64) (x4 : Int32) (x23 : Int32) (x24 : Int64) (hpre_0 : 0 ≤ k0.toInt) (hpre_1 : k0.toInt < 980) (hpre_2 : 0 ≤ k1.toInt) (hpre_3 : k1.toInt < 980) (ex1 : x1 = (σ.2.2.1 52) k0.toNatClampNeg) (tx1 : x1.toInt = ((σ.2.2.1 52) k0.toNatClampNeg).toInt) (ex2 : x2 = Int64.toInt32 x1) (tx2 : -2147483648 ≤ x1.toInt → x1.toInt < 2147483648 → x2.toInt = x1.toInt) (ex3 : x3 = (σ.2.2.1 52) k1.toNatClampNeg) (tx3 : x3.toInt = ((σ.2.2.1 52) k1.toNatClampNeg).toInt) (ex4 : x4 = Int64.toInt32 x3) (c18 : ¬ x4.toInt = 0) (ex23 : x23 = x2 - x2 / x4 * x4) (ex24 : x24 = Int32.toInt64 x23) (tx24 : x24.toInt = x23.toInt) : 0 ≤ k0.toInt ∧ k0.toInt < 980 := by
  refine ⟨?_, ?_⟩ <;> first | assumption | omega | (subst_vars; omega) | trivial
-- post @108
theorem v_ints_15 (σ : RS) (k0 : Int32) (k1 : Int32) (x1 : Int64) (x2 : Int32) (x3 : Int64) (x4 : Int32) (x23 : Int32) (x24 : Int64) (hpre_0 : 0 ≤ k0.toInt) (hpre_1 : k0.toInt < 980) (hpre_2 : 0 ≤ k1.toInt) (hpre_3 : k1.toInt < 980) (hpre_4 : (σ.1 56).toInt = 0) (ex1 : x1 = (σ.2.2.1 52) k0.toNatClampNeg) (tx1 : x1.toInt = ((σ.2.2.1 52) k0.toNatClampNeg).toInt) (ex2 : x2 = Int64.toInt32 x1) (tx2 : -2147483648 ≤ x1.toInt → x1.toInt < 2147483648 → x2.toInt = x1.toInt) (ex3 : x3 = (σ.2.2.1 52) k1.toNatClampNeg) (tx3 : x3.toInt = ((σ.2.2.1 52) k1.toNatClampNeg).toInt) (ex4 : x4 = Int64.toInt32 x3) (tx4 : -2147483648 ≤ x3.toInt → x3.toInt < 2147483648 → x4.toInt = x3.toInt) (c18 : ¬ x4.toInt = 0) (ex23 : x23 = x2 - x2 / x4 * x4) (ex24 : x24 = Int32.toInt64 x23) (tx24 : x24.toInt = x23.toInt) : 0 ≤ (σ.1 56).toInt ∧ (σ.1 56).toInt ≤ 11 ∧ (((σ.1 56).toInt = 2 ∧ (upd (σ.2.1 51) k0.toNatClampNeg (2 : Int32)) = (σ.2.1 51) ∧ (vp_updL (σ.2.2.1 52) k0.toNatClampNeg x24) = (σ.2.2.1 52) ∧ (vp_updL (σ.2.2.1 53) k0.toNatClampNeg (0 : Int64)) = (σ.2.2.1 53) ∧ (vf_upd (σ.2.2.2) k0.toNatClampNeg FP.dconst0) = (σ.2.2.2)) ∨ (Cell1 (σ.2.1 51) (upd (σ.2.1 51) k0.toNatClampNeg (2 : Int32)) (σ.2.2.1 52) (vp_updL (σ.2.2.1 52) k0.toNatClampNeg x24) (σ.2.2.2) (vf_upd (σ.2.2.2) k0.toNatClampNeg FP.dconst0) k0.toNatClampNeg (fun k v r => k = 2))) := by
  have q2 : (2 : Int32).toInt = 2 := by decide +kernel
  have ql0 : (0 : Int64).toInt = 0 := by decide +kernel
  refine ⟨by omega, by omega, ?_⟩
  first
  | exact Or.inl ⟨by omega, rfl, rfl, rfl, rfl⟩
  | exact Or.inr ⟨_, _, _, rfl, rfl, rfl, q2⟩
-- post2 @108
theorem v_ints_16 (σ : RS) (k0 : Int32) (k1 : Int32) (k2 : Int32) (x1 : Int64) (x2 : Int32) (x3 : Int64) (x4 : Int32) (x23 : Int32) (x24 : Int64) (hpre_0 : 0 ≤ k0.toInt) (hpre_1 : k0.toInt < 980) (hpre_2 : 0 ≤ k1.toInt) (hpre_3 : k1.toInt < 980) (hpre_4 : (σ.1 56).toInt = 0) (hpre_5 : 16 ≤ k2.toInt) (hpre_6 : k2.toInt ≤ 20) (ex1 : x1 = (σ.2.2.1 52) k0.toNatClampNeg) (tx1 : x1.toInt = ((σ.2.2.1 52) k0.toNatClampNeg).toInt) (ex2 : x2 = Int64.toInt32 x1) (tx2 : -2147483648 ≤ x1.toInt → x1.toInt < 2147483648 → x2.toInt = x1.toInt) (ex3 : x3 = (σ.2.2.1 52) k1.toNatClampNeg) (tx3 : x3.toInt = ((σ.2.2.1 52) k1.toNatClampNeg).toInt) (ex4 : x4 = Int64.toInt32 x3) (tx4 : -2147483648 ≤ x3.toInt → x3.toInt < 2147483648 → x4.toInt = x3.toInt) (c5 : 19 ≤ k2.toInt) (c18 : ¬ x4.toInt = 0) (c19 : ¬ k2.toInt = 16) (c20 : ¬ k2.toInt = 17) (c21 : ¬ k2.toInt = 18) (c22 : ¬ k2.toInt = 19) (ex23 : x23 = x2 - x2 / x4 * x4) (ex24 : x24 = Int32.toInt64 x23) (tx24 : x24.toInt = x23.toInt) : ∀ n9 m9 : Int32, QAT (qH (σ.2.1 36) (σ.2.1 37) (σ.2.1 38) (σ.2.1 39) (σ.2.1 40) (σ.2.1 41) (σ.2.1 42) (σ.2.1 43) (σ.2.1 44) (σ.2.1 45) (σ.2.1 46) (σ.2.1 48)) (σ.1 47).toInt ((σ.2.1 51), (σ.2.2.1 52), (σ.2.2.1 53), (σ.2.2.2)) k0.toNatClampNeg (qInt n9) → QAT (qH (σ.2.1 36) (σ.2.1 37) (σ.2.1 38) (σ.2.1 39) (σ.2.1 40) (σ.2.1 41) (σ.2.1 42) (σ.2.1 43) (σ.2.1 44) (σ.2.1 45) (σ.2.1 46) (σ.2.1 48)) (σ.1 47).toInt ((σ.2.1 51), (σ.2.2.1 52), (σ.2.2.1 53), (σ.2.2.2)) k1.toNatClampNeg (qInt m9) → (σ.1 56).toInt = 0 → (16 ≤ k2.toInt ∧ k2.toInt ≤ 20) → QRES (qH (σ.2.1 36) (σ.2.1 37) (σ.2.1 38) (σ.2.1 39) (σ.2.1 40) (σ.2.1 41) (σ.2.1 42) (σ.2.1 43) (σ.2.1 44) (σ.2.1 45) (σ.2.1 46) (σ.2.1 48)) (σ.1 47).toInt ((σ.2.1 51), (σ.2.2.1 52), (σ.2.2.1 53), (σ.2.2.2)) ((upd (σ.2.1 51) k0.toNatClampNeg (2 : Int32)), (vp_updL (σ.2.2.1 52) k0.toNatClampNeg x24), (vp_updL (σ.2.2.1 53) k0.toNatClampNeg (0 : Int64)), (vf_upd (σ.2.2.2) k0.toNatClampNeg FP.dconst0)) k0.toNatClampNeg (σ.1 56).toInt (qInts n9 m9 k2.toInt) := by
  have q2 : (2 : Int32).toInt = 2 := by decide +kernel
  have ql0 : (0 : Int64).toInt = 0 := by decide +kernel
  intro n9 m9 h9 g9 h0 hs
  have a := q_l2i (x := x1) (n := n9) (by rw [ex1]; exact (h9.2.2.2.2 (show ¬ (2 : Int) = 3 by decide) (show ¬ (2 : Int) = 4 by decide)).1) ex2
  have b := q_l2i (x := x3) (n := m9) (by rw [ex3]; exact (g9.2.2.2.2 (show ¬ (2 : Int) = 3 by decide) (show ¬ (2 : Int) = 4 by decide)).1) ex4
  have z0 : (0 : Int32).toInt = 0 := by decide +kernel
  rw [qInts_n (by rintro ⟨h1, h2⟩; rw [← b] at h2; have h2 := congrArg Int32.toInt h2; omega)]
  refine ⟨h0, ?_⟩
  rw [if_neg (by omega), if_neg (by omega), if_neg (by omega), if_neg (by omega)]
  rw [← a, ← b, ← ex23]
  exact QW.int q2 (by omega) (by decide +kernel)
-- pre:set@105 @105
theorem v_ints_17 (σ : RS) (k0 : Int32) (k1 : Int32) (x1 : Int64) (x2 : Int32) (x3 : Int64) (x4 : Int32) (x26 : Int32) (x27 : Int64) (hpre_0 : 0 ≤ k0.toInt) (hpre_1 : k0.toInt < 980) (hpre_2 : 0 ≤ k1.toInt) (hpre_3 : k1.toInt < 980) (ex1 : x1 = (σ.2.2.1 52) k0.toNatClampNeg) (tx1 : x1.toInt = ((σ.2.2.1 52) k0.toNatClampNeg).toInt) (ex2 : x2 = Int64.toInt32 x1) (tx2 : -2147483648 ≤ x1.toInt → x1.toInt < 2147483648 → x2.toInt = x1.toInt) (ex3 : x3 = (σ.2.2.1 52) k1.toNatClampNeg) (tx3 : x3.toInt = ((σ.2.2.1 52) k1.toNatClampNeg).toInt) (ex4 : x4 = Int64.toInt32 x3) (c18 : ¬ x4.toInt = 0) (ex26 : x26 = x2 / x4) (ex27 : x27 = Int32.toInt64 x26) (tx27 : x27.toInt = x26.toInt) : 0 ≤ k0.toInt ∧ k0.toInt < 980 := by
  refine ⟨?_, ?_⟩ <;> first | assumption | omega | (subst_vars; omega) | trivial
-- post @108
theorem v_ints_18 (σ : RS) (k0 : Int32) (k1 : Int32) (x1 : Int64) (x2 : Int32) (x3 : Int64) (x4 : Int32) (x26 : Int32) (x27 : Int64) (hpre_0 : 0 ≤ k0.toInt) (hpre_1 : k0.toInt < 980) (hpre_2 : 0 ≤ k1.toInt) (hpre_3 : k1.toInt < 980) (hpre_4 : (σ.1 56).toInt = 0) (ex1 : x1 = (σ.2.2.1 52) k0.toNatClampNeg) (tx1 : x1.toInt = ((σ.2.2.1 52) k0.toNatClampNeg).toInt) (ex2 : x2 = Int64.toInt32 x1) (tx2 : -2147483648 ≤ x1.toInt → x1.toInt < 2147483648 → x2.toInt = x1.toInt) (ex3 : x3 = (σ.2.2.1 52) k1.toNatClampNeg) (tx3 : x3.toInt = ((σ.2.2.1 52) k1.toNatClampNeg).toInt) (ex4 : x4 = Int64.toInt32 x3) (tx4 : -2147483648 ≤ x3.toInt → x3.toInt < 2147483648 → x4.toInt = x3.toInt) (c18 : ¬ x4.toInt = 0) (ex26 : x26 = x2 / x4) (ex27 : x27 = Int32.toInt64 x26) (tx27 : x27.toInt = x26.toInt) : 0 ≤ (σ.1 56).toInt ∧ (σ.1 56).toInt ≤ 11 ∧ (((σ.1 56).toInt = 2 ∧ (upd (σ.2.1 51) k0.toNatClampNeg (2 : Int32)) = (σ.2.1 51) ∧ (vp_updL (σ.2.2.1 52) k0.toNatClampNeg x27) = (σ.2.2.1 52) ∧ (vp_updL (σ.2.2.1 53) k0.toNatClampNeg (0 : Int64)) = (σ.2.2.1 53) ∧ (vf_upd (σ.2.2.2) k0.toNatClampNeg FP.dconst0) = (σ.2.2.2)) ∨ (Cell1 (σ.2.1 51) (upd (σ.2.1 51) k0.toNatClampNeg (2 : Int32)) (σ.2.2.1 52) (vp_updL (σ.2.2.1 52) k0.toNatClampNeg x27) (σ.2.2.2) (vf_upd (σ.2.2.2) k0.toNatClampNeg FP.dconst0) k0.toNatClampNeg (fun k v r => k = 2))) := by
  have q2 : (2 : Int32).toInt = 2 := by decide +kernel
  have ql0 : (0 : Int64).toInt = 0 := by decide +kernel
  refine ⟨by omega, by omega, ?_⟩
  first
  | exact Or.inl ⟨by omega, rfl, rfl, rfl, rfl⟩
  | exact Or.inr ⟨_, _, _, rfl, rfl, rfl, q2⟩
-- post2 @108
theorem v_ints_19 (σ : RS) (k0 : Int32) (k1 : Int32) (k2 : Int32) (x1 : Int64) (x2 : Int32) (x3 : Int64) (x4 : Int32) (x26 : Int32) (x27 : Int64) (hpre_0 : 0 ≤ k0.toInt) (hpre_1 : k0.toInt < 980) (hpre_2 : 0 ≤ k1.toInt) (hpre_3 : k1.toInt < 980) (hpre_4 : (σ.1 56).toInt = 0) (hpre_5 : 16 ≤ k2.toInt) (hpre_6 : k2.toInt ≤ 20) (ex1 : x1 = (σ.2.2.1 52) k0.toNatClampNeg) (tx1 : x1.toInt = ((σ.2.2.1 52) k0.toNatClampNeg).toInt) (ex2 : x2 = Int64.toInt32 x1) (tx2 : -2147483648 ≤ x1.toInt → x1.toInt < 2147483648 → x2.toInt = x1.toInt) (ex3 : x3 = (σ.2.2.1 52) k1.toNatClampNeg) (tx3 : x3.toInt = ((σ.2.2.1 52) k1.toNatClampNeg).toInt) (ex4 : x4 = Int64.toInt32 x3) (tx4 : -2147483648 ≤ x3.toInt → x3.toInt < 2147483648 → x4.toInt = x3.toInt) (c5 : 19 ≤ k2.toInt) (c18 : ¬ x4.toInt = 0) (c19 : ¬ k2.toInt = 16) (c20 : ¬ k2.toInt = 17) (c21 : ¬ k2.toInt = 18) (c22 : k2.toInt = 19) (ex26 : x26 = x2 / x4) (ex27 : x27 = Int32.toInt64 x26) (tx27 : x27.toInt = x26.toInt) : ∀ n9 m9 : Int32, QAT (qH (σ.2.1 36) (σ.2.1 37) (σ.2.1 38) (σ.2.1 39) (σ.2.1 40) (σ.2.1 41) (σ.2.1 42) (σ.2.1 43) (σ.2.1 44) (σ.2.1 45) (σ.2.1 46) (σ.2.1 48)) (σ.1 47).toInt ((σ.2.1 51), (σ.2.2.1 52), (σ.2.2.1 53), (σ.2.2.2)) k0.toNatClampNeg (qInt n9) → QAT (qH (σ.2.1 36) (σ.2.1 37) (σ.2.1 38) (σ.2.1 39) (σ.2.1 40) (σ.2.1 41) (σ.2.1 42) (σ.2.1 43) (σ.2.1 44) (σ.2.1 45) (σ.2.1 46) (σ.2.1 48)) (σ.1 47).toInt ((σ.2.1 51), (σ.2.2.1 52), (σ.2.2.1 53), (σ.2.2.2)) k1.toNatClampNeg (qInt m9) → (σ.1 56).toInt = 0 → (16 ≤ k2.toInt ∧ k2.toInt ≤ 20) → QRES (qH (σ.2.1 36) (σ.2.1 37) (σ.2.1 38) (σ.2.1 39) (σ.2.1 40) (σ.2.1 41) (σ.2.1 42) (σ.2.1 43) (σ.2.1 44) (σ.2.1 45) (σ.2.1 46) (σ.2.1 48)) (σ.1 47).toInt ((σ.2.1 51), (σ.2.2.1 52), (σ.2.2.1 53), (σ.2.2.2)) ((upd (σ.2.1 51) k0.toNatClampNeg (2 : Int32)), (vp_updL (σ.2.2.1 52) k0.toNatClampNeg x27), (vp_updL (σ.2.2.1 53) k0.toNatClampNeg (0 : Int64)), (vf_upd (σ.2.2.2) k0.toNatClampNeg FP.dconst0)) k0.toNatClampNeg (σ.1 56).toInt (qInts n9 m9 k2.toInt) := by
  have q2 : (2 : Int32).toInt = 2 := by decide +kernel
  have ql0 : (0 : Int64).toInt = 0 := by decide +kernel
  intro n9 m9 h9 g9 h0 hs
  have a := q_l2i (x := x1) (n := n9) (by rw [ex1]; exact (h9.2.2.2.2 (show ¬ (2 : Int) = 3 by decide) (show ¬ (2 : Int) = 4 by decide)).1) ex2
  have b := q_l2i (x := x3) (n := m9) (by rw [ex3]; exact (g9.2.2.2.2 (show ¬ (2 : Int) = 3 by decide) (show ¬ (2 : Int) = 4 by decide)).1) ex4
  have z0 : (0 : Int32).toInt = 0 := by decide +kernel
  rw [qInts_n (by rintro ⟨h1, h2⟩; rw [← b] at h2; have h2 := congrArg Int32.toInt h2; omega)]
  refine ⟨h0, ?_⟩
  rw [if_neg (by omega), if_neg (by omega), if_neg (by omega), if_pos (by omega)]
  rw [← a, ← b, ← ex26]
  exact QW.int q2 (by omega) (by decide +kernel)
-- dead@66 @69
theorem v_ints_20 (k2 : Int32) (hpre_5 : 16 ≤ k2.toInt) (hpre_6 : k2.toInt ≤ 20) (c5 : 19 ≤ k2.toInt) (c19 : ¬ k2.toInt = 16) (c20 : ¬ k2.toInt = 17) (c21 : k2.toInt = 18) : False := by
  first | assumption | omega | (subst_vars; omega) | trivial
-- dead@52 @55
theorem v_ints_21 (k2 : Int32) (hpre_5 : 16 ≤ k2.toInt) (hpre_6 : k2.toInt ≤ 20) (c5 : 19 ≤ k2.toInt) (c19 : ¬ k2.toInt = 16) (c20 : k2.toInt = 17) : False := by
  first | assumption | omega | (subst_vars; omega) | trivial
-- dead@38 @41
theorem v_ints_22 (k2 : Int32) (hpre_5 : 16 ≤ k2.toInt) (hpre_6 : k2.toInt ≤ 20) (c5 : 19 ≤ k2.toInt) (c19 : k2.toInt = 16) : False := by
  first | assumption | omega | (subst_vars; omega) | trivial
-- post @34
theorem v_ints_23 (σ : RS) (k0 : Int32) (k1 : Int32) (x1 : Int64) (x2 : Int32) (x3 : Int64) (x4 : Int32) (hpre_0 : 0 ≤ k0.toInt) (hpre_1 : k0.toInt < 980) (hpre_2 : 0 ≤ k1.toInt) (hpre_3 : k1.toInt < 980) (ex1 : x1 = (σ.2.2.1 52) k0.toNatClampNeg) (tx1 : x1.toInt = ((σ.2.2.1 52) k0.toNatClampNeg).toInt) (ex2 : x2 = Int64.toInt32 x1) (tx2 : -2147483648 ≤ x1.toInt → x1.toInt < 2147483648 → x2.toInt = x1.toInt) (ex3 : x3 = (σ.2.2.1 52) k1.toNatClampNeg) (tx3 : x3.toInt = ((σ.2.2.1 52) k1.toNatClampNeg).toInt) (ex4 : x4 = Int64.toInt32 x3) (tx4 : -2147483648 ≤ x3.toInt → x3.toInt < 2147483648 → x4.toInt = x3.toInt) (c18 : x4.toInt = 0) : 0 ≤ (2 : Int32).toInt ∧ (2 : Int32).toInt ≤ 11 ∧ (((2 : Int32).toInt = 2 ∧ (σ.2.1 51) = (σ.2.1 51) ∧ (σ.2.2.1 52) = (σ.2.2.1 52) ∧ (σ.2.2.1 53) = (σ.2.2.1 53) ∧ (σ.2.2.2) = (σ.2.2.2)) ∨ (Cell1 (σ.2.1 51) (σ.2.1 51) (σ.2.2.1 52) (σ.2.2.1 52) (σ.2.2.2) (σ.2.2.2) k0.toNatClampNeg (fun k v r => k = 2))) := by
  have q2 : (2 : Int32).toInt = 2 := by decide +kernel
  refine ⟨by omega, by omega, ?_⟩
  first
  | exact Or.inl ⟨by omega, rfl, rfl, rfl, rfl⟩
  | exact Or.inr ⟨_, _, _, rfl, rfl, rfl, q2⟩
-- post2 @34
theorem v_ints_24 (σ : RS) (k0 : Int32) (k1 : Int32) (k2 : Int32) (x1 : Int64) (x2 : Int32) (x3 : Int64) (x4 : Int32) (hpre_0 : 0 ≤ k0.toInt) (hpre_1 : k0.toInt < 980) (hpre_2 : 0 ≤ k1.toInt) (hpre_3 : k1.toInt < 980) (hpre_4 : (σ.1 56).toInt = 0) (hpre_5 : 16 ≤ k2.toInt) (hpre_6 : k2.toInt ≤ 20) (ex1 : x1 = (σ.2.2.1 52) k0.toNatClampNeg) (tx1 : x1.toInt = ((σ.2.2.1 52) k0.toNatClampNeg).toInt) (ex2 : x2 = Int64.toInt32 x1) (tx2 : -2147483648 ≤ x1.toInt → x1.toInt < 2147483648 → x2.toInt = x1.toInt) (ex3 : x3 = (σ.2.2.1 52) k1.toNatClampNeg) (tx3 : x3.toInt = ((σ.2.2.1 52) k1.toNatClampNeg).toInt) (ex4 : x4 = Int64.toInt32 x3) (tx4 : -2147483648 ≤ x3.toInt → x3.toInt < 2147483648 → x4.toInt = x3.toInt) (c5 : 19 ≤ k2.toInt) (c18 : x4.toInt = 0) : ∀ n9 m9 : Int32, QAT (qH (σ.2.1 36) (σ.2.1 37) (σ.2.1 38) (σ.2.1 39) (σ.2.1 40) (σ.2.1 41) (σ.2.1 42) (σ.2.1 43) (σ.2.1 44) (σ.2.1 45) (σ.2.1 46) (σ.2.1 48)) (σ.1 47).toInt ((σ.2.1 51), (σ.2.2.1 52), (σ.2.2.1 53), (σ.2.2.2)) k0.toNatClampNeg (qInt n9) → QAT (qH (σ.2.1 36) (σ.2.1 37) (σ.2.1 38) (σ.2.1 39) (σ.2.1 40) (σ.2.1 41) (σ.2.1 42) (σ.2.1 43) (σ.2.1 44) (σ.2.1 45) (σ.2.1 46) (σ.2.1 48)) (σ.1 47).toInt ((σ.2.1 51), (σ.2.2.1 52), (σ.2.2.1 53), (σ.2.2.2)) k1.toNatClampNeg (qInt m9) → (σ.1 56).toInt = 0 → (16 ≤ k2.toInt ∧ k2.toInt ≤ 20) → QRES (qH (σ.2.1 36) (σ.2.1 37) (σ.2.1 38) (σ.2.1 39) (σ.2.1 40) (σ.2.1 41) (σ.2.1 42) (σ.2.1 43) (σ.2.1 44) (σ.2.1 45) (σ.2.1 46) (σ.2.1 48)) (σ.1 47).toInt ((σ.2.1 51), (σ.2.2.1 52), (σ.2.2.1 53), (σ.2.2.2)) ((σ.2.1 51), (σ.2.2.1 52), (σ.2.2.1 53), (σ.2.2.2)) k0.toNatClampNeg (2 : Int32).toInt (qInts n9 m9 k2.toInt) := by
  have q2 : (2 : Int32).toInt = 2 := by decide +kernel
  intro n9 m9 h9 g9 h0 hs
  have a := q_l2i (x := x1) (n := n9) (by rw [ex1]; exact (h9.2.2.2.2 (show ¬ (2 : Int) = 3 by decide) (show ¬ (2 : Int) = 4 by decide)).1) ex2
  have b := q_l2i (x := x3) (n := m9) (by rw [ex3]; exact (g9.2.2.2.2 (show ¬ (2 : Int) = 3 by decide) (show ¬ (2 : Int) = 4 by decide)).1) ex4
  rw [qInts_0 (by omega) (by rw [← b]; exact Int32.toInt_inj.mp (by rw [show (0 : Int32).toInt = 0 by decide +kernel]; omega))]
  exact ⟨by decide +kernel, by decide, by decide, QX.self⟩
set_option maxHeartbeats 4000000 in
set_option maxRecDepth 100000 in
theorem M_ints (l : Launch) (D : va_G) (cy : Nat → ClassId) (sz0 : Nat) (sa : Nat → Nat) (ad : Nat → Nat) (σ : RS) (sz : Nat) (k0 : Int32) (k1 : Int32) (k2 : Int32) (hpre : 0 ≤ k0.toInt ∧ k0.toInt < 980 ∧ 0 ≤ k1.toInt ∧ k1.toInt < 980 ∧ (σ.1 56).toInt = 0 ∧ 16 ≤ k2.toInt ∧ k2.toInt ≤ 20) : Met l yX12_ints (Cond.code yX12_ints cX12_ints 7 none :: GWm) ({ frames := 1, cells := 0, slots := 0, locals := 26 }) (PcR D cy sz0 sa ad [.ref (ad 0), .int k0, .int k1, .int k2] σ sz) (va_Qv (fun (u : (Nat → Int32) × (Nat → Int64) × (Nat → Int64) × (Nat → UInt64) × Int32) => (0 ≤ u.2.2.2.2.toInt ∧ u.2.2.2.2.toInt ≤ 11 ∧ ((u.2.2.2.2.toInt = 2 ∧ u.1 = (σ.2.1 51) ∧ u.2.1 = (σ.2.2.1 52) ∧ u.2.2.1 = (σ.2.2.1 53) ∧ u.2.2.2.1 = (σ.2.2.2)) ∨ (Cell1 (σ.2.1 51) u.1 (σ.2.2.1 52) u.2.1 (σ.2.2.2) u.2.2.2.1 k0.toNatClampNeg (fun k v r => k = 2)))) ∧ (∀ n9 m9 : Int32, QAT (qH (σ.2.1 36) (σ.2.1 37) (σ.2.1 38) (σ.2.1 39) (σ.2.1 40) (σ.2.1 41) (σ.2.1 42) (σ.2.1 43) (σ.2.1 44) (σ.2.1 45) (σ.2.1 46) (σ.2.1 48)) (σ.1 47).toInt ((σ.2.1 51), (σ.2.2.1 52), (σ.2.2.1 53), (σ.2.2.2)) k0.toNatClampNeg (qInt n9) → QAT (qH (σ.2.1 36) (σ.2.1 37) (σ.2.1 38) (σ.2.1 39) (σ.2.1 40) (σ.2.1 41) (σ.2.1 42) (σ.2.1 43) (σ.2.1 44) (σ.2.1 45) (σ.2.1 46) (σ.2.1 48)) (σ.1 47).toInt ((σ.2.1 51), (σ.2.2.1 52), (σ.2.2.1 53), (σ.2.2.2)) k1.toNatClampNeg (qInt m9) → (σ.1 56).toInt = 0 → (16 ≤ k2.toInt ∧ k2.toInt ≤ 20) → QRES (qH (σ.2.1 36) (σ.2.1 37) (σ.2.1 38) (σ.2.1 39) (σ.2.1 40) (σ.2.1 41) (σ.2.1 42) (σ.2.1 43) (σ.2.1 44) (σ.2.1 45) (σ.2.1 46) (σ.2.1 48)) (σ.1 47).toInt ((σ.2.1 51), (σ.2.2.1 52), (σ.2.2.1 53), (σ.2.2.2)) (u.1, u.2.1, u.2.2.1, u.2.2.2.1) k0.toNatClampNeg u.2.2.2.2.toInt (qInts n9 m9 k2.toInt))) (fun (u : (Nat → Int32) × (Nat → Int64) × (Nat → Int64) × (Nat → UInt64) × Int32) (t : State) => RP D cy ad (rS (rR (rJ (rJ (rA σ 51 u.1) 52 u.2.1) 53 u.2.2.1) u.2.2.2.1) 56 u.2.2.2.2) t.heap) (AR cy ad sz)) 0 0 (AR cy ad sz) := by
  refine RM_of (loc0 := [(0, .ref (ad 0)), (1, .int k0), (2, .int k1), (3, .int k2)]) (by decide) rfl rfl (Nat.le_of_ble_eq_true rfl) ?_
  intro p e s m below meth c ls hsz C hP hS hl
  have hx := C.1
  have hb := C.2.1
  have hown := C.2.2.2.2.1
  have hw := C.2.2.2.2.2.1
  clear hsz
  obtain ⟨hpre_0, hpre_1, hpre_2, hpre_3, hpre_4, hpre_5, hpre_6⟩ := hpre
  refine lv_aload_n hx hb dX12_ints_0 rfl (lv_at hl 0 rfl) ?_
  refine rg_52 C hP wm_206 dX12_ints_1 ?_
  refine lv_iload_n hx hb dX12_ints_4 rfl (lv_at hl 1 rfl) ?_
  refine ra_52 (f := (σ.2.2.1 52)) C hP rfl (v_ints_1 k0 hpre_0 hpre_1) dX12_ints_5 (fun x1 ex1 => ?_)
  have tx1 : x1.toInt = ((σ.2.2.1 52) k0.toNatClampNeg).toInt := by rw [ex1]
  refine lv_l2i hx hb dX12_ints_6 rfl ?_
  refine lv_topi (fun x2 ex2 => ?_)
  have tx2 : -2147483648 ≤ x1.toInt → x1.toInt < 2147483648 → x2.toInt = x1.toInt := z_l2i ex2
  refine lv_istore (lv' := [(4, .int x2), (0, .ref (ad 0)), (1, .int k0), (2, .int k1), (3, .int k2)]) hx hb dX12_ints_7 hl (by decide) rfl (fun ls hl => ?_)
  refine lv_aload_n hx hb dX12_ints_9 rfl (lv_at hl 1 rfl) ?_
  refine rg_52 C hP wm_206 dX12_ints_10 ?_
  refine lv_iload_n hx hb dX12_ints_13 rfl (lv_at hl 3 rfl) ?_
  refine ra_52 (f := (σ.2.2.1 52)) C hP rfl (v_ints_2 k1 hpre_2 hpre_3) dX12_ints_14 (fun x3 ex3 => ?_)
  have tx3 : x3.toInt = ((σ.2.2.1 52) k1.toNatClampNeg).toInt := by rw [ex3]
  refine lv_l2i hx hb dX12_ints_15 rfl ?_
  refine lv_topi (fun x4 ex4 => ?_)
  have tx4 : -2147483648 ≤ x3.toInt → x3.toInt < 2147483648 → x4.toInt = x3.toInt := z_l2i ex4
  refine lv_istore (lv' := [(5, .int x4), (4, .int x2), (0, .ref (ad 0)), (1, .int k0), (2, .int k1), (3, .int k2)]) hx hb dX12_ints_16 hl (by decide) rfl (fun ls hl => ?_)
  refine lv_iload_n hx hb dX12_ints_18 rfl (lv_at hl 5 rfl) ?_
  refine lv_bipush (v := 19) hx hb dX12_ints_19 (by decide +kernel) ?_
  refine lv_icmp_lt (tgt := 35) hx hb dX12_ints_21 (by decide) (fun c5 => ?_) (fun c5 => ?_)
  · have c5 : k2.toInt < 19 := by have h := z_lt c5; rw [show (19 : Int32).toInt = 19 from by decide +kernel] at h; exact h
    refine lv_iload_n hx hb dX12_ints_35 rfl (lv_at hl 5 rfl) ?_
    refine lv_bipush (v := 16) hx hb dX12_ints_36 (by decide +kernel) ?_
    refine lv_icmp_ne (tgt := 49) hx hb dX12_ints_38 (by decide) (fun c6 => ?_) (fun c6 => ?_)
    · have c6 : ¬ k2.toInt = 16 := by have h := z_ne c6; rw [show (16 : Int32).toInt = 16 from by decide +kernel] at h; exact h
      refine lv_iload_n hx hb dX12_ints_49 rfl (lv_at hl 5 rfl) ?_
      refine lv_bipush (v := 17) hx hb dX12_ints_50 (by decide +kernel) ?_
      refine lv_icmp_ne (tgt := 63) hx hb dX12_ints_52 (by decide) (fun c7 => ?_) (fun c7 => ?_)
      · have c7 : ¬ k2.toInt = 17 := by have h := z_ne c7; rw [show (17 : Int32).toInt = 17 from by decide +kernel] at h; exact h
        refine lv_iload_n hx hb dX12_ints_63 rfl (lv_at hl 5 rfl) ?_
        refine lv_bipush (v := 18) hx hb dX12_ints_64 (by decide +kernel) ?_
        refine lv_icmp_ne (tgt := 77) hx hb dX12_ints_66 (by decide) (fun c8 => ?_) (fun c8 => ?_)
        · have c8 : ¬ k2.toInt = 18 := by have h := z_ne c8; rw [show (18 : Int32).toInt = 18 from by decide +kernel] at h; exact h
          exact absurd (v_ints_3 k2 hpre_5 hpre_6 c5 c6 c7 c8) id
        · have c8 : k2.toInt = 18 := by have h := z_eq c8; rw [show (18 : Int32).toInt = 18 from by decide +kernel] at h; exact h
          refine lv_iload hx hb dX12_ints_69 (lv_at hl 1 rfl) ?_
          refine lv_iload hx hb dX12_ints_71 (lv_at hl 0 rfl) ?_
          refine lv_imul hx hb dX12_ints_73 ?_
          refine lv_topi (fun x9 ex9 => ?_)
          refine lv_goto (tgt := 96) hx hb dX12_ints_74 (by decide) ?_
          refine lv_istore (lv' := [(6, .int x9), (5, .int x4), (4, .int x2), (0, .ref (ad 0)), (1, .int k0), (2, .int k1), (3, .int k2)]) hx hb dX12_ints_96 hl (by decide) rfl (fun ls hl => ?_)
          refine lv_aload_n hx hb dX12_ints_98 rfl (lv_at hl 3 rfl) ?_
          refine lv_iload_n hx hb dX12_ints_99 rfl (lv_at hl 4 rfl) ?_
          refine lv_iconst (v := 2) hx hb dX12_ints_100 (by decide +kernel) ?_
          refine lv_iload hx hb dX12_ints_101 (lv_at hl 0 rfl) ?_
          refine lv_i2l hx hb dX12_ints_103 rfl ?_
          refine lv_topl (fun x10 ex10 => ?_)
          have tx10 : x10.toInt = x9.toInt := by rw [ex10]; exact Int32.toInt_toInt64 _
          refine lv_dconst0 hx hb dX12_ints_104 ?_
          refine r_callVv (As := [.int k0, .int 2, .long x10, .double FP.dconst0]) (rest := []) C hP hS hl.1 ⟨Nat.zero_le _, Nat.zero_le _⟩ (M_set l D cy sz0 sa ad σ s.heap.size k0 (2 : Int32) x10 FP.dconst0 (v_ints_4 σ k0 k1 x1 x2 x3 x4 x9 x10 hpre_0 hpre_1 hpre_2 hpre_3 ex1 tx1 ex2 tx2 ex3 tx3 ex4 ex9 ex10 tx10)) (n := 4) ⟨wm_213, wm_207, by decide +kernel⟩ ⟨wm_214, wm_215, wm_10⟩ rfl rfl (lv_room (Nat.le_of_ble_eq_true rfl)) ⟨Nat.le_of_ble_eq_true rfl, Nat.le_of_ble_eq_true rfl⟩ dX12_ints_105 (fun u H locs hr11 hP hS => ?_)
          have hr11 : True := hr11
          have hP : RP D cy ad (rR (rJ (rJ (rA σ 51 (upd (σ.2.1 51) k0.toNatClampNeg (2 : Int32))) 52 (vp_updL (σ.2.2.1 52) k0.toNatClampNeg x10)) 53 (vp_updL (σ.2.2.1 53) k0.toNatClampNeg (0 : Int64))) (vf_upd (σ.2.2.2) k0.toNatClampNeg FP.dconst0)) H := hP
          have hP : RP D cy ad (rS (rR (rJ (rJ (rA σ 51 (upd (σ.2.1 51) k0.toNatClampNeg (2 : Int32))) 52 (vp_updL (σ.2.2.1 52) k0.toNatClampNeg x10)) 53 (vp_updL (σ.2.2.1 53) k0.toNatClampNeg (0 : Int64))) (vf_upd (σ.2.2.2) k0.toNatClampNeg FP.dconst0)) 56 (σ.1 56)) H := RP.cong hP (Eq.trans (b := (σ.1 0)) rfl rfl) (Eq.trans (b := (σ.1 1)) rfl rfl) (Eq.trans (b := (σ.2.1 2)) rfl rfl) (Eq.trans (b := (σ.1 3)) rfl rfl) (Eq.trans (b := (σ.2.1 4)) rfl rfl) (Eq.trans (b := (σ.2.1 5)) rfl rfl) (Eq.trans (b := (σ.2.2.1 6)) rfl rfl) (Eq.trans (b := (σ.2.1 7)) rfl rfl) (Eq.trans (b := (σ.1 8)) rfl rfl) (Eq.trans (b := (σ.1 9)) rfl rfl) (Eq.trans (b := (σ.1 10)) rfl rfl) (Eq.trans (b := (σ.2.1 11)) rfl rfl) (Eq.trans (b := (σ.2.2.1 12)) rfl rfl) (Eq.trans (b := (σ.2.1 13)) rfl rfl) (Eq.trans (b := (σ.1 14)) rfl rfl) (Eq.trans (b := (σ.1 15)) rfl rfl) (Eq.trans (b := (σ.1 16)) rfl rfl) (Eq.trans (b := (σ.1 17)) rfl rfl) (Eq.trans (b := (σ.1 18)) rfl rfl) (Eq.trans (b := (σ.1 19)) rfl rfl) (Eq.trans (b := (σ.2.1 20)) rfl rfl) (Eq.trans (b := (σ.2.1 21)) rfl rfl) (Eq.trans (b := (σ.2.1 22)) rfl rfl) (Eq.trans (b := (σ.2.1 23)) rfl rfl) (Eq.trans (b := (σ.2.1 24)) rfl rfl) (Eq.trans (b := (σ.2.1 25)) rfl rfl) (Eq.trans (b := (σ.2.1 26)) rfl rfl) (Eq.trans (b := (σ.2.1 27)) rfl rfl) (Eq.trans (b := (σ.2.1 28)) rfl rfl) (Eq.trans (b := (σ.1 29)) rfl rfl) (Eq.trans (b := (σ.2.1 30)) rfl rfl) (Eq.trans (b := (σ.2.1 31)) rfl rfl) (Eq.trans (b := (σ.2.1 32)) rfl rfl) (Eq.trans (b := (σ.1 33)) rfl rfl) (Eq.trans (b := (σ.1 34)) rfl rfl) (Eq.trans (b := (σ.1 35)) rfl rfl) (Eq.trans (b := (σ.2.1 36)) rfl rfl) (Eq.trans (b := (σ.2.1 37)) rfl rfl) (Eq.trans (b := (σ.2.1 38)) rfl rfl) (Eq.trans (b := (σ.2.1 39)) rfl rfl) (Eq.trans (b := (σ.2.1 40)) rfl rfl) (Eq.trans (b := (σ.2.1 41)) rfl rfl) (Eq.trans (b := (σ.2.1 42)) rfl rfl) (Eq.trans (b := (σ.2.1 43)) rfl rfl) (Eq.trans (b := (σ.2.1 44)) rfl rfl) (Eq.trans (b := (σ.2.1 45)) rfl rfl) (Eq.trans (b := (σ.2.1 46)) rfl rfl) (Eq.trans (b := (σ.1 47)) rfl rfl) (Eq.trans (b := (σ.2.1 48)) rfl rfl) (Eq.trans (b := (σ.1 49)) rfl rfl) (Eq.trans (b := (σ.2.1 50)) rfl rfl) (Eq.trans (b := (upd (σ.2.1 51) k0.toNatClampNeg (2 : Int32))) rfl rfl) (Eq.trans (b := (vp_updL (σ.2.2.1 52) k0.toNatClampNeg x10)) rfl rfl) (Eq.trans (b := (vp_updL (σ.2.2.1 53) k0.toNatClampNeg (0 : Int64))) rfl rfl) (Eq.trans (b := (vf_upd (σ.2.2.2) k0.toNatClampNeg FP.dconst0)) rfl rfl) (Eq.trans (b := (σ.1 55)) rfl rfl) (Eq.trans (b := (σ.1 56)) rfl rfl) (Eq.trans (b := (σ.1 57)) rfl rfl) (Eq.trans (b := (σ.2.1 58)) rfl rfl) (Eq.trans (b := (σ.1 59)) rfl rfl)
          exact r_retv C ⟨(upd (σ.2.1 51) k0.toNatClampNeg (2 : Int32)), (vp_updL (σ.2.2.1 52) k0.toNatClampNeg x10), (vp_updL (σ.2.2.1 53) k0.toNatClampNeg (0 : Int64)), (vf_upd (σ.2.2.2) k0.toNatClampNeg FP.dconst0), (σ.1 56)⟩ ⟨(v_ints_5 σ k0 k1 x1 x2 x3 x4 x9 x10 hpre_0 hpre_1 hpre_2 hpre_3 hpre_4 ex1 tx1 ex2 tx2 ex3 tx3 ex4 tx4 ex9 ex10 tx10), (v_ints_6 σ k0 k1 k2 x1 x2 x3 x4 x9 x10 hpre_0 hpre_1 hpre_2 hpre_3 hpre_4 hpre_5 hpre_6 ex1 tx1 ex2 tx2 ex3 tx3 ex4 tx4 c5 c6 c7 c8 ex9 ex10 tx10)⟩ hP hS dX12_ints_108
      · have c7 : k2.toInt = 17 := by have h := z_eq c7; rw [show (17 : Int32).toInt = 17 from by decide +kernel] at h; exact h
        refine lv_iload hx hb dX12_ints_55 (lv_at hl 1 rfl) ?_
        refine lv_iload hx hb dX12_ints_57 (lv_at hl 0 rfl) ?_
        refine lv_isub hx hb dX12_ints_59 ?_
        refine lv_topi (fun x12 ex12 => ?_)
        refine lv_goto (tgt := 96) hx hb dX12_ints_60 (by decide) ?_
        refine lv_istore (lv' := [(6, .int x12), (5, .int x4), (4, .int x2), (0, .ref (ad 0)), (1, .int k0), (2, .int k1), (3, .int k2)]) hx hb dX12_ints_96 hl (by decide) rfl (fun ls hl => ?_)
        refine lv_aload_n hx hb dX12_ints_98 rfl (lv_at hl 3 rfl) ?_
        refine lv_iload_n hx hb dX12_ints_99 rfl (lv_at hl 4 rfl) ?_
        refine lv_iconst (v := 2) hx hb dX12_ints_100 (by decide +kernel) ?_
        refine lv_iload hx hb dX12_ints_101 (lv_at hl 0 rfl) ?_
        refine lv_i2l hx hb dX12_ints_103 rfl ?_
        refine lv_topl (fun x13 ex13 => ?_)
        have tx13 : x13.toInt = x12.toInt := by rw [ex13]; exact Int32.toInt_toInt64 _
        refine lv_dconst0 hx hb dX12_ints_104 ?_
        refine r_callVv (As := [.int k0, .int 2, .long x13, .double FP.dconst0]) (rest := []) C hP hS hl.1 ⟨Nat.zero_le _, Nat.zero_le _⟩ (M_set l D cy sz0 sa ad σ s.heap.size k0 (2 : Int32) x13 FP.dconst0 (v_ints_7 σ k0 k1 x1 x2 x3 x4 x12 x13 hpre_0 hpre_1 hpre_2 hpre_3 ex1 tx1 ex2 tx2 ex3 tx3 ex4 ex12 ex13 tx13)) (n := 4) ⟨wm_213, wm_207, by decide +kernel⟩ ⟨wm_214, wm_215, wm_10⟩ rfl rfl (lv_room (Nat.le_of_ble_eq_true rfl)) ⟨Nat.le_of_ble_eq_true rfl, Nat.le_of_ble_eq_true rfl⟩ dX12_ints_105 (fun u H locs hr14 hP hS => ?_)
        have hr14 : True := hr14
        have hP : RP D cy ad (rR (rJ (rJ (rA σ 51 (upd (σ.2.1 51) k0.toNatClampNeg (2 : Int32))) 52 (vp_updL (σ.2.2.1 52) k0.toNatClampNeg x13)) 53 (vp_updL (σ.2.2.1 53) k0.toNatClampNeg (0 : Int64))) (vf_upd (σ.2.2.2) k0.toNatClampNeg FP.dconst0)) H := hP
        have hP : RP D cy ad (rS (rR (rJ (rJ (rA σ 51 (upd (σ.2.1 51) k0.toNatClampNeg (2 : Int32))) 52 (vp_updL (σ.2.2.1 52) k0.toNatClampNeg x13)) 53 (vp_updL (σ.2.2.1 53) k0.toNatClampNeg (0 : Int64))) (vf_upd (σ.2.2.2) k0.toNatClampNeg FP.dconst0)) 56 (σ.1 56)) H := RP.cong hP (Eq.trans (b := (σ.1 0)) rfl rfl) (Eq.trans (b := (σ.1 1)) rfl rfl) (Eq.trans (b := (σ.2.1 2)) rfl rfl) (Eq.trans (b := (σ.1 3)) rfl rfl) (Eq.trans (b := (σ.2.1 4)) rfl rfl) (Eq.trans (b := (σ.2.1 5)) rfl rfl) (Eq.trans (b := (σ.2.2.1 6)) rfl rfl) (Eq.trans (b := (σ.2.1 7)) rfl rfl) (Eq.trans (b := (σ.1 8)) rfl rfl) (Eq.trans (b := (σ.1 9)) rfl rfl) (Eq.trans (b := (σ.1 10)) rfl rfl) (Eq.trans (b := (σ.2.1 11)) rfl rfl) (Eq.trans (b := (σ.2.2.1 12)) rfl rfl) (Eq.trans (b := (σ.2.1 13)) rfl rfl) (Eq.trans (b := (σ.1 14)) rfl rfl) (Eq.trans (b := (σ.1 15)) rfl rfl) (Eq.trans (b := (σ.1 16)) rfl rfl) (Eq.trans (b := (σ.1 17)) rfl rfl) (Eq.trans (b := (σ.1 18)) rfl rfl) (Eq.trans (b := (σ.1 19)) rfl rfl) (Eq.trans (b := (σ.2.1 20)) rfl rfl) (Eq.trans (b := (σ.2.1 21)) rfl rfl) (Eq.trans (b := (σ.2.1 22)) rfl rfl) (Eq.trans (b := (σ.2.1 23)) rfl rfl) (Eq.trans (b := (σ.2.1 24)) rfl rfl) (Eq.trans (b := (σ.2.1 25)) rfl rfl) (Eq.trans (b := (σ.2.1 26)) rfl rfl) (Eq.trans (b := (σ.2.1 27)) rfl rfl) (Eq.trans (b := (σ.2.1 28)) rfl rfl) (Eq.trans (b := (σ.1 29)) rfl rfl) (Eq.trans (b := (σ.2.1 30)) rfl rfl) (Eq.trans (b := (σ.2.1 31)) rfl rfl) (Eq.trans (b := (σ.2.1 32)) rfl rfl) (Eq.trans (b := (σ.1 33)) rfl rfl) (Eq.trans (b := (σ.1 34)) rfl rfl) (Eq.trans (b := (σ.1 35)) rfl rfl) (Eq.trans (b := (σ.2.1 36)) rfl rfl) (Eq.trans (b := (σ.2.1 37)) rfl rfl) (Eq.trans (b := (σ.2.1 38)) rfl rfl) (Eq.trans (b := (σ.2.1 39)) rfl rfl) (Eq.trans (b := (σ.2.1 40)) rfl rfl) (Eq.trans (b := (σ.2.1 41)) rfl rfl) (Eq.trans (b := (σ.2.1 42)) rfl rfl) (Eq.trans (b := (σ.2.1 43)) rfl rfl) (Eq.trans (b := (σ.2.1 44)) rfl rfl) (Eq.trans (b := (σ.2.1 45)) rfl rfl) (Eq.trans (b := (σ.2.1 46)) rfl rfl) (Eq.trans (b := (σ.1 47)) rfl rfl) (Eq.trans (b := (σ.2.1 48)) rfl rfl) (Eq.trans (b := (σ.1 49)) rfl rfl) (Eq.trans (b := (σ.2.1 50)) rfl rfl) (Eq.trans (b := (upd (σ.2.1 51) k0.toNatClampNeg (2 : Int32))) rfl rfl) (Eq.trans (b := (vp_updL (σ.2.2.1 52) k0.toNatClampNeg x13)) rfl rfl) (Eq.trans (b := (vp_updL (σ.2.2.1 53) k0.toNatClampNeg (0 : Int64))) rfl rfl) (Eq.trans (b := (vf_upd (σ.2.2.2) k0.toNatClampNeg FP.dconst0)) rfl rfl) (Eq.trans (b := (σ.1 55)) rfl rfl) (Eq.trans (b := (σ.1 56)) rfl rfl) (Eq.trans (b := (σ.1 57)) rfl rfl) (Eq.trans (b := (σ.2.1 58)) rfl rfl) (Eq.trans (b := (σ.1 59)) rfl rfl)
        exact r_retv C ⟨(upd (σ.2.1 51) k0.toNatClampNeg (2 : Int32)), (vp_updL (σ.2.2.1 52) k0.toNatClampNeg x13), (vp_updL (σ.2.2.1 53) k0.toNatClampNeg (0 : Int64)), (vf_upd (σ.2.2.2) k0.toNatClampNeg FP.dconst0), (σ.1 56)⟩ ⟨(v_ints_8 σ k0 k1 x1 x2 x3 x4 x12 x13 hpre_0 hpre_1 hpre_2 hpre_3 hpre_4 ex1 tx1 ex2 tx2 ex3 tx3 ex4 tx4 ex12 ex13 tx13), (v_ints_9 σ k0 k1 k2 x1 x2 x3 x4 x12 x13 hpre_0 hpre_1 hpre_2 hpre_3 hpre_4 hpre_5 hpre_6 ex1 tx1 ex2 tx2 ex3 tx3 ex4 tx4 c5 c6 c7 ex12 ex13 tx13)⟩ hP hS dX12_ints_108
    · have c6 : k2.toInt = 16 := by have h := z_eq c6; rw [show (16 : Int32).toInt = 16 from by decide +kernel] at h; exact h
      refine lv_iload hx hb dX12_ints_41 (lv_at hl 1 rfl) ?_
      refine lv_iload hx hb dX12_ints_43 (lv_at hl 0 rfl) ?_
      refine lv_iadd hx hb dX12_ints_45 ?_
      refine lv_topi (fun x15 ex15 => ?_)
      refine lv_goto (tgt := 96) hx hb dX12_ints_46 (by decide) ?_
      refine lv_istore (lv' := [(6, .int x15), (5, .int x4), (4, .int x2), (0, .ref (ad 0)), (1, .int k0), (2, .int k1), (3, .int k2)]) hx hb dX12_ints_96 hl (by decide) rfl (fun ls hl => ?_)
      refine lv_aload_n hx hb dX12_ints_98 rfl (lv_at hl 3 rfl) ?_
      refine lv_iload_n hx hb dX12_ints_99 rfl (lv_at hl 4 rfl) ?_
      refine lv_iconst (v := 2) hx hb dX12_ints_100 (by decide +kernel) ?_
      refine lv_iload hx hb dX12_ints_101 (lv_at hl 0 rfl) ?_
      refine lv_i2l hx hb dX12_ints_103 rfl ?_
      refine lv_topl (fun x16 ex16 => ?_)
      have tx16 : x16.toInt = x15.toInt := by rw [ex16]; exact Int32.toInt_toInt64 _
      refine lv_dconst0 hx hb dX12_ints_104 ?_
      refine r_callVv (As := [.int k0, .int 2, .long x16, .double FP.dconst0]) (rest := []) C hP hS hl.1 ⟨Nat.zero_le _, Nat.zero_le _⟩ (M_set l D cy sz0 sa ad σ s.heap.size k0 (2 : Int32) x16 FP.dconst0 (v_ints_10 σ k0 k1 x1 x2 x3 x4 x15 x16 hpre_0 hpre_1 hpre_2 hpre_3 ex1 tx1 ex2 tx2 ex3 tx3 ex4 ex15 ex16 tx16)) (n := 4) ⟨wm_213, wm_207, by decide +kernel⟩ ⟨wm_214, wm_215, wm_10⟩ rfl rfl (lv_room (Nat.le_of_ble_eq_true rfl)) ⟨Nat.le_of_ble_eq_true rfl, Nat.le_of_ble_eq_true rfl⟩ dX12_ints_105 (fun u H locs hr17 hP hS => ?_)
      have hr17 : True := hr17
      have hP : RP D cy ad (rR (rJ (rJ (rA σ 51 (upd (σ.2.1 51) k0.toNatClampNeg (2 : Int32))) 52 (vp_updL (σ.2.2.1 52) k0.toNatClampNeg x16)) 53 (vp_updL (σ.2.2.1 53) k0.toNatClampNeg (0 : Int64))) (vf_upd (σ.2.2.2) k0.toNatClampNeg FP.dconst0)) H := hP
      have hP : RP D cy ad (rS (rR (rJ (rJ (rA σ 51 (upd (σ.2.1 51) k0.toNatClampNeg (2 : Int32))) 52 (vp_updL (σ.2.2.1 52) k0.toNatClampNeg x16)) 53 (vp_updL (σ.2.2.1 53) k0.toNatClampNeg (0 : Int64))) (vf_upd (σ.2.2.2) k0.toNatClampNeg FP.dconst0)) 56 (σ.1 56)) H := RP.cong hP (Eq.trans (b := (σ.1 0)) rfl rfl) (Eq.trans (b := (σ.1 1)) rfl rfl) (Eq.trans (b := (σ.2.1 2)) rfl rfl) (Eq.trans (b := (σ.1 3)) rfl rfl) (Eq.trans (b := (σ.2.1 4)) rfl rfl) (Eq.trans (b := (σ.2.1 5)) rfl rfl) (Eq.trans (b := (σ.2.2.1 6)) rfl rfl) (Eq.trans (b := (σ.2.1 7)) rfl rfl) (Eq.trans (b := (σ.1 8)) rfl rfl) (Eq.trans (b := (σ.1 9)) rfl rfl) (Eq.trans (b := (σ.1 10)) rfl rfl) (Eq.trans (b := (σ.2.1 11)) rfl rfl) (Eq.trans (b := (σ.2.2.1 12)) rfl rfl) (Eq.trans (b := (σ.2.1 13)) rfl rfl) (Eq.trans (b := (σ.1 14)) rfl rfl) (Eq.trans (b := (σ.1 15)) rfl rfl) (Eq.trans (b := (σ.1 16)) rfl rfl) (Eq.trans (b := (σ.1 17)) rfl rfl) (Eq.trans (b := (σ.1 18)) rfl rfl) (Eq.trans (b := (σ.1 19)) rfl rfl) (Eq.trans (b := (σ.2.1 20)) rfl rfl) (Eq.trans (b := (σ.2.1 21)) rfl rfl) (Eq.trans (b := (σ.2.1 22)) rfl rfl) (Eq.trans (b := (σ.2.1 23)) rfl rfl) (Eq.trans (b := (σ.2.1 24)) rfl rfl) (Eq.trans (b := (σ.2.1 25)) rfl rfl) (Eq.trans (b := (σ.2.1 26)) rfl rfl) (Eq.trans (b := (σ.2.1 27)) rfl rfl) (Eq.trans (b := (σ.2.1 28)) rfl rfl) (Eq.trans (b := (σ.1 29)) rfl rfl) (Eq.trans (b := (σ.2.1 30)) rfl rfl) (Eq.trans (b := (σ.2.1 31)) rfl rfl) (Eq.trans (b := (σ.2.1 32)) rfl rfl) (Eq.trans (b := (σ.1 33)) rfl rfl) (Eq.trans (b := (σ.1 34)) rfl rfl) (Eq.trans (b := (σ.1 35)) rfl rfl) (Eq.trans (b := (σ.2.1 36)) rfl rfl) (Eq.trans (b := (σ.2.1 37)) rfl rfl) (Eq.trans (b := (σ.2.1 38)) rfl rfl) (Eq.trans (b := (σ.2.1 39)) rfl rfl) (Eq.trans (b := (σ.2.1 40)) rfl rfl) (Eq.trans (b := (σ.2.1 41)) rfl rfl) (Eq.trans (b := (σ.2.1 42)) rfl rfl) (Eq.trans (b := (σ.2.1 43)) rfl rfl) (Eq.trans (b := (σ.2.1 44)) rfl rfl) (Eq.trans (b := (σ.2.1 45)) rfl rfl) (Eq.trans (b := (σ.2.1 46)) rfl rfl) (Eq.trans (b := (σ.1 47)) rfl rfl) (Eq.trans (b := (σ.2.1 48)) rfl rfl) (Eq.trans (b := (σ.1 49)) rfl rfl) (Eq.trans (b := (σ.2.1 50)) rfl rfl) (Eq.trans (b := (upd (σ.2.1 51) k0.toNatClampNeg (2 : Int32))) rfl rfl) (Eq.trans (b := (vp_updL (σ.2.2.1 52) k0.toNatClampNeg x16)) rfl rfl) (Eq.trans (b := (vp_updL (σ.2.2.1 53) k0.toNatClampNeg (0 : Int64))) rfl rfl) (Eq.trans (b := (vf_upd (σ.2.2.2) k0.toNatClampNeg FP.dconst0)) rfl rfl) (Eq.trans (b := (σ.1 55)) rfl rfl) (Eq.trans (b := (σ.1 56)) rfl rfl) (Eq.trans (b := (σ.1 57)) rfl rfl) (Eq.trans (b := (σ.2.1 58)) rfl rfl) (Eq.trans (b := (σ.1 59)) rfl rfl)
      exact r_retv C ⟨(upd (σ.2.1 51) k0.toNatClampNeg (2 : Int32)), (vp_updL (σ.2.2.1 52) k0.toNatClampNeg x16), (vp_updL (σ.2.2.1 53) k0.toNatClampNeg (0 : Int64)), (vf_upd (σ.2.2.2) k0.toNatClampNeg FP.dconst0), (σ.1 56)⟩ ⟨(v_ints_11 σ k0 k1 x1 x2 x3 x4 x15 x16 hpre_0 hpre_1 hpre_2 hpre_3 hpre_4 ex1 tx1 ex2 tx2 ex3 tx3 ex4 tx4 ex15 ex16 tx16), (v_ints_12 σ k0 k1 k2 x1 x2 x3 x4 x15 x16 hpre_0 hpre_1 hpre_2 hpre_3 hpre_4 hpre_5 hpre_6 ex1 tx1 ex2 tx2 ex3 tx3 ex4 tx4 c5 c6 ex15 ex16 tx16)⟩ hP hS dX12_ints_108
  · have c5 : 19 ≤ k2.toInt := by have h := z_nlt c5; rw [show (19 : Int32).toInt = 19 from by decide +kernel] at h; exact h
    refine lv_iload hx hb dX12_ints_24 (lv_at hl 0 rfl) ?_
    refine lv_if_ne (tgt := 35) hx hb dX12_ints_26 (by decide) (fun c18 => ?_) (fun c18 => ?_)
    · have c18 : ¬ x4.toInt = 0 := by have h := z_ne c18; rw [show (0 : Int32).toInt = 0 from by decide +kernel] at h; exact h
      refine lv_iload_n hx hb dX12_ints_35 rfl (lv_at hl 5 rfl) ?_
      refine lv_bipush (v := 16) hx hb dX12_ints_36 (by decide +kernel) ?_
      refine lv_icmp_ne (tgt := 49) hx hb dX12_ints_38 (by decide) (fun c19 => ?_) (fun c19 => ?_)
      · have c19 : ¬ k2.toInt = 16 := by have h := z_ne c19; rw [show (16 : Int32).toInt = 16 from by decide +kernel] at h; exact h
        refine lv_iload_n hx hb dX12_ints_49 rfl (lv_at hl 5 rfl) ?_
        refine lv_bipush (v := 17) hx hb dX12_ints_50 (by decide +kernel) ?_
        refine lv_icmp_ne (tgt := 63) hx hb dX12_ints_52 (by decide) (fun c20 => ?_) (fun c20 => ?_)
        · have c20 : ¬ k2.toInt = 17 := by have h := z_ne c20; rw [show (17 : Int32).toInt = 17 from by decide +kernel] at h; exact h
          refine lv_iload_n hx hb dX12_ints_63 rfl (lv_at hl 5 rfl) ?_
          refine lv_bipush (v := 18) hx hb dX12_ints_64 (by decide +kernel) ?_
          refine lv_icmp_ne (tgt := 77) hx hb dX12_ints_66 (by decide) (fun c21 => ?_) (fun c21 => ?_)
          · have c21 : ¬ k2.toInt = 18 := by have h := z_ne c21; rw [show (18 : Int32).toInt = 18 from by decide +kernel] at h; exact h
            refine lv_iload_n hx hb dX12_ints_77 rfl (lv_at hl 5 rfl) ?_
            refine lv_bipush (v := 19) hx hb dX12_ints_78 (by decide +kernel) ?_
            refine lv_icmp_ne (tgt := 91) hx hb dX12_ints_80 (by decide) (fun c22 => ?_) (fun c22 => ?_)
            · have c22 : ¬ k2.toInt = 19 := by have h := z_ne c22; rw [show (19 : Int32).toInt = 19 from by decide +kernel] at h; exact h
              refine lv_iload hx hb dX12_ints_91 (lv_at hl 1 rfl) ?_
              refine lv_iload hx hb dX12_ints_93 (lv_at hl 0 rfl) ?_
              refine lv_irem hx hb dX12_ints_95 (v_ints_13 σ k0 k1 x1 x2 x3 x4 hpre_0 hpre_1 hpre_2 hpre_3 ex1 tx1 ex2 ex3 tx3 ex4 tx4 c18) ?_
              refine lv_topi (fun x23 ex23 => ?_)
              refine lv_istore (lv' := [(6, .int x23), (5, .int x4), (4, .int x2), (0, .ref (ad 0)), (1, .int k0), (2, .int k1), (3, .int k2)]) hx hb dX12_ints_96 hl (by decide) rfl (fun ls hl => ?_)
              refine lv_aload_n hx hb dX12_ints_98 rfl (lv_at hl 3 rfl) ?_
              refine lv_iload_n hx hb dX12_ints_99 rfl (lv_at hl 4 rfl) ?_
              refine lv_iconst (v := 2) hx hb dX12_ints_100 (by decide +kernel) ?_
              refine lv_iload hx hb dX12_ints_101 (lv_at hl 0 rfl) ?_
              refine lv_i2l hx hb dX12_ints_103 rfl ?_
              refine lv_topl (fun x24 ex24 => ?_)
              have tx24 : x24.toInt = x23.toInt := by rw [ex24]; exact Int32.toInt_toInt64 _
              refine lv_dconst0 hx hb dX12_ints_104 ?_
              refine r_callVv (As := [.int k0, .int 2, .long x24, .double FP.dconst0]) (rest := []) C hP hS hl.1 ⟨Nat.zero_le _, Nat.zero_le _⟩ (M_set l D cy sz0 sa ad σ s.heap.size k0 (2 : Int32) x24 FP.dconst0 (v_ints_14 σ k0 k1 x1 x2 x3 x4 x23 x24 hpre_0 hpre_1 hpre_2 hpre_3 ex1 tx1 ex2 tx2 ex3 tx3 ex4 c18 ex23 ex24 tx24)) (n := 4) ⟨wm_213, wm_207, by decide +kernel⟩ ⟨wm_214, wm_215, wm_10⟩ rfl rfl (lv_room (Nat.le_of_ble_eq_true rfl)) ⟨Nat.le_of_ble_eq_true rfl, Nat.le_of_ble_eq_true rfl⟩ dX12_ints_105 (fun u H locs hr25 hP hS => ?_)
              have hr25 : True := hr25
              have hP : RP D cy ad (rR (rJ (rJ (rA σ 51 (upd (σ.2.1 51) k0.toNatClampNeg (2 : Int32))) 52 (vp_updL (σ.2.2.1 52) k0.toNatClampNeg x24)) 53 (vp_updL (σ.2.2.1 53) k0.toNatClampNeg (0 : Int64))) (vf_upd (σ.2.2.2) k0.toNatClampNeg FP.dconst0)) H := hP
              have hP : RP D cy ad (rS (rR (rJ (rJ (rA σ 51 (upd (σ.2.1 51) k0.toNatClampNeg (2 : Int32))) 52 (vp_updL (σ.2.2.1 52) k0.toNatClampNeg x24)) 53 (vp_updL (σ.2.2.1 53) k0.toNatClampNeg (0 : Int64))) (vf_upd (σ.2.2.2) k0.toNatClampNeg FP.dconst0)) 56 (σ.1 56)) H := RP.cong hP (Eq.trans (b := (σ.1 0)) rfl rfl) (Eq.trans (b := (σ.1 1)) rfl rfl) (Eq.trans (b := (σ.2.1 2)) rfl rfl) (Eq.trans (b := (σ.1 3)) rfl rfl) (Eq.trans (b := (σ.2.1 4)) rfl rfl) (Eq.trans (b := (σ.2.1 5)) rfl rfl) (Eq.trans (b := (σ.2.2.1 6)) rfl rfl) (Eq.trans (b := (σ.2.1 7)) rfl rfl) (Eq.trans (b := (σ.1 8)) rfl rfl) (Eq.trans (b := (σ.1 9)) rfl rfl) (Eq.trans (b := (σ.1 10)) rfl rfl) (Eq.trans (b := (σ.2.1 11)) rfl rfl) (Eq.trans (b := (σ.2.2.1 12)) rfl rfl) (Eq.trans (b := (σ.2.1 13)) rfl rfl) (Eq.trans (b := (σ.1 14)) rfl rfl) (Eq.trans (b := (σ.1 15)) rfl rfl) (Eq.trans (b := (σ.1 16)) rfl rfl) (Eq.trans (b := (σ.1 17)) rfl rfl) (Eq.trans (b := (σ.1 18)) rfl rfl) (Eq.trans (b := (σ.1 19)) rfl rfl) (Eq.trans (b := (σ.2.1 20)) rfl rfl) (Eq.trans (b := (σ.2.1 21)) rfl rfl) (Eq.trans (b := (σ.2.1 22)) rfl rfl) (Eq.trans (b := (σ.2.1 23)) rfl rfl) (Eq.trans (b := (σ.2.1 24)) rfl rfl) (Eq.trans (b := (σ.2.1 25)) rfl rfl) (Eq.trans (b := (σ.2.1 26)) rfl rfl) (Eq.trans (b := (σ.2.1 27)) rfl rfl) (Eq.trans (b := (σ.2.1 28)) rfl rfl) (Eq.trans (b := (σ.1 29)) rfl rfl) (Eq.trans (b := (σ.2.1 30)) rfl rfl) (Eq.trans (b := (σ.2.1 31)) rfl rfl) (Eq.trans (b := (σ.2.1 32)) rfl rfl) (Eq.trans (b := (σ.1 33)) rfl rfl) (Eq.trans (b := (σ.1 34)) rfl rfl) (Eq.trans (b := (σ.1 35)) rfl rfl) (Eq.trans (b := (σ.2.1 36)) rfl rfl) (Eq.trans (b := (σ.2.1 37)) rfl rfl) (Eq.trans (b := (σ.2.1 38)) rfl rfl) (Eq.trans (b := (σ.2.1 39)) rfl rfl) (Eq.trans (b := (σ.2.1 40)) rfl rfl) (Eq.trans (b := (σ.2.1 41)) rfl rfl) (Eq.trans (b := (σ.2.1 42)) rfl rfl) (Eq.trans (b := (σ.2.1 43)) rfl rfl) (Eq.trans (b := (σ.2.1 44)) rfl rfl) (Eq.trans (b := (σ.2.1 45)) rfl rfl) (Eq.trans (b := (σ.2.1 46)) rfl rfl) (Eq.trans (b := (σ.1 47)) rfl rfl) (Eq.trans (b := (σ.2.1 48)) rfl rfl) (Eq.trans (b := (σ.1 49)) rfl rfl) (Eq.trans (b := (σ.2.1 50)) rfl rfl) (Eq.trans (b := (upd (σ.2.1 51) k0.toNatClampNeg (2 : Int32))) rfl rfl) (Eq.trans (b := (vp_updL (σ.2.2.1 52) k0.toNatClampNeg x24)) rfl rfl) (Eq.trans (b := (vp_updL (σ.2.2.1 53) k0.toNatClampNeg (0 : Int64))) rfl rfl) (Eq.trans (b := (vf_upd (σ.2.2.2) k0.toNatClampNeg FP.dconst0)) rfl rfl) (Eq.trans (b := (σ.1 55)) rfl rfl) (Eq.trans (b := (σ.1 56)) rfl rfl) (Eq.trans (b := (σ.1 57)) rfl rfl) (Eq.trans (b := (σ.2.1 58)) rfl rfl) (Eq.trans (b := (σ.1 59)) rfl rfl)
              exact r_retv C ⟨(upd (σ.2.1 51) k0.toNatClampNeg (2 : Int32)), (vp_updL (σ.2.2.1 52) k0.toNatClampNeg x24), (vp_updL (σ.2.2.1 53) k0.toNatClampNeg (0 : Int64)), (vf_upd (σ.2.2.2) k0.toNatClampNeg FP.dconst0), (σ.1 56)⟩ ⟨(v_ints_15 σ k0 k1 x1 x2 x3 x4 x23 x24 hpre_0 hpre_1 hpre_2 hpre_3 hpre_4 ex1 tx1 ex2 tx2 ex3 tx3 ex4 tx4 c18 ex23 ex24 tx24), (v_ints_16 σ k0 k1 k2 x1 x2 x3 x4 x23 x24 hpre_0 hpre_1 hpre_2 hpre_3 hpre_4 hpre_5 hpre_6 ex1 tx1 ex2 tx2 ex3 tx3 ex4 tx4 c5 c18 c19 c20 c21 c22 ex23 ex24 tx24)⟩ hP hS dX12_ints_108
            · have c22 : k2.toInt = 19 := by have h := z_eq c22; rw [show (19 : Int32).toInt = 19 from by decide +kernel] at h; exact h
              refine lv_iload hx hb dX12_ints_83 (lv_at hl 1 rfl) ?_
              refine lv_iload hx hb dX12_ints_85 (lv_at hl 0 rfl) ?_
              refine lv_idiv hx hb dX12_ints_87 (v_ints_13 σ k0 k1 x1 x2 x3 x4 hpre_0 hpre_1 hpre_2 hpre_3 ex1 tx1 ex2 ex3 tx3 ex4 tx4 c18) ?_
              refine lv_topi (fun x26 ex26 => ?_)
              refine lv_goto (tgt := 96) hx hb dX12_ints_88 (by decide) ?_
              refine lv_istore (lv' := [(6, .int x26), (5, .int x4), (4, .int x2), (0, .ref (ad 0)), (1, .int k0), (2, .int k1), (3, .int k2)]) hx hb dX12_ints_96 hl (by decide) rfl (fun ls hl => ?_)
              refine lv_aload_n hx hb dX12_ints_98 rfl (lv_at hl 3 rfl) ?_
              refine lv_iload_n hx hb dX12_ints_99 rfl (lv_at hl 4 rfl) ?_
              refine lv_iconst (v := 2) hx hb dX12_ints_100 (by decide +kernel) ?_
              refine lv_iload hx hb dX12_ints_101 (lv_at hl 0 rfl) ?_
              refine lv_i2l hx hb dX12_ints_103 rfl ?_
              refine lv_topl (fun x27 ex27 => ?_)
              have tx27 : x27.toInt = x26.toInt := by rw [ex27]; exact Int32.toInt_toInt64 _
              refine lv_dconst0 hx hb dX12_ints_104 ?_
              refine r_callVv (As := [.int k0, .int 2, .long x27, .double FP.dconst0]) (rest := []) C hP hS hl.1 ⟨Nat.zero_le _, Nat.zero_le _⟩ (M_set l D cy sz0 sa ad σ s.heap.size k0 (2 : Int32) x27 FP.dconst0 (v_ints_17 σ k0 k1 x1 x2 x3 x4 x26 x27 hpre_0 hpre_1 hpre_2 hpre_3 ex1 tx1 ex2 tx2 ex3 tx3 ex4 c18 ex26 ex27 tx27)) (n := 4) ⟨wm_213, wm_207, by decide +kernel⟩ ⟨wm_214, wm_215, wm_10⟩ rfl rfl (lv_room (Nat.le_of_ble_eq_true rfl)) ⟨Nat.le_of_ble_eq_true rfl, Nat.le_of_ble_eq_true rfl⟩ dX12_ints_105 (fun u H locs hr28 hP hS => ?_)
              have hr28 : True := hr28
              have hP : RP D cy ad (rR (rJ (rJ (rA σ 51 (upd (σ.2.1 51) k0.toNatClampNeg (2 : Int32))) 52 (vp_updL (σ.2.2.1 52) k0.toNatClampNeg x27)) 53 (vp_updL (σ.2.2.1 53) k0.toNatClampNeg (0 : Int64))) (vf_upd (σ.2.2.2) k0.toNatClampNeg FP.dconst0)) H := hP
              have hP : RP D cy ad (rS (rR (rJ (rJ (rA σ 51 (upd (σ.2.1 51) k0.toNatClampNeg (2 : Int32))) 52 (vp_updL (σ.2.2.1 52) k0.toNatClampNeg x27)) 53 (vp_updL (σ.2.2.1 53) k0.toNatClampNeg (0 : Int64))) (vf_upd (σ.2.2.2) k0.toNatClampNeg FP.dconst0)) 56 (σ.1 56)) H := RP.cong hP (Eq.trans (b := (σ.1 0)) rfl rfl) (Eq.trans (b := (σ.1 1)) rfl rfl) (Eq.trans (b := (σ.2.1 2)) rfl rfl) (Eq.trans (b := (σ.1 3)) rfl rfl) (Eq.trans (b := (σ.2.1 4)) rfl rfl) (Eq.trans (b := (σ.2.1 5)) rfl rfl) (Eq.trans (b := (σ.2.2.1 6)) rfl rfl) (Eq.trans (b := (σ.2.1 7)) rfl rfl) (Eq.trans (b := (σ.1 8)) rfl rfl) (Eq.trans (b := (σ.1 9)) rfl rfl) (Eq.trans (b := (σ.1 10)) rfl rfl) (Eq.trans (b := (σ.2.1 11)) rfl rfl) (Eq.trans (b := (σ.2.2.1 12)) rfl rfl) (Eq.trans (b := (σ.2.1 13)) rfl rfl) (Eq.trans (b := (σ.1 14)) rfl rfl) (Eq.trans (b := (σ.1 15)) rfl rfl) (Eq.trans (b := (σ.1 16)) rfl rfl) (Eq.trans (b := (σ.1 17)) rfl rfl) (Eq.trans (b := (σ.1 18)) rfl rfl) (Eq.trans (b := (σ.1 19)) rfl rfl) (Eq.trans (b := (σ.2.1 20)) rfl rfl) (Eq.trans (b := (σ.2.1 21)) rfl rfl) (Eq.trans (b := (σ.2.1 22)) rfl rfl) (Eq.trans (b := (σ.2.1 23)) rfl rfl) (Eq.trans (b := (σ.2.1 24)) rfl rfl) (Eq.trans (b := (σ.2.1 25)) rfl rfl) (Eq.trans (b := (σ.2.1 26)) rfl rfl) (Eq.trans (b := (σ.2.1 27)) rfl rfl) (Eq.trans (b := (σ.2.1 28)) rfl rfl) (Eq.trans (b := (σ.1 29)) rfl rfl) (Eq.trans (b := (σ.2.1 30)) rfl rfl) (Eq.trans (b := (σ.2.1 31)) rfl rfl) (Eq.trans (b := (σ.2.1 32)) rfl rfl) (Eq.trans (b := (σ.1 33)) rfl rfl) (Eq.trans (b := (σ.1 34)) rfl rfl) (Eq.trans (b := (σ.1 35)) rfl rfl) (Eq.trans (b := (σ.2.1 36)) rfl rfl) (Eq.trans (b := (σ.2.1 37)) rfl rfl) (Eq.trans (b := (σ.2.1 38)) rfl rfl) (Eq.trans (b := (σ.2.1 39)) rfl rfl) (Eq.trans (b := (σ.2.1 40)) rfl rfl) (Eq.trans (b := (σ.2.1 41)) rfl rfl) (Eq.trans (b := (σ.2.1 42)) rfl rfl) (Eq.trans (b := (σ.2.1 43)) rfl rfl) (Eq.trans (b := (σ.2.1 44)) rfl rfl) (Eq.trans (b := (σ.2.1 45)) rfl rfl) (Eq.trans (b := (σ.2.1 46)) rfl rfl) (Eq.trans (b := (σ.1 47)) rfl rfl) (Eq.trans (b := (σ.2.1 48)) rfl rfl) (Eq.trans (b := (σ.1 49)) rfl rfl) (Eq.trans (b := (σ.2.1 50)) rfl rfl) (Eq.trans (b := (upd (σ.2.1 51) k0.toNatClampNeg (2 : Int32))) rfl rfl) (Eq.trans (b := (vp_updL (σ.2.2.1 52) k0.toNatClampNeg x27)) rfl rfl) (Eq.trans (b := (vp_updL (σ.2.2.1 53) k0.toNatClampNeg (0 : Int64))) rfl rfl) (Eq.trans (b := (vf_upd (σ.2.2.2) k0.toNatClampNeg FP.dconst0)) rfl rfl) (Eq.trans (b := (σ.1 55)) rfl rfl) (Eq.trans (b := (σ.1 56)) rfl rfl) (Eq.trans (b := (σ.1 57)) rfl rfl) (Eq.trans (b := (σ.2.1 58)) rfl rfl) (Eq.trans (b := (σ.1 59)) rfl rfl)
              exact r_retv C ⟨(upd (σ.2.1 51) k0.toNatClampNeg (2 : Int32)), (vp_updL (σ.2.2.1 52) k0.toNatClampNeg x27), (vp_updL (σ.2.2.1 53) k0.toNatClampNeg (0 : Int64)), (vf_upd (σ.2.2.2) k0.toNatClampNeg FP.dconst0), (σ.1 56)⟩ ⟨(v_ints_18 σ k0 k1 x1 x2 x3 x4 x26 x27 hpre_0 hpre_1 hpre_2 hpre_3 hpre_4 ex1 tx1 ex2 tx2 ex3 tx3 ex4 tx4 c18 ex26 ex27 tx27), (v_ints_19 σ k0 k1 k2 x1 x2 x3 x4 x26 x27 hpre_0 hpre_1 hpre_2 hpre_3 hpre_4 hpre_5 hpre_6 ex1 tx1 ex2 tx2 ex3 tx3 ex4 tx4 c5 c18 c19 c20 c21 c22 ex26 ex27 tx27)⟩ hP hS dX12_ints_108
          · have c21 : k2.toInt = 18 := by have h := z_eq c21; rw [show (18 : Int32).toInt = 18 from by decide +kernel] at h; exact h
            exact absurd (v_ints_20 k2 hpre_5 hpre_6 c5 c19 c20 c21) id
        · have c20 : k2.toInt = 17 := by have h := z_eq c20; rw [show (17 : Int32).toInt = 17 from by decide +kernel] at h; exact h
          exact absurd (v_ints_21 k2 hpre_5 hpre_6 c5 c19 c20) id
      · have c19 : k2.toInt = 16 := by have h := z_eq c19; rw [show (16 : Int32).toInt = 16 from by decide +kernel] at h; exact h
        exact absurd (v_ints_22 k2 hpre_5 hpre_6 c5 c19) id
    · have c18 : x4.toInt = 0 := by have h := z_eq c18; rw [show (0 : Int32).toInt = 0 from by decide +kernel] at h; exact h
      refine lv_aload_n hx hb dX12_ints_29 rfl (lv_at hl 2 rfl) ?_
      refine lv_iconst (v := 2) hx hb dX12_ints_30 (by decide +kernel) ?_
      refine rp_56 C hP hS wm_242 dX12_ints_31 (fun H locs hP hS => ?_)
      have hP : RP D cy ad (rS (rR (rJ (rJ (rA σ 51 (σ.2.1 51)) 52 (σ.2.2.1 52)) 53 (σ.2.2.1 53)) (σ.2.2.2)) 56 (2 : Int32)) H := RP.cong hP (Eq.trans (b := (σ.1 0)) rfl rfl) (Eq.trans (b := (σ.1 1)) rfl rfl) (Eq.trans (b := (σ.2.1 2)) rfl rfl) (Eq.trans (b := (σ.1 3)) rfl rfl) (Eq.trans (b := (σ.2.1 4)) rfl rfl) (Eq.trans (b := (σ.2.1 5)) rfl rfl) (Eq.trans (b := (σ.2.2.1 6)) rfl rfl) (Eq.trans (b := (σ.2.1 7)) rfl rfl) (Eq.trans (b := (σ.1 8)) rfl rfl) (Eq.trans (b := (σ.1 9)) rfl rfl) (Eq.trans (b := (σ.1 10)) rfl rfl) (Eq.trans (b := (σ.2.1 11)) rfl rfl) (Eq.trans (b := (σ.2.2.1 12)) rfl rfl) (Eq.trans (b := (σ.2.1 13)) rfl rfl) (Eq.trans (b := (σ.1 14)) rfl rfl) (Eq.trans (b := (σ.1 15)) rfl rfl) (Eq.trans (b := (σ.1 16)) rfl rfl) (Eq.trans (b := (σ.1 17)) rfl rfl) (Eq.trans (b := (σ.1 18)) rfl rfl) (Eq.trans (b := (σ.1 19)) rfl rfl) (Eq.trans (b := (σ.2.1 20)) rfl rfl) (Eq.trans (b := (σ.2.1 21)) rfl rfl) (Eq.trans (b := (σ.2.1 22)) rfl rfl) (Eq.trans (b := (σ.2.1 23)) rfl rfl) (Eq.trans (b := (σ.2.1 24)) rfl rfl) (Eq.trans (b := (σ.2.1 25)) rfl rfl) (Eq.trans (b := (σ.2.1 26)) rfl rfl) (Eq.trans (b := (σ.2.1 27)) rfl rfl) (Eq.trans (b := (σ.2.1 28)) rfl rfl) (Eq.trans (b := (σ.1 29)) rfl rfl) (Eq.trans (b := (σ.2.1 30)) rfl rfl) (Eq.trans (b := (σ.2.1 31)) rfl rfl) (Eq.trans (b := (σ.2.1 32)) rfl rfl) (Eq.trans (b := (σ.1 33)) rfl rfl) (Eq.trans (b := (σ.1 34)) rfl rfl) (Eq.trans (b := (σ.1 35)) rfl rfl) (Eq.trans (b := (σ.2.1 36)) rfl rfl) (Eq.trans (b := (σ.2.1 37)) rfl rfl) (Eq.trans (b := (σ.2.1 38)) rfl rfl) (Eq.trans (b := (σ.2.1 39)) rfl rfl) (Eq.trans (b := (σ.2.1 40)) rfl rfl) (Eq.trans (b := (σ.2.1 41)) rfl rfl) (Eq.trans (b := (σ.2.1 42)) rfl rfl) (Eq.trans (b := (σ.2.1 43)) rfl rfl) (Eq.trans (b := (σ.2.1 44)) rfl rfl) (Eq.trans (b := (σ.2.1 45)) rfl rfl) (Eq.trans (b := (σ.2.1 46)) rfl rfl) (Eq.trans (b := (σ.1 47)) rfl rfl) (Eq.trans (b := (σ.2.1 48)) rfl rfl) (Eq.trans (b := (σ.1 49)) rfl rfl) (Eq.trans (b := (σ.2.1 50)) rfl rfl) (Eq.trans (b := (σ.2.1 51)) rfl rfl) (Eq.trans (b := (σ.2.2.1 52)) rfl rfl) (Eq.trans (b := (σ.2.2.1 53)) rfl rfl) (Eq.trans (b := (σ.2.2.2)) rfl rfl) (Eq.trans (b := (σ.1 55)) rfl rfl) (Eq.trans (b := (2 : Int32)) rfl rfl) (Eq.trans (b := (σ.1 57)) rfl rfl) (Eq.trans (b := (σ.2.1 58)) rfl rfl) (Eq.trans (b := (σ.1 59)) rfl rfl)
      exact r_retv C ⟨(σ.2.1 51), (σ.2.2.1 52), (σ.2.2.1 53), (σ.2.2.2), (2 : Int32)⟩ ⟨(v_ints_23 σ k0 k1 x1 x2 x3 x4 hpre_0 hpre_1 hpre_2 hpre_3 ex1 tx1 ex2 tx2 ex3 tx3 ex4 tx4 c18), (v_ints_24 σ k0 k1 k2 x1 x2 x3 x4 hpre_0 hpre_1 hpre_2 hpre_3 hpre_4 hpre_5 hpre_6 ex1 tx1 ex2 tx2 ex3 tx3 ex4 tx4 c5 c18)⟩ hP hS dX12_ints_34
