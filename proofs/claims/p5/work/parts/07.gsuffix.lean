-- in@8 @8
theorem v_binary_1 (σ : RS) (hpre_0 : TKI (σ.2.1 4) (σ.2.2.1 6) (σ.2.1 7) (σ.1 3) (σ.1 14)) (hpre_1 : 0 ≤ (σ.1 15).toInt) (hpre_2 : (σ.1 15).toInt ≤ 3510) (hpre_4 : PQ1 1 0 (σ.1 14) (σ.1 15) (σ.1 16) (σ.1 19) (σ.1 29) (σ.2.1 11) (σ.2.2.1 12) (σ.2.1 31) (σ.2.1 30) (σ.2.1 32) (σ.2.1 21) (σ.2.1 22) (σ.2.1 20) (σ.2.1 23) (σ.2.1 24) (σ.2.1 25) (σ.2.1 27) (σ.1 33) (σ.1 34) (σ.2.1 28)) (hpre_5 : ((σ.2.1 4) (σ.1 14).toNatClampNeg).toInt = 5) : vp_in (σ.1 14) 42 := by
  have bb_hpre_0 := hpre_0.b
  have bb_hpre_4 := hpre_4.z.b
  have kk_hpre_0 := hpre_0.in
  exact vp_in_iff.mpr ⟨by omega, by omega⟩
-- nw@17 @17
theorem v_binary_2 (σ : RS) (x1 : Int64) (x2 : Int32) (x3 : Int32) (hpre_0 : TKI (σ.2.1 4) (σ.2.2.1 6) (σ.2.1 7) (σ.1 3) (σ.1 14)) (hpre_1 : 0 ≤ (σ.1 15).toInt) (hpre_2 : (σ.1 15).toInt ≤ 3510) (hpre_4 : PQ1 1 0 (σ.1 14) (σ.1 15) (σ.1 16) (σ.1 19) (σ.1 29) (σ.2.1 11) (σ.2.2.1 12) (σ.2.1 31) (σ.2.1 30) (σ.2.1 32) (σ.2.1 21) (σ.2.1 22) (σ.2.1 20) (σ.2.1 23) (σ.2.1 24) (σ.2.1 25) (σ.2.1 27) (σ.1 33) (σ.1 34) (σ.2.1 28)) (hpre_5 : ((σ.2.1 4) (σ.1 14).toNatClampNeg).toInt = 5) (ex1 : x1 = (σ.2.2.1 6) (σ.1 14).toNatClampNeg) (tx1 : x1.toInt = ((σ.2.2.1 6) (σ.1 14).toNatClampNeg).toInt) (ex2 : x2 = Int64.toInt32 x1) (tx2 : -2147483648 ≤ x1.toInt → x1.toInt < 2147483648 → x2.toInt = x1.toInt) (ex3 : x3 = (σ.1 14) + (1 : Int32)) : x3.toInt = (σ.1 14).toInt + 1 := by
  have q1 : (1 : Int32).toInt = 1 := by decide +kernel
  have bb_hpre_0 := hpre_0.b
  have bb_hpre_4 := hpre_4.z.b
  have kk_hpre_0 := hpre_0.in
  have w1 : (1 : Int32).toInt = 1 := by decide +kernel
  rw [ex3, z_add (by omega) (by omega)]; first | done | omega
-- nw@30 @30
theorem v_binary_3 (σ : RS) (x1 : Int64) (x2 : Int32) (x3 : Int32) (x4 : Int32) (hpre_0 : TKI (σ.2.1 4) (σ.2.2.1 6) (σ.2.1 7) (σ.1 3) (σ.1 14)) (hpre_1 : 0 ≤ (σ.1 15).toInt) (hpre_2 : (σ.1 15).toInt ≤ 3510) (hpre_4 : PQ1 1 0 (σ.1 14) (σ.1 15) (σ.1 16) (σ.1 19) (σ.1 29) (σ.2.1 11) (σ.2.2.1 12) (σ.2.1 31) (σ.2.1 30) (σ.2.1 32) (σ.2.1 21) (σ.2.1 22) (σ.2.1 20) (σ.2.1 23) (σ.2.1 24) (σ.2.1 25) (σ.2.1 27) (σ.1 33) (σ.1 34) (σ.2.1 28)) (hpre_5 : ((σ.2.1 4) (σ.1 14).toNatClampNeg).toInt = 5) (ex1 : x1 = (σ.2.2.1 6) (σ.1 14).toNatClampNeg) (tx1 : x1.toInt = ((σ.2.2.1 6) (σ.1 14).toNatClampNeg).toInt) (ex2 : x2 = Int64.toInt32 x1) (ex3 : x3 = (σ.1 14) + (1 : Int32)) (tx3 : x3.toInt = (σ.1 14).toInt + 1) (ex4 : x4 = (σ.1 19) - (1 : Int32)) : x4.toInt = (σ.1 19).toInt - 1 := by
  have q1 : (1 : Int32).toInt = 1 := by decide +kernel
  have bb_hpre_0 := hpre_0.b
  have bb_hpre_4 := hpre_4.z.b
  have kk_hpre_0 := hpre_0.in
  have w1 : (1 : Int32).toInt = 1 := by decide +kernel
  rw [ex4, z_sub (by omega) (by omega)]; first | done | omega
-- in@32 @32
theorem v_binary_4 (σ : RS) (x1 : Int64) (x2 : Int32) (x3 : Int32) (x4 : Int32) (hpre_0 : TKI (σ.2.1 4) (σ.2.2.1 6) (σ.2.1 7) (σ.1 3) (σ.1 14)) (hpre_1 : 0 ≤ (σ.1 15).toInt) (hpre_2 : (σ.1 15).toInt ≤ 3510) (hpre_4 : PQ1 1 0 (σ.1 14) (σ.1 15) (σ.1 16) (σ.1 19) (σ.1 29) (σ.2.1 11) (σ.2.2.1 12) (σ.2.1 31) (σ.2.1 30) (σ.2.1 32) (σ.2.1 21) (σ.2.1 22) (σ.2.1 20) (σ.2.1 23) (σ.2.1 24) (σ.2.1 25) (σ.2.1 27) (σ.1 33) (σ.1 34) (σ.2.1 28)) (hpre_5 : ((σ.2.1 4) (σ.1 14).toNatClampNeg).toInt = 5) (ex1 : x1 = (σ.2.2.1 6) (σ.1 14).toNatClampNeg) (tx1 : x1.toInt = ((σ.2.2.1 6) (σ.1 14).toNatClampNeg).toInt) (ex2 : x2 = Int64.toInt32 x1) (ex3 : x3 = (σ.1 14) + (1 : Int32)) (tx3 : x3.toInt = (σ.1 14).toInt + 1) (ex4 : x4 = (σ.1 19) - (1 : Int32)) (tx4 : x4.toInt = (σ.1 19).toInt - 1) : vp_in x4 8 := by
  have q1 : (1 : Int32).toInt = 1 := by decide +kernel
  have bb_hpre_0 := hpre_0.b
  have bb_hpre_4 := hpre_4.z.b
  have kk_hpre_0 := hpre_0.in
  exact vp_in_iff.mpr ⟨by omega, by omega⟩
-- bool@32 @32
theorem v_binary_5   : (0 : Int32) = 0 ∨ (0 : Int32) = 1 := by
  have q0 : (0 : Int32).toInt = 0 := by decide +kernel
  first | exact Or.inl rfl | exact Or.inr rfl | exact bool_of (by omega)
-- in@42 @42
theorem v_binary_6 (σ : RS) (x1 : Int64) (x2 : Int32) (x3 : Int32) (x4 : Int32) (hpre_0 : TKI (σ.2.1 4) (σ.2.2.1 6) (σ.2.1 7) (σ.1 3) (σ.1 14)) (hpre_1 : 0 ≤ (σ.1 15).toInt) (hpre_2 : (σ.1 15).toInt ≤ 3510) (hpre_4 : PQ1 1 0 (σ.1 14) (σ.1 15) (σ.1 16) (σ.1 19) (σ.1 29) (σ.2.1 11) (σ.2.2.1 12) (σ.2.1 31) (σ.2.1 30) (σ.2.1 32) (σ.2.1 21) (σ.2.1 22) (σ.2.1 20) (σ.2.1 23) (σ.2.1 24) (σ.2.1 25) (σ.2.1 27) (σ.1 33) (σ.1 34) (σ.2.1 28)) (hpre_5 : ((σ.2.1 4) (σ.1 14).toNatClampNeg).toInt = 5) (ex1 : x1 = (σ.2.2.1 6) (σ.1 14).toNatClampNeg) (tx1 : x1.toInt = ((σ.2.2.1 6) (σ.1 14).toNatClampNeg).toInt) (ex2 : x2 = Int64.toInt32 x1) (ex3 : x3 = (σ.1 14) + (1 : Int32)) (tx3 : x3.toInt = (σ.1 14).toInt + 1) (ex4 : x4 = (σ.1 19) - (1 : Int32)) (tx4 : x4.toInt = (σ.1 19).toInt - 1) : vp_in (σ.1 29) 48 := by
  have q1 : (1 : Int32).toInt = 1 := by decide +kernel
  have bb_hpre_0 := hpre_0.b
  have bb_hpre_4 := hpre_4.z.b
  have kk_hpre_0 := hpre_0.in
  exact vp_in_iff.mpr ⟨by omega, by omega⟩
-- pre:emit@96 @96
theorem v_binary_7 (σ : RS) (x1 : Int64) (x2 : Int32) (x3 : Int32) (x4 : Int32) (hpre_0 : TKI (σ.2.1 4) (σ.2.2.1 6) (σ.2.1 7) (σ.1 3) (σ.1 14)) (hpre_1 : 0 ≤ (σ.1 15).toInt) (hpre_2 : (σ.1 15).toInt ≤ 3510) (hpre_4 : PQ1 1 0 (σ.1 14) (σ.1 15) (σ.1 16) (σ.1 19) (σ.1 29) (σ.2.1 11) (σ.2.2.1 12) (σ.2.1 31) (σ.2.1 30) (σ.2.1 32) (σ.2.1 21) (σ.2.1 22) (σ.2.1 20) (σ.2.1 23) (σ.2.1 24) (σ.2.1 25) (σ.2.1 27) (σ.1 33) (σ.1 34) (σ.2.1 28)) (hpre_5 : ((σ.2.1 4) (σ.1 14).toNatClampNeg).toInt = 5) (ex1 : x1 = (σ.2.2.1 6) (σ.1 14).toNatClampNeg) (tx1 : x1.toInt = ((σ.2.2.1 6) (σ.1 14).toNatClampNeg).toInt) (ex2 : x2 = Int64.toInt32 x1) (ex3 : x3 = (σ.1 14) + (1 : Int32)) (tx3 : x3.toInt = (σ.1 14).toInt + 1) (ex4 : x4 = (σ.1 19) - (1 : Int32)) (tx4 : x4.toInt = (σ.1 19).toInt - 1) : 0 ≤ (σ.1 15).toInt ∧ 0 ≤ (σ.1 16).toInt ∧ (σ.1 15).toInt + (σ.1 16).toInt < 3600 := by
  have q1 : (1 : Int32).toInt = 1 := by decide +kernel
  have bb_hpre_0 := hpre_0.b
  have bb_hpre_4 := hpre_4.z.b
  have kk_hpre_0 := hpre_0.in
  refine ⟨?_, ?_, ?_⟩ <;> first | assumption | omega | (subst_vars; omega) | trivial
-- in@99 @99
theorem v_binary_8 (σ : RS) (x1 : Int64) (x2 : Int32) (x3 : Int32) (x4 : Int32) (n9 : Int32) (r8 : Int32) (hpre_0 : TKI (σ.2.1 4) (σ.2.2.1 6) (σ.2.1 7) (σ.1 3) (σ.1 14)) (hpre_1 : 0 ≤ (σ.1 15).toInt) (hpre_2 : (σ.1 15).toInt ≤ 3510) (hpre_4 : PQ1 1 0 (σ.1 14) (σ.1 15) (σ.1 16) (σ.1 19) (σ.1 29) (σ.2.1 11) (σ.2.2.1 12) (σ.2.1 31) (σ.2.1 30) (σ.2.1 32) (σ.2.1 21) (σ.2.1 22) (σ.2.1 20) (σ.2.1 23) (σ.2.1 24) (σ.2.1 25) (σ.2.1 27) (σ.1 33) (σ.1 34) (σ.2.1 28)) (hpre_5 : ((σ.2.1 4) (σ.1 14).toNatClampNeg).toInt = 5) (ex1 : x1 = (σ.2.2.1 6) (σ.1 14).toNatClampNeg) (tx1 : x1.toInt = ((σ.2.2.1 6) (σ.1 14).toNatClampNeg).toInt) (ex2 : x2 = Int64.toInt32 x1) (ex3 : x3 = (σ.1 14) + (1 : Int32)) (tx3 : x3.toInt = (σ.1 14).toInt + 1) (ex4 : x4 = (σ.1 19) - (1 : Int32)) (tx4 : x4.toInt = (σ.1 19).toInt - 1) (hr8_0 : n9.toInt = (σ.1 16).toInt + 1) (hr8_1 : r8.toInt = (σ.1 15).toInt + (σ.1 16).toInt) : vp_in (σ.1 29) 48 := by
  have q1 : (1 : Int32).toInt = 1 := by decide +kernel
  have bb_hpre_0 := hpre_0.b
  have bb_hpre_4 := hpre_4.z.b
  have kk_hpre_0 := hpre_0.in
  exact vp_in_iff.mpr ⟨by omega, by omega⟩
-- nw@106 @106
theorem v_binary_9 (σ : RS) (x1 : Int64) (x2 : Int32) (x3 : Int32) (x4 : Int32) (n9 : Int32) (r8 : Int32) (x10 : Int32) (hpre_0 : TKI (σ.2.1 4) (σ.2.2.1 6) (σ.2.1 7) (σ.1 3) (σ.1 14)) (hpre_1 : 0 ≤ (σ.1 15).toInt) (hpre_2 : (σ.1 15).toInt ≤ 3510) (hpre_4 : PQ1 1 0 (σ.1 14) (σ.1 15) (σ.1 16) (σ.1 19) (σ.1 29) (σ.2.1 11) (σ.2.2.1 12) (σ.2.1 31) (σ.2.1 30) (σ.2.1 32) (σ.2.1 21) (σ.2.1 22) (σ.2.1 20) (σ.2.1 23) (σ.2.1 24) (σ.2.1 25) (σ.2.1 27) (σ.1 33) (σ.1 34) (σ.2.1 28)) (hpre_5 : ((σ.2.1 4) (σ.1 14).toNatClampNeg).toInt = 5) (ex1 : x1 = (σ.2.2.1 6) (σ.1 14).toNatClampNeg) (tx1 : x1.toInt = ((σ.2.2.1 6) (σ.1 14).toNatClampNeg).toInt) (ex2 : x2 = Int64.toInt32 x1) (ex3 : x3 = (σ.1 14) + (1 : Int32)) (tx3 : x3.toInt = (σ.1 14).toInt + 1) (ex4 : x4 = (σ.1 19) - (1 : Int32)) (tx4 : x4.toInt = (σ.1 19).toInt - 1) (hr8_0 : n9.toInt = (σ.1 16).toInt + 1) (hr8_1 : r8.toInt = (σ.1 15).toInt + (σ.1 16).toInt) (ex10 : x10 = (σ.1 29) + (1 : Int32)) : x10.toInt = (σ.1 29).toInt + 1 := by
  have q1 : (1 : Int32).toInt = 1 := by decide +kernel
  have bb_hpre_0 := hpre_0.b
  have bb_hpre_4 := hpre_4.z.b
  have kk_hpre_0 := hpre_0.in
  have w1 : (1 : Int32).toInt = 1 := by decide +kernel
  rw [ex10, z_add (by omega) (by omega)]; first | done | omega
-- bool@112 @112
theorem v_binary_10   : (1 : Int32) = 0 ∨ (1 : Int32) = 1 := by
  have q1 : (1 : Int32).toInt = 1 := by decide +kernel
  first | exact Or.inl rfl | exact Or.inr rfl | exact bool_of (by omega)
-- post @115
theorem v_binary_11 (σ : RS) (k0 : Int32) (x1 : Int64) (x2 : Int32) (x3 : Int32) (x4 : Int32) (n9 : Int32) (r8 : Int32) (x10 : Int32) (hpre_0 : TKI (σ.2.1 4) (σ.2.2.1 6) (σ.2.1 7) (σ.1 3) (σ.1 14)) (hpre_1 : 0 ≤ (σ.1 15).toInt) (hpre_2 : (σ.1 15).toInt ≤ 3510) (hpre_4 : PQ1 1 0 (σ.1 14) (σ.1 15) (σ.1 16) (σ.1 19) (σ.1 29) (σ.2.1 11) (σ.2.2.1 12) (σ.2.1 31) (σ.2.1 30) (σ.2.1 32) (σ.2.1 21) (σ.2.1 22) (σ.2.1 20) (σ.2.1 23) (σ.2.1 24) (σ.2.1 25) (σ.2.1 27) (σ.1 33) (σ.1 34) (σ.2.1 28)) (hpre_5 : ((σ.2.1 4) (σ.1 14).toNatClampNeg).toInt = 5) (hpre_6 : 1 ≤ k0.toInt) (hpre_7 : k0.toInt ≤ 5) (ex1 : x1 = (σ.2.2.1 6) (σ.1 14).toNatClampNeg) (tx1 : x1.toInt = ((σ.2.2.1 6) (σ.1 14).toNatClampNeg).toInt) (ex2 : x2 = Int64.toInt32 x1) (tx2 : -2147483648 ≤ x1.toInt → x1.toInt < 2147483648 → x2.toInt = x1.toInt) (ex3 : x3 = (σ.1 14) + (1 : Int32)) (tx3 : x3.toInt = (σ.1 14).toInt + 1) (ex4 : x4 = (σ.1 19) - (1 : Int32)) (tx4 : x4.toInt = (σ.1 19).toInt - 1) (c5 : k0.toInt ≤ 2) (c6 : k0.toInt ≤ 2) (c7 : ¬ k0.toInt = 2) (hr8_0 : n9.toInt = (σ.1 16).toInt + 1) (hr8_1 : r8.toInt = (σ.1 15).toInt + (σ.1 16).toInt) (ex10 : x10 = (σ.1 29) + (1 : Int32)) (tx10 : x10.toInt = (σ.1 29).toInt + 1) : Keep (σ.1 15).toInt (σ.2.1 11) (upd (σ.2.1 11) ((σ.1 15).toInt + (σ.1 16).toInt).toNat (33 : Int32)) (σ.2.2.1 12) (vp_updL (σ.2.2.1 12) ((σ.1 15).toInt + (σ.1 16).toInt).toNat (0 : Int64)) ∧ TKI (σ.2.1 4) (σ.2.2.1 6) (σ.2.1 7) (σ.1 3) x3 ∧ LI (1 : Int32) x3 (σ.1 15) n9 (σ.1 19) x10 (upd (σ.2.1 11) ((σ.1 15).toInt + (σ.1 16).toInt).toNat (33 : Int32)) (vp_updL (σ.2.2.1 12) ((σ.1 15).toInt + (σ.1 16).toInt).toNat (0 : Int64)) (upd (σ.2.1 31) (σ.1 29).toNatClampNeg k0) (upd (σ.2.1 30) (σ.1 29).toNatClampNeg (0 : Int32)) (upd (σ.2.1 32) (σ.1 29).toNatClampNeg r8) (σ.2.1 21) (σ.2.1 22) (σ.2.1 20) (σ.2.1 23) (σ.2.1 24) (σ.2.1 25) (upd (σ.2.1 27) x4.toNatClampNeg (0 : Int32)) (σ.1 33) (σ.1 34) (σ.2.1 28) ∧ 2 * (σ.1 14).toInt - (σ.1 19).toInt < 2 * x3.toInt - (σ.1 19).toInt := by
  have q0 : (0 : Int32).toInt = 0 := by decide +kernel
  have q1 : (1 : Int32).toInt = 1 := by decide +kernel
  have q33 : (33 : Int32).toInt = 33 := by decide +kernel
  have ql0 : (0 : Int64).toInt = 0 := by decide +kernel
  have bb_hpre_0 := hpre_0.b
  have bb_hpre_4 := hpre_4.z.b
  have kk_hpre_0 := hpre_0.in
  have k := hpre_0.in (by omega)
  first
  | (exfalso; omega)
  | exact ⟨Keep.rf.em (by omega), hpre_0.up (by omega) (by omega), Or.inl ⟨q1, PQ_pushJ hpre_4 hpre_2 (by omega) (by omega) (by omega) (by omega) (by rw [clampN]; omega) rfl rfl (by rw [clampN]; omega) (by omega) (by omega) (by omega) (by omega) rfl⟩, by omega⟩
-- in@99 @99
theorem v_binary_12 (σ : RS) (x1 : Int64) (x2 : Int32) (x3 : Int32) (x4 : Int32) (n12 : Int32) (r11 : Int32) (hpre_0 : TKI (σ.2.1 4) (σ.2.2.1 6) (σ.2.1 7) (σ.1 3) (σ.1 14)) (hpre_1 : 0 ≤ (σ.1 15).toInt) (hpre_2 : (σ.1 15).toInt ≤ 3510) (hpre_4 : PQ1 1 0 (σ.1 14) (σ.1 15) (σ.1 16) (σ.1 19) (σ.1 29) (σ.2.1 11) (σ.2.2.1 12) (σ.2.1 31) (σ.2.1 30) (σ.2.1 32) (σ.2.1 21) (σ.2.1 22) (σ.2.1 20) (σ.2.1 23) (σ.2.1 24) (σ.2.1 25) (σ.2.1 27) (σ.1 33) (σ.1 34) (σ.2.1 28)) (hpre_5 : ((σ.2.1 4) (σ.1 14).toNatClampNeg).toInt = 5) (ex1 : x1 = (σ.2.2.1 6) (σ.1 14).toNatClampNeg) (tx1 : x1.toInt = ((σ.2.2.1 6) (σ.1 14).toNatClampNeg).toInt) (ex2 : x2 = Int64.toInt32 x1) (ex3 : x3 = (σ.1 14) + (1 : Int32)) (tx3 : x3.toInt = (σ.1 14).toInt + 1) (ex4 : x4 = (σ.1 19) - (1 : Int32)) (tx4 : x4.toInt = (σ.1 19).toInt - 1) (hr11_0 : n12.toInt = (σ.1 16).toInt + 1) (hr11_1 : r11.toInt = (σ.1 15).toInt + (σ.1 16).toInt) : vp_in (σ.1 29) 48 := by
  have q1 : (1 : Int32).toInt = 1 := by decide +kernel
  have bb_hpre_0 := hpre_0.b
  have bb_hpre_4 := hpre_4.z.b
  have kk_hpre_0 := hpre_0.in
  exact vp_in_iff.mpr ⟨by omega, by omega⟩
-- nw@106 @106
theorem v_binary_13 (σ : RS) (x1 : Int64) (x2 : Int32) (x3 : Int32) (x4 : Int32) (n12 : Int32) (r11 : Int32) (x13 : Int32) (hpre_0 : TKI (σ.2.1 4) (σ.2.2.1 6) (σ.2.1 7) (σ.1 3) (σ.1 14)) (hpre_1 : 0 ≤ (σ.1 15).toInt) (hpre_2 : (σ.1 15).toInt ≤ 3510) (hpre_4 : PQ1 1 0 (σ.1 14) (σ.1 15) (σ.1 16) (σ.1 19) (σ.1 29) (σ.2.1 11) (σ.2.2.1 12) (σ.2.1 31) (σ.2.1 30) (σ.2.1 32) (σ.2.1 21) (σ.2.1 22) (σ.2.1 20) (σ.2.1 23) (σ.2.1 24) (σ.2.1 25) (σ.2.1 27) (σ.1 33) (σ.1 34) (σ.2.1 28)) (hpre_5 : ((σ.2.1 4) (σ.1 14).toNatClampNeg).toInt = 5) (ex1 : x1 = (σ.2.2.1 6) (σ.1 14).toNatClampNeg) (tx1 : x1.toInt = ((σ.2.2.1 6) (σ.1 14).toNatClampNeg).toInt) (ex2 : x2 = Int64.toInt32 x1) (ex3 : x3 = (σ.1 14) + (1 : Int32)) (tx3 : x3.toInt = (σ.1 14).toInt + 1) (ex4 : x4 = (σ.1 19) - (1 : Int32)) (tx4 : x4.toInt = (σ.1 19).toInt - 1) (hr11_0 : n12.toInt = (σ.1 16).toInt + 1) (hr11_1 : r11.toInt = (σ.1 15).toInt + (σ.1 16).toInt) (ex13 : x13 = (σ.1 29) + (1 : Int32)) : x13.toInt = (σ.1 29).toInt + 1 := by
  have q1 : (1 : Int32).toInt = 1 := by decide +kernel
  have bb_hpre_0 := hpre_0.b
  have bb_hpre_4 := hpre_4.z.b
  have kk_hpre_0 := hpre_0.in
  have w1 : (1 : Int32).toInt = 1 := by decide +kernel
  rw [ex13, z_add (by omega) (by omega)]; first | done | omega
-- post @115
theorem v_binary_14 (σ : RS) (k0 : Int32) (x1 : Int64) (x2 : Int32) (x3 : Int32) (x4 : Int32) (n12 : Int32) (r11 : Int32) (x13 : Int32) (hpre_0 : TKI (σ.2.1 4) (σ.2.2.1 6) (σ.2.1 7) (σ.1 3) (σ.1 14)) (hpre_1 : 0 ≤ (σ.1 15).toInt) (hpre_2 : (σ.1 15).toInt ≤ 3510) (hpre_4 : PQ1 1 0 (σ.1 14) (σ.1 15) (σ.1 16) (σ.1 19) (σ.1 29) (σ.2.1 11) (σ.2.2.1 12) (σ.2.1 31) (σ.2.1 30) (σ.2.1 32) (σ.2.1 21) (σ.2.1 22) (σ.2.1 20) (σ.2.1 23) (σ.2.1 24) (σ.2.1 25) (σ.2.1 27) (σ.1 33) (σ.1 34) (σ.2.1 28)) (hpre_5 : ((σ.2.1 4) (σ.1 14).toNatClampNeg).toInt = 5) (hpre_6 : 1 ≤ k0.toInt) (hpre_7 : k0.toInt ≤ 5) (ex1 : x1 = (σ.2.2.1 6) (σ.1 14).toNatClampNeg) (tx1 : x1.toInt = ((σ.2.2.1 6) (σ.1 14).toNatClampNeg).toInt) (ex2 : x2 = Int64.toInt32 x1) (tx2 : -2147483648 ≤ x1.toInt → x1.toInt < 2147483648 → x2.toInt = x1.toInt) (ex3 : x3 = (σ.1 14) + (1 : Int32)) (tx3 : x3.toInt = (σ.1 14).toInt + 1) (ex4 : x4 = (σ.1 19) - (1 : Int32)) (tx4 : x4.toInt = (σ.1 19).toInt - 1) (c5 : k0.toInt ≤ 2) (c6 : k0.toInt ≤ 2) (c7 : k0.toInt = 2) (hr11_0 : n12.toInt = (σ.1 16).toInt + 1) (hr11_1 : r11.toInt = (σ.1 15).toInt + (σ.1 16).toInt) (ex13 : x13 = (σ.1 29) + (1 : Int32)) (tx13 : x13.toInt = (σ.1 29).toInt + 1) : Keep (σ.1 15).toInt (σ.2.1 11) (upd (σ.2.1 11) ((σ.1 15).toInt + (σ.1 16).toInt).toNat (32 : Int32)) (σ.2.2.1 12) (vp_updL (σ.2.2.1 12) ((σ.1 15).toInt + (σ.1 16).toInt).toNat (0 : Int64)) ∧ TKI (σ.2.1 4) (σ.2.2.1 6) (σ.2.1 7) (σ.1 3) x3 ∧ LI (1 : Int32) x3 (σ.1 15) n12 (σ.1 19) x13 (upd (σ.2.1 11) ((σ.1 15).toInt + (σ.1 16).toInt).toNat (32 : Int32)) (vp_updL (σ.2.2.1 12) ((σ.1 15).toInt + (σ.1 16).toInt).toNat (0 : Int64)) (upd (σ.2.1 31) (σ.1 29).toNatClampNeg k0) (upd (σ.2.1 30) (σ.1 29).toNatClampNeg (0 : Int32)) (upd (σ.2.1 32) (σ.1 29).toNatClampNeg r11) (σ.2.1 21) (σ.2.1 22) (σ.2.1 20) (σ.2.1 23) (σ.2.1 24) (σ.2.1 25) (upd (σ.2.1 27) x4.toNatClampNeg (0 : Int32)) (σ.1 33) (σ.1 34) (σ.2.1 28) ∧ 2 * (σ.1 14).toInt - (σ.1 19).toInt < 2 * x3.toInt - (σ.1 19).toInt := by
  have q0 : (0 : Int32).toInt = 0 := by decide +kernel
  have q1 : (1 : Int32).toInt = 1 := by decide +kernel
  have q32 : (32 : Int32).toInt = 32 := by decide +kernel
  have ql0 : (0 : Int64).toInt = 0 := by decide +kernel
  have bb_hpre_0 := hpre_0.b
  have bb_hpre_4 := hpre_4.z.b
  have kk_hpre_0 := hpre_0.in
  have k := hpre_0.in (by omega)
  first
  | (exfalso; omega)
  | exact ⟨Keep.rf.em (by omega), hpre_0.up (by omega) (by omega), Or.inl ⟨q1, PQ_pushJ hpre_4 hpre_2 (by omega) (by omega) (by omega) (by omega) (by rw [clampN]; omega) rfl rfl (by rw [clampN]; omega) (by omega) (by omega) (by omega) (by omega) rfl⟩, by omega⟩
-- dead@75 @78
theorem v_binary_15 (k0 : Int32) (hpre_6 : 1 ≤ k0.toInt) (hpre_7 : k0.toInt ≤ 5) (c5 : k0.toInt ≤ 2) (c6 : 2 < k0.toInt) : False := by
  first | assumption | omega | (subst_vars; omega) | trivial
-- dead@75 @82
theorem v_binary_16 (k0 : Int32) (hpre_6 : 1 ≤ k0.toInt) (hpre_7 : k0.toInt ≤ 5) (c5 : 2 < k0.toInt) (c15 : k0.toInt ≤ 2) : False := by
  first | assumption | omega | (subst_vars; omega) | trivial
-- nw@106 @106
theorem v_binary_17 (σ : RS) (x1 : Int64) (x2 : Int32) (x3 : Int32) (x4 : Int32) (x16 : Int32) (hpre_0 : TKI (σ.2.1 4) (σ.2.2.1 6) (σ.2.1 7) (σ.1 3) (σ.1 14)) (hpre_1 : 0 ≤ (σ.1 15).toInt) (hpre_2 : (σ.1 15).toInt ≤ 3510) (hpre_4 : PQ1 1 0 (σ.1 14) (σ.1 15) (σ.1 16) (σ.1 19) (σ.1 29) (σ.2.1 11) (σ.2.2.1 12) (σ.2.1 31) (σ.2.1 30) (σ.2.1 32) (σ.2.1 21) (σ.2.1 22) (σ.2.1 20) (σ.2.1 23) (σ.2.1 24) (σ.2.1 25) (σ.2.1 27) (σ.1 33) (σ.1 34) (σ.2.1 28)) (hpre_5 : ((σ.2.1 4) (σ.1 14).toNatClampNeg).toInt = 5) (ex1 : x1 = (σ.2.2.1 6) (σ.1 14).toNatClampNeg) (tx1 : x1.toInt = ((σ.2.2.1 6) (σ.1 14).toNatClampNeg).toInt) (ex2 : x2 = Int64.toInt32 x1) (ex3 : x3 = (σ.1 14) + (1 : Int32)) (tx3 : x3.toInt = (σ.1 14).toInt + 1) (ex4 : x4 = (σ.1 19) - (1 : Int32)) (tx4 : x4.toInt = (σ.1 19).toInt - 1) (ex16 : x16 = (σ.1 29) + (1 : Int32)) : x16.toInt = (σ.1 29).toInt + 1 := by
  have q1 : (1 : Int32).toInt = 1 := by decide +kernel
  have bb_hpre_0 := hpre_0.b
  have bb_hpre_4 := hpre_4.z.b
  have kk_hpre_0 := hpre_0.in
  have w1 : (1 : Int32).toInt = 1 := by decide +kernel
  rw [ex16, z_add (by omega) (by omega)]; first | done | omega
-- post @115
theorem v_binary_18 (σ : RS) (k0 : Int32) (x1 : Int64) (x2 : Int32) (x3 : Int32) (x4 : Int32) (r14 : Int32) (x16 : Int32) (hpre_0 : TKI (σ.2.1 4) (σ.2.2.1 6) (σ.2.1 7) (σ.1 3) (σ.1 14)) (hpre_1 : 0 ≤ (σ.1 15).toInt) (hpre_2 : (σ.1 15).toInt ≤ 3510) (hpre_4 : PQ1 1 0 (σ.1 14) (σ.1 15) (σ.1 16) (σ.1 19) (σ.1 29) (σ.2.1 11) (σ.2.2.1 12) (σ.2.1 31) (σ.2.1 30) (σ.2.1 32) (σ.2.1 21) (σ.2.1 22) (σ.2.1 20) (σ.2.1 23) (σ.2.1 24) (σ.2.1 25) (σ.2.1 27) (σ.1 33) (σ.1 34) (σ.2.1 28)) (hpre_5 : ((σ.2.1 4) (σ.1 14).toNatClampNeg).toInt = 5) (hpre_6 : 1 ≤ k0.toInt) (hpre_7 : k0.toInt ≤ 5) (ex1 : x1 = (σ.2.2.1 6) (σ.1 14).toNatClampNeg) (tx1 : x1.toInt = ((σ.2.2.1 6) (σ.1 14).toNatClampNeg).toInt) (ex2 : x2 = Int64.toInt32 x1) (tx2 : -2147483648 ≤ x1.toInt → x1.toInt < 2147483648 → x2.toInt = x1.toInt) (ex3 : x3 = (σ.1 14) + (1 : Int32)) (tx3 : x3.toInt = (σ.1 14).toInt + 1) (ex4 : x4 = (σ.1 19) - (1 : Int32)) (tx4 : x4.toInt = (σ.1 19).toInt - 1) (c5 : 2 < k0.toInt) (hr14_0 : 16 ≤ r14.toInt) (hr14_1 : r14.toInt ≤ 26) (c15 : 2 < k0.toInt) (ex16 : x16 = (σ.1 29) + (1 : Int32)) (tx16 : x16.toInt = (σ.1 29).toInt + 1) : Keep (σ.1 15).toInt (σ.2.1 11) (σ.2.1 11) (σ.2.2.1 12) (σ.2.2.1 12) ∧ TKI (σ.2.1 4) (σ.2.2.1 6) (σ.2.1 7) (σ.1 3) x3 ∧ LI (1 : Int32) x3 (σ.1 15) (σ.1 16) (σ.1 19) x16 (σ.2.1 11) (σ.2.2.1 12) (upd (σ.2.1 31) (σ.1 29).toNatClampNeg k0) (upd (σ.2.1 30) (σ.1 29).toNatClampNeg r14) (upd (σ.2.1 32) (σ.1 29).toNatClampNeg (0 : Int32)) (σ.2.1 21) (σ.2.1 22) (σ.2.1 20) (σ.2.1 23) (σ.2.1 24) (σ.2.1 25) (upd (σ.2.1 27) x4.toNatClampNeg (0 : Int32)) (σ.1 33) (σ.1 34) (σ.2.1 28) ∧ 2 * (σ.1 14).toInt - (σ.1 19).toInt < 2 * x3.toInt - (σ.1 19).toInt := by
  have q0 : (0 : Int32).toInt = 0 := by decide +kernel
  have q1 : (1 : Int32).toInt = 1 := by decide +kernel
  have bb_hpre_0 := hpre_0.b
  have bb_hpre_4 := hpre_4.z.b
  have kk_hpre_0 := hpre_0.in
  have k := hpre_0.in (by omega)
  first
  | (exfalso; omega)
  | exact ⟨Keep.rf, hpre_0.up (by omega) (by omega), Or.inl ⟨q1, PQ_push hpre_4 (by omega) (by rw [clampN]; omega) rfl rfl (by rw [clampN]; omega) (by omega) (by omega) (by omega) rfl⟩, by omega⟩
set_option maxHeartbeats 4000000 in
set_option maxRecDepth 100000 in
theorem M_binary (l : Launch) (D : va_G) (cy : Nat → ClassId) (sz0 : Nat) (sa : Nat → Nat) (ad : Nat → Nat) (σ : RS) (sz : Nat) (k0 : Int32) (hpre : TKI (σ.2.1 4) (σ.2.2.1 6) (σ.2.1 7) (σ.1 3) (σ.1 14) ∧ 0 ≤ (σ.1 15).toInt ∧ (σ.1 15).toInt ≤ 3510 ∧ (σ.1 8).toInt = 0 ∧ PQ1 1 0 (σ.1 14) (σ.1 15) (σ.1 16) (σ.1 19) (σ.1 29) (σ.2.1 11) (σ.2.2.1 12) (σ.2.1 31) (σ.2.1 30) (σ.2.1 32) (σ.2.1 21) (σ.2.1 22) (σ.2.1 20) (σ.2.1 23) (σ.2.1 24) (σ.2.1 25) (σ.2.1 27) (σ.1 33) (σ.1 34) (σ.2.1 28) ∧ ((σ.2.1 4) (σ.1 14).toNatClampNeg).toInt = 5 ∧ 1 ≤ k0.toInt ∧ k0.toInt ≤ 5) : Met l yX12_binary (Cond.code yX12_binary cX12_binary 3 none :: GWm) ({ frames := 1, cells := 0, slots := 0, locals := 23 }) (PcR D cy sz0 sa ad [.ref (ad 0), .int k0] σ sz) (va_Qv (fun (u : Int32 × (Nat → Int32) × (Nat → Int64) × Int32 × Int32 × (Nat → Int32) × (Nat → Int32) × (Nat → Int32) × (Nat → Int32) × Int32) => Keep (σ.1 15).toInt (σ.2.1 11) u.2.1 (σ.2.2.1 12) u.2.2.1 ∧ TKI (σ.2.1 4) (σ.2.2.1 6) (σ.2.1 7) (σ.1 3) u.1 ∧ LI u.2.2.2.2.2.2.2.2.2 u.1 (σ.1 15) u.2.2.2.1 (σ.1 19) u.2.2.2.2.1 u.2.1 u.2.2.1 u.2.2.2.2.2.1 u.2.2.2.2.2.2.1 u.2.2.2.2.2.2.2.1 (σ.2.1 21) (σ.2.1 22) (σ.2.1 20) (σ.2.1 23) (σ.2.1 24) (σ.2.1 25) u.2.2.2.2.2.2.2.2.1 (σ.1 33) (σ.1 34) (σ.2.1 28) ∧ 2 * (σ.1 14).toInt - (σ.1 19).toInt < 2 * u.1.toInt - (σ.1 19).toInt) (fun (u : Int32 × (Nat → Int32) × (Nat → Int64) × Int32 × Int32 × (Nat → Int32) × (Nat → Int32) × (Nat → Int32) × (Nat → Int32) × Int32) (t : State) => RP D cy ad (rS (rA (rA (rA (rA (rS (rS (rJ (rA (rS σ 14 u.1) 11 u.2.1) 12 u.2.2.1) 16 u.2.2.2.1) 29 u.2.2.2.2.1) 31 u.2.2.2.2.2.1) 30 u.2.2.2.2.2.2.1) 32 u.2.2.2.2.2.2.2.1) 27 u.2.2.2.2.2.2.2.2.1) 17 u.2.2.2.2.2.2.2.2.2) t.heap) (AR cy ad sz)) 0 0 (AR cy ad sz) := by
  refine RM_of (loc0 := [(0, .ref (ad 0)), (1, .int k0)]) (by decide) rfl rfl (Nat.le_of_ble_eq_true rfl) ?_
  intro p e s m below meth c ls hsz C hP hS hl
  have hx := C.1
  have hb := C.2.1
  have hown := C.2.2.2.2.1
  have hw := C.2.2.2.2.2.1
  clear hsz
  obtain ⟨hpre_0, hpre_1, hpre_2, hpre_3, hpre_4, hpre_5, hpre_6, hpre_7⟩ := hpre
  refine lv_aload_n hx hb dX12_binary_0 rfl (lv_at hl 0 rfl) ?_
  refine rg_6 C hP wm_19 dX12_binary_1 ?_
  refine lv_aload_n hx hb dX12_binary_4 rfl (lv_at hl 0 rfl) ?_
  refine rg_14 (v := (σ.1 14)) C hP rfl wm_62 dX12_binary_5 ?_
  refine ra_6 (f := (σ.2.2.1 6)) C hP rfl (v_binary_1 σ hpre_0 hpre_1 hpre_2 hpre_4 hpre_5) dX12_binary_8 (fun x1 ex1 => ?_)
  have tx1 : x1.toInt = ((σ.2.2.1 6) (σ.1 14).toNatClampNeg).toInt := by rw [ex1]
  refine lv_l2i hx hb dX12_binary_9 rfl ?_
  refine lv_topi (fun x2 ex2 => ?_)
  have tx2 : -2147483648 ≤ x1.toInt → x1.toInt < 2147483648 → x2.toInt = x1.toInt := z_l2i ex2
  refine lv_istore_n (lv' := [(2, .int x2), (0, .ref (ad 0)), (1, .int k0)]) hx hb dX12_binary_10 rfl hl (by decide) rfl (fun ls hl => ?_)
  refine lv_aload_n hx hb dX12_binary_11 rfl (lv_at hl 1 rfl) ?_
  refine lv_dup hx hb dX12_binary_12 rfl ?_
  refine rg_14 (v := (σ.1 14)) C hP rfl wm_62 dX12_binary_13 ?_
  refine lv_iconst (v := 1) hx hb dX12_binary_16 (by decide +kernel) ?_
  refine lv_iadd hx hb dX12_binary_17 ?_
  refine lv_topi (fun x3 ex3 => ?_)
  have tx3 : x3.toInt = (σ.1 14).toInt + 1 := (v_binary_2 σ x1 x2 x3 hpre_0 hpre_1 hpre_2 hpre_4 hpre_5 ex1 tx1 ex2 tx2 ex3)
  refine rp_14 C hP hS wm_62 dX12_binary_18 (fun H locs hP hS => ?_)
  refine lv_aload_n hx hb dX12_binary_21 rfl (lv_at hl 1 rfl) ?_
  refine rg_27 C hP wm_80 dX12_binary_22 ?_
  refine lv_aload_n hx hb dX12_binary_25 rfl (lv_at hl 1 rfl) ?_
  refine rg_19 (v := (σ.1 19)) C hP rfl wm_70 dX12_binary_26 ?_
  refine lv_iconst (v := 1) hx hb dX12_binary_29 (by decide +kernel) ?_
  refine lv_isub hx hb dX12_binary_30 ?_
  refine lv_topi (fun x4 ex4 => ?_)
  have tx4 : x4.toInt = (σ.1 19).toInt - 1 := (v_binary_3 σ x1 x2 x3 x4 hpre_0 hpre_1 hpre_2 hpre_4 hpre_5 ex1 tx1 ex2 ex3 tx3 ex4)
  refine lv_iconst (v := 0) hx hb dX12_binary_31 (by decide +kernel) ?_
  refine rw_27 (f := (σ.2.1 27)) C hP hS rfl (v_binary_5  ) (v_binary_4 σ x1 x2 x3 x4 hpre_0 hpre_1 hpre_2 hpre_4 hpre_5 ex1 tx1 ex2 ex3 tx3 ex4 tx4) dX12_binary_32 (fun H locs hP hS => ?_)
  refine lv_aload_n hx hb dX12_binary_33 rfl (lv_at hl 1 rfl) ?_
  refine rg_31 C hP wm_122 dX12_binary_34 ?_
  refine lv_aload_n hx hb dX12_binary_37 rfl (lv_at hl 1 rfl) ?_
  refine rg_29 (v := (σ.1 29)) C hP rfl wm_77 dX12_binary_38 ?_
  refine lv_iload_n hx hb dX12_binary_41 rfl (lv_at hl 2 rfl) ?_
  refine rw_31 (f := (σ.2.1 31)) C hP hS rfl (v_binary_6 σ x1 x2 x3 x4 hpre_0 hpre_1 hpre_2 hpre_4 hpre_5 ex1 tx1 ex2 ex3 tx3 ex4 tx4) dX12_binary_42 (fun H locs hP hS => ?_)
  refine lv_aload_n hx hb dX12_binary_43 rfl (lv_at hl 1 rfl) ?_
  refine rg_30 C hP wm_124 dX12_binary_44 ?_
  refine lv_aload_n hx hb dX12_binary_47 rfl (lv_at hl 1 rfl) ?_
  refine rg_29 (v := (σ.1 29)) C hP rfl wm_77 dX12_binary_48 ?_
  refine lv_iload_n hx hb dX12_binary_51 rfl (lv_at hl 2 rfl) ?_
  refine lv_iconst (v := 2) hx hb dX12_binary_52 (by decide +kernel) ?_
  refine lv_icmp_le (tgt := 63) hx hb dX12_binary_53 (by decide) (fun c5 => ?_) (fun c5 => ?_)
  · have c5 : k0.toInt ≤ 2 := by have h := z_le c5; rw [show (2 : Int32).toInt = 2 from by decide +kernel] at h; exact h
    refine lv_iconst (v := 0) hx hb dX12_binary_63 (by decide +kernel) ?_
    refine rw_30 (f := (σ.2.1 30)) C hP hS rfl (v_binary_6 σ x1 x2 x3 x4 hpre_0 hpre_1 hpre_2 hpre_4 hpre_5 ex1 tx1 ex2 ex3 tx3 ex4 tx4) dX12_binary_64 (fun H locs hP hS => ?_)
    refine lv_aload_n hx hb dX12_binary_65 rfl (lv_at hl 1 rfl) ?_
    refine rg_32 C hP wm_123 dX12_binary_66 ?_
    refine lv_aload_n hx hb dX12_binary_69 rfl (lv_at hl 1 rfl) ?_
    refine rg_29 (v := (σ.1 29)) C hP rfl wm_77 dX12_binary_70 ?_
    refine lv_iload_n hx hb dX12_binary_73 rfl (lv_at hl 2 rfl) ?_
    refine lv_iconst (v := 2) hx hb dX12_binary_74 (by decide +kernel) ?_
    refine lv_icmp_le (tgt := 82) hx hb dX12_binary_75 (by decide) (fun c6 => ?_) (fun c6 => ?_)
    · have c6 : k0.toInt ≤ 2 := by have h := z_le c6; rw [show (2 : Int32).toInt = 2 from by decide +kernel] at h; exact h
      refine lv_aload_n hx hb dX12_binary_82 rfl (lv_at hl 1 rfl) ?_
      refine lv_iload_n hx hb dX12_binary_83 rfl (lv_at hl 2 rfl) ?_
      refine lv_iconst (v := 2) hx hb dX12_binary_84 (by decide +kernel) ?_
      refine lv_icmp_ne (tgt := 93) hx hb dX12_binary_85 (by decide) (fun c7 => ?_) (fun c7 => ?_)
      · have c7 : ¬ k0.toInt = 2 := by have h := z_ne c7; rw [show (2 : Int32).toInt = 2 from by decide +kernel] at h; exact h
        refine lv_bipush (v := 33) hx hb dX12_binary_93 (by decide +kernel) ?_
        refine lv_lconst (v := 0) hx hb dX12_binary_95 rfl ?_
        refine r_callVi (As := [.int 33, .long 0]) (rest := [.int (σ.1 29), .ref (ad 32)]) C hP hS hl.1 ⟨Nat.zero_le _, Nat.zero_le _⟩ (M_emit l D cy sz0 sa ad (rA (rA (rA (rS σ 14 x3) 27 (upd (σ.2.1 27) x4.toNatClampNeg (0 : Int32))) 31 (upd (σ.2.1 31) (σ.1 29).toNatClampNeg k0)) 30 (upd (σ.2.1 30) (σ.1 29).toNatClampNeg (0 : Int32))) H.size (33 : Int32) (0 : Int64) (v_binary_7 σ x1 x2 x3 x4 hpre_0 hpre_1 hpre_2 hpre_4 hpre_5 ex1 tx1 ex2 ex3 tx3 ex4 tx4)) (n := 2) ⟨wm_89, wm_64, by decide +kernel⟩ ⟨wm_90, wm_91, wm_10⟩ rfl rfl (lv_room (Nat.le_of_ble_eq_true rfl)) ⟨Nat.le_of_ble_eq_true rfl, Nat.le_of_ble_eq_true rfl⟩ dX12_binary_96 (fun r8 u H locs hr8 hP hS => ?_)
        obtain ⟨n9, rfl⟩ : ∃ z, z = u := ⟨_, rfl⟩
        have hr8 : n9.toInt = (σ.1 16).toInt + 1 ∧ r8.toInt = (σ.1 15).toInt + (σ.1 16).toInt := hr8
        obtain ⟨hr8_0, hr8_1⟩ := hr8
        have hP : RP D cy ad (rS (rJ (rA (rA (rA (rA (rS σ 14 x3) 27 (upd (σ.2.1 27) x4.toNatClampNeg (0 : Int32))) 31 (upd (σ.2.1 31) (σ.1 29).toNatClampNeg k0)) 30 (upd (σ.2.1 30) (σ.1 29).toNatClampNeg (0 : Int32))) 11 (upd (σ.2.1 11) ((σ.1 15).toInt + (σ.1 16).toInt).toNat (33 : Int32))) 12 (vp_updL (σ.2.2.1 12) ((σ.1 15).toInt + (σ.1 16).toInt).toNat (0 : Int64))) 16 n9) H := hP
        refine rw_32 (f := (σ.2.1 32)) C hP hS rfl (v_binary_8 σ x1 x2 x3 x4 n9 r8 hpre_0 hpre_1 hpre_2 hpre_4 hpre_5 ex1 tx1 ex2 ex3 tx3 ex4 tx4 hr8_0 hr8_1) dX12_binary_99 (fun H locs hP hS => ?_)
        refine lv_aload_n hx hb dX12_binary_100 rfl (lv_at hl 1 rfl) ?_
        refine lv_dup hx hb dX12_binary_101 rfl ?_
        refine rg_29 (v := (σ.1 29)) C hP rfl wm_77 dX12_binary_102 ?_
        refine lv_iconst (v := 1) hx hb dX12_binary_105 (by decide +kernel) ?_
        refine lv_iadd hx hb dX12_binary_106 ?_
        refine lv_topi (fun x10 ex10 => ?_)
        have tx10 : x10.toInt = (σ.1 29).toInt + 1 := (v_binary_9 σ x1 x2 x3 x4 n9 r8 x10 hpre_0 hpre_1 hpre_2 hpre_4 hpre_5 ex1 tx1 ex2 ex3 tx3 ex4 tx4 hr8_0 hr8_1 ex10)
        refine rp_29 C hP hS wm_77 dX12_binary_107 (fun H locs hP hS => ?_)
        refine lv_aload_n hx hb dX12_binary_110 rfl (lv_at hl 1 rfl) ?_
        refine lv_iconst (v := 1) hx hb dX12_binary_111 (by decide +kernel) ?_
        refine rp_17 C hP hS (v_binary_10  ) wm_82 dX12_binary_112 (fun H locs hP hS => ?_)
        have hP : RP D cy ad (rS (rA (rA (rA (rA (rS (rS (rJ (rA (rS σ 14 x3) 11 (upd (σ.2.1 11) ((σ.1 15).toInt + (σ.1 16).toInt).toNat (33 : Int32))) 12 (vp_updL (σ.2.2.1 12) ((σ.1 15).toInt + (σ.1 16).toInt).toNat (0 : Int64))) 16 n9) 29 x10) 31 (upd (σ.2.1 31) (σ.1 29).toNatClampNeg k0)) 30 (upd (σ.2.1 30) (σ.1 29).toNatClampNeg (0 : Int32))) 32 (upd (σ.2.1 32) (σ.1 29).toNatClampNeg r8)) 27 (upd (σ.2.1 27) x4.toNatClampNeg (0 : Int32))) 17 (1 : Int32)) H := RP.cong hP (Eq.trans (b := (σ.1 0)) rfl rfl) (Eq.trans (b := (σ.1 1)) rfl rfl) (Eq.trans (b := (σ.2.1 2)) rfl rfl) (Eq.trans (b := (σ.1 3)) rfl rfl) (Eq.trans (b := (σ.2.1 4)) rfl rfl) (Eq.trans (b := (σ.2.1 5)) rfl rfl) (Eq.trans (b := (σ.2.2.1 6)) rfl rfl) (Eq.trans (b := (σ.2.1 7)) rfl rfl) (Eq.trans (b := (σ.1 8)) rfl rfl) (Eq.trans (b := (σ.1 9)) rfl rfl) (Eq.trans (b := (σ.1 10)) rfl rfl) (Eq.trans (b := (upd (σ.2.1 11) ((σ.1 15).toInt + (σ.1 16).toInt).toNat (33 : Int32))) rfl rfl) (Eq.trans (b := (vp_updL (σ.2.2.1 12) ((σ.1 15).toInt + (σ.1 16).toInt).toNat (0 : Int64))) rfl rfl) (Eq.trans (b := (σ.2.1 13)) rfl rfl) (Eq.trans (b := x3) rfl rfl) (Eq.trans (b := (σ.1 15)) rfl rfl) (Eq.trans (b := n9) rfl rfl) (Eq.trans (b := (1 : Int32)) rfl rfl) (Eq.trans (b := (σ.1 18)) rfl rfl) (Eq.trans (b := (σ.1 19)) rfl rfl) (Eq.trans (b := (σ.2.1 20)) rfl rfl) (Eq.trans (b := (σ.2.1 21)) rfl rfl) (Eq.trans (b := (σ.2.1 22)) rfl rfl) (Eq.trans (b := (σ.2.1 23)) rfl rfl) (Eq.trans (b := (σ.2.1 24)) rfl rfl) (Eq.trans (b := (σ.2.1 25)) rfl rfl) (Eq.trans (b := (σ.2.1 26)) rfl rfl) (Eq.trans (b := (upd (σ.2.1 27) x4.toNatClampNeg (0 : Int32))) rfl rfl) (Eq.trans (b := (σ.2.1 28)) rfl rfl) (Eq.trans (b := x10) rfl rfl) (Eq.trans (b := (upd (σ.2.1 30) (σ.1 29).toNatClampNeg (0 : Int32))) rfl rfl) (Eq.trans (b := (upd (σ.2.1 31) (σ.1 29).toNatClampNeg k0)) rfl rfl) (Eq.trans (b := (upd (σ.2.1 32) (σ.1 29).toNatClampNeg r8)) rfl rfl) (Eq.trans (b := (σ.1 33)) rfl rfl) (Eq.trans (b := (σ.1 34)) rfl rfl) (Eq.trans (b := (σ.1 35)) rfl rfl) (Eq.trans (b := (σ.2.1 36)) rfl rfl) (Eq.trans (b := (σ.2.1 37)) rfl rfl) (Eq.trans (b := (σ.2.1 38)) rfl rfl) (Eq.trans (b := (σ.2.1 39)) rfl rfl) (Eq.trans (b := (σ.2.1 40)) rfl rfl) (Eq.trans (b := (σ.2.1 41)) rfl rfl) (Eq.trans (b := (σ.2.1 42)) rfl rfl) (Eq.trans (b := (σ.2.1 43)) rfl rfl) (Eq.trans (b := (σ.2.1 44)) rfl rfl) (Eq.trans (b := (σ.2.1 45)) rfl rfl) (Eq.trans (b := (σ.2.1 46)) rfl rfl) (Eq.trans (b := (σ.1 47)) rfl rfl) (Eq.trans (b := (σ.2.1 48)) rfl rfl) (Eq.trans (b := (σ.1 49)) rfl rfl) (Eq.trans (b := (σ.2.1 50)) rfl rfl) (Eq.trans (b := (σ.2.1 51)) rfl rfl) (Eq.trans (b := (σ.2.2.1 52)) rfl rfl) (Eq.trans (b := (σ.2.2.1 53)) rfl rfl) (Eq.trans (b := (σ.2.2.2)) rfl rfl) (Eq.trans (b := (σ.1 55)) rfl rfl) (Eq.trans (b := (σ.1 56)) rfl rfl) (Eq.trans (b := (σ.1 57)) rfl rfl) (Eq.trans (b := (σ.2.1 58)) rfl rfl) (Eq.trans (b := (σ.1 59)) rfl rfl)
        exact r_retv C ⟨x3, (upd (σ.2.1 11) ((σ.1 15).toInt + (σ.1 16).toInt).toNat (33 : Int32)), (vp_updL (σ.2.2.1 12) ((σ.1 15).toInt + (σ.1 16).toInt).toNat (0 : Int64)), n9, x10, (upd (σ.2.1 31) (σ.1 29).toNatClampNeg k0), (upd (σ.2.1 30) (σ.1 29).toNatClampNeg (0 : Int32)), (upd (σ.2.1 32) (σ.1 29).toNatClampNeg r8), (upd (σ.2.1 27) x4.toNatClampNeg (0 : Int32)), (1 : Int32)⟩ (v_binary_11 σ k0 x1 x2 x3 x4 n9 r8 x10 hpre_0 hpre_1 hpre_2 hpre_4 hpre_5 hpre_6 hpre_7 ex1 tx1 ex2 tx2 ex3 tx3 ex4 tx4 c5 c6 c7 hr8_0 hr8_1 ex10 tx10) hP hS dX12_binary_115
      · have c7 : k0.toInt = 2 := by have h := z_eq c7; rw [show (2 : Int32).toInt = 2 from by decide +kernel] at h; exact h
        refine lv_bipush (v := 32) hx hb dX12_binary_88 (by decide +kernel) ?_
        refine lv_goto (tgt := 95) hx hb dX12_binary_90 (by decide) ?_
        refine lv_lconst (v := 0) hx hb dX12_binary_95 rfl ?_
        refine r_callVi (As := [.int 32, .long 0]) (rest := [.int (σ.1 29), .ref (ad 32)]) C hP hS hl.1 ⟨Nat.zero_le _, Nat.zero_le _⟩ (M_emit l D cy sz0 sa ad (rA (rA (rA (rS σ 14 x3) 27 (upd (σ.2.1 27) x4.toNatClampNeg (0 : Int32))) 31 (upd (σ.2.1 31) (σ.1 29).toNatClampNeg k0)) 30 (upd (σ.2.1 30) (σ.1 29).toNatClampNeg (0 : Int32))) H.size (32 : Int32) (0 : Int64) (v_binary_7 σ x1 x2 x3 x4 hpre_0 hpre_1 hpre_2 hpre_4 hpre_5 ex1 tx1 ex2 ex3 tx3 ex4 tx4)) (n := 2) ⟨wm_89, wm_64, by decide +kernel⟩ ⟨wm_90, wm_91, wm_10⟩ rfl rfl (lv_room (Nat.le_of_ble_eq_true rfl)) ⟨Nat.le_of_ble_eq_true rfl, Nat.le_of_ble_eq_true rfl⟩ dX12_binary_96 (fun r11 u H locs hr11 hP hS => ?_)
        obtain ⟨n12, rfl⟩ : ∃ z, z = u := ⟨_, rfl⟩
        have hr11 : n12.toInt = (σ.1 16).toInt + 1 ∧ r11.toInt = (σ.1 15).toInt + (σ.1 16).toInt := hr11
        obtain ⟨hr11_0, hr11_1⟩ := hr11
        have hP : RP D cy ad (rS (rJ (rA (rA (rA (rA (rS σ 14 x3) 27 (upd (σ.2.1 27) x4.toNatClampNeg (0 : Int32))) 31 (upd (σ.2.1 31) (σ.1 29).toNatClampNeg k0)) 30 (upd (σ.2.1 30) (σ.1 29).toNatClampNeg (0 : Int32))) 11 (upd (σ.2.1 11) ((σ.1 15).toInt + (σ.1 16).toInt).toNat (32 : Int32))) 12 (vp_updL (σ.2.2.1 12) ((σ.1 15).toInt + (σ.1 16).toInt).toNat (0 : Int64))) 16 n12) H := hP
        refine rw_32 (f := (σ.2.1 32)) C hP hS rfl (v_binary_12 σ x1 x2 x3 x4 n12 r11 hpre_0 hpre_1 hpre_2 hpre_4 hpre_5 ex1 tx1 ex2 ex3 tx3 ex4 tx4 hr11_0 hr11_1) dX12_binary_99 (fun H locs hP hS => ?_)
        refine lv_aload_n hx hb dX12_binary_100 rfl (lv_at hl 1 rfl) ?_
        refine lv_dup hx hb dX12_binary_101 rfl ?_
        refine rg_29 (v := (σ.1 29)) C hP rfl wm_77 dX12_binary_102 ?_
        refine lv_iconst (v := 1) hx hb dX12_binary_105 (by decide +kernel) ?_
        refine lv_iadd hx hb dX12_binary_106 ?_
        refine lv_topi (fun x13 ex13 => ?_)
        have tx13 : x13.toInt = (σ.1 29).toInt + 1 := (v_binary_13 σ x1 x2 x3 x4 n12 r11 x13 hpre_0 hpre_1 hpre_2 hpre_4 hpre_5 ex1 tx1 ex2 ex3 tx3 ex4 tx4 hr11_0 hr11_1 ex13)
        refine rp_29 C hP hS wm_77 dX12_binary_107 (fun H locs hP hS => ?_)
        refine lv_aload_n hx hb dX12_binary_110 rfl (lv_at hl 1 rfl) ?_
        refine lv_iconst (v := 1) hx hb dX12_binary_111 (by decide +kernel) ?_
        refine rp_17 C hP hS (v_binary_10  ) wm_82 dX12_binary_112 (fun H locs hP hS => ?_)
        have hP : RP D cy ad (rS (rA (rA (rA (rA (rS (rS (rJ (rA (rS σ 14 x3) 11 (upd (σ.2.1 11) ((σ.1 15).toInt + (σ.1 16).toInt).toNat (32 : Int32))) 12 (vp_updL (σ.2.2.1 12) ((σ.1 15).toInt + (σ.1 16).toInt).toNat (0 : Int64))) 16 n12) 29 x13) 31 (upd (σ.2.1 31) (σ.1 29).toNatClampNeg k0)) 30 (upd (σ.2.1 30) (σ.1 29).toNatClampNeg (0 : Int32))) 32 (upd (σ.2.1 32) (σ.1 29).toNatClampNeg r11)) 27 (upd (σ.2.1 27) x4.toNatClampNeg (0 : Int32))) 17 (1 : Int32)) H := RP.cong hP (Eq.trans (b := (σ.1 0)) rfl rfl) (Eq.trans (b := (σ.1 1)) rfl rfl) (Eq.trans (b := (σ.2.1 2)) rfl rfl) (Eq.trans (b := (σ.1 3)) rfl rfl) (Eq.trans (b := (σ.2.1 4)) rfl rfl) (Eq.trans (b := (σ.2.1 5)) rfl rfl) (Eq.trans (b := (σ.2.2.1 6)) rfl rfl) (Eq.trans (b := (σ.2.1 7)) rfl rfl) (Eq.trans (b := (σ.1 8)) rfl rfl) (Eq.trans (b := (σ.1 9)) rfl rfl) (Eq.trans (b := (σ.1 10)) rfl rfl) (Eq.trans (b := (upd (σ.2.1 11) ((σ.1 15).toInt + (σ.1 16).toInt).toNat (32 : Int32))) rfl rfl) (Eq.trans (b := (vp_updL (σ.2.2.1 12) ((σ.1 15).toInt + (σ.1 16).toInt).toNat (0 : Int64))) rfl rfl) (Eq.trans (b := (σ.2.1 13)) rfl rfl) (Eq.trans (b := x3) rfl rfl) (Eq.trans (b := (σ.1 15)) rfl rfl) (Eq.trans (b := n12) rfl rfl) (Eq.trans (b := (1 : Int32)) rfl rfl) (Eq.trans (b := (σ.1 18)) rfl rfl) (Eq.trans (b := (σ.1 19)) rfl rfl) (Eq.trans (b := (σ.2.1 20)) rfl rfl) (Eq.trans (b := (σ.2.1 21)) rfl rfl) (Eq.trans (b := (σ.2.1 22)) rfl rfl) (Eq.trans (b := (σ.2.1 23)) rfl rfl) (Eq.trans (b := (σ.2.1 24)) rfl rfl) (Eq.trans (b := (σ.2.1 25)) rfl rfl) (Eq.trans (b := (σ.2.1 26)) rfl rfl) (Eq.trans (b := (upd (σ.2.1 27) x4.toNatClampNeg (0 : Int32))) rfl rfl) (Eq.trans (b := (σ.2.1 28)) rfl rfl) (Eq.trans (b := x13) rfl rfl) (Eq.trans (b := (upd (σ.2.1 30) (σ.1 29).toNatClampNeg (0 : Int32))) rfl rfl) (Eq.trans (b := (upd (σ.2.1 31) (σ.1 29).toNatClampNeg k0)) rfl rfl) (Eq.trans (b := (upd (σ.2.1 32) (σ.1 29).toNatClampNeg r11)) rfl rfl) (Eq.trans (b := (σ.1 33)) rfl rfl) (Eq.trans (b := (σ.1 34)) rfl rfl) (Eq.trans (b := (σ.1 35)) rfl rfl) (Eq.trans (b := (σ.2.1 36)) rfl rfl) (Eq.trans (b := (σ.2.1 37)) rfl rfl) (Eq.trans (b := (σ.2.1 38)) rfl rfl) (Eq.trans (b := (σ.2.1 39)) rfl rfl) (Eq.trans (b := (σ.2.1 40)) rfl rfl) (Eq.trans (b := (σ.2.1 41)) rfl rfl) (Eq.trans (b := (σ.2.1 42)) rfl rfl) (Eq.trans (b := (σ.2.1 43)) rfl rfl) (Eq.trans (b := (σ.2.1 44)) rfl rfl) (Eq.trans (b := (σ.2.1 45)) rfl rfl) (Eq.trans (b := (σ.2.1 46)) rfl rfl) (Eq.trans (b := (σ.1 47)) rfl rfl) (Eq.trans (b := (σ.2.1 48)) rfl rfl) (Eq.trans (b := (σ.1 49)) rfl rfl) (Eq.trans (b := (σ.2.1 50)) rfl rfl) (Eq.trans (b := (σ.2.1 51)) rfl rfl) (Eq.trans (b := (σ.2.2.1 52)) rfl rfl) (Eq.trans (b := (σ.2.2.1 53)) rfl rfl) (Eq.trans (b := (σ.2.2.2)) rfl rfl) (Eq.trans (b := (σ.1 55)) rfl rfl) (Eq.trans (b := (σ.1 56)) rfl rfl) (Eq.trans (b := (σ.1 57)) rfl rfl) (Eq.trans (b := (σ.2.1 58)) rfl rfl) (Eq.trans (b := (σ.1 59)) rfl rfl)
        exact r_retv C ⟨x3, (upd (σ.2.1 11) ((σ.1 15).toInt + (σ.1 16).toInt).toNat (32 : Int32)), (vp_updL (σ.2.2.1 12) ((σ.1 15).toInt + (σ.1 16).toInt).toNat (0 : Int64)), n12, x13, (upd (σ.2.1 31) (σ.1 29).toNatClampNeg k0), (upd (σ.2.1 30) (σ.1 29).toNatClampNeg (0 : Int32)), (upd (σ.2.1 32) (σ.1 29).toNatClampNeg r11), (upd (σ.2.1 27) x4.toNatClampNeg (0 : Int32)), (1 : Int32)⟩ (v_binary_14 σ k0 x1 x2 x3 x4 n12 r11 x13 hpre_0 hpre_1 hpre_2 hpre_4 hpre_5 hpre_6 hpre_7 ex1 tx1 ex2 tx2 ex3 tx3 ex4 tx4 c5 c6 c7 hr11_0 hr11_1 ex13 tx13) hP hS dX12_binary_115
    · have c6 : 2 < k0.toInt := by have h := z_nle c6; rw [show (2 : Int32).toInt = 2 from by decide +kernel] at h; exact h
      exact absurd (v_binary_15 k0 hpre_6 hpre_7 c5 c6) id
  · have c5 : 2 < k0.toInt := by have h := z_nle c5; rw [show (2 : Int32).toInt = 2 from by decide +kernel] at h; exact h
    refine lv_iload_n hx hb dX12_binary_56 rfl (lv_at hl 0 rfl) ?_
    refine r_callSi (As := [.int x2]) (rest := [.int (σ.1 29), .ref (ad 30)]) C hP hS hl.1 ⟨Nat.zero_le _, Nat.zero_le _⟩ (M_stepOf l D cy sz0 sa ad (rA (rA (rS σ 14 x3) 27 (upd (σ.2.1 27) x4.toNatClampNeg (0 : Int32))) 31 (upd (σ.2.1 31) (σ.1 29).toNatClampNeg k0)) H.size x2 trivial) (n := 1) ⟨wm_127, wm_120, by decide +kernel⟩ ⟨wm_128, wm_10⟩ rfl rfl (lv_room (Nat.le_of_ble_eq_true rfl)) ⟨Nat.le_of_ble_eq_true rfl, Nat.le_of_ble_eq_true rfl⟩ dX12_binary_57 (fun r14 u H locs hr14 hP hS => ?_)
    have hr14 : 16 ≤ r14.toInt ∧ r14.toInt ≤ 26 := hr14
    obtain ⟨hr14_0, hr14_1⟩ := hr14
    refine lv_goto (tgt := 64) hx hb dX12_binary_60 (by decide) ?_
    refine rw_30 (f := (σ.2.1 30)) C hP hS rfl (v_binary_6 σ x1 x2 x3 x4 hpre_0 hpre_1 hpre_2 hpre_4 hpre_5 ex1 tx1 ex2 ex3 tx3 ex4 tx4) dX12_binary_64 (fun H locs hP hS => ?_)
    refine lv_aload_n hx hb dX12_binary_65 rfl (lv_at hl 1 rfl) ?_
    refine rg_32 C hP wm_123 dX12_binary_66 ?_
    refine lv_aload_n hx hb dX12_binary_69 rfl (lv_at hl 1 rfl) ?_
    refine rg_29 (v := (σ.1 29)) C hP rfl wm_77 dX12_binary_70 ?_
    refine lv_iload_n hx hb dX12_binary_73 rfl (lv_at hl 2 rfl) ?_
    refine lv_iconst (v := 2) hx hb dX12_binary_74 (by decide +kernel) ?_
    refine lv_icmp_le (tgt := 82) hx hb dX12_binary_75 (by decide) (fun c15 => ?_) (fun c15 => ?_)
    · have c15 : k0.toInt ≤ 2 := by have h := z_le c15; rw [show (2 : Int32).toInt = 2 from by decide +kernel] at h; exact h
      exact absurd (v_binary_16 k0 hpre_6 hpre_7 c5 c15) id
    · have c15 : 2 < k0.toInt := by have h := z_nle c15; rw [show (2 : Int32).toInt = 2 from by decide +kernel] at h; exact h
      refine lv_iconst (v := 0) hx hb dX12_binary_78 (by decide +kernel) ?_
      refine lv_goto (tgt := 99) hx hb dX12_binary_79 (by decide) ?_
      refine rw_32 (f := (σ.2.1 32)) C hP hS rfl (v_binary_6 σ x1 x2 x3 x4 hpre_0 hpre_1 hpre_2 hpre_4 hpre_5 ex1 tx1 ex2 ex3 tx3 ex4 tx4) dX12_binary_99 (fun H locs hP hS => ?_)
      refine lv_aload_n hx hb dX12_binary_100 rfl (lv_at hl 1 rfl) ?_
      refine lv_dup hx hb dX12_binary_101 rfl ?_
      refine rg_29 (v := (σ.1 29)) C hP rfl wm_77 dX12_binary_102 ?_
      refine lv_iconst (v := 1) hx hb dX12_binary_105 (by decide +kernel) ?_
      refine lv_iadd hx hb dX12_binary_106 ?_
      refine lv_topi (fun x16 ex16 => ?_)
      have tx16 : x16.toInt = (σ.1 29).toInt + 1 := (v_binary_17 σ x1 x2 x3 x4 x16 hpre_0 hpre_1 hpre_2 hpre_4 hpre_5 ex1 tx1 ex2 ex3 tx3 ex4 tx4 ex16)
      refine rp_29 C hP hS wm_77 dX12_binary_107 (fun H locs hP hS => ?_)
      refine lv_aload_n hx hb dX12_binary_110 rfl (lv_at hl 1 rfl) ?_
      refine lv_iconst (v := 1) hx hb dX12_binary_111 (by decide +kernel) ?_
      refine rp_17 C hP hS (v_binary_10  ) wm_82 dX12_binary_112 (fun H locs hP hS => ?_)
      have hP : RP D cy ad (rS (rA (rA (rA (rA (rS (rS (rJ (rA (rS σ 14 x3) 11 (σ.2.1 11)) 12 (σ.2.2.1 12)) 16 (σ.1 16)) 29 x16) 31 (upd (σ.2.1 31) (σ.1 29).toNatClampNeg k0)) 30 (upd (σ.2.1 30) (σ.1 29).toNatClampNeg r14)) 32 (upd (σ.2.1 32) (σ.1 29).toNatClampNeg (0 : Int32))) 27 (upd (σ.2.1 27) x4.toNatClampNeg (0 : Int32))) 17 (1 : Int32)) H := RP.cong hP (Eq.trans (b := (σ.1 0)) rfl rfl) (Eq.trans (b := (σ.1 1)) rfl rfl) (Eq.trans (b := (σ.2.1 2)) rfl rfl) (Eq.trans (b := (σ.1 3)) rfl rfl) (Eq.trans (b := (σ.2.1 4)) rfl rfl) (Eq.trans (b := (σ.2.1 5)) rfl rfl) (Eq.trans (b := (σ.2.2.1 6)) rfl rfl) (Eq.trans (b := (σ.2.1 7)) rfl rfl) (Eq.trans (b := (σ.1 8)) rfl rfl) (Eq.trans (b := (σ.1 9)) rfl rfl) (Eq.trans (b := (σ.1 10)) rfl rfl) (Eq.trans (b := (σ.2.1 11)) rfl rfl) (Eq.trans (b := (σ.2.2.1 12)) rfl rfl) (Eq.trans (b := (σ.2.1 13)) rfl rfl) (Eq.trans (b := x3) rfl rfl) (Eq.trans (b := (σ.1 15)) rfl rfl) (Eq.trans (b := (σ.1 16)) rfl rfl) (Eq.trans (b := (1 : Int32)) rfl rfl) (Eq.trans (b := (σ.1 18)) rfl rfl) (Eq.trans (b := (σ.1 19)) rfl rfl) (Eq.trans (b := (σ.2.1 20)) rfl rfl) (Eq.trans (b := (σ.2.1 21)) rfl rfl) (Eq.trans (b := (σ.2.1 22)) rfl rfl) (Eq.trans (b := (σ.2.1 23)) rfl rfl) (Eq.trans (b := (σ.2.1 24)) rfl rfl) (Eq.trans (b := (σ.2.1 25)) rfl rfl) (Eq.trans (b := (σ.2.1 26)) rfl rfl) (Eq.trans (b := (upd (σ.2.1 27) x4.toNatClampNeg (0 : Int32))) rfl rfl) (Eq.trans (b := (σ.2.1 28)) rfl rfl) (Eq.trans (b := x16) rfl rfl) (Eq.trans (b := (upd (σ.2.1 30) (σ.1 29).toNatClampNeg r14)) rfl rfl) (Eq.trans (b := (upd (σ.2.1 31) (σ.1 29).toNatClampNeg k0)) rfl rfl) (Eq.trans (b := (upd (σ.2.1 32) (σ.1 29).toNatClampNeg (0 : Int32))) rfl rfl) (Eq.trans (b := (σ.1 33)) rfl rfl) (Eq.trans (b := (σ.1 34)) rfl rfl) (Eq.trans (b := (σ.1 35)) rfl rfl) (Eq.trans (b := (σ.2.1 36)) rfl rfl) (Eq.trans (b := (σ.2.1 37)) rfl rfl) (Eq.trans (b := (σ.2.1 38)) rfl rfl) (Eq.trans (b := (σ.2.1 39)) rfl rfl) (Eq.trans (b := (σ.2.1 40)) rfl rfl) (Eq.trans (b := (σ.2.1 41)) rfl rfl) (Eq.trans (b := (σ.2.1 42)) rfl rfl) (Eq.trans (b := (σ.2.1 43)) rfl rfl) (Eq.trans (b := (σ.2.1 44)) rfl rfl) (Eq.trans (b := (σ.2.1 45)) rfl rfl) (Eq.trans (b := (σ.2.1 46)) rfl rfl) (Eq.trans (b := (σ.1 47)) rfl rfl) (Eq.trans (b := (σ.2.1 48)) rfl rfl) (Eq.trans (b := (σ.1 49)) rfl rfl) (Eq.trans (b := (σ.2.1 50)) rfl rfl) (Eq.trans (b := (σ.2.1 51)) rfl rfl) (Eq.trans (b := (σ.2.2.1 52)) rfl rfl) (Eq.trans (b := (σ.2.2.1 53)) rfl rfl) (Eq.trans (b := (σ.2.2.2)) rfl rfl) (Eq.trans (b := (σ.1 55)) rfl rfl) (Eq.trans (b := (σ.1 56)) rfl rfl) (Eq.trans (b := (σ.1 57)) rfl rfl) (Eq.trans (b := (σ.2.1 58)) rfl rfl) (Eq.trans (b := (σ.1 59)) rfl rfl)
      exact r_retv C ⟨x3, (σ.2.1 11), (σ.2.2.1 12), (σ.1 16), x16, (upd (σ.2.1 31) (σ.1 29).toNatClampNeg k0), (upd (σ.2.1 30) (σ.1 29).toNatClampNeg r14), (upd (σ.2.1 32) (σ.1 29).toNatClampNeg (0 : Int32)), (upd (σ.2.1 27) x4.toNatClampNeg (0 : Int32)), (1 : Int32)⟩ (v_binary_18 σ k0 x1 x2 x3 x4 r14 x16 hpre_0 hpre_1 hpre_2 hpre_4 hpre_5 hpre_6 hpre_7 ex1 tx1 ex2 tx2 ex3 tx3 ex4 tx4 c5 hr14_0 hr14_1 c15 ex16 tx16) hP hS dX12_binary_115

-- pre:isSign@4 @4
theorem v_suffix_1 (σ : RS) (hpre_0 : TKI (σ.2.1 4) (σ.2.2.1 6) (σ.2.1 7) (σ.1 3) (σ.1 14)) (hpre_1 : 0 ≤ (σ.1 15).toInt) (hpre_2 : (σ.1 15).toInt ≤ 3510) (hpre_4 : PQ1 1 0 (σ.1 14) (σ.1 15) (σ.1 16) (σ.1 19) (σ.1 29) (σ.2.1 11) (σ.2.2.1 12) (σ.2.1 31) (σ.2.1 30) (σ.2.1 32) (σ.2.1 21) (σ.2.1 22) (σ.2.1 20) (σ.2.1 23) (σ.2.1 24) (σ.2.1 25) (σ.2.1 27) (σ.1 33) (σ.1 34) (σ.2.1 28)) : 0 ≤ (σ.1 14).toInt ∧ (σ.1 14).toInt ≤ 41 := by
  have bb_hpre_0 := hpre_0.b
  have bb_hpre_4 := hpre_4.z.b
  have kk_hpre_0 := hpre_0.in
  refine ⟨?_, ?_⟩ <;> first | assumption | omega | (subst_vars; omega) | trivial
-- nw@29 @29
theorem v_suffix_2 (σ : RS) (x3 : Int32) (hpre_0 : TKI (σ.2.1 4) (σ.2.2.1 6) (σ.2.1 7) (σ.1 3) (σ.1 14)) (hpre_1 : 0 ≤ (σ.1 15).toInt) (hpre_2 : (σ.1 15).toInt ≤ 3510) (hpre_4 : PQ1 1 0 (σ.1 14) (σ.1 15) (σ.1 16) (σ.1 19) (σ.1 29) (σ.2.1 11) (σ.2.2.1 12) (σ.2.1 31) (σ.2.1 30) (σ.2.1 32) (σ.2.1 21) (σ.2.1 22) (σ.2.1 20) (σ.2.1 23) (σ.2.1 24) (σ.2.1 25) (σ.2.1 27) (σ.1 33) (σ.1 34) (σ.2.1 28)) (hr1_0 : ((σ.2.1 4) (σ.1 14).toNatClampNeg).toInt = 5) (hr1_1 : ((σ.2.2.1 6) (σ.1 14).toNatClampNeg).toInt = (16174 : Int32).toInt) (ex3 : x3 = (σ.1 14) + (1 : Int32)) : x3.toInt = (σ.1 14).toInt + 1 := by
  have q1 : (1 : Int32).toInt = 1 := by decide +kernel
  have q16174 : (16174 : Int32).toInt = 16174 := by decide +kernel
  have bb_hpre_0 := hpre_0.b
  have bb_hpre_4 := hpre_4.z.b
  have kk_hpre_0 := hpre_0.in
  have w1 : (1 : Int32).toInt = 1 := by decide +kernel
  rw [ex3, z_add (by omega) (by omega)]; first | done | omega
-- in@41 @41
theorem v_suffix_3 (σ : RS) (x3 : Int32) (hpre_0 : TKI (σ.2.1 4) (σ.2.2.1 6) (σ.2.1 7) (σ.1 3) (σ.1 14)) (hpre_1 : 0 ≤ (σ.1 15).toInt) (hpre_2 : (σ.1 15).toInt ≤ 3510) (hpre_4 : PQ1 1 0 (σ.1 14) (σ.1 15) (σ.1 16) (σ.1 19) (σ.1 29) (σ.2.1 11) (σ.2.2.1 12) (σ.2.1 31) (σ.2.1 30) (σ.2.1 32) (σ.2.1 21) (σ.2.1 22) (σ.2.1 20) (σ.2.1 23) (σ.2.1 24) (σ.2.1 25) (σ.2.1 27) (σ.1 33) (σ.1 34) (σ.2.1 28)) (hr1_0 : ((σ.2.1 4) (σ.1 14).toNatClampNeg).toInt = 5) (hr1_1 : ((σ.2.2.1 6) (σ.1 14).toNatClampNeg).toInt = (16174 : Int32).toInt) (ex3 : x3 = (σ.1 14) + (1 : Int32)) (tx3 : x3.toInt = (σ.1 14).toInt + 1) : vp_in x3 42 := by
  have q1 : (1 : Int32).toInt = 1 := by decide +kernel
  have q16174 : (16174 : Int32).toInt = 16174 := by decide +kernel
  have bb_hpre_0 := hpre_0.b
  have bb_hpre_4 := hpre_4.z.b
  have kk_hpre_0 := hpre_0.in
  exact vp_in_iff.mpr ⟨by omega, by omega⟩
-- in@60 @60
theorem v_suffix_4 (σ : RS) (x3 : Int32) (x4 : Int32) (hpre_0 : TKI (σ.2.1 4) (σ.2.2.1 6) (σ.2.1 7) (σ.1 3) (σ.1 14)) (hpre_1 : 0 ≤ (σ.1 15).toInt) (hpre_2 : (σ.1 15).toInt ≤ 3510) (hpre_4 : PQ1 1 0 (σ.1 14) (σ.1 15) (σ.1 16) (σ.1 19) (σ.1 29) (σ.2.1 11) (σ.2.2.1 12) (σ.2.1 31) (σ.2.1 30) (σ.2.1 32) (σ.2.1 21) (σ.2.1 22) (σ.2.1 20) (σ.2.1 23) (σ.2.1 24) (σ.2.1 25) (σ.2.1 27) (σ.1 33) (σ.1 34) (σ.2.1 28)) (hr1_0 : ((σ.2.1 4) (σ.1 14).toNatClampNeg).toInt = 5) (hr1_1 : ((σ.2.2.1 6) (σ.1 14).toNatClampNeg).toInt = (16174 : Int32).toInt) (ex3 : x3 = (σ.1 14) + (1 : Int32)) (tx3 : x3.toInt = (σ.1 14).toInt + 1) (ex4 : x4 = (σ.2.1 4) x3.toNatClampNeg) (tx4 : x4.toInt = ((σ.2.1 4) ((σ.1 14).toInt + 1).toNat).toInt) (c5 : x4.toInt = 3) : vp_in x3 42 := by
  have q1 : (1 : Int32).toInt = 1 := by decide +kernel
  have q16174 : (16174 : Int32).toInt = 16174 := by decide +kernel
  have bb_hpre_0 := hpre_0.b
  have bb_hpre_4 := hpre_4.z.b
  have kk_hpre_0 := hpre_0.in
  exact vp_in_iff.mpr ⟨by omega, by omega⟩
-- nw@69 @69
theorem v_suffix_5 (σ : RS) (x3 : Int32) (x4 : Int32) (x6 : Int64) (x7 : Int32) (x8 : Int32) (hpre_0 : TKI (σ.2.1 4) (σ.2.2.1 6) (σ.2.1 7) (σ.1 3) (σ.1 14)) (hpre_1 : 0 ≤ (σ.1 15).toInt) (hpre_2 : (σ.1 15).toInt ≤ 3510) (hpre_4 : PQ1 1 0 (σ.1 14) (σ.1 15) (σ.1 16) (σ.1 19) (σ.1 29) (σ.2.1 11) (σ.2.2.1 12) (σ.2.1 31) (σ.2.1 30) (σ.2.1 32) (σ.2.1 21) (σ.2.1 22) (σ.2.1 20) (σ.2.1 23) (σ.2.1 24) (σ.2.1 25) (σ.2.1 27) (σ.1 33) (σ.1 34) (σ.2.1 28)) (hr1_0 : ((σ.2.1 4) (σ.1 14).toNatClampNeg).toInt = 5) (hr1_1 : ((σ.2.2.1 6) (σ.1 14).toNatClampNeg).toInt = (16174 : Int32).toInt) (ex3 : x3 = (σ.1 14) + (1 : Int32)) (tx3 : x3.toInt = (σ.1 14).toInt + 1) (ex4 : x4 = (σ.2.1 4) x3.toNatClampNeg) (tx4 : x4.toInt = ((σ.2.1 4) ((σ.1 14).toInt + 1).toNat).toInt) (c5 : x4.toInt = 3) (ex6 : x6 = (σ.2.2.1 6) x3.toNatClampNeg) (tx6 : x6.toInt = ((σ.2.2.1 6) ((σ.1 14).toInt + 1).toNat).toInt) (ex7 : x7 = Int64.toInt32 x6) (tx7 : -2147483648 ≤ x6.toInt → x6.toInt < 2147483648 → x7.toInt = x6.toInt) (ex8 : x8 = x3 + (1 : Int32)) : x8.toInt = x3.toInt + 1 := by
  have q1 : (1 : Int32).toInt = 1 := by decide +kernel
  have q16174 : (16174 : Int32).toInt = 16174 := by decide +kernel
  have bb_hpre_0 := hpre_0.b
  have bb_hpre_4 := hpre_4.z.b
  have kk_hpre_0 := hpre_0.in
  have w1 : (1 : Int32).toInt = 1 := by decide +kernel
  rw [ex8, z_add (by omega) (by omega)]; first | done | omega
-- pre:named@76 @76
theorem v_suffix_6 (σ : RS) (r1 : Int32) (x3 : Int32) (x4 : Int32) (x6 : Int64) (x7 : Int32) (x8 : Int32) (hpre_0 : TKI (σ.2.1 4) (σ.2.2.1 6) (σ.2.1 7) (σ.1 3) (σ.1 14)) (hpre_1 : 0 ≤ (σ.1 15).toInt) (hpre_2 : (σ.1 15).toInt ≤ 3510) (hpre_3 : (σ.1 8).toInt = 0) (hpre_4 : PQ1 1 0 (σ.1 14) (σ.1 15) (σ.1 16) (σ.1 19) (σ.1 29) (σ.2.1 11) (σ.2.2.1 12) (σ.2.1 31) (σ.2.1 30) (σ.2.1 32) (σ.2.1 21) (σ.2.1 22) (σ.2.1 20) (σ.2.1 23) (σ.2.1 24) (σ.2.1 25) (σ.2.1 27) (σ.1 33) (σ.1 34) (σ.2.1 28)) (hr1_0 : ((σ.2.1 4) (σ.1 14).toNatClampNeg).toInt = 5) (hr1_1 : ((σ.2.2.1 6) (σ.1 14).toNatClampNeg).toInt = (16174 : Int32).toInt) (c2 : ¬ r1.toInt = 0) (hr1v : r1.toInt = 1) (ex3 : x3 = (σ.1 14) + (1 : Int32)) (tx3 : x3.toInt = (σ.1 14).toInt + 1) (ex4 : x4 = (σ.2.1 4) x3.toNatClampNeg) (tx4 : x4.toInt = ((σ.2.1 4) ((σ.1 14).toInt + 1).toNat).toInt) (c5 : x4.toInt = 3) (ex6 : x6 = (σ.2.2.1 6) x3.toNatClampNeg) (tx6 : x6.toInt = ((σ.2.2.1 6) ((σ.1 14).toInt + 1).toNat).toInt) (ex7 : x7 = Int64.toInt32 x6) (tx7 : -2147483648 ≤ x6.toInt → x6.toInt < 2147483648 → x7.toInt = x6.toInt) (ex8 : x8 = x3 + (1 : Int32)) (tx8 : x8.toInt = x3.toInt + 1) : TKI (σ.2.1 4) (σ.2.2.1 6) (σ.2.1 7) (σ.1 3) x8 ∧ 0 ≤ (σ.1 15).toInt ∧ (σ.1 15).toInt ≤ 3510 ∧ (σ.1 8).toInt = 0 ∧ PQ0 1 1 x8 (σ.1 15) (σ.1 16) (σ.1 19) (σ.1 29) (σ.2.1 11) (σ.2.2.1 12) (σ.2.1 31) (σ.2.1 30) (σ.2.1 32) (σ.2.1 21) (σ.2.1 22) (σ.2.1 20) (σ.2.1 23) (σ.2.1 24) (σ.2.1 25) (σ.2.1 27) (σ.1 33) (σ.1 34) ∧ 0 ≤ x7.toInt ∧ x7.toInt ≤ 14348906 ∧ (r1 = 0 ∨ r1 = 1) := by
  have q1 : (1 : Int32).toInt = 1 := by decide +kernel
  have q16174 : (16174 : Int32).toInt = 16174 := by decide +kernel
  have bb_hpre_0 := hpre_0.b
  have bb_hpre_4 := hpre_4.z.b
  have kk_hpre_0 := hpre_0.in
  have k := hpre_0.in (by omega)
  have k2 := (hpre_0.up (nx' := x3) (by omega) (by omega)).in (by rw [clampN, tx3]; omega)
  rw [clampN, tx3] at k2
  exact ⟨hpre_0.up (by omega) (by omega), hpre_1, hpre_2, hpre_3, PQ_weak hpre_4 (by omega), by omega, by omega, by first | exact Or.inl rfl | exact bool_of (by omega)⟩
-- post @80
theorem v_suffix_7 (σ : RS) (x3 : Int32) (x4 : Int32) (x6 : Int64) (x7 : Int32) (x8 : Int32) (n10 : Int32) (F11 : (Nat → Int32)) (G12 : (Nat → Int64)) (n13 : Int32) (n14 : Int32) (n15 : Int32) (F16 : (Nat → Int32)) (F17 : (Nat → Int32)) (F18 : (Nat → Int32)) (F19 : (Nat → Int32)) (F20 : (Nat → Int32)) (F21 : (Nat → Int32)) (F22 : (Nat → Int32)) (F23 : (Nat → Int32)) (F24 : (Nat → Int32)) (F25 : (Nat → Int32)) (F26 : (Nat → Int32)) (F27 : (Nat → Int32)) (n28 : Int32) (n29 : Int32) (n30 : Int32) (n31 : Int32) (hpre_0 : TKI (σ.2.1 4) (σ.2.2.1 6) (σ.2.1 7) (σ.1 3) (σ.1 14)) (hpre_1 : 0 ≤ (σ.1 15).toInt) (hpre_2 : (σ.1 15).toInt ≤ 3510) (hpre_3 : (σ.1 8).toInt = 0) (hpre_4 : PQ1 1 0 (σ.1 14) (σ.1 15) (σ.1 16) (σ.1 19) (σ.1 29) (σ.2.1 11) (σ.2.2.1 12) (σ.2.1 31) (σ.2.1 30) (σ.2.1 32) (σ.2.1 21) (σ.2.1 22) (σ.2.1 20) (σ.2.1 23) (σ.2.1 24) (σ.2.1 25) (σ.2.1 27) (σ.1 33) (σ.1 34) (σ.2.1 28)) (hpre_5 : (σ.1 17).toInt = 0) (hr1_0 : ((σ.2.1 4) (σ.1 14).toNatClampNeg).toInt = 5) (hr1_1 : ((σ.2.2.1 6) (σ.1 14).toNatClampNeg).toInt = (16174 : Int32).toInt) (ex3 : x3 = (σ.1 14) + (1 : Int32)) (tx3 : x3.toInt = (σ.1 14).toInt + 1) (ex4 : x4 = (σ.2.1 4) x3.toNatClampNeg) (tx4 : x4.toInt = ((σ.2.1 4) ((σ.1 14).toInt + 1).toNat).toInt) (c5 : x4.toInt = 3) (ex6 : x6 = (σ.2.2.1 6) x3.toNatClampNeg) (tx6 : x6.toInt = ((σ.2.2.1 6) ((σ.1 14).toInt + 1).toNat).toInt) (ex7 : x7 = Int64.toInt32 x6) (tx7 : -2147483648 ≤ x6.toInt → x6.toInt < 2147483648 → x7.toInt = x6.toInt) (ex8 : x8 = x3 + (1 : Int32)) (tx8 : x8.toInt = x3.toInt + 1) (hr9_0 : Keep (σ.1 15).toInt (σ.2.1 11) F11 (σ.2.2.1 12) G12) (hr9_1 : 0 ≤ n31.toInt) (hr9_2 : n31.toInt ≤ 3) (hr9_3 : n31.toInt = 0 → TKI (σ.2.1 4) (σ.2.2.1 6) (σ.2.1 7) (σ.1 3) n10 ∧ LI n28 n10 (σ.1 15) n13 n14 n15 F11 G12 F16 F17 F18 F19 F20 F21 F22 F23 F24 F26 n29 n30 F27 ∧ 2 * x8.toInt - (σ.1 19).toInt ≤ 2 * n10.toInt - n14.toInt) : ((1 : Int32).toInt = 0 ∧ n10 = (σ.1 14) ∧ F11 = (σ.2.1 11) ∧ G12 = (σ.2.2.1 12) ∧ n13 = (σ.1 16) ∧ n14 = (σ.1 19) ∧ n15 = (σ.1 29) ∧ F16 = (σ.2.1 31) ∧ F17 = (σ.2.1 30) ∧ F18 = (σ.2.1 32) ∧ F19 = (σ.2.1 21) ∧ F20 = (σ.2.1 22) ∧ F21 = (σ.2.1 20) ∧ F22 = (σ.2.1 23) ∧ F23 = (σ.2.1 24) ∧ F24 = (σ.2.1 25) ∧ F25 = (σ.2.1 26) ∧ F26 = (σ.2.1 27) ∧ F27 = (σ.2.1 28) ∧ n28 = (σ.1 17) ∧ n29 = (σ.1 33) ∧ n30 = (σ.1 34) ∧ n31 = (σ.1 8)) ∨ ((1 : Int32).toInt = 1 ∧ Keep (σ.1 15).toInt (σ.2.1 11) F11 (σ.2.2.1 12) G12 ∧ 0 ≤ n31.toInt ∧ n31.toInt ≤ 3 ∧ (n31.toInt = 0 → TKI (σ.2.1 4) (σ.2.2.1 6) (σ.2.1 7) (σ.1 3) n10 ∧ LI n28 n10 (σ.1 15) n13 n14 n15 F11 G12 F16 F17 F18 F19 F20 F21 F22 F23 F24 F26 n29 n30 F27 ∧ 2 * (σ.1 14).toInt - (σ.1 19).toInt < 2 * n10.toInt - n14.toInt)) := by
  have q1 : (1 : Int32).toInt = 1 := by decide +kernel
  have q16174 : (16174 : Int32).toInt = 16174 := by decide +kernel
  have bb_hpre_0 := hpre_0.b
  have bb_hpre_4 := hpre_4.z.b
  have kk_hpre_0 := hpre_0.in
  exact Or.inr ⟨q1, hr9_0, hr9_1, hr9_2, fun h => ⟨(hr9_3 h).1, (hr9_3 h).2.1, by have := (hr9_3 h).2.2; omega⟩⟩
-- bool@ret @80
theorem v_suffix_8   : (1 : Int32) = 0 ∨ (1 : Int32) = 1 := by
  have q1 : (1 : Int32).toInt = 1 := by decide +kernel
  first | exact Or.inl rfl | exact Or.inr rfl | exact bool_of (by omega)
-- pre:misfit@47 @47
theorem v_suffix_9 (σ : RS) (x3 : Int32) (x4 : Int32) (hpre_0 : TKI (σ.2.1 4) (σ.2.2.1 6) (σ.2.1 7) (σ.1 3) (σ.1 14)) (hpre_1 : 0 ≤ (σ.1 15).toInt) (hpre_2 : (σ.1 15).toInt ≤ 3510) (hpre_4 : PQ1 1 0 (σ.1 14) (σ.1 15) (σ.1 16) (σ.1 19) (σ.1 29) (σ.2.1 11) (σ.2.2.1 12) (σ.2.1 31) (σ.2.1 30) (σ.2.1 32) (σ.2.1 21) (σ.2.1 22) (σ.2.1 20) (σ.2.1 23) (σ.2.1 24) (σ.2.1 25) (σ.2.1 27) (σ.1 33) (σ.1 34) (σ.2.1 28)) (hr1_0 : ((σ.2.1 4) (σ.1 14).toNatClampNeg).toInt = 5) (hr1_1 : ((σ.2.2.1 6) (σ.1 14).toNatClampNeg).toInt = (16174 : Int32).toInt) (ex3 : x3 = (σ.1 14) + (1 : Int32)) (tx3 : x3.toInt = (σ.1 14).toInt + 1) (ex4 : x4 = (σ.2.1 4) x3.toNatClampNeg) (tx4 : x4.toInt = ((σ.2.1 4) ((σ.1 14).toInt + 1).toNat).toInt) (c5 : ¬ x4.toInt = 3) : 0 ≤ x3.toInt ∧ x3.toInt ≤ 41 := by
  have q1 : (1 : Int32).toInt = 1 := by decide +kernel
  have q16174 : (16174 : Int32).toInt = 16174 := by decide +kernel
  have bb_hpre_0 := hpre_0.b
  have bb_hpre_4 := hpre_4.z.b
  have kk_hpre_0 := hpre_0.in
  refine ⟨?_, ?_⟩ <;> first | assumption | omega | (subst_vars; omega) | trivial
-- post @51
theorem v_suffix_10 (σ : RS) (x3 : Int32) (x4 : Int32) (n34 : Int32) (hpre_0 : TKI (σ.2.1 4) (σ.2.2.1 6) (σ.2.1 7) (σ.1 3) (σ.1 14)) (hpre_1 : 0 ≤ (σ.1 15).toInt) (hpre_2 : (σ.1 15).toInt ≤ 3510) (hpre_3 : (σ.1 8).toInt = 0) (hpre_4 : PQ1 1 0 (σ.1 14) (σ.1 15) (σ.1 16) (σ.1 19) (σ.1 29) (σ.2.1 11) (σ.2.2.1 12) (σ.2.1 31) (σ.2.1 30) (σ.2.1 32) (σ.2.1 21) (σ.2.1 22) (σ.2.1 20) (σ.2.1 23) (σ.2.1 24) (σ.2.1 25) (σ.2.1 27) (σ.1 33) (σ.1 34) (σ.2.1 28)) (hpre_5 : (σ.1 17).toInt = 0) (hr1_0 : ((σ.2.1 4) (σ.1 14).toNatClampNeg).toInt = 5) (hr1_1 : ((σ.2.2.1 6) (σ.1 14).toNatClampNeg).toInt = (16174 : Int32).toInt) (ex3 : x3 = (σ.1 14) + (1 : Int32)) (tx3 : x3.toInt = (σ.1 14).toInt + 1) (ex4 : x4 = (σ.2.1 4) x3.toNatClampNeg) (tx4 : x4.toInt = ((σ.2.1 4) ((σ.1 14).toInt + 1).toNat).toInt) (c5 : ¬ x4.toInt = 3) (hr33 : (σ.1 8).toInt = 0 → n34.toInt = 2) : ((1 : Int32).toInt = 0 ∧ x3 = (σ.1 14) ∧ (σ.2.1 11) = (σ.2.1 11) ∧ (σ.2.2.1 12) = (σ.2.2.1 12) ∧ (σ.1 16) = (σ.1 16) ∧ (σ.1 19) = (σ.1 19) ∧ (σ.1 29) = (σ.1 29) ∧ (σ.2.1 31) = (σ.2.1 31) ∧ (σ.2.1 30) = (σ.2.1 30) ∧ (σ.2.1 32) = (σ.2.1 32) ∧ (σ.2.1 21) = (σ.2.1 21) ∧ (σ.2.1 22) = (σ.2.1 22) ∧ (σ.2.1 20) = (σ.2.1 20) ∧ (σ.2.1 23) = (σ.2.1 23) ∧ (σ.2.1 24) = (σ.2.1 24) ∧ (σ.2.1 25) = (σ.2.1 25) ∧ (σ.2.1 26) = (σ.2.1 26) ∧ (σ.2.1 27) = (σ.2.1 27) ∧ (σ.2.1 28) = (σ.2.1 28) ∧ (σ.1 17) = (σ.1 17) ∧ (σ.1 33) = (σ.1 33) ∧ (σ.1 34) = (σ.1 34) ∧ n34 = (σ.1 8)) ∨ ((1 : Int32).toInt = 1 ∧ Keep (σ.1 15).toInt (σ.2.1 11) (σ.2.1 11) (σ.2.2.1 12) (σ.2.2.1 12) ∧ 0 ≤ n34.toInt ∧ n34.toInt ≤ 3 ∧ (n34.toInt = 0 → TKI (σ.2.1 4) (σ.2.2.1 6) (σ.2.1 7) (σ.1 3) x3 ∧ LI (σ.1 17) x3 (σ.1 15) (σ.1 16) (σ.1 19) (σ.1 29) (σ.2.1 11) (σ.2.2.1 12) (σ.2.1 31) (σ.2.1 30) (σ.2.1 32) (σ.2.1 21) (σ.2.1 22) (σ.2.1 20) (σ.2.1 23) (σ.2.1 24) (σ.2.1 25) (σ.2.1 27) (σ.1 33) (σ.1 34) (σ.2.1 28) ∧ 2 * (σ.1 14).toInt - (σ.1 19).toInt < 2 * x3.toInt - (σ.1 19).toInt)) := by
  have q1 : (1 : Int32).toInt = 1 := by decide +kernel
  have q16174 : (16174 : Int32).toInt = 16174 := by decide +kernel
  have bb_hpre_0 := hpre_0.b
  have bb_hpre_4 := hpre_4.z.b
  have kk_hpre_0 := hpre_0.in
  exact Or.inr ⟨q1, Keep.rf, by omega, by omega, fun h => by omega⟩
-- pre:isSign@15 @15
theorem v_suffix_11 (σ : RS) (hpre_0 : TKI (σ.2.1 4) (σ.2.2.1 6) (σ.2.1 7) (σ.1 3) (σ.1 14)) (hpre_1 : 0 ≤ (σ.1 15).toInt) (hpre_2 : (σ.1 15).toInt ≤ 3510) (hpre_4 : PQ1 1 0 (σ.1 14) (σ.1 15) (σ.1 16) (σ.1 19) (σ.1 29) (σ.2.1 11) (σ.2.2.1 12) (σ.2.1 31) (σ.2.1 30) (σ.2.1 32) (σ.2.1 21) (σ.2.1 22) (σ.2.1 20) (σ.2.1 23) (σ.2.1 24) (σ.2.1 25) (σ.2.1 27) (σ.1 33) (σ.1 34) (σ.2.1 28)) (hr1 : ¬ (((σ.2.1 4) (σ.1 14).toNatClampNeg).toInt = 5 ∧ ((σ.2.2.1 6) (σ.1 14).toNatClampNeg).toInt = (16174 : Int32).toInt)) : 0 ≤ (σ.1 14).toInt ∧ (σ.1 14).toInt ≤ 41 := by
  have q16174 : (16174 : Int32).toInt = 16174 := by decide +kernel
  have bb_hpre_0 := hpre_0.b
  have bb_hpre_4 := hpre_4.z.b
  have kk_hpre_0 := hpre_0.in
  refine ⟨?_, ?_⟩ <;> first | assumption | omega | (subst_vars; omega) | trivial
-- nw@29 @29
theorem v_suffix_12 (σ : RS) (x38 : Int32) (hpre_0 : TKI (σ.2.1 4) (σ.2.2.1 6) (σ.2.1 7) (σ.1 3) (σ.1 14)) (hpre_1 : 0 ≤ (σ.1 15).toInt) (hpre_2 : (σ.1 15).toInt ≤ 3510) (hpre_4 : PQ1 1 0 (σ.1 14) (σ.1 15) (σ.1 16) (σ.1 19) (σ.1 29) (σ.2.1 11) (σ.2.2.1 12) (σ.2.1 31) (σ.2.1 30) (σ.2.1 32) (σ.2.1 21) (σ.2.1 22) (σ.2.1 20) (σ.2.1 23) (σ.2.1 24) (σ.2.1 25) (σ.2.1 27) (σ.1 33) (σ.1 34) (σ.2.1 28)) (hr1 : ¬ (((σ.2.1 4) (σ.1 14).toNatClampNeg).toInt = 5 ∧ ((σ.2.2.1 6) (σ.1 14).toNatClampNeg).toInt = (16174 : Int32).toInt)) (hr36_0 : ((σ.2.1 4) (σ.1 14).toNatClampNeg).toInt = 5) (hr36_1 : ((σ.2.2.1 6) (σ.1 14).toNatClampNeg).toInt = (46 : Int32).toInt) (ex38 : x38 = (σ.1 14) + (1 : Int32)) : x38.toInt = (σ.1 14).toInt + 1 := by
  have q1 : (1 : Int32).toInt = 1 := by decide +kernel
  have q46 : (46 : Int32).toInt = 46 := by decide +kernel
  have q16174 : (16174 : Int32).toInt = 16174 := by decide +kernel
  have bb_hpre_0 := hpre_0.b
  have bb_hpre_4 := hpre_4.z.b
  have kk_hpre_0 := hpre_0.in
  have w1 : (1 : Int32).toInt = 1 := by decide +kernel
  rw [ex38, z_add (by omega) (by omega)]; first | done | omega
-- in@41 @41
theorem v_suffix_13 (σ : RS) (x38 : Int32) (hpre_0 : TKI (σ.2.1 4) (σ.2.2.1 6) (σ.2.1 7) (σ.1 3) (σ.1 14)) (hpre_1 : 0 ≤ (σ.1 15).toInt) (hpre_2 : (σ.1 15).toInt ≤ 3510) (hpre_4 : PQ1 1 0 (σ.1 14) (σ.1 15) (σ.1 16) (σ.1 19) (σ.1 29) (σ.2.1 11) (σ.2.2.1 12) (σ.2.1 31) (σ.2.1 30) (σ.2.1 32) (σ.2.1 21) (σ.2.1 22) (σ.2.1 20) (σ.2.1 23) (σ.2.1 24) (σ.2.1 25) (σ.2.1 27) (σ.1 33) (σ.1 34) (σ.2.1 28)) (hr1 : ¬ (((σ.2.1 4) (σ.1 14).toNatClampNeg).toInt = 5 ∧ ((σ.2.2.1 6) (σ.1 14).toNatClampNeg).toInt = (16174 : Int32).toInt)) (hr36_0 : ((σ.2.1 4) (σ.1 14).toNatClampNeg).toInt = 5) (hr36_1 : ((σ.2.2.1 6) (σ.1 14).toNatClampNeg).toInt = (46 : Int32).toInt) (ex38 : x38 = (σ.1 14) + (1 : Int32)) (tx38 : x38.toInt = (σ.1 14).toInt + 1) : vp_in x38 42 := by
  have q1 : (1 : Int32).toInt = 1 := by decide +kernel
  have q46 : (46 : Int32).toInt = 46 := by decide +kernel
  have q16174 : (16174 : Int32).toInt = 16174 := by decide +kernel
  have bb_hpre_0 := hpre_0.b
  have bb_hpre_4 := hpre_4.z.b
  have kk_hpre_0 := hpre_0.in
  exact vp_in_iff.mpr ⟨by omega, by omega⟩
-- in@60 @60
theorem v_suffix_14 (σ : RS) (x38 : Int32) (x39 : Int32) (hpre_0 : TKI (σ.2.1 4) (σ.2.2.1 6) (σ.2.1 7) (σ.1 3) (σ.1 14)) (hpre_1 : 0 ≤ (σ.1 15).toInt) (hpre_2 : (σ.1 15).toInt ≤ 3510) (hpre_4 : PQ1 1 0 (σ.1 14) (σ.1 15) (σ.1 16) (σ.1 19) (σ.1 29) (σ.2.1 11) (σ.2.2.1 12) (σ.2.1 31) (σ.2.1 30) (σ.2.1 32) (σ.2.1 21) (σ.2.1 22) (σ.2.1 20) (σ.2.1 23) (σ.2.1 24) (σ.2.1 25) (σ.2.1 27) (σ.1 33) (σ.1 34) (σ.2.1 28)) (hr1 : ¬ (((σ.2.1 4) (σ.1 14).toNatClampNeg).toInt = 5 ∧ ((σ.2.2.1 6) (σ.1 14).toNatClampNeg).toInt = (16174 : Int32).toInt)) (hr36_0 : ((σ.2.1 4) (σ.1 14).toNatClampNeg).toInt = 5) (hr36_1 : ((σ.2.2.1 6) (σ.1 14).toNatClampNeg).toInt = (46 : Int32).toInt) (ex38 : x38 = (σ.1 14) + (1 : Int32)) (tx38 : x38.toInt = (σ.1 14).toInt + 1) (ex39 : x39 = (σ.2.1 4) x38.toNatClampNeg) (tx39 : x39.toInt = ((σ.2.1 4) ((σ.1 14).toInt + 1).toNat).toInt) (c40 : x39.toInt = 3) : vp_in x38 42 := by
  have q1 : (1 : Int32).toInt = 1 := by decide +kernel
  have q46 : (46 : Int32).toInt = 46 := by decide +kernel
  have q16174 : (16174 : Int32).toInt = 16174 := by decide +kernel
  have bb_hpre_0 := hpre_0.b
  have bb_hpre_4 := hpre_4.z.b
  have kk_hpre_0 := hpre_0.in
  exact vp_in_iff.mpr ⟨by omega, by omega⟩
-- nw@69 @69
theorem v_suffix_15 (σ : RS) (x38 : Int32) (x39 : Int32) (x41 : Int64) (x42 : Int32) (x43 : Int32) (hpre_0 : TKI (σ.2.1 4) (σ.2.2.1 6) (σ.2.1 7) (σ.1 3) (σ.1 14)) (hpre_1 : 0 ≤ (σ.1 15).toInt) (hpre_2 : (σ.1 15).toInt ≤ 3510) (hpre_4 : PQ1 1 0 (σ.1 14) (σ.1 15) (σ.1 16) (σ.1 19) (σ.1 29) (σ.2.1 11) (σ.2.2.1 12) (σ.2.1 31) (σ.2.1 30) (σ.2.1 32) (σ.2.1 21) (σ.2.1 22) (σ.2.1 20) (σ.2.1 23) (σ.2.1 24) (σ.2.1 25) (σ.2.1 27) (σ.1 33) (σ.1 34) (σ.2.1 28)) (hr1 : ¬ (((σ.2.1 4) (σ.1 14).toNatClampNeg).toInt = 5 ∧ ((σ.2.2.1 6) (σ.1 14).toNatClampNeg).toInt = (16174 : Int32).toInt)) (hr36_0 : ((σ.2.1 4) (σ.1 14).toNatClampNeg).toInt = 5) (hr36_1 : ((σ.2.2.1 6) (σ.1 14).toNatClampNeg).toInt = (46 : Int32).toInt) (ex38 : x38 = (σ.1 14) + (1 : Int32)) (tx38 : x38.toInt = (σ.1 14).toInt + 1) (ex39 : x39 = (σ.2.1 4) x38.toNatClampNeg) (tx39 : x39.toInt = ((σ.2.1 4) ((σ.1 14).toInt + 1).toNat).toInt) (c40 : x39.toInt = 3) (ex41 : x41 = (σ.2.2.1 6) x38.toNatClampNeg) (tx41 : x41.toInt = ((σ.2.2.1 6) ((σ.1 14).toInt + 1).toNat).toInt) (ex42 : x42 = Int64.toInt32 x41) (tx42 : -2147483648 ≤ x41.toInt → x41.toInt < 2147483648 → x42.toInt = x41.toInt) (ex43 : x43 = x38 + (1 : Int32)) : x43.toInt = x38.toInt + 1 := by
  have q1 : (1 : Int32).toInt = 1 := by decide +kernel
  have q46 : (46 : Int32).toInt = 46 := by decide +kernel
  have q16174 : (16174 : Int32).toInt = 16174 := by decide +kernel
  have bb_hpre_0 := hpre_0.b
  have bb_hpre_4 := hpre_4.z.b
  have kk_hpre_0 := hpre_0.in
  have w1 : (1 : Int32).toInt = 1 := by decide +kernel
  rw [ex43, z_add (by omega) (by omega)]; first | done | omega
-- pre:named@76 @76
theorem v_suffix_16 (σ : RS) (r1 : Int32) (x38 : Int32) (x39 : Int32) (x41 : Int64) (x42 : Int32) (x43 : Int32) (hpre_0 : TKI (σ.2.1 4) (σ.2.2.1 6) (σ.2.1 7) (σ.1 3) (σ.1 14)) (hpre_1 : 0 ≤ (σ.1 15).toInt) (hpre_2 : (σ.1 15).toInt ≤ 3510) (hpre_3 : (σ.1 8).toInt = 0) (hpre_4 : PQ1 1 0 (σ.1 14) (σ.1 15) (σ.1 16) (σ.1 19) (σ.1 29) (σ.2.1 11) (σ.2.2.1 12) (σ.2.1 31) (σ.2.1 30) (σ.2.1 32) (σ.2.1 21) (σ.2.1 22) (σ.2.1 20) (σ.2.1 23) (σ.2.1 24) (σ.2.1 25) (σ.2.1 27) (σ.1 33) (σ.1 34) (σ.2.1 28)) (hr1 : ¬ (((σ.2.1 4) (σ.1 14).toNatClampNeg).toInt = 5 ∧ ((σ.2.2.1 6) (σ.1 14).toNatClampNeg).toInt = (16174 : Int32).toInt)) (c2 : r1.toInt = 0) (hr36_0 : ((σ.2.1 4) (σ.1 14).toNatClampNeg).toInt = 5) (hr36_1 : ((σ.2.2.1 6) (σ.1 14).toNatClampNeg).toInt = (46 : Int32).toInt) (ex38 : x38 = (σ.1 14) + (1 : Int32)) (tx38 : x38.toInt = (σ.1 14).toInt + 1) (ex39 : x39 = (σ.2.1 4) x38.toNatClampNeg) (tx39 : x39.toInt = ((σ.2.1 4) ((σ.1 14).toInt + 1).toNat).toInt) (c40 : x39.toInt = 3) (ex41 : x41 = (σ.2.2.1 6) x38.toNatClampNeg) (tx41 : x41.toInt = ((σ.2.2.1 6) ((σ.1 14).toInt + 1).toNat).toInt) (ex42 : x42 = Int64.toInt32 x41) (tx42 : -2147483648 ≤ x41.toInt → x41.toInt < 2147483648 → x42.toInt = x41.toInt) (ex43 : x43 = x38 + (1 : Int32)) (tx43 : x43.toInt = x38.toInt + 1) : TKI (σ.2.1 4) (σ.2.2.1 6) (σ.2.1 7) (σ.1 3) x43 ∧ 0 ≤ (σ.1 15).toInt ∧ (σ.1 15).toInt ≤ 3510 ∧ (σ.1 8).toInt = 0 ∧ PQ0 1 1 x43 (σ.1 15) (σ.1 16) (σ.1 19) (σ.1 29) (σ.2.1 11) (σ.2.2.1 12) (σ.2.1 31) (σ.2.1 30) (σ.2.1 32) (σ.2.1 21) (σ.2.1 22) (σ.2.1 20) (σ.2.1 23) (σ.2.1 24) (σ.2.1 25) (σ.2.1 27) (σ.1 33) (σ.1 34) ∧ 0 ≤ x42.toInt ∧ x42.toInt ≤ 14348906 ∧ (r1 = 0 ∨ r1 = 1) := by
  have q1 : (1 : Int32).toInt = 1 := by decide +kernel
  have q46 : (46 : Int32).toInt = 46 := by decide +kernel
  have q16174 : (16174 : Int32).toInt = 16174 := by decide +kernel
  have bb_hpre_0 := hpre_0.b
  have bb_hpre_4 := hpre_4.z.b
  have kk_hpre_0 := hpre_0.in
  have k := hpre_0.in (by omega)
  have k2 := (hpre_0.up (nx' := x38) (by omega) (by omega)).in (by rw [clampN, tx38]; omega)
  rw [clampN, tx38] at k2
  exact ⟨hpre_0.up (by omega) (by omega), hpre_1, hpre_2, hpre_3, PQ_weak hpre_4 (by omega), by omega, by omega, by first | exact Or.inl rfl | exact bool_of (by omega)⟩
-- post @80
theorem v_suffix_17 (σ : RS) (x38 : Int32) (x39 : Int32) (x41 : Int64) (x42 : Int32) (x43 : Int32) (n45 : Int32) (F46 : (Nat → Int32)) (G47 : (Nat → Int64)) (n48 : Int32) (n49 : Int32) (n50 : Int32) (F51 : (Nat → Int32)) (F52 : (Nat → Int32)) (F53 : (Nat → Int32)) (F54 : (Nat → Int32)) (F55 : (Nat → Int32)) (F56 : (Nat → Int32)) (F57 : (Nat → Int32)) (F58 : (Nat → Int32)) (F59 : (Nat → Int32)) (F60 : (Nat → Int32)) (F61 : (Nat → Int32)) (F62 : (Nat → Int32)) (n63 : Int32) (n64 : Int32) (n65 : Int32) (n66 : Int32) (hpre_0 : TKI (σ.2.1 4) (σ.2.2.1 6) (σ.2.1 7) (σ.1 3) (σ.1 14)) (hpre_1 : 0 ≤ (σ.1 15).toInt) (hpre_2 : (σ.1 15).toInt ≤ 3510) (hpre_3 : (σ.1 8).toInt = 0) (hpre_4 : PQ1 1 0 (σ.1 14) (σ.1 15) (σ.1 16) (σ.1 19) (σ.1 29) (σ.2.1 11) (σ.2.2.1 12) (σ.2.1 31) (σ.2.1 30) (σ.2.1 32) (σ.2.1 21) (σ.2.1 22) (σ.2.1 20) (σ.2.1 23) (σ.2.1 24) (σ.2.1 25) (σ.2.1 27) (σ.1 33) (σ.1 34) (σ.2.1 28)) (hpre_5 : (σ.1 17).toInt = 0) (hr1 : ¬ (((σ.2.1 4) (σ.1 14).toNatClampNeg).toInt = 5 ∧ ((σ.2.2.1 6) (σ.1 14).toNatClampNeg).toInt = (16174 : Int32).toInt)) (hr36_0 : ((σ.2.1 4) (σ.1 14).toNatClampNeg).toInt = 5) (hr36_1 : ((σ.2.2.1 6) (σ.1 14).toNatClampNeg).toInt = (46 : Int32).toInt) (ex38 : x38 = (σ.1 14) + (1 : Int32)) (tx38 : x38.toInt = (σ.1 14).toInt + 1) (ex39 : x39 = (σ.2.1 4) x38.toNatClampNeg) (tx39 : x39.toInt = ((σ.2.1 4) ((σ.1 14).toInt + 1).toNat).toInt) (c40 : x39.toInt = 3) (ex41 : x41 = (σ.2.2.1 6) x38.toNatClampNeg) (tx41 : x41.toInt = ((σ.2.2.1 6) ((σ.1 14).toInt + 1).toNat).toInt) (ex42 : x42 = Int64.toInt32 x41) (tx42 : -2147483648 ≤ x41.toInt → x41.toInt < 2147483648 → x42.toInt = x41.toInt) (ex43 : x43 = x38 + (1 : Int32)) (tx43 : x43.toInt = x38.toInt + 1) (hr44_0 : Keep (σ.1 15).toInt (σ.2.1 11) F46 (σ.2.2.1 12) G47) (hr44_1 : 0 ≤ n66.toInt) (hr44_2 : n66.toInt ≤ 3) (hr44_3 : n66.toInt = 0 → TKI (σ.2.1 4) (σ.2.2.1 6) (σ.2.1 7) (σ.1 3) n45 ∧ LI n63 n45 (σ.1 15) n48 n49 n50 F46 G47 F51 F52 F53 F54 F55 F56 F57 F58 F59 F61 n64 n65 F62 ∧ 2 * x43.toInt - (σ.1 19).toInt ≤ 2 * n45.toInt - n49.toInt) : ((1 : Int32).toInt = 0 ∧ n45 = (σ.1 14) ∧ F46 = (σ.2.1 11) ∧ G47 = (σ.2.2.1 12) ∧ n48 = (σ.1 16) ∧ n49 = (σ.1 19) ∧ n50 = (σ.1 29) ∧ F51 = (σ.2.1 31) ∧ F52 = (σ.2.1 30) ∧ F53 = (σ.2.1 32) ∧ F54 = (σ.2.1 21) ∧ F55 = (σ.2.1 22) ∧ F56 = (σ.2.1 20) ∧ F57 = (σ.2.1 23) ∧ F58 = (σ.2.1 24) ∧ F59 = (σ.2.1 25) ∧ F60 = (σ.2.1 26) ∧ F61 = (σ.2.1 27) ∧ F62 = (σ.2.1 28) ∧ n63 = (σ.1 17) ∧ n64 = (σ.1 33) ∧ n65 = (σ.1 34) ∧ n66 = (σ.1 8)) ∨ ((1 : Int32).toInt = 1 ∧ Keep (σ.1 15).toInt (σ.2.1 11) F46 (σ.2.2.1 12) G47 ∧ 0 ≤ n66.toInt ∧ n66.toInt ≤ 3 ∧ (n66.toInt = 0 → TKI (σ.2.1 4) (σ.2.2.1 6) (σ.2.1 7) (σ.1 3) n45 ∧ LI n63 n45 (σ.1 15) n48 n49 n50 F46 G47 F51 F52 F53 F54 F55 F56 F57 F58 F59 F61 n64 n65 F62 ∧ 2 * (σ.1 14).toInt - (σ.1 19).toInt < 2 * n45.toInt - n49.toInt)) := by
  have q1 : (1 : Int32).toInt = 1 := by decide +kernel
  have q46 : (46 : Int32).toInt = 46 := by decide +kernel
  have q16174 : (16174 : Int32).toInt = 16174 := by decide +kernel
  have bb_hpre_0 := hpre_0.b
  have bb_hpre_4 := hpre_4.z.b
  have kk_hpre_0 := hpre_0.in
  exact Or.inr ⟨q1, hr44_0, hr44_1, hr44_2, fun h => ⟨(hr44_3 h).1, (hr44_3 h).2.1, by have := (hr44_3 h).2.2; omega⟩⟩
-- pre:misfit@47 @47
theorem v_suffix_18 (σ : RS) (x38 : Int32) (x39 : Int32) (hpre_0 : TKI (σ.2.1 4) (σ.2.2.1 6) (σ.2.1 7) (σ.1 3) (σ.1 14)) (hpre_1 : 0 ≤ (σ.1 15).toInt) (hpre_2 : (σ.1 15).toInt ≤ 3510) (hpre_4 : PQ1 1 0 (σ.1 14) (σ.1 15) (σ.1 16) (σ.1 19) (σ.1 29) (σ.2.1 11) (σ.2.2.1 12) (σ.2.1 31) (σ.2.1 30) (σ.2.1 32) (σ.2.1 21) (σ.2.1 22) (σ.2.1 20) (σ.2.1 23) (σ.2.1 24) (σ.2.1 25) (σ.2.1 27) (σ.1 33) (σ.1 34) (σ.2.1 28)) (hr1 : ¬ (((σ.2.1 4) (σ.1 14).toNatClampNeg).toInt = 5 ∧ ((σ.2.2.1 6) (σ.1 14).toNatClampNeg).toInt = (16174 : Int32).toInt)) (hr36_0 : ((σ.2.1 4) (σ.1 14).toNatClampNeg).toInt = 5) (hr36_1 : ((σ.2.2.1 6) (σ.1 14).toNatClampNeg).toInt = (46 : Int32).toInt) (ex38 : x38 = (σ.1 14) + (1 : Int32)) (tx38 : x38.toInt = (σ.1 14).toInt + 1) (ex39 : x39 = (σ.2.1 4) x38.toNatClampNeg) (tx39 : x39.toInt = ((σ.2.1 4) ((σ.1 14).toInt + 1).toNat).toInt) (c40 : ¬ x39.toInt = 3) : 0 ≤ x38.toInt ∧ x38.toInt ≤ 41 := by
  have q1 : (1 : Int32).toInt = 1 := by decide +kernel
  have q46 : (46 : Int32).toInt = 46 := by decide +kernel
  have q16174 : (16174 : Int32).toInt = 16174 := by decide +kernel
  have bb_hpre_0 := hpre_0.b
  have bb_hpre_4 := hpre_4.z.b
  have kk_hpre_0 := hpre_0.in
  refine ⟨?_, ?_⟩ <;> first | assumption | omega | (subst_vars; omega) | trivial
-- post @51
theorem v_suffix_19 (σ : RS) (x38 : Int32) (x39 : Int32) (n69 : Int32) (hpre_0 : TKI (σ.2.1 4) (σ.2.2.1 6) (σ.2.1 7) (σ.1 3) (σ.1 14)) (hpre_1 : 0 ≤ (σ.1 15).toInt) (hpre_2 : (σ.1 15).toInt ≤ 3510) (hpre_3 : (σ.1 8).toInt = 0) (hpre_4 : PQ1 1 0 (σ.1 14) (σ.1 15) (σ.1 16) (σ.1 19) (σ.1 29) (σ.2.1 11) (σ.2.2.1 12) (σ.2.1 31) (σ.2.1 30) (σ.2.1 32) (σ.2.1 21) (σ.2.1 22) (σ.2.1 20) (σ.2.1 23) (σ.2.1 24) (σ.2.1 25) (σ.2.1 27) (σ.1 33) (σ.1 34) (σ.2.1 28)) (hpre_5 : (σ.1 17).toInt = 0) (hr1 : ¬ (((σ.2.1 4) (σ.1 14).toNatClampNeg).toInt = 5 ∧ ((σ.2.2.1 6) (σ.1 14).toNatClampNeg).toInt = (16174 : Int32).toInt)) (hr36_0 : ((σ.2.1 4) (σ.1 14).toNatClampNeg).toInt = 5) (hr36_1 : ((σ.2.2.1 6) (σ.1 14).toNatClampNeg).toInt = (46 : Int32).toInt) (ex38 : x38 = (σ.1 14) + (1 : Int32)) (tx38 : x38.toInt = (σ.1 14).toInt + 1) (ex39 : x39 = (σ.2.1 4) x38.toNatClampNeg) (tx39 : x39.toInt = ((σ.2.1 4) ((σ.1 14).toInt + 1).toNat).toInt) (c40 : ¬ x39.toInt = 3) (hr68 : (σ.1 8).toInt = 0 → n69.toInt = 2) : ((1 : Int32).toInt = 0 ∧ x38 = (σ.1 14) ∧ (σ.2.1 11) = (σ.2.1 11) ∧ (σ.2.2.1 12) = (σ.2.2.1 12) ∧ (σ.1 16) = (σ.1 16) ∧ (σ.1 19) = (σ.1 19) ∧ (σ.1 29) = (σ.1 29) ∧ (σ.2.1 31) = (σ.2.1 31) ∧ (σ.2.1 30) = (σ.2.1 30) ∧ (σ.2.1 32) = (σ.2.1 32) ∧ (σ.2.1 21) = (σ.2.1 21) ∧ (σ.2.1 22) = (σ.2.1 22) ∧ (σ.2.1 20) = (σ.2.1 20) ∧ (σ.2.1 23) = (σ.2.1 23) ∧ (σ.2.1 24) = (σ.2.1 24) ∧ (σ.2.1 25) = (σ.2.1 25) ∧ (σ.2.1 26) = (σ.2.1 26) ∧ (σ.2.1 27) = (σ.2.1 27) ∧ (σ.2.1 28) = (σ.2.1 28) ∧ (σ.1 17) = (σ.1 17) ∧ (σ.1 33) = (σ.1 33) ∧ (σ.1 34) = (σ.1 34) ∧ n69 = (σ.1 8)) ∨ ((1 : Int32).toInt = 1 ∧ Keep (σ.1 15).toInt (σ.2.1 11) (σ.2.1 11) (σ.2.2.1 12) (σ.2.2.1 12) ∧ 0 ≤ n69.toInt ∧ n69.toInt ≤ 3 ∧ (n69.toInt = 0 → TKI (σ.2.1 4) (σ.2.2.1 6) (σ.2.1 7) (σ.1 3) x38 ∧ LI (σ.1 17) x38 (σ.1 15) (σ.1 16) (σ.1 19) (σ.1 29) (σ.2.1 11) (σ.2.2.1 12) (σ.2.1 31) (σ.2.1 30) (σ.2.1 32) (σ.2.1 21) (σ.2.1 22) (σ.2.1 20) (σ.2.1 23) (σ.2.1 24) (σ.2.1 25) (σ.2.1 27) (σ.1 33) (σ.1 34) (σ.2.1 28) ∧ 2 * (σ.1 14).toInt - (σ.1 19).toInt < 2 * x38.toInt - (σ.1 19).toInt)) := by
  have q1 : (1 : Int32).toInt = 1 := by decide +kernel
  have q46 : (46 : Int32).toInt = 46 := by decide +kernel
  have q16174 : (16174 : Int32).toInt = 16174 := by decide +kernel
  have bb_hpre_0 := hpre_0.b
  have bb_hpre_4 := hpre_4.z.b
  have kk_hpre_0 := hpre_0.in
  exact Or.inr ⟨q1, Keep.rf, by omega, by omega, fun h => by omega⟩
-- post @22
theorem v_suffix_20 (σ : RS) (hpre_0 : TKI (σ.2.1 4) (σ.2.2.1 6) (σ.2.1 7) (σ.1 3) (σ.1 14)) (hpre_1 : 0 ≤ (σ.1 15).toInt) (hpre_2 : (σ.1 15).toInt ≤ 3510) (hpre_3 : (σ.1 8).toInt = 0) (hpre_4 : PQ1 1 0 (σ.1 14) (σ.1 15) (σ.1 16) (σ.1 19) (σ.1 29) (σ.2.1 11) (σ.2.2.1 12) (σ.2.1 31) (σ.2.1 30) (σ.2.1 32) (σ.2.1 21) (σ.2.1 22) (σ.2.1 20) (σ.2.1 23) (σ.2.1 24) (σ.2.1 25) (σ.2.1 27) (σ.1 33) (σ.1 34) (σ.2.1 28)) (hpre_5 : (σ.1 17).toInt = 0) (hr1 : ¬ (((σ.2.1 4) (σ.1 14).toNatClampNeg).toInt = 5 ∧ ((σ.2.2.1 6) (σ.1 14).toNatClampNeg).toInt = (16174 : Int32).toInt)) (hr36 : ¬ (((σ.2.1 4) (σ.1 14).toNatClampNeg).toInt = 5 ∧ ((σ.2.2.1 6) (σ.1 14).toNatClampNeg).toInt = (46 : Int32).toInt)) : ((0 : Int32).toInt = 0 ∧ (σ.1 14) = (σ.1 14) ∧ (σ.2.1 11) = (σ.2.1 11) ∧ (σ.2.2.1 12) = (σ.2.2.1 12) ∧ (σ.1 16) = (σ.1 16) ∧ (σ.1 19) = (σ.1 19) ∧ (σ.1 29) = (σ.1 29) ∧ (σ.2.1 31) = (σ.2.1 31) ∧ (σ.2.1 30) = (σ.2.1 30) ∧ (σ.2.1 32) = (σ.2.1 32) ∧ (σ.2.1 21) = (σ.2.1 21) ∧ (σ.2.1 22) = (σ.2.1 22) ∧ (σ.2.1 20) = (σ.2.1 20) ∧ (σ.2.1 23) = (σ.2.1 23) ∧ (σ.2.1 24) = (σ.2.1 24) ∧ (σ.2.1 25) = (σ.2.1 25) ∧ (σ.2.1 26) = (σ.2.1 26) ∧ (σ.2.1 27) = (σ.2.1 27) ∧ (σ.2.1 28) = (σ.2.1 28) ∧ (σ.1 17) = (σ.1 17) ∧ (σ.1 33) = (σ.1 33) ∧ (σ.1 34) = (σ.1 34) ∧ (σ.1 8) = (σ.1 8)) ∨ ((0 : Int32).toInt = 1 ∧ Keep (σ.1 15).toInt (σ.2.1 11) (σ.2.1 11) (σ.2.2.1 12) (σ.2.2.1 12) ∧ 0 ≤ (σ.1 8).toInt ∧ (σ.1 8).toInt ≤ 3 ∧ ((σ.1 8).toInt = 0 → TKI (σ.2.1 4) (σ.2.2.1 6) (σ.2.1 7) (σ.1 3) (σ.1 14) ∧ LI (σ.1 17) (σ.1 14) (σ.1 15) (σ.1 16) (σ.1 19) (σ.1 29) (σ.2.1 11) (σ.2.2.1 12) (σ.2.1 31) (σ.2.1 30) (σ.2.1 32) (σ.2.1 21) (σ.2.1 22) (σ.2.1 20) (σ.2.1 23) (σ.2.1 24) (σ.2.1 25) (σ.2.1 27) (σ.1 33) (σ.1 34) (σ.2.1 28) ∧ 2 * (σ.1 14).toInt - (σ.1 19).toInt < 2 * (σ.1 14).toInt - (σ.1 19).toInt)) := by
  have q0 : (0 : Int32).toInt = 0 := by decide +kernel
  have q46 : (46 : Int32).toInt = 46 := by decide +kernel
  have q16174 : (16174 : Int32).toInt = 16174 := by decide +kernel
  have bb_hpre_0 := hpre_0.b
  have bb_hpre_4 := hpre_4.z.b
  have kk_hpre_0 := hpre_0.in
  refine Or.inl ⟨q0, ?_⟩
  and_intros <;> rfl
-- bool@ret @22
theorem v_suffix_21   : (0 : Int32) = 0 ∨ (0 : Int32) = 1 := by
  have q0 : (0 : Int32).toInt = 0 := by decide +kernel
  first | exact Or.inl rfl | exact Or.inr rfl | exact bool_of (by omega)
set_option maxHeartbeats 4000000 in
set_option maxRecDepth 100000 in
theorem M_suffix (l : Launch) (D : va_G) (cy : Nat → ClassId) (sz0 : Nat) (sa : Nat → Nat) (ad : Nat → Nat) (σ : RS) (sz : Nat)  (hpre : TKI (σ.2.1 4) (σ.2.2.1 6) (σ.2.1 7) (σ.1 3) (σ.1 14) ∧ 0 ≤ (σ.1 15).toInt ∧ (σ.1 15).toInt ≤ 3510 ∧ (σ.1 8).toInt = 0 ∧ PQ1 1 0 (σ.1 14) (σ.1 15) (σ.1 16) (σ.1 19) (σ.1 29) (σ.2.1 11) (σ.2.2.1 12) (σ.2.1 31) (σ.2.1 30) (σ.2.1 32) (σ.2.1 21) (σ.2.1 22) (σ.2.1 20) (σ.2.1 23) (σ.2.1 24) (σ.2.1 25) (σ.2.1 27) (σ.1 33) (σ.1 34) (σ.2.1 28) ∧ (σ.1 17).toInt = 0) : Met l yX12_suffix (Cond.code yX12_suffix cX12_suffix 3 (some .boolean) :: GWm) ({ frames := 4, cells := 0, slots := 0, locals := 88 }) (PcR D cy sz0 sa ad [.ref (ad 0)] σ sz) (va_Qi (fun (r : Int32) (u : Int32 × (Nat → Int32) × (Nat → Int64) × Int32 × Int32 × Int32 × (Nat → Int32) × (Nat → Int32) × (Nat → Int32) × (Nat → Int32) × (Nat → Int32) × (Nat → Int32) × (Nat → Int32) × (Nat → Int32) × (Nat → Int32) × (Nat → Int32) × (Nat → Int32) × (Nat → Int32) × Int32 × Int32 × Int32 × Int32 × Int32) => (r.toInt = 0 ∧ u.1 = (σ.1 14) ∧ u.2.1 = (σ.2.1 11) ∧ u.2.2.1 = (σ.2.2.1 12) ∧ u.2.2.2.1 = (σ.1 16) ∧ u.2.2.2.2.1 = (σ.1 19) ∧ u.2.2.2.2.2.1 = (σ.1 29) ∧ u.2.2.2.2.2.2.1 = (σ.2.1 31) ∧ u.2.2.2.2.2.2.2.1 = (σ.2.1 30) ∧ u.2.2.2.2.2.2.2.2.1 = (σ.2.1 32) ∧ u.2.2.2.2.2.2.2.2.2.1 = (σ.2.1 21) ∧ u.2.2.2.2.2.2.2.2.2.2.1 = (σ.2.1 22) ∧ u.2.2.2.2.2.2.2.2.2.2.2.1 = (σ.2.1 20) ∧ u.2.2.2.2.2.2.2.2.2.2.2.2.1 = (σ.2.1 23) ∧ u.2.2.2.2.2.2.2.2.2.2.2.2.2.1 = (σ.2.1 24) ∧ u.2.2.2.2.2.2.2.2.2.2.2.2.2.2.1 = (σ.2.1 25) ∧ u.2.2.2.2.2.2.2.2.2.2.2.2.2.2.2.1 = (σ.2.1 26) ∧ u.2.2.2.2.2.2.2.2.2.2.2.2.2.2.2.2.1 = (σ.2.1 27) ∧ u.2.2.2.2.2.2.2.2.2.2.2.2.2.2.2.2.2.1 = (σ.2.1 28) ∧ u.2.2.2.2.2.2.2.2.2.2.2.2.2.2.2.2.2.2.1 = (σ.1 17) ∧ u.2.2.2.2.2.2.2.2.2.2.2.2.2.2.2.2.2.2.2.1 = (σ.1 33) ∧ u.2.2.2.2.2.2.2.2.2.2.2.2.2.2.2.2.2.2.2.2.1 = (σ.1 34) ∧ u.2.2.2.2.2.2.2.2.2.2.2.2.2.2.2.2.2.2.2.2.2.1 = (σ.1 8)) ∨ (r.toInt = 1 ∧ Keep (σ.1 15).toInt (σ.2.1 11) u.2.1 (σ.2.2.1 12) u.2.2.1 ∧ 0 ≤ u.2.2.2.2.2.2.2.2.2.2.2.2.2.2.2.2.2.2.2.2.2.1.toInt ∧ u.2.2.2.2.2.2.2.2.2.2.2.2.2.2.2.2.2.2.2.2.2.1.toInt ≤ 3 ∧ (u.2.2.2.2.2.2.2.2.2.2.2.2.2.2.2.2.2.2.2.2.2.1.toInt = 0 → TKI (σ.2.1 4) (σ.2.2.1 6) (σ.2.1 7) (σ.1 3) u.1 ∧ LI u.2.2.2.2.2.2.2.2.2.2.2.2.2.2.2.2.2.2.1 u.1 (σ.1 15) u.2.2.2.1 u.2.2.2.2.1 u.2.2.2.2.2.1 u.2.1 u.2.2.1 u.2.2.2.2.2.2.1 u.2.2.2.2.2.2.2.1 u.2.2.2.2.2.2.2.2.1 u.2.2.2.2.2.2.2.2.2.1 u.2.2.2.2.2.2.2.2.2.2.1 u.2.2.2.2.2.2.2.2.2.2.2.1 u.2.2.2.2.2.2.2.2.2.2.2.2.1 u.2.2.2.2.2.2.2.2.2.2.2.2.2.1 u.2.2.2.2.2.2.2.2.2.2.2.2.2.2.1 u.2.2.2.2.2.2.2.2.2.2.2.2.2.2.2.2.1 u.2.2.2.2.2.2.2.2.2.2.2.2.2.2.2.2.2.2.2.1 u.2.2.2.2.2.2.2.2.2.2.2.2.2.2.2.2.2.2.2.2.1 u.2.2.2.2.2.2.2.2.2.2.2.2.2.2.2.2.2.1 ∧ 2 * (σ.1 14).toInt - (σ.1 19).toInt < 2 * u.1.toInt - u.2.2.2.2.1.toInt))) (fun (u : Int32 × (Nat → Int32) × (Nat → Int64) × Int32 × Int32 × Int32 × (Nat → Int32) × (Nat → Int32) × (Nat → Int32) × (Nat → Int32) × (Nat → Int32) × (Nat → Int32) × (Nat → Int32) × (Nat → Int32) × (Nat → Int32) × (Nat → Int32) × (Nat → Int32) × (Nat → Int32) × Int32 × Int32 × Int32 × Int32 × Int32) (t : State) => RP D cy ad (rS (rS (rS (rS (rS (rA (rA (rA (rA (rA (rA (rA (rA (rA (rA (rA (rA (rS (rS (rS (rJ (rA (rS σ 14 u.1) 11 u.2.1) 12 u.2.2.1) 16 u.2.2.2.1) 19 u.2.2.2.2.1) 29 u.2.2.2.2.2.1) 31 u.2.2.2.2.2.2.1) 30 u.2.2.2.2.2.2.2.1) 32 u.2.2.2.2.2.2.2.2.1) 21 u.2.2.2.2.2.2.2.2.2.1) 22 u.2.2.2.2.2.2.2.2.2.2.1) 20 u.2.2.2.2.2.2.2.2.2.2.2.1) 23 u.2.2.2.2.2.2.2.2.2.2.2.2.1) 24 u.2.2.2.2.2.2.2.2.2.2.2.2.2.1) 25 u.2.2.2.2.2.2.2.2.2.2.2.2.2.2.1) 26 u.2.2.2.2.2.2.2.2.2.2.2.2.2.2.2.1) 27 u.2.2.2.2.2.2.2.2.2.2.2.2.2.2.2.2.1) 28 u.2.2.2.2.2.2.2.2.2.2.2.2.2.2.2.2.2.1) 17 u.2.2.2.2.2.2.2.2.2.2.2.2.2.2.2.2.2.2.1) 33 u.2.2.2.2.2.2.2.2.2.2.2.2.2.2.2.2.2.2.2.1) 34 u.2.2.2.2.2.2.2.2.2.2.2.2.2.2.2.2.2.2.2.2.1) 8 u.2.2.2.2.2.2.2.2.2.2.2.2.2.2.2.2.2.2.2.2.2.1) 9 u.2.2.2.2.2.2.2.2.2.2.2.2.2.2.2.2.2.2.2.2.2.2) t.heap) (AR cy ad sz)) 0 0 (AR cy ad sz) := by
  refine RM_of (loc0 := [(0, .ref (ad 0))]) (by decide) rfl rfl (Nat.le_of_ble_eq_true rfl) ?_
  intro p e s m below meth c ls hsz C hP hS hl
  have hx := C.1
  have hb := C.2.1
  have hown := C.2.2.2.2.1
  have hw := C.2.2.2.2.2.1
  clear hsz
  obtain ⟨hpre_0, hpre_1, hpre_2, hpre_3, hpre_4, hpre_5⟩ := hpre
  refine lv_aload_n hx hb dX12_suffix_0 rfl (lv_at hl 0 rfl) ?_
  refine lv_sipush (v := 16174) hx hb dX12_suffix_1 (by decide +kernel) ?_
  refine r_callVi (As := [.int 16174]) (rest := []) C hP hS hl.1 ⟨Nat.zero_le _, Nat.zero_le _⟩ (M_isSign l D cy sz0 sa ad σ s.heap.size (16174 : Int32) (v_suffix_1 σ hpre_0 hpre_1 hpre_2 hpre_4)) (n := 1) ⟨wm_92, wm_61, by decide +kernel⟩ ⟨wm_93, wm_94, wm_10⟩ rfl rfl (lv_room (Nat.le_of_ble_eq_true rfl)) ⟨Nat.le_of_ble_eq_true rfl, Nat.le_of_ble_eq_true rfl⟩ dX12_suffix_4 (fun r1 u H locs hr1 hP hS => ?_)
  have hr1 : (r1.toInt = 0 ∧ ¬ (((σ.2.1 4) (σ.1 14).toNatClampNeg).toInt = 5 ∧ ((σ.2.2.1 6) (σ.1 14).toNatClampNeg).toInt = (16174 : Int32).toInt)) ∨ (r1.toInt = 1 ∧ (((σ.2.1 4) (σ.1 14).toNatClampNeg).toInt = 5 ∧ ((σ.2.2.1 6) (σ.1 14).toNatClampNeg).toInt = (16174 : Int32).toInt)) := hr1
  refine lv_istore_n (lv' := [(1, .int r1), (0, .ref (ad 0))]) hx hb dX12_suffix_7 rfl hl (by decide) rfl (fun ls hl => ?_)
  refine lv_iload_n hx hb dX12_suffix_8 rfl (lv_at hl 0 rfl) ?_
  refine lv_if_ne (tgt := 23) hx hb dX12_suffix_9 (by decide) (fun c2 => ?_) (fun c2 => ?_)
  · have c2 : ¬ r1.toInt = 0 := by have h := z_ne c2; rw [show (0 : Int32).toInt = 0 from by decide +kernel] at h; exact h
    have hr1v : r1.toInt = 1 := hr1.elim (fun h9 => absurd h9.1 c2) (fun h9 => h9.1)
    have hr1 : ((σ.2.1 4) (σ.1 14).toNatClampNeg).toInt = 5 ∧ ((σ.2.2.1 6) (σ.1 14).toNatClampNeg).toInt = (16174 : Int32).toInt := bq_t hr1 c2
    obtain ⟨hr1_0, hr1_1⟩ := hr1
    refine lv_aload_n hx hb dX12_suffix_23 rfl (lv_at hl 1 rfl) ?_
    refine lv_dup hx hb dX12_suffix_24 rfl ?_
    refine rg_14 (v := (σ.1 14)) C hP rfl wm_62 dX12_suffix_25 ?_
    refine lv_iconst (v := 1) hx hb dX12_suffix_28 (by decide +kernel) ?_
    refine lv_iadd hx hb dX12_suffix_29 ?_
    refine lv_topi (fun x3 ex3 => ?_)
    have tx3 : x3.toInt = (σ.1 14).toInt + 1 := (v_suffix_2 σ x3 hpre_0 hpre_1 hpre_2 hpre_4 hr1_0 hr1_1 ex3)
    refine rp_14 C hP hS wm_62 dX12_suffix_30 (fun H locs hP hS => ?_)
    refine lv_aload_n hx hb dX12_suffix_33 rfl (lv_at hl 1 rfl) ?_
    refine rg_4 C hP wm_16 dX12_suffix_34 ?_
    refine lv_aload_n hx hb dX12_suffix_37 rfl (lv_at hl 1 rfl) ?_
    refine rg_14 (v := x3) C hP rfl wm_62 dX12_suffix_38 ?_
    refine ra_4 (f := (σ.2.1 4)) C hP rfl (v_suffix_3 σ x3 hpre_0 hpre_1 hpre_2 hpre_4 hr1_0 hr1_1 ex3 tx3) dX12_suffix_41 (fun x4 ex4 => ?_)
    have tx4 : x4.toInt = ((σ.2.1 4) ((σ.1 14).toInt + 1).toNat).toInt := by rw [ex4, clampN, tx3]
    refine lv_iconst (v := 3) hx hb dX12_suffix_42 (by decide +kernel) ?_
    refine lv_icmp_eq (tgt := 52) hx hb dX12_suffix_43 (by decide) (fun c5 => ?_) (fun c5 => ?_)
    · have c5 : x4.toInt = 3 := by have h := z_eq c5; rw [show (3 : Int32).toInt = 3 from by decide +kernel] at h; exact h
      refine lv_aload_n hx hb dX12_suffix_52 rfl (lv_at hl 1 rfl) ?_
      refine rg_6 C hP wm_19 dX12_suffix_53 ?_
      refine lv_aload_n hx hb dX12_suffix_56 rfl (lv_at hl 1 rfl) ?_
      refine rg_14 (v := x3) C hP rfl wm_62 dX12_suffix_57 ?_
      refine ra_6 (f := (σ.2.2.1 6)) C hP rfl (v_suffix_4 σ x3 x4 hpre_0 hpre_1 hpre_2 hpre_4 hr1_0 hr1_1 ex3 tx3 ex4 tx4 c5) dX12_suffix_60 (fun x6 ex6 => ?_)
      have tx6 : x6.toInt = ((σ.2.2.1 6) ((σ.1 14).toInt + 1).toNat).toInt := by rw [ex6, clampN, tx3]
      refine lv_l2i hx hb dX12_suffix_61 rfl ?_
      refine lv_topi (fun x7 ex7 => ?_)
      have tx7 : -2147483648 ≤ x6.toInt → x6.toInt < 2147483648 → x7.toInt = x6.toInt := z_l2i ex7
      refine lv_istore_n (lv' := [(2, .int x7), (1, .int r1), (0, .ref (ad 0))]) hx hb dX12_suffix_62 rfl hl (by decide) rfl (fun ls hl => ?_)
      refine lv_aload_n hx hb dX12_suffix_63 rfl (lv_at hl 2 rfl) ?_
      refine lv_dup hx hb dX12_suffix_64 rfl ?_
      refine rg_14 (v := x3) C hP rfl wm_62 dX12_suffix_65 ?_
      refine lv_iconst (v := 1) hx hb dX12_suffix_68 (by decide +kernel) ?_
      refine lv_iadd hx hb dX12_suffix_69 ?_
      refine lv_topi (fun x8 ex8 => ?_)
      have tx8 : x8.toInt = x3.toInt + 1 := (v_suffix_5 σ x3 x4 x6 x7 x8 hpre_0 hpre_1 hpre_2 hpre_4 hr1_0 hr1_1 ex3 tx3 ex4 tx4 c5 ex6 tx6 ex7 tx7 ex8)
      refine rp_14 C hP hS wm_62 dX12_suffix_70 (fun H locs hP hS => ?_)
      refine lv_aload_n hx hb dX12_suffix_73 rfl (lv_at hl 2 rfl) ?_
      refine lv_iload_n hx hb dX12_suffix_74 rfl (lv_at hl 0 rfl) ?_
      refine lv_iload_n hx hb dX12_suffix_75 rfl (lv_at hl 1 rfl) ?_
      refine r_callVv (As := [.int x7, .int r1]) (rest := []) C hP hS hl.1 ⟨Nat.zero_le _, Nat.zero_le _⟩ (M_named l D cy sz0 sa ad (rS (rS σ 14 x3) 14 x8) H.size x7 r1 (v_suffix_6 σ r1 x3 x4 x6 x7 x8 hpre_0 hpre_1 hpre_2 hpre_3 hpre_4 hr1_0 hr1_1 c2 hr1v ex3 tx3 ex4 tx4 c5 ex6 tx6 ex7 tx7 ex8 tx8)) (n := 2) ⟨wm_109, wm_101, by decide +kernel⟩ ⟨wm_110, wm_111, wm_10⟩ rfl rfl (lv_room (Nat.le_of_ble_eq_true rfl)) ⟨Nat.le_of_ble_eq_true rfl, Nat.le_of_ble_eq_true rfl⟩ dX12_suffix_76 (fun u H locs hr9 hP hS => ?_)
      obtain ⟨n10, F11, G12, n13, n14, n15, F16, F17, F18, F19, F20, F21, F22, F23, F24, F25, F26, F27, n28, n29, n30, n31, n32⟩ := u
      have hr9 : Keep (σ.1 15).toInt (σ.2.1 11) F11 (σ.2.2.1 12) G12 ∧ 0 ≤ n31.toInt ∧ n31.toInt ≤ 3 ∧ (n31.toInt = 0 → TKI (σ.2.1 4) (σ.2.2.1 6) (σ.2.1 7) (σ.1 3) n10 ∧ LI n28 n10 (σ.1 15) n13 n14 n15 F11 G12 F16 F17 F18 F19 F20 F21 F22 F23 F24 F26 n29 n30 F27 ∧ 2 * x8.toInt - (σ.1 19).toInt ≤ 2 * n10.toInt - n14.toInt) := hr9
      obtain ⟨hr9_0, hr9_1, hr9_2, hr9_3⟩ := hr9
      have hP : RP D cy ad (rS (rS (rS (rS (rS (rA (rA (rA (rA (rA (rA (rA (rA (rA (rA (rA (rA (rS (rS (rS (rJ (rA (rS (rS (rS σ 14 x3) 14 x8) 14 n10) 11 F11) 12 G12) 16 n13) 19 n14) 29 n15) 31 F16) 30 F17) 32 F18) 21 F19) 22 F20) 20 F21) 23 F22) 24 F23) 25 F24) 26 F25) 27 F26) 28 F27) 17 n28) 33 n29) 34 n30) 8 n31) 9 n32) H := hP
      refine lv_iconst (v := 1) hx hb dX12_suffix_79 (by decide +kernel) ?_
      have hP : RP D cy ad (rS (rS (rS (rS (rS (rA (rA (rA (rA (rA (rA (rA (rA (rA (rA (rA (rA (rS (rS (rS (rJ (rA (rS σ 14 n10) 11 F11) 12 G12) 16 n13) 19 n14) 29 n15) 31 F16) 30 F17) 32 F18) 21 F19) 22 F20) 20 F21) 23 F22) 24 F23) 25 F24) 26 F25) 27 F26) 28 F27) 17 n28) 33 n29) 34 n30) 8 n31) 9 n32) H := RP.cong hP (Eq.trans (b := (σ.1 0)) rfl rfl) (Eq.trans (b := (σ.1 1)) rfl rfl) (Eq.trans (b := (σ.2.1 2)) rfl rfl) (Eq.trans (b := (σ.1 3)) rfl rfl) (Eq.trans (b := (σ.2.1 4)) rfl rfl) (Eq.trans (b := (σ.2.1 5)) rfl rfl) (Eq.trans (b := (σ.2.2.1 6)) rfl rfl) (Eq.trans (b := (σ.2.1 7)) rfl rfl) (Eq.trans (b := n31) rfl rfl) (Eq.trans (b := n32) rfl rfl) (Eq.trans (b := (σ.1 10)) rfl rfl) (Eq.trans (b := F11) rfl rfl) (Eq.trans (b := G12) rfl rfl) (Eq.trans (b := (σ.2.1 13)) rfl rfl) (Eq.trans (b := n10) rfl rfl) (Eq.trans (b := (σ.1 15)) rfl rfl) (Eq.trans (b := n13) rfl rfl) (Eq.trans (b := n28) rfl rfl) (Eq.trans (b := (σ.1 18)) rfl rfl) (Eq.trans (b := n14) rfl rfl) (Eq.trans (b := F21) rfl rfl) (Eq.trans (b := F19) rfl rfl) (Eq.trans (b := F20) rfl rfl) (Eq.trans (b := F22) rfl rfl) (Eq.trans (b := F23) rfl rfl) (Eq.trans (b := F24) rfl rfl) (Eq.trans (b := F25) rfl rfl) (Eq.trans (b := F26) rfl rfl) (Eq.trans (b := F27) rfl rfl) (Eq.trans (b := n15) rfl rfl) (Eq.trans (b := F17) rfl rfl) (Eq.trans (b := F16) rfl rfl) (Eq.trans (b := F18) rfl rfl) (Eq.trans (b := n29) rfl rfl) (Eq.trans (b := n30) rfl rfl) (Eq.trans (b := (σ.1 35)) rfl rfl) (Eq.trans (b := (σ.2.1 36)) rfl rfl) (Eq.trans (b := (σ.2.1 37)) rfl rfl) (Eq.trans (b := (σ.2.1 38)) rfl rfl) (Eq.trans (b := (σ.2.1 39)) rfl rfl) (Eq.trans (b := (σ.2.1 40)) rfl rfl) (Eq.trans (b := (σ.2.1 41)) rfl rfl) (Eq.trans (b := (σ.2.1 42)) rfl rfl) (Eq.trans (b := (σ.2.1 43)) rfl rfl) (Eq.trans (b := (σ.2.1 44)) rfl rfl) (Eq.trans (b := (σ.2.1 45)) rfl rfl) (Eq.trans (b := (σ.2.1 46)) rfl rfl) (Eq.trans (b := (σ.1 47)) rfl rfl) (Eq.trans (b := (σ.2.1 48)) rfl rfl) (Eq.trans (b := (σ.1 49)) rfl rfl) (Eq.trans (b := (σ.2.1 50)) rfl rfl) (Eq.trans (b := (σ.2.1 51)) rfl rfl) (Eq.trans (b := (σ.2.2.1 52)) rfl rfl) (Eq.trans (b := (σ.2.2.1 53)) rfl rfl) (Eq.trans (b := (σ.2.2.2)) rfl rfl) (Eq.trans (b := (σ.1 55)) rfl rfl) (Eq.trans (b := (σ.1 56)) rfl rfl) (Eq.trans (b := (σ.1 57)) rfl rfl) (Eq.trans (b := (σ.2.1 58)) rfl rfl) (Eq.trans (b := (σ.1 59)) rfl rfl)
      exact r_retz C ⟨n10, F11, G12, n13, n14, n15, F16, F17, F18, F19, F20, F21, F22, F23, F24, F25, F26, F27, n28, n29, n30, n31, n32⟩ (v_suffix_8  ) (v_suffix_7 σ x3 x4 x6 x7 x8 n10 F11 G12 n13 n14 n15 F16 F17 F18 F19 F20 F21 F22 F23 F24 F25 F26 F27 n28 n29 n30 n31 hpre_0 hpre_1 hpre_2 hpre_3 hpre_4 hpre_5 hr1_0 hr1_1 ex3 tx3 ex4 tx4 c5 ex6 tx6 ex7 tx7 ex8 tx8 hr9_0 hr9_1 hr9_2 hr9_3) hP hS dX12_suffix_80
    · have c5 : ¬ x4.toInt = 3 := by have h := z_ne c5; rw [show (3 : Int32).toInt = 3 from by decide +kernel] at h; exact h
      refine lv_aload_n hx hb dX12_suffix_46 rfl (lv_at hl 1 rfl) ?_
      refine r_callVv (As := []) (rest := []) C hP hS hl.1 ⟨Nat.zero_le _, Nat.zero_le _⟩ (M_misfit l D cy sz0 sa ad (rS σ 14 x3) H.size  (v_suffix_9 σ x3 x4 hpre_0 hpre_1 hpre_2 hpre_4 hr1_0 hr1_1 ex3 tx3 ex4 tx4 c5)) (n := 0) ⟨wm_116, wm_63, by decide +kernel⟩ ⟨wm_117, wm_118, wm_10⟩ rfl rfl (lv_room (Nat.le_of_ble_eq_true rfl)) ⟨Nat.le_of_ble_eq_true rfl, Nat.le_of_ble_eq_true rfl⟩ dX12_suffix_47 (fun u H locs hr33 hP hS => ?_)
      obtain ⟨n34, n35⟩ := u
      have hr33 : (σ.1 8).toInt = 0 → n34.toInt = 2 := hr33
      have hP : RP D cy ad (rS (rS (rS σ 14 x3) 8 n34) 9 n35) H := hP
      refine lv_iconst (v := 1) hx hb dX12_suffix_50 (by decide +kernel) ?_
      have hP : RP D cy ad (rS (rS (rS (rS (rS (rA (rA (rA (rA (rA (rA (rA (rA (rA (rA (rA (rA (rS (rS (rS (rJ (rA (rS σ 14 x3) 11 (σ.2.1 11)) 12 (σ.2.2.1 12)) 16 (σ.1 16)) 19 (σ.1 19)) 29 (σ.1 29)) 31 (σ.2.1 31)) 30 (σ.2.1 30)) 32 (σ.2.1 32)) 21 (σ.2.1 21)) 22 (σ.2.1 22)) 20 (σ.2.1 20)) 23 (σ.2.1 23)) 24 (σ.2.1 24)) 25 (σ.2.1 25)) 26 (σ.2.1 26)) 27 (σ.2.1 27)) 28 (σ.2.1 28)) 17 (σ.1 17)) 33 (σ.1 33)) 34 (σ.1 34)) 8 n34) 9 n35) H := RP.cong hP (Eq.trans (b := (σ.1 0)) rfl rfl) (Eq.trans (b := (σ.1 1)) rfl rfl) (Eq.trans (b := (σ.2.1 2)) rfl rfl) (Eq.trans (b := (σ.1 3)) rfl rfl) (Eq.trans (b := (σ.2.1 4)) rfl rfl) (Eq.trans (b := (σ.2.1 5)) rfl rfl) (Eq.trans (b := (σ.2.2.1 6)) rfl rfl) (Eq.trans (b := (σ.2.1 7)) rfl rfl) (Eq.trans (b := n34) rfl rfl) (Eq.trans (b := n35) rfl rfl) (Eq.trans (b := (σ.1 10)) rfl rfl) (Eq.trans (b := (σ.2.1 11)) rfl rfl) (Eq.trans (b := (σ.2.2.1 12)) rfl rfl) (Eq.trans (b := (σ.2.1 13)) rfl rfl) (Eq.trans (b := x3) rfl rfl) (Eq.trans (b := (σ.1 15)) rfl rfl) (Eq.trans (b := (σ.1 16)) rfl rfl) (Eq.trans (b := (σ.1 17)) rfl rfl) (Eq.trans (b := (σ.1 18)) rfl rfl) (Eq.trans (b := (σ.1 19)) rfl rfl) (Eq.trans (b := (σ.2.1 20)) rfl rfl) (Eq.trans (b := (σ.2.1 21)) rfl rfl) (Eq.trans (b := (σ.2.1 22)) rfl rfl) (Eq.trans (b := (σ.2.1 23)) rfl rfl) (Eq.trans (b := (σ.2.1 24)) rfl rfl) (Eq.trans (b := (σ.2.1 25)) rfl rfl) (Eq.trans (b := (σ.2.1 26)) rfl rfl) (Eq.trans (b := (σ.2.1 27)) rfl rfl) (Eq.trans (b := (σ.2.1 28)) rfl rfl) (Eq.trans (b := (σ.1 29)) rfl rfl) (Eq.trans (b := (σ.2.1 30)) rfl rfl) (Eq.trans (b := (σ.2.1 31)) rfl rfl) (Eq.trans (b := (σ.2.1 32)) rfl rfl) (Eq.trans (b := (σ.1 33)) rfl rfl) (Eq.trans (b := (σ.1 34)) rfl rfl) (Eq.trans (b := (σ.1 35)) rfl rfl) (Eq.trans (b := (σ.2.1 36)) rfl rfl) (Eq.trans (b := (σ.2.1 37)) rfl rfl) (Eq.trans (b := (σ.2.1 38)) rfl rfl) (Eq.trans (b := (σ.2.1 39)) rfl rfl) (Eq.trans (b := (σ.2.1 40)) rfl rfl) (Eq.trans (b := (σ.2.1 41)) rfl rfl) (Eq.trans (b := (σ.2.1 42)) rfl rfl) (Eq.trans (b := (σ.2.1 43)) rfl rfl) (Eq.trans (b := (σ.2.1 44)) rfl rfl) (Eq.trans (b := (σ.2.1 45)) rfl rfl) (Eq.trans (b := (σ.2.1 46)) rfl rfl) (Eq.trans (b := (σ.1 47)) rfl rfl) (Eq.trans (b := (σ.2.1 48)) rfl rfl) (Eq.trans (b := (σ.1 49)) rfl rfl) (Eq.trans (b := (σ.2.1 50)) rfl rfl) (Eq.trans (b := (σ.2.1 51)) rfl rfl) (Eq.trans (b := (σ.2.2.1 52)) rfl rfl) (Eq.trans (b := (σ.2.2.1 53)) rfl rfl) (Eq.trans (b := (σ.2.2.2)) rfl rfl) (Eq.trans (b := (σ.1 55)) rfl rfl) (Eq.trans (b := (σ.1 56)) rfl rfl) (Eq.trans (b := (σ.1 57)) rfl rfl) (Eq.trans (b := (σ.2.1 58)) rfl rfl) (Eq.trans (b := (σ.1 59)) rfl rfl)
      exact r_retz C ⟨x3, (σ.2.1 11), (σ.2.2.1 12), (σ.1 16), (σ.1 19), (σ.1 29), (σ.2.1 31), (σ.2.1 30), (σ.2.1 32), (σ.2.1 21), (σ.2.1 22), (σ.2.1 20), (σ.2.1 23), (σ.2.1 24), (σ.2.1 25), (σ.2.1 26), (σ.2.1 27), (σ.2.1 28), (σ.1 17), (σ.1 33), (σ.1 34), n34, n35⟩ (v_suffix_8  ) (v_suffix_10 σ x3 x4 n34 hpre_0 hpre_1 hpre_2 hpre_3 hpre_4 hpre_5 hr1_0 hr1_1 ex3 tx3 ex4 tx4 c5 hr33) hP hS dX12_suffix_51
  · have c2 : r1.toInt = 0 := by have h := z_eq c2; rw [show (0 : Int32).toInt = 0 from by decide +kernel] at h; exact h
    have hr1 : ¬ (((σ.2.1 4) (σ.1 14).toNatClampNeg).toInt = 5 ∧ ((σ.2.2.1 6) (σ.1 14).toNatClampNeg).toInt = (16174 : Int32).toInt) := bq_f hr1 c2
    refine lv_aload_n hx hb dX12_suffix_12 rfl (lv_at hl 1 rfl) ?_
    refine lv_bipush (v := 46) hx hb dX12_suffix_13 (by decide +kernel) ?_
    refine r_callVi (As := [.int 46]) (rest := []) C hP hS hl.1 ⟨Nat.zero_le _, Nat.zero_le _⟩ (M_isSign l D cy sz0 sa ad σ H.size (46 : Int32) (v_suffix_11 σ hpre_0 hpre_1 hpre_2 hpre_4 hr1)) (n := 1) ⟨wm_92, wm_61, by decide +kernel⟩ ⟨wm_93, wm_94, wm_10⟩ rfl rfl (lv_room (Nat.le_of_ble_eq_true rfl)) ⟨Nat.le_of_ble_eq_true rfl, Nat.le_of_ble_eq_true rfl⟩ dX12_suffix_15 (fun r36 u H locs hr36 hP hS => ?_)
    have hr36 : (r36.toInt = 0 ∧ ¬ (((σ.2.1 4) (σ.1 14).toNatClampNeg).toInt = 5 ∧ ((σ.2.2.1 6) (σ.1 14).toNatClampNeg).toInt = (46 : Int32).toInt)) ∨ (r36.toInt = 1 ∧ (((σ.2.1 4) (σ.1 14).toNatClampNeg).toInt = 5 ∧ ((σ.2.2.1 6) (σ.1 14).toNatClampNeg).toInt = (46 : Int32).toInt)) := hr36
    refine lv_if_ne (tgt := 23) hx hb dX12_suffix_18 (by decide) (fun c37 => ?_) (fun c37 => ?_)
    · have c37 : ¬ r36.toInt = 0 := by have h := z_ne c37; rw [show (0 : Int32).toInt = 0 from by decide +kernel] at h; exact h
      have hr36v : r36.toInt = 1 := hr36.elim (fun h9 => absurd h9.1 c37) (fun h9 => h9.1)
      have hr36 : ((σ.2.1 4) (σ.1 14).toNatClampNeg).toInt = 5 ∧ ((σ.2.2.1 6) (σ.1 14).toNatClampNeg).toInt = (46 : Int32).toInt := bq_t hr36 c37
      obtain ⟨hr36_0, hr36_1⟩ := hr36
      refine lv_aload_n hx hb dX12_suffix_23 rfl (lv_at hl 1 rfl) ?_
      refine lv_dup hx hb dX12_suffix_24 rfl ?_
      refine rg_14 (v := (σ.1 14)) C hP rfl wm_62 dX12_suffix_25 ?_
      refine lv_iconst (v := 1) hx hb dX12_suffix_28 (by decide +kernel) ?_
      refine lv_iadd hx hb dX12_suffix_29 ?_
      refine lv_topi (fun x38 ex38 => ?_)
      have tx38 : x38.toInt = (σ.1 14).toInt + 1 := (v_suffix_12 σ x38 hpre_0 hpre_1 hpre_2 hpre_4 hr1 hr36_0 hr36_1 ex38)
      refine rp_14 C hP hS wm_62 dX12_suffix_30 (fun H locs hP hS => ?_)
      refine lv_aload_n hx hb dX12_suffix_33 rfl (lv_at hl 1 rfl) ?_
      refine rg_4 C hP wm_16 dX12_suffix_34 ?_
      refine lv_aload_n hx hb dX12_suffix_37 rfl (lv_at hl 1 rfl) ?_
      refine rg_14 (v := x38) C hP rfl wm_62 dX12_suffix_38 ?_
      refine ra_4 (f := (σ.2.1 4)) C hP rfl (v_suffix_13 σ x38 hpre_0 hpre_1 hpre_2 hpre_4 hr1 hr36_0 hr36_1 ex38 tx38) dX12_suffix_41 (fun x39 ex39 => ?_)
      have tx39 : x39.toInt = ((σ.2.1 4) ((σ.1 14).toInt + 1).toNat).toInt := by rw [ex39, clampN, tx38]
      refine lv_iconst (v := 3) hx hb dX12_suffix_42 (by decide +kernel) ?_
      refine lv_icmp_eq (tgt := 52) hx hb dX12_suffix_43 (by decide) (fun c40 => ?_) (fun c40 => ?_)
      · have c40 : x39.toInt = 3 := by have h := z_eq c40; rw [show (3 : Int32).toInt = 3 from by decide +kernel] at h; exact h
        refine lv_aload_n hx hb dX12_suffix_52 rfl (lv_at hl 1 rfl) ?_
        refine rg_6 C hP wm_19 dX12_suffix_53 ?_
        refine lv_aload_n hx hb dX12_suffix_56 rfl (lv_at hl 1 rfl) ?_
        refine rg_14 (v := x38) C hP rfl wm_62 dX12_suffix_57 ?_
        refine ra_6 (f := (σ.2.2.1 6)) C hP rfl (v_suffix_14 σ x38 x39 hpre_0 hpre_1 hpre_2 hpre_4 hr1 hr36_0 hr36_1 ex38 tx38 ex39 tx39 c40) dX12_suffix_60 (fun x41 ex41 => ?_)
        have tx41 : x41.toInt = ((σ.2.2.1 6) ((σ.1 14).toInt + 1).toNat).toInt := by rw [ex41, clampN, tx38]
        refine lv_l2i hx hb dX12_suffix_61 rfl ?_
        refine lv_topi (fun x42 ex42 => ?_)
        have tx42 : -2147483648 ≤ x41.toInt → x41.toInt < 2147483648 → x42.toInt = x41.toInt := z_l2i ex42
        refine lv_istore_n (lv' := [(2, .int x42), (1, .int r1), (0, .ref (ad 0))]) hx hb dX12_suffix_62 rfl hl (by decide) rfl (fun ls hl => ?_)
        refine lv_aload_n hx hb dX12_suffix_63 rfl (lv_at hl 2 rfl) ?_
        refine lv_dup hx hb dX12_suffix_64 rfl ?_
        refine rg_14 (v := x38) C hP rfl wm_62 dX12_suffix_65 ?_
        refine lv_iconst (v := 1) hx hb dX12_suffix_68 (by decide +kernel) ?_
        refine lv_iadd hx hb dX12_suffix_69 ?_
        refine lv_topi (fun x43 ex43 => ?_)
        have tx43 : x43.toInt = x38.toInt + 1 := (v_suffix_15 σ x38 x39 x41 x42 x43 hpre_0 hpre_1 hpre_2 hpre_4 hr1 hr36_0 hr36_1 ex38 tx38 ex39 tx39 c40 ex41 tx41 ex42 tx42 ex43)
        refine rp_14 C hP hS wm_62 dX12_suffix_70 (fun H locs hP hS => ?_)
        refine lv_aload_n hx hb dX12_suffix_73 rfl (lv_at hl 2 rfl) ?_
        refine lv_iload_n hx hb dX12_suffix_74 rfl (lv_at hl 0 rfl) ?_
        refine lv_iload_n hx hb dX12_suffix_75 rfl (lv_at hl 1 rfl) ?_
        refine r_callVv (As := [.int x42, .int r1]) (rest := []) C hP hS hl.1 ⟨Nat.zero_le _, Nat.zero_le _⟩ (M_named l D cy sz0 sa ad (rS (rS σ 14 x38) 14 x43) H.size x42 r1 (v_suffix_16 σ r1 x38 x39 x41 x42 x43 hpre_0 hpre_1 hpre_2 hpre_3 hpre_4 hr1 c2 hr36_0 hr36_1 ex38 tx38 ex39 tx39 c40 ex41 tx41 ex42 tx42 ex43 tx43)) (n := 2) ⟨wm_109, wm_101, by decide +kernel⟩ ⟨wm_110, wm_111, wm_10⟩ rfl rfl (lv_room (Nat.le_of_ble_eq_true rfl)) ⟨Nat.le_of_ble_eq_true rfl, Nat.le_of_ble_eq_true rfl⟩ dX12_suffix_76 (fun u H locs hr44 hP hS => ?_)
        obtain ⟨n45, F46, G47, n48, n49, n50, F51, F52, F53, F54, F55, F56, F57, F58, F59, F60, F61, F62, n63, n64, n65, n66, n67⟩ := u
        have hr44 : Keep (σ.1 15).toInt (σ.2.1 11) F46 (σ.2.2.1 12) G47 ∧ 0 ≤ n66.toInt ∧ n66.toInt ≤ 3 ∧ (n66.toInt = 0 → TKI (σ.2.1 4) (σ.2.2.1 6) (σ.2.1 7) (σ.1 3) n45 ∧ LI n63 n45 (σ.1 15) n48 n49 n50 F46 G47 F51 F52 F53 F54 F55 F56 F57 F58 F59 F61 n64 n65 F62 ∧ 2 * x43.toInt - (σ.1 19).toInt ≤ 2 * n45.toInt - n49.toInt) := hr44
        obtain ⟨hr44_0, hr44_1, hr44_2, hr44_3⟩ := hr44
        have hP : RP D cy ad (rS (rS (rS (rS (rS (rA (rA (rA (rA (rA (rA (rA (rA (rA (rA (rA (rA (rS (rS (rS (rJ (rA (rS (rS (rS σ 14 x38) 14 x43) 14 n45) 11 F46) 12 G47) 16 n48) 19 n49) 29 n50) 31 F51) 30 F52) 32 F53) 21 F54) 22 F55) 20 F56) 23 F57) 24 F58) 25 F59) 26 F60) 27 F61) 28 F62) 17 n63) 33 n64) 34 n65) 8 n66) 9 n67) H := hP
        refine lv_iconst (v := 1) hx hb dX12_suffix_79 (by decide +kernel) ?_
        have hP : RP D cy ad (rS (rS (rS (rS (rS (rA (rA (rA (rA (rA (rA (rA (rA (rA (rA (rA (rA (rS (rS (rS (rJ (rA (rS σ 14 n45) 11 F46) 12 G47) 16 n48) 19 n49) 29 n50) 31 F51) 30 F52) 32 F53) 21 F54) 22 F55) 20 F56) 23 F57) 24 F58) 25 F59) 26 F60) 27 F61) 28 F62) 17 n63) 33 n64) 34 n65) 8 n66) 9 n67) H := RP.cong hP (Eq.trans (b := (σ.1 0)) rfl rfl) (Eq.trans (b := (σ.1 1)) rfl rfl) (Eq.trans (b := (σ.2.1 2)) rfl rfl) (Eq.trans (b := (σ.1 3)) rfl rfl) (Eq.trans (b := (σ.2.1 4)) rfl rfl) (Eq.trans (b := (σ.2.1 5)) rfl rfl) (Eq.trans (b := (σ.2.2.1 6)) rfl rfl) (Eq.trans (b := (σ.2.1 7)) rfl rfl) (Eq.trans (b := n66) rfl rfl) (Eq.trans (b := n67) rfl rfl) (Eq.trans (b := (σ.1 10)) rfl rfl) (Eq.trans (b := F46) rfl rfl) (Eq.trans (b := G47) rfl rfl) (Eq.trans (b := (σ.2.1 13)) rfl rfl) (Eq.trans (b := n45) rfl rfl) (Eq.trans (b := (σ.1 15)) rfl rfl) (Eq.trans (b := n48) rfl rfl) (Eq.trans (b := n63) rfl rfl) (Eq.trans (b := (σ.1 18)) rfl rfl) (Eq.trans (b := n49) rfl rfl) (Eq.trans (b := F56) rfl rfl) (Eq.trans (b := F54) rfl rfl) (Eq.trans (b := F55) rfl rfl) (Eq.trans (b := F57) rfl rfl) (Eq.trans (b := F58) rfl rfl) (Eq.trans (b := F59) rfl rfl) (Eq.trans (b := F60) rfl rfl) (Eq.trans (b := F61) rfl rfl) (Eq.trans (b := F62) rfl rfl) (Eq.trans (b := n50) rfl rfl) (Eq.trans (b := F52) rfl rfl) (Eq.trans (b := F51) rfl rfl) (Eq.trans (b := F53) rfl rfl) (Eq.trans (b := n64) rfl rfl) (Eq.trans (b := n65) rfl rfl) (Eq.trans (b := (σ.1 35)) rfl rfl) (Eq.trans (b := (σ.2.1 36)) rfl rfl) (Eq.trans (b := (σ.2.1 37)) rfl rfl) (Eq.trans (b := (σ.2.1 38)) rfl rfl) (Eq.trans (b := (σ.2.1 39)) rfl rfl) (Eq.trans (b := (σ.2.1 40)) rfl rfl) (Eq.trans (b := (σ.2.1 41)) rfl rfl) (Eq.trans (b := (σ.2.1 42)) rfl rfl) (Eq.trans (b := (σ.2.1 43)) rfl rfl) (Eq.trans (b := (σ.2.1 44)) rfl rfl) (Eq.trans (b := (σ.2.1 45)) rfl rfl) (Eq.trans (b := (σ.2.1 46)) rfl rfl) (Eq.trans (b := (σ.1 47)) rfl rfl) (Eq.trans (b := (σ.2.1 48)) rfl rfl) (Eq.trans (b := (σ.1 49)) rfl rfl) (Eq.trans (b := (σ.2.1 50)) rfl rfl) (Eq.trans (b := (σ.2.1 51)) rfl rfl) (Eq.trans (b := (σ.2.2.1 52)) rfl rfl) (Eq.trans (b := (σ.2.2.1 53)) rfl rfl) (Eq.trans (b := (σ.2.2.2)) rfl rfl) (Eq.trans (b := (σ.1 55)) rfl rfl) (Eq.trans (b := (σ.1 56)) rfl rfl) (Eq.trans (b := (σ.1 57)) rfl rfl) (Eq.trans (b := (σ.2.1 58)) rfl rfl) (Eq.trans (b := (σ.1 59)) rfl rfl)
        exact r_retz C ⟨n45, F46, G47, n48, n49, n50, F51, F52, F53, F54, F55, F56, F57, F58, F59, F60, F61, F62, n63, n64, n65, n66, n67⟩ (v_suffix_8  ) (v_suffix_17 σ x38 x39 x41 x42 x43 n45 F46 G47 n48 n49 n50 F51 F52 F53 F54 F55 F56 F57 F58 F59 F60 F61 F62 n63 n64 n65 n66 hpre_0 hpre_1 hpre_2 hpre_3 hpre_4 hpre_5 hr1 hr36_0 hr36_1 ex38 tx38 ex39 tx39 c40 ex41 tx41 ex42 tx42 ex43 tx43 hr44_0 hr44_1 hr44_2 hr44_3) hP hS dX12_suffix_80
      · have c40 : ¬ x39.toInt = 3 := by have h := z_ne c40; rw [show (3 : Int32).toInt = 3 from by decide +kernel] at h; exact h
        refine lv_aload_n hx hb dX12_suffix_46 rfl (lv_at hl 1 rfl) ?_
        refine r_callVv (As := []) (rest := []) C hP hS hl.1 ⟨Nat.zero_le _, Nat.zero_le _⟩ (M_misfit l D cy sz0 sa ad (rS σ 14 x38) H.size  (v_suffix_18 σ x38 x39 hpre_0 hpre_1 hpre_2 hpre_4 hr1 hr36_0 hr36_1 ex38 tx38 ex39 tx39 c40)) (n := 0) ⟨wm_116, wm_63, by decide +kernel⟩ ⟨wm_117, wm_118, wm_10⟩ rfl rfl (lv_room (Nat.le_of_ble_eq_true rfl)) ⟨Nat.le_of_ble_eq_true rfl, Nat.le_of_ble_eq_true rfl⟩ dX12_suffix_47 (fun u H locs hr68 hP hS => ?_)
        obtain ⟨n69, n70⟩ := u
        have hr68 : (σ.1 8).toInt = 0 → n69.toInt = 2 := hr68
        have hP : RP D cy ad (rS (rS (rS σ 14 x38) 8 n69) 9 n70) H := hP
        refine lv_iconst (v := 1) hx hb dX12_suffix_50 (by decide +kernel) ?_
        have hP : RP D cy ad (rS (rS (rS (rS (rS (rA (rA (rA (rA (rA (rA (rA (rA (rA (rA (rA (rA (rS (rS (rS (rJ (rA (rS σ 14 x38) 11 (σ.2.1 11)) 12 (σ.2.2.1 12)) 16 (σ.1 16)) 19 (σ.1 19)) 29 (σ.1 29)) 31 (σ.2.1 31)) 30 (σ.2.1 30)) 32 (σ.2.1 32)) 21 (σ.2.1 21)) 22 (σ.2.1 22)) 20 (σ.2.1 20)) 23 (σ.2.1 23)) 24 (σ.2.1 24)) 25 (σ.2.1 25)) 26 (σ.2.1 26)) 27 (σ.2.1 27)) 28 (σ.2.1 28)) 17 (σ.1 17)) 33 (σ.1 33)) 34 (σ.1 34)) 8 n69) 9 n70) H := RP.cong hP (Eq.trans (b := (σ.1 0)) rfl rfl) (Eq.trans (b := (σ.1 1)) rfl rfl) (Eq.trans (b := (σ.2.1 2)) rfl rfl) (Eq.trans (b := (σ.1 3)) rfl rfl) (Eq.trans (b := (σ.2.1 4)) rfl rfl) (Eq.trans (b := (σ.2.1 5)) rfl rfl) (Eq.trans (b := (σ.2.2.1 6)) rfl rfl) (Eq.trans (b := (σ.2.1 7)) rfl rfl) (Eq.trans (b := n69) rfl rfl) (Eq.trans (b := n70) rfl rfl) (Eq.trans (b := (σ.1 10)) rfl rfl) (Eq.trans (b := (σ.2.1 11)) rfl rfl) (Eq.trans (b := (σ.2.2.1 12)) rfl rfl) (Eq.trans (b := (σ.2.1 13)) rfl rfl) (Eq.trans (b := x38) rfl rfl) (Eq.trans (b := (σ.1 15)) rfl rfl) (Eq.trans (b := (σ.1 16)) rfl rfl) (Eq.trans (b := (σ.1 17)) rfl rfl) (Eq.trans (b := (σ.1 18)) rfl rfl) (Eq.trans (b := (σ.1 19)) rfl rfl) (Eq.trans (b := (σ.2.1 20)) rfl rfl) (Eq.trans (b := (σ.2.1 21)) rfl rfl) (Eq.trans (b := (σ.2.1 22)) rfl rfl) (Eq.trans (b := (σ.2.1 23)) rfl rfl) (Eq.trans (b := (σ.2.1 24)) rfl rfl) (Eq.trans (b := (σ.2.1 25)) rfl rfl) (Eq.trans (b := (σ.2.1 26)) rfl rfl) (Eq.trans (b := (σ.2.1 27)) rfl rfl) (Eq.trans (b := (σ.2.1 28)) rfl rfl) (Eq.trans (b := (σ.1 29)) rfl rfl) (Eq.trans (b := (σ.2.1 30)) rfl rfl) (Eq.trans (b := (σ.2.1 31)) rfl rfl) (Eq.trans (b := (σ.2.1 32)) rfl rfl) (Eq.trans (b := (σ.1 33)) rfl rfl) (Eq.trans (b := (σ.1 34)) rfl rfl) (Eq.trans (b := (σ.1 35)) rfl rfl) (Eq.trans (b := (σ.2.1 36)) rfl rfl) (Eq.trans (b := (σ.2.1 37)) rfl rfl) (Eq.trans (b := (σ.2.1 38)) rfl rfl) (Eq.trans (b := (σ.2.1 39)) rfl rfl) (Eq.trans (b := (σ.2.1 40)) rfl rfl) (Eq.trans (b := (σ.2.1 41)) rfl rfl) (Eq.trans (b := (σ.2.1 42)) rfl rfl) (Eq.trans (b := (σ.2.1 43)) rfl rfl) (Eq.trans (b := (σ.2.1 44)) rfl rfl) (Eq.trans (b := (σ.2.1 45)) rfl rfl) (Eq.trans (b := (σ.2.1 46)) rfl rfl) (Eq.trans (b := (σ.1 47)) rfl rfl) (Eq.trans (b := (σ.2.1 48)) rfl rfl) (Eq.trans (b := (σ.1 49)) rfl rfl) (Eq.trans (b := (σ.2.1 50)) rfl rfl) (Eq.trans (b := (σ.2.1 51)) rfl rfl) (Eq.trans (b := (σ.2.2.1 52)) rfl rfl) (Eq.trans (b := (σ.2.2.1 53)) rfl rfl) (Eq.trans (b := (σ.2.2.2)) rfl rfl) (Eq.trans (b := (σ.1 55)) rfl rfl) (Eq.trans (b := (σ.1 56)) rfl rfl) (Eq.trans (b := (σ.1 57)) rfl rfl) (Eq.trans (b := (σ.2.1 58)) rfl rfl) (Eq.trans (b := (σ.1 59)) rfl rfl)
        exact r_retz C ⟨x38, (σ.2.1 11), (σ.2.2.1 12), (σ.1 16), (σ.1 19), (σ.1 29), (σ.2.1 31), (σ.2.1 30), (σ.2.1 32), (σ.2.1 21), (σ.2.1 22), (σ.2.1 20), (σ.2.1 23), (σ.2.1 24), (σ.2.1 25), (σ.2.1 26), (σ.2.1 27), (σ.2.1 28), (σ.1 17), (σ.1 33), (σ.1 34), n69, n70⟩ (v_suffix_8  ) (v_suffix_19 σ x38 x39 n69 hpre_0 hpre_1 hpre_2 hpre_3 hpre_4 hpre_5 hr1 hr36_0 hr36_1 ex38 tx38 ex39 tx39 c40 hr68) hP hS dX12_suffix_51
    · have c37 : r36.toInt = 0 := by have h := z_eq c37; rw [show (0 : Int32).toInt = 0 from by decide +kernel] at h; exact h
      have hr36 : ¬ (((σ.2.1 4) (σ.1 14).toNatClampNeg).toInt = 5 ∧ ((σ.2.2.1 6) (σ.1 14).toNatClampNeg).toInt = (46 : Int32).toInt) := bq_f hr36 c37
      refine lv_iconst (v := 0) hx hb dX12_suffix_21 (by decide +kernel) ?_
      have hP : RP D cy ad (rS (rS (rS (rS (rS (rA (rA (rA (rA (rA (rA (rA (rA (rA (rA (rA (rA (rS (rS (rS (rJ (rA (rS σ 14 (σ.1 14)) 11 (σ.2.1 11)) 12 (σ.2.2.1 12)) 16 (σ.1 16)) 19 (σ.1 19)) 29 (σ.1 29)) 31 (σ.2.1 31)) 30 (σ.2.1 30)) 32 (σ.2.1 32)) 21 (σ.2.1 21)) 22 (σ.2.1 22)) 20 (σ.2.1 20)) 23 (σ.2.1 23)) 24 (σ.2.1 24)) 25 (σ.2.1 25)) 26 (σ.2.1 26)) 27 (σ.2.1 27)) 28 (σ.2.1 28)) 17 (σ.1 17)) 33 (σ.1 33)) 34 (σ.1 34)) 8 (σ.1 8)) 9 (σ.1 9)) H := RP.cong hP (Eq.trans (b := (σ.1 0)) rfl rfl) (Eq.trans (b := (σ.1 1)) rfl rfl) (Eq.trans (b := (σ.2.1 2)) rfl rfl) (Eq.trans (b := (σ.1 3)) rfl rfl) (Eq.trans (b := (σ.2.1 4)) rfl rfl) (Eq.trans (b := (σ.2.1 5)) rfl rfl) (Eq.trans (b := (σ.2.2.1 6)) rfl rfl) (Eq.trans (b := (σ.2.1 7)) rfl rfl) (Eq.trans (b := (σ.1 8)) rfl rfl) (Eq.trans (b := (σ.1 9)) rfl rfl) (Eq.trans (b := (σ.1 10)) rfl rfl) (Eq.trans (b := (σ.2.1 11)) rfl rfl) (Eq.trans (b := (σ.2.2.1 12)) rfl rfl) (Eq.trans (b := (σ.2.1 13)) rfl rfl) (Eq.trans (b := (σ.1 14)) rfl rfl) (Eq.trans (b := (σ.1 15)) rfl rfl) (Eq.trans (b := (σ.1 16)) rfl rfl) (Eq.trans (b := (σ.1 17)) rfl rfl) (Eq.trans (b := (σ.1 18)) rfl rfl) (Eq.trans (b := (σ.1 19)) rfl rfl) (Eq.trans (b := (σ.2.1 20)) rfl rfl) (Eq.trans (b := (σ.2.1 21)) rfl rfl) (Eq.trans (b := (σ.2.1 22)) rfl rfl) (Eq.trans (b := (σ.2.1 23)) rfl rfl) (Eq.trans (b := (σ.2.1 24)) rfl rfl) (Eq.trans (b := (σ.2.1 25)) rfl rfl) (Eq.trans (b := (σ.2.1 26)) rfl rfl) (Eq.trans (b := (σ.2.1 27)) rfl rfl) (Eq.trans (b := (σ.2.1 28)) rfl rfl) (Eq.trans (b := (σ.1 29)) rfl rfl) (Eq.trans (b := (σ.2.1 30)) rfl rfl) (Eq.trans (b := (σ.2.1 31)) rfl rfl) (Eq.trans (b := (σ.2.1 32)) rfl rfl) (Eq.trans (b := (σ.1 33)) rfl rfl) (Eq.trans (b := (σ.1 34)) rfl rfl) (Eq.trans (b := (σ.1 35)) rfl rfl) (Eq.trans (b := (σ.2.1 36)) rfl rfl) (Eq.trans (b := (σ.2.1 37)) rfl rfl) (Eq.trans (b := (σ.2.1 38)) rfl rfl) (Eq.trans (b := (σ.2.1 39)) rfl rfl) (Eq.trans (b := (σ.2.1 40)) rfl rfl) (Eq.trans (b := (σ.2.1 41)) rfl rfl) (Eq.trans (b := (σ.2.1 42)) rfl rfl) (Eq.trans (b := (σ.2.1 43)) rfl rfl) (Eq.trans (b := (σ.2.1 44)) rfl rfl) (Eq.trans (b := (σ.2.1 45)) rfl rfl) (Eq.trans (b := (σ.2.1 46)) rfl rfl) (Eq.trans (b := (σ.1 47)) rfl rfl) (Eq.trans (b := (σ.2.1 48)) rfl rfl) (Eq.trans (b := (σ.1 49)) rfl rfl) (Eq.trans (b := (σ.2.1 50)) rfl rfl) (Eq.trans (b := (σ.2.1 51)) rfl rfl) (Eq.trans (b := (σ.2.2.1 52)) rfl rfl) (Eq.trans (b := (σ.2.2.1 53)) rfl rfl) (Eq.trans (b := (σ.2.2.2)) rfl rfl) (Eq.trans (b := (σ.1 55)) rfl rfl) (Eq.trans (b := (σ.1 56)) rfl rfl) (Eq.trans (b := (σ.1 57)) rfl rfl) (Eq.trans (b := (σ.2.1 58)) rfl rfl) (Eq.trans (b := (σ.1 59)) rfl rfl)
      exact r_retz C ⟨(σ.1 14), (σ.2.1 11), (σ.2.2.1 12), (σ.1 16), (σ.1 19), (σ.1 29), (σ.2.1 31), (σ.2.1 30), (σ.2.1 32), (σ.2.1 21), (σ.2.1 22), (σ.2.1 20), (σ.2.1 23), (σ.2.1 24), (σ.2.1 25), (σ.2.1 26), (σ.2.1 27), (σ.2.1 28), (σ.1 17), (σ.1 33), (σ.1 34), (σ.1 8), (σ.1 9)⟩ (v_suffix_21  ) (v_suffix_20 σ hpre_0 hpre_1 hpre_2 hpre_3 hpre_4 hpre_5 hr1 hr36) hP hS dX12_suffix_22
