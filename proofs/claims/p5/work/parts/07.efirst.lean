-- in@8 @8
theorem v_first_1 (σ : RS) (hpre_0 : TKI (σ.2.1 4) (σ.2.2.1 6) (σ.2.1 7) (σ.1 3) (σ.1 14)) (hpre_1 : 0 ≤ (σ.1 15).toInt) (hpre_2 : (σ.1 15).toInt ≤ 3510) (hpre_4 : PQ1 0 0 (σ.1 14) (σ.1 15) (σ.1 16) (σ.1 19) (σ.1 29) (σ.2.1 11) (σ.2.2.1 12) (σ.2.1 31) (σ.2.1 30) (σ.2.1 32) (σ.2.1 21) (σ.2.1 22) (σ.2.1 20) (σ.2.1 23) (σ.2.1 24) (σ.2.1 25) (σ.2.1 27) (σ.1 33) (σ.1 34) (σ.2.1 28)) : vp_in (σ.1 14) 42 := by
  have bb_hpre_0 := hpre_0.b
  have bb_hpre_4 := hpre_4.z.b
  have kk_hpre_0 := hpre_0.in
  exact vp_in_iff.mpr ⟨by omega, by omega⟩
-- nw@15 @15
theorem v_first_2 (σ : RS) (x1 : Int32) (x2 : Int32) (hpre_0 : TKI (σ.2.1 4) (σ.2.2.1 6) (σ.2.1 7) (σ.1 3) (σ.1 14)) (hpre_1 : 0 ≤ (σ.1 15).toInt) (hpre_2 : (σ.1 15).toInt ≤ 3510) (hpre_4 : PQ1 0 0 (σ.1 14) (σ.1 15) (σ.1 16) (σ.1 19) (σ.1 29) (σ.2.1 11) (σ.2.2.1 12) (σ.2.1 31) (σ.2.1 30) (σ.2.1 32) (σ.2.1 21) (σ.2.1 22) (σ.2.1 20) (σ.2.1 23) (σ.2.1 24) (σ.2.1 25) (σ.2.1 27) (σ.1 33) (σ.1 34) (σ.2.1 28)) (ex1 : x1 = (σ.2.1 4) (σ.1 14).toNatClampNeg) (tx1 : x1.toInt = ((σ.2.1 4) (σ.1 14).toNatClampNeg).toInt) (ex2 : x2 = (σ.1 19) - (1 : Int32)) : x2.toInt = (σ.1 19).toInt - 1 := by
  have q1 : (1 : Int32).toInt = 1 := by decide +kernel
  have bb_hpre_0 := hpre_0.b
  have bb_hpre_4 := hpre_4.z.b
  have kk_hpre_0 := hpre_0.in
  have w1 : (1 : Int32).toInt = 1 := by decide +kernel
  rw [ex2, z_sub (by omega) (by omega)]; first | done | omega
-- dead@35 @42
theorem v_first_3 (σ : RS) (x1 : Int32) (ex1 : x1 = (σ.2.1 4) (σ.1 14).toNatClampNeg) (tx1 : x1.toInt = ((σ.2.1 4) (σ.1 14).toNatClampNeg).toInt) (c3 : x1.toInt = 1) (c4 : ¬ x1.toInt = 1) : False := by
  first | assumption | omega | (subst_vars; omega) | trivial
-- in@72 @72
theorem v_first_4 (σ : RS) (x1 : Int32) (x2 : Int32) (hpre_0 : TKI (σ.2.1 4) (σ.2.2.1 6) (σ.2.1 7) (σ.1 3) (σ.1 14)) (hpre_1 : 0 ≤ (σ.1 15).toInt) (hpre_2 : (σ.1 15).toInt ≤ 3510) (hpre_4 : PQ1 0 0 (σ.1 14) (σ.1 15) (σ.1 16) (σ.1 19) (σ.1 29) (σ.2.1 11) (σ.2.2.1 12) (σ.2.1 31) (σ.2.1 30) (σ.2.1 32) (σ.2.1 21) (σ.2.1 22) (σ.2.1 20) (σ.2.1 23) (σ.2.1 24) (σ.2.1 25) (σ.2.1 27) (σ.1 33) (σ.1 34) (σ.2.1 28)) (ex1 : x1 = (σ.2.1 4) (σ.1 14).toNatClampNeg) (tx1 : x1.toInt = ((σ.2.1 4) (σ.1 14).toNatClampNeg).toInt) (ex2 : x2 = (σ.1 19) - (1 : Int32)) (tx2 : x2.toInt = (σ.1 19).toInt - 1) (c3 : x1.toInt = 1) (c4 : x1.toInt = 1) : vp_in (σ.1 14) 42 := by
  have q1 : (1 : Int32).toInt = 1 := by decide +kernel
  have bb_hpre_0 := hpre_0.b
  have bb_hpre_4 := hpre_4.z.b
  have kk_hpre_0 := hpre_0.in
  exact vp_in_iff.mpr ⟨by omega, by omega⟩
-- pre:emit@73 @73
theorem v_first_5 (σ : RS) (x1 : Int32) (x2 : Int32) (x5 : Int64) (hpre_0 : TKI (σ.2.1 4) (σ.2.2.1 6) (σ.2.1 7) (σ.1 3) (σ.1 14)) (hpre_1 : 0 ≤ (σ.1 15).toInt) (hpre_2 : (σ.1 15).toInt ≤ 3510) (hpre_4 : PQ1 0 0 (σ.1 14) (σ.1 15) (σ.1 16) (σ.1 19) (σ.1 29) (σ.2.1 11) (σ.2.2.1 12) (σ.2.1 31) (σ.2.1 30) (σ.2.1 32) (σ.2.1 21) (σ.2.1 22) (σ.2.1 20) (σ.2.1 23) (σ.2.1 24) (σ.2.1 25) (σ.2.1 27) (σ.1 33) (σ.1 34) (σ.2.1 28)) (ex1 : x1 = (σ.2.1 4) (σ.1 14).toNatClampNeg) (tx1 : x1.toInt = ((σ.2.1 4) (σ.1 14).toNatClampNeg).toInt) (ex2 : x2 = (σ.1 19) - (1 : Int32)) (tx2 : x2.toInt = (σ.1 19).toInt - 1) (c3 : x1.toInt = 1) (c4 : x1.toInt = 1) (ex5 : x5 = (σ.2.2.1 6) (σ.1 14).toNatClampNeg) (tx5 : x5.toInt = ((σ.2.2.1 6) (σ.1 14).toNatClampNeg).toInt) : 0 ≤ (σ.1 15).toInt ∧ 0 ≤ (σ.1 16).toInt ∧ (σ.1 15).toInt + (σ.1 16).toInt < 3600 := by
  have q1 : (1 : Int32).toInt = 1 := by decide +kernel
  have bb_hpre_0 := hpre_0.b
  have bb_hpre_4 := hpre_4.z.b
  have kk_hpre_0 := hpre_0.in
  refine ⟨?_, ?_, ?_⟩ <;> first | assumption | omega | (subst_vars; omega) | trivial
-- nw@83 @83
theorem v_first_6 (σ : RS) (x1 : Int32) (x2 : Int32) (x5 : Int64) (n7 : Int32) (r6 : Int32) (x8 : Int32) (hpre_0 : TKI (σ.2.1 4) (σ.2.2.1 6) (σ.2.1 7) (σ.1 3) (σ.1 14)) (hpre_1 : 0 ≤ (σ.1 15).toInt) (hpre_2 : (σ.1 15).toInt ≤ 3510) (hpre_4 : PQ1 0 0 (σ.1 14) (σ.1 15) (σ.1 16) (σ.1 19) (σ.1 29) (σ.2.1 11) (σ.2.2.1 12) (σ.2.1 31) (σ.2.1 30) (σ.2.1 32) (σ.2.1 21) (σ.2.1 22) (σ.2.1 20) (σ.2.1 23) (σ.2.1 24) (σ.2.1 25) (σ.2.1 27) (σ.1 33) (σ.1 34) (σ.2.1 28)) (ex1 : x1 = (σ.2.1 4) (σ.1 14).toNatClampNeg) (tx1 : x1.toInt = ((σ.2.1 4) (σ.1 14).toNatClampNeg).toInt) (ex2 : x2 = (σ.1 19) - (1 : Int32)) (tx2 : x2.toInt = (σ.1 19).toInt - 1) (c3 : x1.toInt = 1) (c4 : x1.toInt = 1) (ex5 : x5 = (σ.2.2.1 6) (σ.1 14).toNatClampNeg) (tx5 : x5.toInt = ((σ.2.2.1 6) (σ.1 14).toNatClampNeg).toInt) (hr6_0 : n7.toInt = (σ.1 16).toInt + 1) (hr6_1 : r6.toInt = (σ.1 15).toInt + (σ.1 16).toInt) (ex8 : x8 = (σ.1 14) + (1 : Int32)) : x8.toInt = (σ.1 14).toInt + 1 := by
  have q1 : (1 : Int32).toInt = 1 := by decide +kernel
  have bb_hpre_0 := hpre_0.b
  have bb_hpre_4 := hpre_4.z.b
  have kk_hpre_0 := hpre_0.in
  have w1 : (1 : Int32).toInt = 1 := by decide +kernel
  rw [ex8, z_add (by omega) (by omega)]; first | done | omega
-- pre:ready@89 @89
theorem v_first_7 (σ : RS) (x1 : Int32) (x2 : Int32) (x5 : Int64) (n7 : Int32) (r6 : Int32) (x8 : Int32) (hpre_0 : TKI (σ.2.1 4) (σ.2.2.1 6) (σ.2.1 7) (σ.1 3) (σ.1 14)) (hpre_1 : 0 ≤ (σ.1 15).toInt) (hpre_2 : (σ.1 15).toInt ≤ 3510) (hpre_4 : PQ1 0 0 (σ.1 14) (σ.1 15) (σ.1 16) (σ.1 19) (σ.1 29) (σ.2.1 11) (σ.2.2.1 12) (σ.2.1 31) (σ.2.1 30) (σ.2.1 32) (σ.2.1 21) (σ.2.1 22) (σ.2.1 20) (σ.2.1 23) (σ.2.1 24) (σ.2.1 25) (σ.2.1 27) (σ.1 33) (σ.1 34) (σ.2.1 28)) (ex1 : x1 = (σ.2.1 4) (σ.1 14).toNatClampNeg) (tx1 : x1.toInt = ((σ.2.1 4) (σ.1 14).toNatClampNeg).toInt) (ex2 : x2 = (σ.1 19) - (1 : Int32)) (tx2 : x2.toInt = (σ.1 19).toInt - 1) (c3 : x1.toInt = 1) (c4 : x1.toInt = 1) (ex5 : x5 = (σ.2.2.1 6) (σ.1 14).toNatClampNeg) (tx5 : x5.toInt = ((σ.2.2.1 6) (σ.1 14).toNatClampNeg).toInt) (hr6_0 : n7.toInt = (σ.1 16).toInt + 1) (hr6_1 : r6.toInt = (σ.1 15).toInt + (σ.1 16).toInt) (ex8 : x8 = (σ.1 14) + (1 : Int32)) (tx8 : x8.toInt = (σ.1 14).toInt + 1) : 1 ≤ (σ.1 19).toInt ∧ (σ.1 19).toInt ≤ 8 ∧ ((0 : Int32) = 0 ∨ (0 : Int32) = 1) := by
  have q0 : (0 : Int32).toInt = 0 := by decide +kernel
  have q1 : (1 : Int32).toInt = 1 := by decide +kernel
  have bb_hpre_0 := hpre_0.b
  have bb_hpre_4 := hpre_4.z.b
  have kk_hpre_0 := hpre_0.in
  refine ⟨?_, ?_, ?_⟩ <;> first | assumption | omega | (subst_vars; omega) | trivial
-- post @278
theorem v_first_8 (σ : RS) (x1 : Int32) (x2 : Int32) (x5 : Int64) (n7 : Int32) (r6 : Int32) (x8 : Int32) (hpre_0 : TKI (σ.2.1 4) (σ.2.2.1 6) (σ.2.1 7) (σ.1 3) (σ.1 14)) (hpre_1 : 0 ≤ (σ.1 15).toInt) (hpre_2 : (σ.1 15).toInt ≤ 3510) (hpre_3 : (σ.1 8).toInt = 0) (hpre_4 : PQ1 0 0 (σ.1 14) (σ.1 15) (σ.1 16) (σ.1 19) (σ.1 29) (σ.2.1 11) (σ.2.2.1 12) (σ.2.1 31) (σ.2.1 30) (σ.2.1 32) (σ.2.1 21) (σ.2.1 22) (σ.2.1 20) (σ.2.1 23) (σ.2.1 24) (σ.2.1 25) (σ.2.1 27) (σ.1 33) (σ.1 34) (σ.2.1 28)) (ex1 : x1 = (σ.2.1 4) (σ.1 14).toNatClampNeg) (tx1 : x1.toInt = ((σ.2.1 4) (σ.1 14).toNatClampNeg).toInt) (ex2 : x2 = (σ.1 19) - (1 : Int32)) (tx2 : x2.toInt = (σ.1 19).toInt - 1) (c3 : x1.toInt = 1) (c4 : x1.toInt = 1) (ex5 : x5 = (σ.2.2.1 6) (σ.1 14).toNatClampNeg) (tx5 : x5.toInt = ((σ.2.2.1 6) (σ.1 14).toNatClampNeg).toInt) (hr6_0 : n7.toInt = (σ.1 16).toInt + 1) (hr6_1 : r6.toInt = (σ.1 15).toInt + (σ.1 16).toInt) (ex8 : x8 = (σ.1 14) + (1 : Int32)) (tx8 : x8.toInt = (σ.1 14).toInt + 1) : Keep (σ.1 15).toInt (σ.2.1 11) (upd (σ.2.1 11) ((σ.1 15).toInt + (σ.1 16).toInt).toNat (1 : Int32)) (σ.2.2.1 12) (vp_updL (σ.2.2.1 12) ((σ.1 15).toInt + (σ.1 16).toInt).toNat x5) ∧ 0 ≤ (σ.1 8).toInt ∧ (σ.1 8).toInt ≤ 3 ∧ ((σ.1 8).toInt = 0 → TKI (σ.2.1 4) (σ.2.2.1 6) (σ.2.1 7) (σ.1 3) x8 ∧ LI (0 : Int32) x8 (σ.1 15) n7 (σ.1 19) (σ.1 29) (upd (σ.2.1 11) ((σ.1 15).toInt + (σ.1 16).toInt).toNat (1 : Int32)) (vp_updL (σ.2.2.1 12) ((σ.1 15).toInt + (σ.1 16).toInt).toNat x5) (σ.2.1 31) (σ.2.1 30) (σ.2.1 32) (σ.2.1 21) (σ.2.1 22) (σ.2.1 20) (σ.2.1 23) (σ.2.1 24) (σ.2.1 25) (σ.2.1 27) (σ.1 33) (σ.1 34) (upd (σ.2.1 28) ((σ.1 19).toInt - 1).toNat (0 : Int32)) ∧ 2 * (σ.1 14).toInt - (σ.1 19).toInt < 2 * x8.toInt - (σ.1 19).toInt) := by
  have q0 : (0 : Int32).toInt = 0 := by decide +kernel
  have q1 : (1 : Int32).toInt = 1 := by decide +kernel
  have bb_hpre_0 := hpre_0.b
  have bb_hpre_4 := hpre_4.z.b
  have kk_hpre_0 := hpre_0.in
  have k := hpre_0.in (by omega)
  exact ⟨Keep.rf.em (by omega), by omega, by omega, fun _ => ⟨hpre_0.up (by omega) (by omega), Or.inr ⟨q0, (PQ_load hpre_4 hpre_2 (by omega) (by omega) (by omega) (by omega) (by omega)).2 (Or.inr (fun hc => by rw [upd_at (by omega)]; exact q0))⟩, by omega⟩⟩
-- dead@44 @51
theorem v_first_9 (σ : RS) (x1 : Int32) (ex1 : x1 = (σ.2.1 4) (σ.1 14).toNatClampNeg) (tx1 : x1.toInt = ((σ.2.1 4) (σ.1 14).toNatClampNeg).toInt) (c3 : ¬ x1.toInt = 1) (c10 : x1.toInt = 4) (c11 : ¬ x1.toInt = 1) (c12 : ¬ x1.toInt = 4) : False := by
  first | assumption | omega | (subst_vars; omega) | trivial
-- in@72 @72
theorem v_first_10 (σ : RS) (x1 : Int32) (x2 : Int32) (hpre_0 : TKI (σ.2.1 4) (σ.2.2.1 6) (σ.2.1 7) (σ.1 3) (σ.1 14)) (hpre_1 : 0 ≤ (σ.1 15).toInt) (hpre_2 : (σ.1 15).toInt ≤ 3510) (hpre_4 : PQ1 0 0 (σ.1 14) (σ.1 15) (σ.1 16) (σ.1 19) (σ.1 29) (σ.2.1 11) (σ.2.2.1 12) (σ.2.1 31) (σ.2.1 30) (σ.2.1 32) (σ.2.1 21) (σ.2.1 22) (σ.2.1 20) (σ.2.1 23) (σ.2.1 24) (σ.2.1 25) (σ.2.1 27) (σ.1 33) (σ.1 34) (σ.2.1 28)) (ex1 : x1 = (σ.2.1 4) (σ.1 14).toNatClampNeg) (tx1 : x1.toInt = ((σ.2.1 4) (σ.1 14).toNatClampNeg).toInt) (ex2 : x2 = (σ.1 19) - (1 : Int32)) (tx2 : x2.toInt = (σ.1 19).toInt - 1) (c3 : ¬ x1.toInt = 1) (c10 : x1.toInt = 4) (c11 : ¬ x1.toInt = 1) (c12 : x1.toInt = 4) : vp_in (σ.1 14) 42 := by
  have q1 : (1 : Int32).toInt = 1 := by decide +kernel
  have bb_hpre_0 := hpre_0.b
  have bb_hpre_4 := hpre_4.z.b
  have kk_hpre_0 := hpre_0.in
  exact vp_in_iff.mpr ⟨by omega, by omega⟩
-- pre:emit@73 @73
theorem v_first_11 (σ : RS) (x1 : Int32) (x2 : Int32) (x13 : Int64) (hpre_0 : TKI (σ.2.1 4) (σ.2.2.1 6) (σ.2.1 7) (σ.1 3) (σ.1 14)) (hpre_1 : 0 ≤ (σ.1 15).toInt) (hpre_2 : (σ.1 15).toInt ≤ 3510) (hpre_4 : PQ1 0 0 (σ.1 14) (σ.1 15) (σ.1 16) (σ.1 19) (σ.1 29) (σ.2.1 11) (σ.2.2.1 12) (σ.2.1 31) (σ.2.1 30) (σ.2.1 32) (σ.2.1 21) (σ.2.1 22) (σ.2.1 20) (σ.2.1 23) (σ.2.1 24) (σ.2.1 25) (σ.2.1 27) (σ.1 33) (σ.1 34) (σ.2.1 28)) (ex1 : x1 = (σ.2.1 4) (σ.1 14).toNatClampNeg) (tx1 : x1.toInt = ((σ.2.1 4) (σ.1 14).toNatClampNeg).toInt) (ex2 : x2 = (σ.1 19) - (1 : Int32)) (tx2 : x2.toInt = (σ.1 19).toInt - 1) (c3 : ¬ x1.toInt = 1) (c10 : x1.toInt = 4) (c11 : ¬ x1.toInt = 1) (c12 : x1.toInt = 4) (ex13 : x13 = (σ.2.2.1 6) (σ.1 14).toNatClampNeg) (tx13 : x13.toInt = ((σ.2.2.1 6) (σ.1 14).toNatClampNeg).toInt) : 0 ≤ (σ.1 15).toInt ∧ 0 ≤ (σ.1 16).toInt ∧ (σ.1 15).toInt + (σ.1 16).toInt < 3600 := by
  have q1 : (1 : Int32).toInt = 1 := by decide +kernel
  have bb_hpre_0 := hpre_0.b
  have bb_hpre_4 := hpre_4.z.b
  have kk_hpre_0 := hpre_0.in
  refine ⟨?_, ?_, ?_⟩ <;> first | assumption | omega | (subst_vars; omega) | trivial
-- nw@83 @83
theorem v_first_12 (σ : RS) (x1 : Int32) (x2 : Int32) (x13 : Int64) (n15 : Int32) (r14 : Int32) (x16 : Int32) (hpre_0 : TKI (σ.2.1 4) (σ.2.2.1 6) (σ.2.1 7) (σ.1 3) (σ.1 14)) (hpre_1 : 0 ≤ (σ.1 15).toInt) (hpre_2 : (σ.1 15).toInt ≤ 3510) (hpre_4 : PQ1 0 0 (σ.1 14) (σ.1 15) (σ.1 16) (σ.1 19) (σ.1 29) (σ.2.1 11) (σ.2.2.1 12) (σ.2.1 31) (σ.2.1 30) (σ.2.1 32) (σ.2.1 21) (σ.2.1 22) (σ.2.1 20) (σ.2.1 23) (σ.2.1 24) (σ.2.1 25) (σ.2.1 27) (σ.1 33) (σ.1 34) (σ.2.1 28)) (ex1 : x1 = (σ.2.1 4) (σ.1 14).toNatClampNeg) (tx1 : x1.toInt = ((σ.2.1 4) (σ.1 14).toNatClampNeg).toInt) (ex2 : x2 = (σ.1 19) - (1 : Int32)) (tx2 : x2.toInt = (σ.1 19).toInt - 1) (c3 : ¬ x1.toInt = 1) (c10 : x1.toInt = 4) (c11 : ¬ x1.toInt = 1) (c12 : x1.toInt = 4) (ex13 : x13 = (σ.2.2.1 6) (σ.1 14).toNatClampNeg) (tx13 : x13.toInt = ((σ.2.2.1 6) (σ.1 14).toNatClampNeg).toInt) (hr14_0 : n15.toInt = (σ.1 16).toInt + 1) (hr14_1 : r14.toInt = (σ.1 15).toInt + (σ.1 16).toInt) (ex16 : x16 = (σ.1 14) + (1 : Int32)) : x16.toInt = (σ.1 14).toInt + 1 := by
  have q1 : (1 : Int32).toInt = 1 := by decide +kernel
  have bb_hpre_0 := hpre_0.b
  have bb_hpre_4 := hpre_4.z.b
  have kk_hpre_0 := hpre_0.in
  have w1 : (1 : Int32).toInt = 1 := by decide +kernel
  rw [ex16, z_add (by omega) (by omega)]; first | done | omega
-- pre:ready@89 @89
theorem v_first_13 (σ : RS) (x1 : Int32) (x2 : Int32) (x13 : Int64) (n15 : Int32) (r14 : Int32) (x16 : Int32) (hpre_0 : TKI (σ.2.1 4) (σ.2.2.1 6) (σ.2.1 7) (σ.1 3) (σ.1 14)) (hpre_1 : 0 ≤ (σ.1 15).toInt) (hpre_2 : (σ.1 15).toInt ≤ 3510) (hpre_4 : PQ1 0 0 (σ.1 14) (σ.1 15) (σ.1 16) (σ.1 19) (σ.1 29) (σ.2.1 11) (σ.2.2.1 12) (σ.2.1 31) (σ.2.1 30) (σ.2.1 32) (σ.2.1 21) (σ.2.1 22) (σ.2.1 20) (σ.2.1 23) (σ.2.1 24) (σ.2.1 25) (σ.2.1 27) (σ.1 33) (σ.1 34) (σ.2.1 28)) (ex1 : x1 = (σ.2.1 4) (σ.1 14).toNatClampNeg) (tx1 : x1.toInt = ((σ.2.1 4) (σ.1 14).toNatClampNeg).toInt) (ex2 : x2 = (σ.1 19) - (1 : Int32)) (tx2 : x2.toInt = (σ.1 19).toInt - 1) (c3 : ¬ x1.toInt = 1) (c10 : x1.toInt = 4) (c11 : ¬ x1.toInt = 1) (c12 : x1.toInt = 4) (ex13 : x13 = (σ.2.2.1 6) (σ.1 14).toNatClampNeg) (tx13 : x13.toInt = ((σ.2.2.1 6) (σ.1 14).toNatClampNeg).toInt) (hr14_0 : n15.toInt = (σ.1 16).toInt + 1) (hr14_1 : r14.toInt = (σ.1 15).toInt + (σ.1 16).toInt) (ex16 : x16 = (σ.1 14) + (1 : Int32)) (tx16 : x16.toInt = (σ.1 14).toInt + 1) : 1 ≤ (σ.1 19).toInt ∧ (σ.1 19).toInt ≤ 8 ∧ ((0 : Int32) = 0 ∨ (0 : Int32) = 1) := by
  have q0 : (0 : Int32).toInt = 0 := by decide +kernel
  have q1 : (1 : Int32).toInt = 1 := by decide +kernel
  have bb_hpre_0 := hpre_0.b
  have bb_hpre_4 := hpre_4.z.b
  have kk_hpre_0 := hpre_0.in
  refine ⟨?_, ?_, ?_⟩ <;> first | assumption | omega | (subst_vars; omega) | trivial
-- post @278
theorem v_first_14 (σ : RS) (x1 : Int32) (x2 : Int32) (x13 : Int64) (n15 : Int32) (r14 : Int32) (x16 : Int32) (hpre_0 : TKI (σ.2.1 4) (σ.2.2.1 6) (σ.2.1 7) (σ.1 3) (σ.1 14)) (hpre_1 : 0 ≤ (σ.1 15).toInt) (hpre_2 : (σ.1 15).toInt ≤ 3510) (hpre_3 : (σ.1 8).toInt = 0) (hpre_4 : PQ1 0 0 (σ.1 14) (σ.1 15) (σ.1 16) (σ.1 19) (σ.1 29) (σ.2.1 11) (σ.2.2.1 12) (σ.2.1 31) (σ.2.1 30) (σ.2.1 32) (σ.2.1 21) (σ.2.1 22) (σ.2.1 20) (σ.2.1 23) (σ.2.1 24) (σ.2.1 25) (σ.2.1 27) (σ.1 33) (σ.1 34) (σ.2.1 28)) (ex1 : x1 = (σ.2.1 4) (σ.1 14).toNatClampNeg) (tx1 : x1.toInt = ((σ.2.1 4) (σ.1 14).toNatClampNeg).toInt) (ex2 : x2 = (σ.1 19) - (1 : Int32)) (tx2 : x2.toInt = (σ.1 19).toInt - 1) (c3 : ¬ x1.toInt = 1) (c10 : x1.toInt = 4) (c11 : ¬ x1.toInt = 1) (c12 : x1.toInt = 4) (ex13 : x13 = (σ.2.2.1 6) (σ.1 14).toNatClampNeg) (tx13 : x13.toInt = ((σ.2.2.1 6) (σ.1 14).toNatClampNeg).toInt) (hr14_0 : n15.toInt = (σ.1 16).toInt + 1) (hr14_1 : r14.toInt = (σ.1 15).toInt + (σ.1 16).toInt) (ex16 : x16 = (σ.1 14) + (1 : Int32)) (tx16 : x16.toInt = (σ.1 14).toInt + 1) : Keep (σ.1 15).toInt (σ.2.1 11) (upd (σ.2.1 11) ((σ.1 15).toInt + (σ.1 16).toInt).toNat (5 : Int32)) (σ.2.2.1 12) (vp_updL (σ.2.2.1 12) ((σ.1 15).toInt + (σ.1 16).toInt).toNat x13) ∧ 0 ≤ (σ.1 8).toInt ∧ (σ.1 8).toInt ≤ 3 ∧ ((σ.1 8).toInt = 0 → TKI (σ.2.1 4) (σ.2.2.1 6) (σ.2.1 7) (σ.1 3) x16 ∧ LI (0 : Int32) x16 (σ.1 15) n15 (σ.1 19) (σ.1 29) (upd (σ.2.1 11) ((σ.1 15).toInt + (σ.1 16).toInt).toNat (5 : Int32)) (vp_updL (σ.2.2.1 12) ((σ.1 15).toInt + (σ.1 16).toInt).toNat x13) (σ.2.1 31) (σ.2.1 30) (σ.2.1 32) (σ.2.1 21) (σ.2.1 22) (σ.2.1 20) (σ.2.1 23) (σ.2.1 24) (σ.2.1 25) (σ.2.1 27) (σ.1 33) (σ.1 34) (upd (σ.2.1 28) ((σ.1 19).toInt - 1).toNat (0 : Int32)) ∧ 2 * (σ.1 14).toInt - (σ.1 19).toInt < 2 * x16.toInt - (σ.1 19).toInt) := by
  have q0 : (0 : Int32).toInt = 0 := by decide +kernel
  have q1 : (1 : Int32).toInt = 1 := by decide +kernel
  have q5 : (5 : Int32).toInt = 5 := by decide +kernel
  have bb_hpre_0 := hpre_0.b
  have bb_hpre_4 := hpre_4.z.b
  have kk_hpre_0 := hpre_0.in
  have k := hpre_0.in (by omega)
  exact ⟨Keep.rf.em (by omega), by omega, by omega, fun _ => ⟨hpre_0.up (by omega) (by omega), Or.inr ⟨q0, (PQ_load hpre_4 hpre_2 (by omega) (by omega) (by omega) (by omega) (by omega)).2 (Or.inr (fun hc => by rw [upd_at (by omega)]; exact q0))⟩, by omega⟩⟩
-- dead@35 @38
theorem v_first_15 (σ : RS) (x1 : Int32) (ex1 : x1 = (σ.2.1 4) (σ.1 14).toNatClampNeg) (tx1 : x1.toInt = ((σ.2.1 4) (σ.1 14).toNatClampNeg).toInt) (c3 : ¬ x1.toInt = 1) (c10 : x1.toInt = 4) (c11 : x1.toInt = 1) : False := by
  first | assumption | omega | (subst_vars; omega) | trivial
-- in@112 @112
theorem v_first_16 (σ : RS) (x1 : Int32) (x2 : Int32) (hpre_0 : TKI (σ.2.1 4) (σ.2.2.1 6) (σ.2.1 7) (σ.1 3) (σ.1 14)) (hpre_1 : 0 ≤ (σ.1 15).toInt) (hpre_2 : (σ.1 15).toInt ≤ 3510) (hpre_4 : PQ1 0 0 (σ.1 14) (σ.1 15) (σ.1 16) (σ.1 19) (σ.1 29) (σ.2.1 11) (σ.2.2.1 12) (σ.2.1 31) (σ.2.1 30) (σ.2.1 32) (σ.2.1 21) (σ.2.1 22) (σ.2.1 20) (σ.2.1 23) (σ.2.1 24) (σ.2.1 25) (σ.2.1 27) (σ.1 33) (σ.1 34) (σ.2.1 28)) (ex1 : x1 = (σ.2.1 4) (σ.1 14).toNatClampNeg) (tx1 : x1.toInt = ((σ.2.1 4) (σ.1 14).toNatClampNeg).toInt) (ex2 : x2 = (σ.1 19) - (1 : Int32)) (tx2 : x2.toInt = (σ.1 19).toInt - 1) (c3 : ¬ x1.toInt = 1) (c10 : ¬ x1.toInt = 4) (c18 : ¬ x1.toInt = 2) (c19 : ¬ x1.toInt = 3) : vp_in x2 8 := by
  have q1 : (1 : Int32).toInt = 1 := by decide +kernel
  have bb_hpre_0 := hpre_0.b
  have bb_hpre_4 := hpre_4.z.b
  have kk_hpre_0 := hpre_0.in
  exact vp_in_iff.mpr ⟨by omega, by omega⟩
-- pre:isSign@179 @179
theorem v_first_17 (σ : RS) (x1 : Int32) (x2 : Int32) (x20 : Int32) (hpre_0 : TKI (σ.2.1 4) (σ.2.2.1 6) (σ.2.1 7) (σ.1 3) (σ.1 14)) (hpre_1 : 0 ≤ (σ.1 15).toInt) (hpre_2 : (σ.1 15).toInt ≤ 3510) (hpre_4 : PQ1 0 0 (σ.1 14) (σ.1 15) (σ.1 16) (σ.1 19) (σ.1 29) (σ.2.1 11) (σ.2.2.1 12) (σ.2.1 31) (σ.2.1 30) (σ.2.1 32) (σ.2.1 21) (σ.2.1 22) (σ.2.1 20) (σ.2.1 23) (σ.2.1 24) (σ.2.1 25) (σ.2.1 27) (σ.1 33) (σ.1 34) (σ.2.1 28)) (ex1 : x1 = (σ.2.1 4) (σ.1 14).toNatClampNeg) (tx1 : x1.toInt = ((σ.2.1 4) (σ.1 14).toNatClampNeg).toInt) (ex2 : x2 = (σ.1 19) - (1 : Int32)) (tx2 : x2.toInt = (σ.1 19).toInt - 1) (c3 : ¬ x1.toInt = 1) (c10 : ¬ x1.toInt = 4) (c18 : ¬ x1.toInt = 2) (c19 : ¬ x1.toInt = 3) (ex20 : x20 = (σ.2.1 22) x2.toNatClampNeg) (tx20 : x20.toInt = ((σ.2.1 22) ((σ.1 19).toInt - 1).toNat).toInt) (c21 : ¬ x20.toInt = 0) : 0 ≤ (σ.1 14).toInt ∧ (σ.1 14).toInt ≤ 41 := by
  have q1 : (1 : Int32).toInt = 1 := by decide +kernel
  have bb_hpre_0 := hpre_0.b
  have bb_hpre_4 := hpre_4.z.b
  have kk_hpre_0 := hpre_0.in
  refine ⟨?_, ?_⟩ <;> first | assumption | omega | (subst_vars; omega) | trivial
-- pre:isSign@206 @206
theorem v_first_18 (σ : RS) (x1 : Int32) (x2 : Int32) (x20 : Int32) (hpre_0 : TKI (σ.2.1 4) (σ.2.2.1 6) (σ.2.1 7) (σ.1 3) (σ.1 14)) (hpre_1 : 0 ≤ (σ.1 15).toInt) (hpre_2 : (σ.1 15).toInt ≤ 3510) (hpre_4 : PQ1 0 0 (σ.1 14) (σ.1 15) (σ.1 16) (σ.1 19) (σ.1 29) (σ.2.1 11) (σ.2.2.1 12) (σ.2.1 31) (σ.2.1 30) (σ.2.1 32) (σ.2.1 21) (σ.2.1 22) (σ.2.1 20) (σ.2.1 23) (σ.2.1 24) (σ.2.1 25) (σ.2.1 27) (σ.1 33) (σ.1 34) (σ.2.1 28)) (ex1 : x1 = (σ.2.1 4) (σ.1 14).toNatClampNeg) (tx1 : x1.toInt = ((σ.2.1 4) (σ.1 14).toNatClampNeg).toInt) (ex2 : x2 = (σ.1 19) - (1 : Int32)) (tx2 : x2.toInt = (σ.1 19).toInt - 1) (c3 : ¬ x1.toInt = 1) (c10 : ¬ x1.toInt = 4) (c18 : ¬ x1.toInt = 2) (c19 : ¬ x1.toInt = 3) (ex20 : x20 = (σ.2.1 22) x2.toNatClampNeg) (tx20 : x20.toInt = ((σ.2.1 22) ((σ.1 19).toInt - 1).toNat).toInt) (c21 : ¬ x20.toInt = 0) (hr22 : ¬ (((σ.2.1 4) (σ.1 14).toNatClampNeg).toInt = 5 ∧ ((σ.2.2.1 6) (σ.1 14).toNatClampNeg).toInt = (40 : Int32).toInt)) : 0 ≤ (σ.1 14).toInt ∧ (σ.1 14).toInt ≤ 41 := by
  have q1 : (1 : Int32).toInt = 1 := by decide +kernel
  have q40 : (40 : Int32).toInt = 40 := by decide +kernel
  have bb_hpre_0 := hpre_0.b
  have bb_hpre_4 := hpre_4.z.b
  have kk_hpre_0 := hpre_0.in
  refine ⟨?_, ?_⟩ <;> first | assumption | omega | (subst_vars; omega) | trivial
-- pre:misfit@275 @275
theorem v_first_19 (σ : RS) (x1 : Int32) (x2 : Int32) (x20 : Int32) (hpre_0 : TKI (σ.2.1 4) (σ.2.2.1 6) (σ.2.1 7) (σ.1 3) (σ.1 14)) (hpre_1 : 0 ≤ (σ.1 15).toInt) (hpre_2 : (σ.1 15).toInt ≤ 3510) (hpre_4 : PQ1 0 0 (σ.1 14) (σ.1 15) (σ.1 16) (σ.1 19) (σ.1 29) (σ.2.1 11) (σ.2.2.1 12) (σ.2.1 31) (σ.2.1 30) (σ.2.1 32) (σ.2.1 21) (σ.2.1 22) (σ.2.1 20) (σ.2.1 23) (σ.2.1 24) (σ.2.1 25) (σ.2.1 27) (σ.1 33) (σ.1 34) (σ.2.1 28)) (ex1 : x1 = (σ.2.1 4) (σ.1 14).toNatClampNeg) (tx1 : x1.toInt = ((σ.2.1 4) (σ.1 14).toNatClampNeg).toInt) (ex2 : x2 = (σ.1 19) - (1 : Int32)) (tx2 : x2.toInt = (σ.1 19).toInt - 1) (c3 : ¬ x1.toInt = 1) (c10 : ¬ x1.toInt = 4) (c18 : ¬ x1.toInt = 2) (c19 : ¬ x1.toInt = 3) (ex20 : x20 = (σ.2.1 22) x2.toNatClampNeg) (tx20 : x20.toInt = ((σ.2.1 22) ((σ.1 19).toInt - 1).toNat).toInt) (c21 : ¬ x20.toInt = 0) (hr22 : ¬ (((σ.2.1 4) (σ.1 14).toNatClampNeg).toInt = 5 ∧ ((σ.2.2.1 6) (σ.1 14).toNatClampNeg).toInt = (40 : Int32).toInt)) (hr24 : ¬ (((σ.2.1 4) (σ.1 14).toNatClampNeg).toInt = 5 ∧ ((σ.2.2.1 6) (σ.1 14).toNatClampNeg).toInt = (35 : Int32).toInt)) : 0 ≤ (σ.1 14).toInt ∧ (σ.1 14).toInt ≤ 41 := by
  have q1 : (1 : Int32).toInt = 1 := by decide +kernel
  have q35 : (35 : Int32).toInt = 35 := by decide +kernel
  have q40 : (40 : Int32).toInt = 40 := by decide +kernel
  have bb_hpre_0 := hpre_0.b
  have bb_hpre_4 := hpre_4.z.b
  have kk_hpre_0 := hpre_0.in
  refine ⟨?_, ?_⟩ <;> first | assumption | omega | (subst_vars; omega) | trivial
-- post @278
theorem v_first_20 (σ : RS) (x1 : Int32) (x2 : Int32) (x20 : Int32) (n27 : Int32) (hpre_0 : TKI (σ.2.1 4) (σ.2.2.1 6) (σ.2.1 7) (σ.1 3) (σ.1 14)) (hpre_1 : 0 ≤ (σ.1 15).toInt) (hpre_2 : (σ.1 15).toInt ≤ 3510) (hpre_3 : (σ.1 8).toInt = 0) (hpre_4 : PQ1 0 0 (σ.1 14) (σ.1 15) (σ.1 16) (σ.1 19) (σ.1 29) (σ.2.1 11) (σ.2.2.1 12) (σ.2.1 31) (σ.2.1 30) (σ.2.1 32) (σ.2.1 21) (σ.2.1 22) (σ.2.1 20) (σ.2.1 23) (σ.2.1 24) (σ.2.1 25) (σ.2.1 27) (σ.1 33) (σ.1 34) (σ.2.1 28)) (hpre_5 : (σ.1 17).toInt = 1) (ex1 : x1 = (σ.2.1 4) (σ.1 14).toNatClampNeg) (tx1 : x1.toInt = ((σ.2.1 4) (σ.1 14).toNatClampNeg).toInt) (ex2 : x2 = (σ.1 19) - (1 : Int32)) (tx2 : x2.toInt = (σ.1 19).toInt - 1) (c3 : ¬ x1.toInt = 1) (c10 : ¬ x1.toInt = 4) (c18 : ¬ x1.toInt = 2) (c19 : ¬ x1.toInt = 3) (ex20 : x20 = (σ.2.1 22) x2.toNatClampNeg) (tx20 : x20.toInt = ((σ.2.1 22) ((σ.1 19).toInt - 1).toNat).toInt) (c21 : ¬ x20.toInt = 0) (hr22 : ¬ (((σ.2.1 4) (σ.1 14).toNatClampNeg).toInt = 5 ∧ ((σ.2.2.1 6) (σ.1 14).toNatClampNeg).toInt = (40 : Int32).toInt)) (hr24 : ¬ (((σ.2.1 4) (σ.1 14).toNatClampNeg).toInt = 5 ∧ ((σ.2.2.1 6) (σ.1 14).toNatClampNeg).toInt = (35 : Int32).toInt)) (hr26 : (σ.1 8).toInt = 0 → n27.toInt = 2) : Keep (σ.1 15).toInt (σ.2.1 11) (σ.2.1 11) (σ.2.2.1 12) (σ.2.2.1 12) ∧ 0 ≤ n27.toInt ∧ n27.toInt ≤ 3 ∧ (n27.toInt = 0 → TKI (σ.2.1 4) (σ.2.2.1 6) (σ.2.1 7) (σ.1 3) (σ.1 14) ∧ LI (σ.1 17) (σ.1 14) (σ.1 15) (σ.1 16) (σ.1 19) (σ.1 29) (σ.2.1 11) (σ.2.2.1 12) (σ.2.1 31) (σ.2.1 30) (σ.2.1 32) (σ.2.1 21) (σ.2.1 22) (σ.2.1 20) (σ.2.1 23) (σ.2.1 24) (σ.2.1 25) (σ.2.1 27) (σ.1 33) (σ.1 34) (σ.2.1 28) ∧ 2 * (σ.1 14).toInt - (σ.1 19).toInt < 2 * (σ.1 14).toInt - (σ.1 19).toInt) := by
  have q1 : (1 : Int32).toInt = 1 := by decide +kernel
  have q35 : (35 : Int32).toInt = 35 := by decide +kernel
  have q40 : (40 : Int32).toInt = 40 := by decide +kernel
  have bb_hpre_0 := hpre_0.b
  have bb_hpre_4 := hpre_4.z.b
  have kk_hpre_0 := hpre_0.in
  exact ⟨Keep.rf, by omega, by omega, fun h => by omega⟩
-- nw@218 @218
theorem v_first_21 (σ : RS) (x1 : Int32) (x2 : Int32) (x20 : Int32) (x29 : Int32) (hpre_0 : TKI (σ.2.1 4) (σ.2.2.1 6) (σ.2.1 7) (σ.1 3) (σ.1 14)) (hpre_1 : 0 ≤ (σ.1 15).toInt) (hpre_2 : (σ.1 15).toInt ≤ 3510) (hpre_4 : PQ1 0 0 (σ.1 14) (σ.1 15) (σ.1 16) (σ.1 19) (σ.1 29) (σ.2.1 11) (σ.2.2.1 12) (σ.2.1 31) (σ.2.1 30) (σ.2.1 32) (σ.2.1 21) (σ.2.1 22) (σ.2.1 20) (σ.2.1 23) (σ.2.1 24) (σ.2.1 25) (σ.2.1 27) (σ.1 33) (σ.1 34) (σ.2.1 28)) (ex1 : x1 = (σ.2.1 4) (σ.1 14).toNatClampNeg) (tx1 : x1.toInt = ((σ.2.1 4) (σ.1 14).toNatClampNeg).toInt) (ex2 : x2 = (σ.1 19) - (1 : Int32)) (tx2 : x2.toInt = (σ.1 19).toInt - 1) (c3 : ¬ x1.toInt = 1) (c10 : ¬ x1.toInt = 4) (c18 : ¬ x1.toInt = 2) (c19 : ¬ x1.toInt = 3) (ex20 : x20 = (σ.2.1 22) x2.toNatClampNeg) (tx20 : x20.toInt = ((σ.2.1 22) ((σ.1 19).toInt - 1).toNat).toInt) (c21 : ¬ x20.toInt = 0) (hr22 : ¬ (((σ.2.1 4) (σ.1 14).toNatClampNeg).toInt = 5 ∧ ((σ.2.2.1 6) (σ.1 14).toNatClampNeg).toInt = (40 : Int32).toInt)) (hr24_0 : ((σ.2.1 4) (σ.1 14).toNatClampNeg).toInt = 5) (hr24_1 : ((σ.2.2.1 6) (σ.1 14).toNatClampNeg).toInt = (35 : Int32).toInt) (ex29 : x29 = (σ.1 14) + (1 : Int32)) : x29.toInt = (σ.1 14).toInt + 1 := by
  have q1 : (1 : Int32).toInt = 1 := by decide +kernel
  have q35 : (35 : Int32).toInt = 35 := by decide +kernel
  have q40 : (40 : Int32).toInt = 40 := by decide +kernel
  have bb_hpre_0 := hpre_0.b
  have bb_hpre_4 := hpre_4.z.b
  have kk_hpre_0 := hpre_0.in
  have w1 : (1 : Int32).toInt = 1 := by decide +kernel
  rw [ex29, z_add (by omega) (by omega)]; first | done | omega
-- in@230 @230
theorem v_first_22 (σ : RS) (x1 : Int32) (x2 : Int32) (x20 : Int32) (x29 : Int32) (hpre_0 : TKI (σ.2.1 4) (σ.2.2.1 6) (σ.2.1 7) (σ.1 3) (σ.1 14)) (hpre_1 : 0 ≤ (σ.1 15).toInt) (hpre_2 : (σ.1 15).toInt ≤ 3510) (hpre_4 : PQ1 0 0 (σ.1 14) (σ.1 15) (σ.1 16) (σ.1 19) (σ.1 29) (σ.2.1 11) (σ.2.2.1 12) (σ.2.1 31) (σ.2.1 30) (σ.2.1 32) (σ.2.1 21) (σ.2.1 22) (σ.2.1 20) (σ.2.1 23) (σ.2.1 24) (σ.2.1 25) (σ.2.1 27) (σ.1 33) (σ.1 34) (σ.2.1 28)) (ex1 : x1 = (σ.2.1 4) (σ.1 14).toNatClampNeg) (tx1 : x1.toInt = ((σ.2.1 4) (σ.1 14).toNatClampNeg).toInt) (ex2 : x2 = (σ.1 19) - (1 : Int32)) (tx2 : x2.toInt = (σ.1 19).toInt - 1) (c3 : ¬ x1.toInt = 1) (c10 : ¬ x1.toInt = 4) (c18 : ¬ x1.toInt = 2) (c19 : ¬ x1.toInt = 3) (ex20 : x20 = (σ.2.1 22) x2.toNatClampNeg) (tx20 : x20.toInt = ((σ.2.1 22) ((σ.1 19).toInt - 1).toNat).toInt) (c21 : ¬ x20.toInt = 0) (hr22 : ¬ (((σ.2.1 4) (σ.1 14).toNatClampNeg).toInt = 5 ∧ ((σ.2.2.1 6) (σ.1 14).toNatClampNeg).toInt = (40 : Int32).toInt)) (hr24_0 : ((σ.2.1 4) (σ.1 14).toNatClampNeg).toInt = 5) (hr24_1 : ((σ.2.2.1 6) (σ.1 14).toNatClampNeg).toInt = (35 : Int32).toInt) (ex29 : x29 = (σ.1 14) + (1 : Int32)) (tx29 : x29.toInt = (σ.1 14).toInt + 1) : vp_in x29 42 := by
  have q1 : (1 : Int32).toInt = 1 := by decide +kernel
  have q35 : (35 : Int32).toInt = 35 := by decide +kernel
  have q40 : (40 : Int32).toInt = 40 := by decide +kernel
  have bb_hpre_0 := hpre_0.b
  have bb_hpre_4 := hpre_4.z.b
  have kk_hpre_0 := hpre_0.in
  exact vp_in_iff.mpr ⟨by omega, by omega⟩
-- in@251 @251
theorem v_first_23 (σ : RS) (x1 : Int32) (x2 : Int32) (x20 : Int32) (x29 : Int32) (x30 : Int32) (hpre_0 : TKI (σ.2.1 4) (σ.2.2.1 6) (σ.2.1 7) (σ.1 3) (σ.1 14)) (hpre_1 : 0 ≤ (σ.1 15).toInt) (hpre_2 : (σ.1 15).toInt ≤ 3510) (hpre_4 : PQ1 0 0 (σ.1 14) (σ.1 15) (σ.1 16) (σ.1 19) (σ.1 29) (σ.2.1 11) (σ.2.2.1 12) (σ.2.1 31) (σ.2.1 30) (σ.2.1 32) (σ.2.1 21) (σ.2.1 22) (σ.2.1 20) (σ.2.1 23) (σ.2.1 24) (σ.2.1 25) (σ.2.1 27) (σ.1 33) (σ.1 34) (σ.2.1 28)) (ex1 : x1 = (σ.2.1 4) (σ.1 14).toNatClampNeg) (tx1 : x1.toInt = ((σ.2.1 4) (σ.1 14).toNatClampNeg).toInt) (ex2 : x2 = (σ.1 19) - (1 : Int32)) (tx2 : x2.toInt = (σ.1 19).toInt - 1) (c3 : ¬ x1.toInt = 1) (c10 : ¬ x1.toInt = 4) (c18 : ¬ x1.toInt = 2) (c19 : ¬ x1.toInt = 3) (ex20 : x20 = (σ.2.1 22) x2.toNatClampNeg) (tx20 : x20.toInt = ((σ.2.1 22) ((σ.1 19).toInt - 1).toNat).toInt) (c21 : ¬ x20.toInt = 0) (hr22 : ¬ (((σ.2.1 4) (σ.1 14).toNatClampNeg).toInt = 5 ∧ ((σ.2.2.1 6) (σ.1 14).toNatClampNeg).toInt = (40 : Int32).toInt)) (hr24_0 : ((σ.2.1 4) (σ.1 14).toNatClampNeg).toInt = 5) (hr24_1 : ((σ.2.2.1 6) (σ.1 14).toNatClampNeg).toInt = (35 : Int32).toInt) (ex29 : x29 = (σ.1 14) + (1 : Int32)) (tx29 : x29.toInt = (σ.1 14).toInt + 1) (ex30 : x30 = (σ.2.1 4) x29.toNatClampNeg) (tx30 : x30.toInt = ((σ.2.1 4) ((σ.1 14).toInt + 1).toNat).toInt) (c31 : x30.toInt = 3) : vp_in x29 42 := by
  have q1 : (1 : Int32).toInt = 1 := by decide +kernel
  have q35 : (35 : Int32).toInt = 35 := by decide +kernel
  have q40 : (40 : Int32).toInt = 40 := by decide +kernel
  have bb_hpre_0 := hpre_0.b
  have bb_hpre_4 := hpre_4.z.b
  have kk_hpre_0 := hpre_0.in
  exact vp_in_iff.mpr ⟨by omega, by omega⟩
-- pre:emit@252 @252
theorem v_first_24 (σ : RS) (x1 : Int32) (x2 : Int32) (x20 : Int32) (x29 : Int32) (x30 : Int32) (x32 : Int64) (hpre_0 : TKI (σ.2.1 4) (σ.2.2.1 6) (σ.2.1 7) (σ.1 3) (σ.1 14)) (hpre_1 : 0 ≤ (σ.1 15).toInt) (hpre_2 : (σ.1 15).toInt ≤ 3510) (hpre_4 : PQ1 0 0 (σ.1 14) (σ.1 15) (σ.1 16) (σ.1 19) (σ.1 29) (σ.2.1 11) (σ.2.2.1 12) (σ.2.1 31) (σ.2.1 30) (σ.2.1 32) (σ.2.1 21) (σ.2.1 22) (σ.2.1 20) (σ.2.1 23) (σ.2.1 24) (σ.2.1 25) (σ.2.1 27) (σ.1 33) (σ.1 34) (σ.2.1 28)) (ex1 : x1 = (σ.2.1 4) (σ.1 14).toNatClampNeg) (tx1 : x1.toInt = ((σ.2.1 4) (σ.1 14).toNatClampNeg).toInt) (ex2 : x2 = (σ.1 19) - (1 : Int32)) (tx2 : x2.toInt = (σ.1 19).toInt - 1) (c3 : ¬ x1.toInt = 1) (c10 : ¬ x1.toInt = 4) (c18 : ¬ x1.toInt = 2) (c19 : ¬ x1.toInt = 3) (ex20 : x20 = (σ.2.1 22) x2.toNatClampNeg) (tx20 : x20.toInt = ((σ.2.1 22) ((σ.1 19).toInt - 1).toNat).toInt) (c21 : ¬ x20.toInt = 0) (hr22 : ¬ (((σ.2.1 4) (σ.1 14).toNatClampNeg).toInt = 5 ∧ ((σ.2.2.1 6) (σ.1 14).toNatClampNeg).toInt = (40 : Int32).toInt)) (hr24_0 : ((σ.2.1 4) (σ.1 14).toNatClampNeg).toInt = 5) (hr24_1 : ((σ.2.2.1 6) (σ.1 14).toNatClampNeg).toInt = (35 : Int32).toInt) (ex29 : x29 = (σ.1 14) + (1 : Int32)) (tx29 : x29.toInt = (σ.1 14).toInt + 1) (ex30 : x30 = (σ.2.1 4) x29.toNatClampNeg) (tx30 : x30.toInt = ((σ.2.1 4) ((σ.1 14).toInt + 1).toNat).toInt) (c31 : x30.toInt = 3) (ex32 : x32 = (σ.2.2.1 6) x29.toNatClampNeg) (tx32 : x32.toInt = ((σ.2.2.1 6) ((σ.1 14).toInt + 1).toNat).toInt) : 0 ≤ (σ.1 15).toInt ∧ 0 ≤ (σ.1 16).toInt ∧ (σ.1 15).toInt + (σ.1 16).toInt < 3600 := by
  have q1 : (1 : Int32).toInt = 1 := by decide +kernel
  have q35 : (35 : Int32).toInt = 35 := by decide +kernel
  have q40 : (40 : Int32).toInt = 40 := by decide +kernel
  have bb_hpre_0 := hpre_0.b
  have bb_hpre_4 := hpre_4.z.b
  have kk_hpre_0 := hpre_0.in
  refine ⟨?_, ?_, ?_⟩ <;> first | assumption | omega | (subst_vars; omega) | trivial
-- nw@262 @262
theorem v_first_25 (σ : RS) (x1 : Int32) (x2 : Int32) (x20 : Int32) (x29 : Int32) (x30 : Int32) (x32 : Int64) (n34 : Int32) (r33 : Int32) (x35 : Int32) (hpre_0 : TKI (σ.2.1 4) (σ.2.2.1 6) (σ.2.1 7) (σ.1 3) (σ.1 14)) (hpre_1 : 0 ≤ (σ.1 15).toInt) (hpre_2 : (σ.1 15).toInt ≤ 3510) (hpre_4 : PQ1 0 0 (σ.1 14) (σ.1 15) (σ.1 16) (σ.1 19) (σ.1 29) (σ.2.1 11) (σ.2.2.1 12) (σ.2.1 31) (σ.2.1 30) (σ.2.1 32) (σ.2.1 21) (σ.2.1 22) (σ.2.1 20) (σ.2.1 23) (σ.2.1 24) (σ.2.1 25) (σ.2.1 27) (σ.1 33) (σ.1 34) (σ.2.1 28)) (ex1 : x1 = (σ.2.1 4) (σ.1 14).toNatClampNeg) (tx1 : x1.toInt = ((σ.2.1 4) (σ.1 14).toNatClampNeg).toInt) (ex2 : x2 = (σ.1 19) - (1 : Int32)) (tx2 : x2.toInt = (σ.1 19).toInt - 1) (c3 : ¬ x1.toInt = 1) (c10 : ¬ x1.toInt = 4) (c18 : ¬ x1.toInt = 2) (c19 : ¬ x1.toInt = 3) (ex20 : x20 = (σ.2.1 22) x2.toNatClampNeg) (tx20 : x20.toInt = ((σ.2.1 22) ((σ.1 19).toInt - 1).toNat).toInt) (c21 : ¬ x20.toInt = 0) (hr22 : ¬ (((σ.2.1 4) (σ.1 14).toNatClampNeg).toInt = 5 ∧ ((σ.2.2.1 6) (σ.1 14).toNatClampNeg).toInt = (40 : Int32).toInt)) (hr24_0 : ((σ.2.1 4) (σ.1 14).toNatClampNeg).toInt = 5) (hr24_1 : ((σ.2.2.1 6) (σ.1 14).toNatClampNeg).toInt = (35 : Int32).toInt) (ex29 : x29 = (σ.1 14) + (1 : Int32)) (tx29 : x29.toInt = (σ.1 14).toInt + 1) (ex30 : x30 = (σ.2.1 4) x29.toNatClampNeg) (tx30 : x30.toInt = ((σ.2.1 4) ((σ.1 14).toInt + 1).toNat).toInt) (c31 : x30.toInt = 3) (ex32 : x32 = (σ.2.2.1 6) x29.toNatClampNeg) (tx32 : x32.toInt = ((σ.2.2.1 6) ((σ.1 14).toInt + 1).toNat).toInt) (hr33_0 : n34.toInt = (σ.1 16).toInt + 1) (hr33_1 : r33.toInt = (σ.1 15).toInt + (σ.1 16).toInt) (ex35 : x35 = x29 + (1 : Int32)) : x35.toInt = x29.toInt + 1 := by
  have q1 : (1 : Int32).toInt = 1 := by decide +kernel
  have q35 : (35 : Int32).toInt = 35 := by decide +kernel
  have q40 : (40 : Int32).toInt = 40 := by decide +kernel
  have bb_hpre_0 := hpre_0.b
  have bb_hpre_4 := hpre_4.z.b
  have kk_hpre_0 := hpre_0.in
  have w1 : (1 : Int32).toInt = 1 := by decide +kernel
  rw [ex35, z_add (by omega) (by omega)]; first | done | omega
-- pre:ready@268 @268
theorem v_first_26 (σ : RS) (x1 : Int32) (x2 : Int32) (x20 : Int32) (x29 : Int32) (x30 : Int32) (x32 : Int64) (n34 : Int32) (r33 : Int32) (x35 : Int32) (hpre_0 : TKI (σ.2.1 4) (σ.2.2.1 6) (σ.2.1 7) (σ.1 3) (σ.1 14)) (hpre_1 : 0 ≤ (σ.1 15).toInt) (hpre_2 : (σ.1 15).toInt ≤ 3510) (hpre_4 : PQ1 0 0 (σ.1 14) (σ.1 15) (σ.1 16) (σ.1 19) (σ.1 29) (σ.2.1 11) (σ.2.2.1 12) (σ.2.1 31) (σ.2.1 30) (σ.2.1 32) (σ.2.1 21) (σ.2.1 22) (σ.2.1 20) (σ.2.1 23) (σ.2.1 24) (σ.2.1 25) (σ.2.1 27) (σ.1 33) (σ.1 34) (σ.2.1 28)) (ex1 : x1 = (σ.2.1 4) (σ.1 14).toNatClampNeg) (tx1 : x1.toInt = ((σ.2.1 4) (σ.1 14).toNatClampNeg).toInt) (ex2 : x2 = (σ.1 19) - (1 : Int32)) (tx2 : x2.toInt = (σ.1 19).toInt - 1) (c3 : ¬ x1.toInt = 1) (c10 : ¬ x1.toInt = 4) (c18 : ¬ x1.toInt = 2) (c19 : ¬ x1.toInt = 3) (ex20 : x20 = (σ.2.1 22) x2.toNatClampNeg) (tx20 : x20.toInt = ((σ.2.1 22) ((σ.1 19).toInt - 1).toNat).toInt) (c21 : ¬ x20.toInt = 0) (hr22 : ¬ (((σ.2.1 4) (σ.1 14).toNatClampNeg).toInt = 5 ∧ ((σ.2.2.1 6) (σ.1 14).toNatClampNeg).toInt = (40 : Int32).toInt)) (hr24_0 : ((σ.2.1 4) (σ.1 14).toNatClampNeg).toInt = 5) (hr24_1 : ((σ.2.2.1 6) (σ.1 14).toNatClampNeg).toInt = (35 : Int32).toInt) (ex29 : x29 = (σ.1 14) + (1 : Int32)) (tx29 : x29.toInt = (σ.1 14).toInt + 1) (ex30 : x30 = (σ.2.1 4) x29.toNatClampNeg) (tx30 : x30.toInt = ((σ.2.1 4) ((σ.1 14).toInt + 1).toNat).toInt) (c31 : x30.toInt = 3) (ex32 : x32 = (σ.2.2.1 6) x29.toNatClampNeg) (tx32 : x32.toInt = ((σ.2.2.1 6) ((σ.1 14).toInt + 1).toNat).toInt) (hr33_0 : n34.toInt = (σ.1 16).toInt + 1) (hr33_1 : r33.toInt = (σ.1 15).toInt + (σ.1 16).toInt) (ex35 : x35 = x29 + (1 : Int32)) (tx35 : x35.toInt = x29.toInt + 1) : 1 ≤ (σ.1 19).toInt ∧ (σ.1 19).toInt ≤ 8 ∧ ((1 : Int32) = 0 ∨ (1 : Int32) = 1) := by
  have q1 : (1 : Int32).toInt = 1 := by decide +kernel
  have q35 : (35 : Int32).toInt = 35 := by decide +kernel
  have q40 : (40 : Int32).toInt = 40 := by decide +kernel
  have bb_hpre_0 := hpre_0.b
  have bb_hpre_4 := hpre_4.z.b
  have kk_hpre_0 := hpre_0.in
  refine ⟨?_, ?_, ?_⟩ <;> first | assumption | omega | (subst_vars; omega) | trivial
-- post @278
theorem v_first_27 (σ : RS) (x1 : Int32) (x2 : Int32) (x20 : Int32) (x29 : Int32) (x30 : Int32) (x32 : Int64) (n34 : Int32) (r33 : Int32) (x35 : Int32) (hpre_0 : TKI (σ.2.1 4) (σ.2.2.1 6) (σ.2.1 7) (σ.1 3) (σ.1 14)) (hpre_1 : 0 ≤ (σ.1 15).toInt) (hpre_2 : (σ.1 15).toInt ≤ 3510) (hpre_3 : (σ.1 8).toInt = 0) (hpre_4 : PQ1 0 0 (σ.1 14) (σ.1 15) (σ.1 16) (σ.1 19) (σ.1 29) (σ.2.1 11) (σ.2.2.1 12) (σ.2.1 31) (σ.2.1 30) (σ.2.1 32) (σ.2.1 21) (σ.2.1 22) (σ.2.1 20) (σ.2.1 23) (σ.2.1 24) (σ.2.1 25) (σ.2.1 27) (σ.1 33) (σ.1 34) (σ.2.1 28)) (ex1 : x1 = (σ.2.1 4) (σ.1 14).toNatClampNeg) (tx1 : x1.toInt = ((σ.2.1 4) (σ.1 14).toNatClampNeg).toInt) (ex2 : x2 = (σ.1 19) - (1 : Int32)) (tx2 : x2.toInt = (σ.1 19).toInt - 1) (c3 : ¬ x1.toInt = 1) (c10 : ¬ x1.toInt = 4) (c18 : ¬ x1.toInt = 2) (c19 : ¬ x1.toInt = 3) (ex20 : x20 = (σ.2.1 22) x2.toNatClampNeg) (tx20 : x20.toInt = ((σ.2.1 22) ((σ.1 19).toInt - 1).toNat).toInt) (c21 : ¬ x20.toInt = 0) (hr22 : ¬ (((σ.2.1 4) (σ.1 14).toNatClampNeg).toInt = 5 ∧ ((σ.2.2.1 6) (σ.1 14).toNatClampNeg).toInt = (40 : Int32).toInt)) (hr24_0 : ((σ.2.1 4) (σ.1 14).toNatClampNeg).toInt = 5) (hr24_1 : ((σ.2.2.1 6) (σ.1 14).toNatClampNeg).toInt = (35 : Int32).toInt) (ex29 : x29 = (σ.1 14) + (1 : Int32)) (tx29 : x29.toInt = (σ.1 14).toInt + 1) (ex30 : x30 = (σ.2.1 4) x29.toNatClampNeg) (tx30 : x30.toInt = ((σ.2.1 4) ((σ.1 14).toInt + 1).toNat).toInt) (c31 : x30.toInt = 3) (ex32 : x32 = (σ.2.2.1 6) x29.toNatClampNeg) (tx32 : x32.toInt = ((σ.2.2.1 6) ((σ.1 14).toInt + 1).toNat).toInt) (hr33_0 : n34.toInt = (σ.1 16).toInt + 1) (hr33_1 : r33.toInt = (σ.1 15).toInt + (σ.1 16).toInt) (ex35 : x35 = x29 + (1 : Int32)) (tx35 : x35.toInt = x29.toInt + 1) : Keep (σ.1 15).toInt (σ.2.1 11) (upd (σ.2.1 11) ((σ.1 15).toInt + (σ.1 16).toInt).toNat (9 : Int32)) (σ.2.2.1 12) (vp_updL (σ.2.2.1 12) ((σ.1 15).toInt + (σ.1 16).toInt).toNat x32) ∧ 0 ≤ (σ.1 8).toInt ∧ (σ.1 8).toInt ≤ 3 ∧ ((σ.1 8).toInt = 0 → TKI (σ.2.1 4) (σ.2.2.1 6) (σ.2.1 7) (σ.1 3) x35 ∧ LI (0 : Int32) x35 (σ.1 15) n34 (σ.1 19) (σ.1 29) (upd (σ.2.1 11) ((σ.1 15).toInt + (σ.1 16).toInt).toNat (9 : Int32)) (vp_updL (σ.2.2.1 12) ((σ.1 15).toInt + (σ.1 16).toInt).toNat x32) (σ.2.1 31) (σ.2.1 30) (σ.2.1 32) (σ.2.1 21) (σ.2.1 22) (σ.2.1 20) (σ.2.1 23) (σ.2.1 24) (σ.2.1 25) (σ.2.1 27) (σ.1 33) (σ.1 34) (upd (σ.2.1 28) ((σ.1 19).toInt - 1).toNat (1 : Int32)) ∧ 2 * (σ.1 14).toInt - (σ.1 19).toInt < 2 * x35.toInt - (σ.1 19).toInt) := by
  have q0 : (0 : Int32).toInt = 0 := by decide +kernel
  have q1 : (1 : Int32).toInt = 1 := by decide +kernel
  have q9 : (9 : Int32).toInt = 9 := by decide +kernel
  have q35 : (35 : Int32).toInt = 35 := by decide +kernel
  have q40 : (40 : Int32).toInt = 40 := by decide +kernel
  have bb_hpre_0 := hpre_0.b
  have bb_hpre_4 := hpre_4.z.b
  have kk_hpre_0 := hpre_0.in
  have k := hpre_0.in (by omega)
  have k2 := (hpre_0.up (nx' := x29) (by omega) (by omega)).in (by rw [clampN, tx29]; omega)
  exact ⟨Keep.rf.em (by omega), by omega, by omega, fun _ => ⟨hpre_0.up (by omega) (by omega), Or.inr ⟨q0, (PQ_load hpre_4 hpre_2 (by omega) (by omega) (by omega) (by omega) (by omega)).2 (Or.inl q9)⟩, by omega⟩⟩
-- pre:misfit@236 @236
theorem v_first_28 (σ : RS) (x1 : Int32) (x2 : Int32) (x20 : Int32) (x29 : Int32) (x30 : Int32) (hpre_0 : TKI (σ.2.1 4) (σ.2.2.1 6) (σ.2.1 7) (σ.1 3) (σ.1 14)) (hpre_1 : 0 ≤ (σ.1 15).toInt) (hpre_2 : (σ.1 15).toInt ≤ 3510) (hpre_4 : PQ1 0 0 (σ.1 14) (σ.1 15) (σ.1 16) (σ.1 19) (σ.1 29) (σ.2.1 11) (σ.2.2.1 12) (σ.2.1 31) (σ.2.1 30) (σ.2.1 32) (σ.2.1 21) (σ.2.1 22) (σ.2.1 20) (σ.2.1 23) (σ.2.1 24) (σ.2.1 25) (σ.2.1 27) (σ.1 33) (σ.1 34) (σ.2.1 28)) (ex1 : x1 = (σ.2.1 4) (σ.1 14).toNatClampNeg) (tx1 : x1.toInt = ((σ.2.1 4) (σ.1 14).toNatClampNeg).toInt) (ex2 : x2 = (σ.1 19) - (1 : Int32)) (tx2 : x2.toInt = (σ.1 19).toInt - 1) (c3 : ¬ x1.toInt = 1) (c10 : ¬ x1.toInt = 4) (c18 : ¬ x1.toInt = 2) (c19 : ¬ x1.toInt = 3) (ex20 : x20 = (σ.2.1 22) x2.toNatClampNeg) (tx20 : x20.toInt = ((σ.2.1 22) ((σ.1 19).toInt - 1).toNat).toInt) (c21 : ¬ x20.toInt = 0) (hr22 : ¬ (((σ.2.1 4) (σ.1 14).toNatClampNeg).toInt = 5 ∧ ((σ.2.2.1 6) (σ.1 14).toNatClampNeg).toInt = (40 : Int32).toInt)) (hr24_0 : ((σ.2.1 4) (σ.1 14).toNatClampNeg).toInt = 5) (hr24_1 : ((σ.2.2.1 6) (σ.1 14).toNatClampNeg).toInt = (35 : Int32).toInt) (ex29 : x29 = (σ.1 14) + (1 : Int32)) (tx29 : x29.toInt = (σ.1 14).toInt + 1) (ex30 : x30 = (σ.2.1 4) x29.toNatClampNeg) (tx30 : x30.toInt = ((σ.2.1 4) ((σ.1 14).toInt + 1).toNat).toInt) (c31 : ¬ x30.toInt = 3) : 0 ≤ x29.toInt ∧ x29.toInt ≤ 41 := by
  have q1 : (1 : Int32).toInt = 1 := by decide +kernel
  have q35 : (35 : Int32).toInt = 35 := by decide +kernel
  have q40 : (40 : Int32).toInt = 40 := by decide +kernel
  have bb_hpre_0 := hpre_0.b
  have bb_hpre_4 := hpre_4.z.b
  have kk_hpre_0 := hpre_0.in
  refine ⟨?_, ?_⟩ <;> first | assumption | omega | (subst_vars; omega) | trivial
-- post @239
theorem v_first_29 (σ : RS) (x1 : Int32) (x2 : Int32) (x20 : Int32) (x29 : Int32) (x30 : Int32) (n38 : Int32) (hpre_0 : TKI (σ.2.1 4) (σ.2.2.1 6) (σ.2.1 7) (σ.1 3) (σ.1 14)) (hpre_1 : 0 ≤ (σ.1 15).toInt) (hpre_2 : (σ.1 15).toInt ≤ 3510) (hpre_3 : (σ.1 8).toInt = 0) (hpre_4 : PQ1 0 0 (σ.1 14) (σ.1 15) (σ.1 16) (σ.1 19) (σ.1 29) (σ.2.1 11) (σ.2.2.1 12) (σ.2.1 31) (σ.2.1 30) (σ.2.1 32) (σ.2.1 21) (σ.2.1 22) (σ.2.1 20) (σ.2.1 23) (σ.2.1 24) (σ.2.1 25) (σ.2.1 27) (σ.1 33) (σ.1 34) (σ.2.1 28)) (hpre_5 : (σ.1 17).toInt = 1) (ex1 : x1 = (σ.2.1 4) (σ.1 14).toNatClampNeg) (tx1 : x1.toInt = ((σ.2.1 4) (σ.1 14).toNatClampNeg).toInt) (ex2 : x2 = (σ.1 19) - (1 : Int32)) (tx2 : x2.toInt = (σ.1 19).toInt - 1) (c3 : ¬ x1.toInt = 1) (c10 : ¬ x1.toInt = 4) (c18 : ¬ x1.toInt = 2) (c19 : ¬ x1.toInt = 3) (ex20 : x20 = (σ.2.1 22) x2.toNatClampNeg) (tx20 : x20.toInt = ((σ.2.1 22) ((σ.1 19).toInt - 1).toNat).toInt) (c21 : ¬ x20.toInt = 0) (hr22 : ¬ (((σ.2.1 4) (σ.1 14).toNatClampNeg).toInt = 5 ∧ ((σ.2.2.1 6) (σ.1 14).toNatClampNeg).toInt = (40 : Int32).toInt)) (hr24_0 : ((σ.2.1 4) (σ.1 14).toNatClampNeg).toInt = 5) (hr24_1 : ((σ.2.2.1 6) (σ.1 14).toNatClampNeg).toInt = (35 : Int32).toInt) (ex29 : x29 = (σ.1 14) + (1 : Int32)) (tx29 : x29.toInt = (σ.1 14).toInt + 1) (ex30 : x30 = (σ.2.1 4) x29.toNatClampNeg) (tx30 : x30.toInt = ((σ.2.1 4) ((σ.1 14).toInt + 1).toNat).toInt) (c31 : ¬ x30.toInt = 3) (hr37 : (σ.1 8).toInt = 0 → n38.toInt = 2) : Keep (σ.1 15).toInt (σ.2.1 11) (σ.2.1 11) (σ.2.2.1 12) (σ.2.2.1 12) ∧ 0 ≤ n38.toInt ∧ n38.toInt ≤ 3 ∧ (n38.toInt = 0 → TKI (σ.2.1 4) (σ.2.2.1 6) (σ.2.1 7) (σ.1 3) x29 ∧ LI (σ.1 17) x29 (σ.1 15) (σ.1 16) (σ.1 19) (σ.1 29) (σ.2.1 11) (σ.2.2.1 12) (σ.2.1 31) (σ.2.1 30) (σ.2.1 32) (σ.2.1 21) (σ.2.1 22) (σ.2.1 20) (σ.2.1 23) (σ.2.1 24) (σ.2.1 25) (σ.2.1 27) (σ.1 33) (σ.1 34) (σ.2.1 28) ∧ 2 * (σ.1 14).toInt - (σ.1 19).toInt < 2 * x29.toInt - (σ.1 19).toInt) := by
  have q1 : (1 : Int32).toInt = 1 := by decide +kernel
  have q35 : (35 : Int32).toInt = 35 := by decide +kernel
  have q40 : (40 : Int32).toInt = 40 := by decide +kernel
  have bb_hpre_0 := hpre_0.b
  have bb_hpre_4 := hpre_4.z.b
  have kk_hpre_0 := hpre_0.in
  exact ⟨Keep.rf, by omega, by omega, fun h => by omega⟩
-- nw@191 @191
theorem v_first_30 (σ : RS) (x1 : Int32) (x2 : Int32) (x20 : Int32) (x40 : Int32) (hpre_0 : TKI (σ.2.1 4) (σ.2.2.1 6) (σ.2.1 7) (σ.1 3) (σ.1 14)) (hpre_1 : 0 ≤ (σ.1 15).toInt) (hpre_2 : (σ.1 15).toInt ≤ 3510) (hpre_4 : PQ1 0 0 (σ.1 14) (σ.1 15) (σ.1 16) (σ.1 19) (σ.1 29) (σ.2.1 11) (σ.2.2.1 12) (σ.2.1 31) (σ.2.1 30) (σ.2.1 32) (σ.2.1 21) (σ.2.1 22) (σ.2.1 20) (σ.2.1 23) (σ.2.1 24) (σ.2.1 25) (σ.2.1 27) (σ.1 33) (σ.1 34) (σ.2.1 28)) (ex1 : x1 = (σ.2.1 4) (σ.1 14).toNatClampNeg) (tx1 : x1.toInt = ((σ.2.1 4) (σ.1 14).toNatClampNeg).toInt) (ex2 : x2 = (σ.1 19) - (1 : Int32)) (tx2 : x2.toInt = (σ.1 19).toInt - 1) (c3 : ¬ x1.toInt = 1) (c10 : ¬ x1.toInt = 4) (c18 : ¬ x1.toInt = 2) (c19 : ¬ x1.toInt = 3) (ex20 : x20 = (σ.2.1 22) x2.toNatClampNeg) (tx20 : x20.toInt = ((σ.2.1 22) ((σ.1 19).toInt - 1).toNat).toInt) (c21 : ¬ x20.toInt = 0) (hr22_0 : ((σ.2.1 4) (σ.1 14).toNatClampNeg).toInt = 5) (hr22_1 : ((σ.2.2.1 6) (σ.1 14).toNatClampNeg).toInt = (40 : Int32).toInt) (ex40 : x40 = (σ.1 14) + (1 : Int32)) : x40.toInt = (σ.1 14).toInt + 1 := by
  have q1 : (1 : Int32).toInt = 1 := by decide +kernel
  have q40 : (40 : Int32).toInt = 40 := by decide +kernel
  have bb_hpre_0 := hpre_0.b
  have bb_hpre_4 := hpre_4.z.b
  have kk_hpre_0 := hpre_0.in
  have w1 : (1 : Int32).toInt = 1 := by decide +kernel
  rw [ex40, z_add (by omega) (by omega)]; first | done | omega
-- pre:open@197 @197
theorem v_first_31 (σ : RS) (x1 : Int32) (x2 : Int32) (x20 : Int32) (x40 : Int32) (hpre_0 : TKI (σ.2.1 4) (σ.2.2.1 6) (σ.2.1 7) (σ.1 3) (σ.1 14)) (hpre_1 : 0 ≤ (σ.1 15).toInt) (hpre_2 : (σ.1 15).toInt ≤ 3510) (hpre_3 : (σ.1 8).toInt = 0) (hpre_4 : PQ1 0 0 (σ.1 14) (σ.1 15) (σ.1 16) (σ.1 19) (σ.1 29) (σ.2.1 11) (σ.2.2.1 12) (σ.2.1 31) (σ.2.1 30) (σ.2.1 32) (σ.2.1 21) (σ.2.1 22) (σ.2.1 20) (σ.2.1 23) (σ.2.1 24) (σ.2.1 25) (σ.2.1 27) (σ.1 33) (σ.1 34) (σ.2.1 28)) (ex1 : x1 = (σ.2.1 4) (σ.1 14).toNatClampNeg) (tx1 : x1.toInt = ((σ.2.1 4) (σ.1 14).toNatClampNeg).toInt) (ex2 : x2 = (σ.1 19) - (1 : Int32)) (tx2 : x2.toInt = (σ.1 19).toInt - 1) (c3 : ¬ x1.toInt = 1) (c10 : ¬ x1.toInt = 4) (c18 : ¬ x1.toInt = 2) (c19 : ¬ x1.toInt = 3) (ex20 : x20 = (σ.2.1 22) x2.toNatClampNeg) (tx20 : x20.toInt = ((σ.2.1 22) ((σ.1 19).toInt - 1).toNat).toInt) (c21 : ¬ x20.toInt = 0) (hr22_0 : ((σ.2.1 4) (σ.1 14).toNatClampNeg).toInt = 5) (hr22_1 : ((σ.2.2.1 6) (σ.1 14).toNatClampNeg).toInt = (40 : Int32).toInt) (ex40 : x40 = (σ.1 14) + (1 : Int32)) (tx40 : x40.toInt = (σ.1 14).toInt + 1) : 0 ≤ (σ.1 19).toInt ∧ (σ.1 19).toInt ≤ 5 ∧ (σ.1 8).toInt = 0 ∧ 0 ≤ x40.toInt ∧ x40.toInt ≤ 41 := by
  have q1 : (1 : Int32).toInt = 1 := by decide +kernel
  have q40 : (40 : Int32).toInt = 40 := by decide +kernel
  have bb_hpre_0 := hpre_0.b
  have bb_hpre_4 := hpre_4.z.b
  have kk_hpre_0 := hpre_0.in
  refine ⟨?_, ?_, ?_, ?_, ?_⟩ <;> first | assumption | omega | (subst_vars; omega) | trivial
-- post @278
theorem v_first_32 (σ : RS) (x1 : Int32) (x2 : Int32) (x20 : Int32) (x40 : Int32) (F42 : (Nat → Int32)) (n43 : Int32) (F44 : (Nat → Int32)) (F45 : (Nat → Int32)) (F47 : (Nat → Int32)) (F48 : (Nat → Int32)) (n49 : Int32) (n50 : Int32) (hpre_0 : TKI (σ.2.1 4) (σ.2.2.1 6) (σ.2.1 7) (σ.1 3) (σ.1 14)) (hpre_1 : 0 ≤ (σ.1 15).toInt) (hpre_2 : (σ.1 15).toInt ≤ 3510) (hpre_3 : (σ.1 8).toInt = 0) (hpre_4 : PQ1 0 0 (σ.1 14) (σ.1 15) (σ.1 16) (σ.1 19) (σ.1 29) (σ.2.1 11) (σ.2.2.1 12) (σ.2.1 31) (σ.2.1 30) (σ.2.1 32) (σ.2.1 21) (σ.2.1 22) (σ.2.1 20) (σ.2.1 23) (σ.2.1 24) (σ.2.1 25) (σ.2.1 27) (σ.1 33) (σ.1 34) (σ.2.1 28)) (ex1 : x1 = (σ.2.1 4) (σ.1 14).toNatClampNeg) (tx1 : x1.toInt = ((σ.2.1 4) (σ.1 14).toNatClampNeg).toInt) (ex2 : x2 = (σ.1 19) - (1 : Int32)) (tx2 : x2.toInt = (σ.1 19).toInt - 1) (c3 : ¬ x1.toInt = 1) (c10 : ¬ x1.toInt = 4) (c18 : ¬ x1.toInt = 2) (c19 : ¬ x1.toInt = 3) (ex20 : x20 = (σ.2.1 22) x2.toNatClampNeg) (tx20 : x20.toInt = ((σ.2.1 22) ((σ.1 19).toInt - 1).toNat).toInt) (c21 : ¬ x20.toInt = 0) (hr22_0 : ((σ.2.1 4) (σ.1 14).toNatClampNeg).toInt = 5) (hr22_1 : ((σ.2.2.1 6) (σ.1 14).toNatClampNeg).toInt = (40 : Int32).toInt) (ex40 : x40 = (σ.1 14) + (1 : Int32)) (tx40 : x40.toInt = (σ.1 14).toInt + 1) (hr41 : ((σ.1 19).toInt = 5 ∧ n50.toInt = 3 ∧ n43.toInt = 5) ∨ ((σ.1 19).toInt < 5 ∧ n50 = (σ.1 8) ∧ n43.toInt = (σ.1 19).toInt + 1 ∧ F42 = upd (σ.2.1 20) (σ.1 19).toInt.toNat (2 : Int32) ∧ F44 = upd (σ.2.1 21) (σ.1 19).toInt.toNat (σ.1 29) ∧ F45 = upd (σ.2.1 22) (σ.1 19).toInt.toNat (0 : Int32) ∧ F47 = upd (σ.2.1 27) (σ.1 19).toInt.toNat (1 : Int32) ∧ F48 = upd (σ.2.1 28) (σ.1 19).toInt.toNat (0 : Int32) ∧ n49.toInt = 1)) : Keep (σ.1 15).toInt (σ.2.1 11) (σ.2.1 11) (σ.2.2.1 12) (σ.2.2.1 12) ∧ 0 ≤ n50.toInt ∧ n50.toInt ≤ 3 ∧ (n50.toInt = 0 → TKI (σ.2.1 4) (σ.2.2.1 6) (σ.2.1 7) (σ.1 3) x40 ∧ LI n49 x40 (σ.1 15) (σ.1 16) n43 (σ.1 29) (σ.2.1 11) (σ.2.2.1 12) (σ.2.1 31) (σ.2.1 30) (σ.2.1 32) F44 F45 F42 (σ.2.1 23) (σ.2.1 24) (σ.2.1 25) F47 (σ.1 33) (σ.1 34) F48 ∧ 2 * (σ.1 14).toInt - (σ.1 19).toInt < 2 * x40.toInt - n43.toInt) := by
  have q0 : (0 : Int32).toInt = 0 := by decide +kernel
  have q1 : (1 : Int32).toInt = 1 := by decide +kernel
  have q2 : (2 : Int32).toInt = 2 := by decide +kernel
  have q40 : (40 : Int32).toInt = 40 := by decide +kernel
  have bb_hpre_0 := hpre_0.b
  have bb_hpre_4 := hpre_4.z.b
  have kk_hpre_0 := hpre_0.in
  have k := hpre_0.in (by omega)
  rcases hr41 with ⟨f1, f2, f3⟩ | ⟨f1, f2, f3, f4, f5, f6, f7, f8, f9⟩
  · exact ⟨Keep.rf, by omega, by omega, fun h => by omega⟩
  · have f2 := congrArg Int32.toInt f2
    subst f4 f5 f6 f7 f8
    exact ⟨Keep.rf, by omega, by omega, fun _ => ⟨hpre_0.up (by omega) (by omega), Or.inl ⟨f9, PQ_brack hpre_4 (by omega) (by omega) (by omega) (by omega) rfl rfl rfl rfl q0 q2⟩, by omega⟩⟩
-- pre:isSign@119 @119
theorem v_first_33 (σ : RS) (x1 : Int32) (x2 : Int32) (x20 : Int32) (hpre_0 : TKI (σ.2.1 4) (σ.2.2.1 6) (σ.2.1 7) (σ.1 3) (σ.1 14)) (hpre_1 : 0 ≤ (σ.1 15).toInt) (hpre_2 : (σ.1 15).toInt ≤ 3510) (hpre_4 : PQ1 0 0 (σ.1 14) (σ.1 15) (σ.1 16) (σ.1 19) (σ.1 29) (σ.2.1 11) (σ.2.2.1 12) (σ.2.1 31) (σ.2.1 30) (σ.2.1 32) (σ.2.1 21) (σ.2.1 22) (σ.2.1 20) (σ.2.1 23) (σ.2.1 24) (σ.2.1 25) (σ.2.1 27) (σ.1 33) (σ.1 34) (σ.2.1 28)) (ex1 : x1 = (σ.2.1 4) (σ.1 14).toNatClampNeg) (tx1 : x1.toInt = ((σ.2.1 4) (σ.1 14).toNatClampNeg).toInt) (ex2 : x2 = (σ.1 19) - (1 : Int32)) (tx2 : x2.toInt = (σ.1 19).toInt - 1) (c3 : ¬ x1.toInt = 1) (c10 : ¬ x1.toInt = 4) (c18 : ¬ x1.toInt = 2) (c19 : ¬ x1.toInt = 3) (ex20 : x20 = (σ.2.1 22) x2.toNatClampNeg) (tx20 : x20.toInt = ((σ.2.1 22) ((σ.1 19).toInt - 1).toNat).toInt) (c21 : x20.toInt = 0) : 0 ≤ (σ.1 14).toInt ∧ (σ.1 14).toInt ≤ 41 := by
  have q1 : (1 : Int32).toInt = 1 := by decide +kernel
  have bb_hpre_0 := hpre_0.b
  have bb_hpre_4 := hpre_4.z.b
  have kk_hpre_0 := hpre_0.in
  refine ⟨?_, ?_⟩ <;> first | assumption | omega | (subst_vars; omega) | trivial
-- pre:isSign@142 @142
theorem v_first_34 (σ : RS) (x1 : Int32) (x2 : Int32) (x20 : Int32) (hpre_0 : TKI (σ.2.1 4) (σ.2.2.1 6) (σ.2.1 7) (σ.1 3) (σ.1 14)) (hpre_1 : 0 ≤ (σ.1 15).toInt) (hpre_2 : (σ.1 15).toInt ≤ 3510) (hpre_4 : PQ1 0 0 (σ.1 14) (σ.1 15) (σ.1 16) (σ.1 19) (σ.1 29) (σ.2.1 11) (σ.2.2.1 12) (σ.2.1 31) (σ.2.1 30) (σ.2.1 32) (σ.2.1 21) (σ.2.1 22) (σ.2.1 20) (σ.2.1 23) (σ.2.1 24) (σ.2.1 25) (σ.2.1 27) (σ.1 33) (σ.1 34) (σ.2.1 28)) (ex1 : x1 = (σ.2.1 4) (σ.1 14).toNatClampNeg) (tx1 : x1.toInt = ((σ.2.1 4) (σ.1 14).toNatClampNeg).toInt) (ex2 : x2 = (σ.1 19) - (1 : Int32)) (tx2 : x2.toInt = (σ.1 19).toInt - 1) (c3 : ¬ x1.toInt = 1) (c10 : ¬ x1.toInt = 4) (c18 : ¬ x1.toInt = 2) (c19 : ¬ x1.toInt = 3) (ex20 : x20 = (σ.2.1 22) x2.toNatClampNeg) (tx20 : x20.toInt = ((σ.2.1 22) ((σ.1 19).toInt - 1).toNat).toInt) (c21 : x20.toInt = 0) (hr52_0 : ((σ.2.1 4) (σ.1 14).toNatClampNeg).toInt = 5) (hr52_1 : ((σ.2.2.1 6) (σ.1 14).toNatClampNeg).toInt = (45 : Int32).toInt) : 0 ≤ (σ.1 14).toInt ∧ (σ.1 14).toInt ≤ 41 := by
  have q1 : (1 : Int32).toInt = 1 := by decide +kernel
  have q45 : (45 : Int32).toInt = 45 := by decide +kernel
  have bb_hpre_0 := hpre_0.b
  have bb_hpre_4 := hpre_4.z.b
  have kk_hpre_0 := hpre_0.in
  refine ⟨?_, ?_⟩ <;> first | assumption | omega | (subst_vars; omega) | trivial
-- in@155 @155
theorem v_first_35 (σ : RS) (x1 : Int32) (x2 : Int32) (x20 : Int32) (hpre_0 : TKI (σ.2.1 4) (σ.2.2.1 6) (σ.2.1 7) (σ.1 3) (σ.1 14)) (hpre_1 : 0 ≤ (σ.1 15).toInt) (hpre_2 : (σ.1 15).toInt ≤ 3510) (hpre_4 : PQ1 0 0 (σ.1 14) (σ.1 15) (σ.1 16) (σ.1 19) (σ.1 29) (σ.2.1 11) (σ.2.2.1 12) (σ.2.1 31) (σ.2.1 30) (σ.2.1 32) (σ.2.1 21) (σ.2.1 22) (σ.2.1 20) (σ.2.1 23) (σ.2.1 24) (σ.2.1 25) (σ.2.1 27) (σ.1 33) (σ.1 34) (σ.2.1 28)) (ex1 : x1 = (σ.2.1 4) (σ.1 14).toNatClampNeg) (tx1 : x1.toInt = ((σ.2.1 4) (σ.1 14).toNatClampNeg).toInt) (ex2 : x2 = (σ.1 19) - (1 : Int32)) (tx2 : x2.toInt = (σ.1 19).toInt - 1) (c3 : ¬ x1.toInt = 1) (c10 : ¬ x1.toInt = 4) (c18 : ¬ x1.toInt = 2) (c19 : ¬ x1.toInt = 3) (ex20 : x20 = (σ.2.1 22) x2.toNatClampNeg) (tx20 : x20.toInt = ((σ.2.1 22) ((σ.1 19).toInt - 1).toNat).toInt) (c21 : x20.toInt = 0) (hr52_0 : ((σ.2.1 4) (σ.1 14).toNatClampNeg).toInt = 5) (hr52_1 : ((σ.2.2.1 6) (σ.1 14).toNatClampNeg).toInt = (45 : Int32).toInt) : vp_in x2 8 := by
  have q1 : (1 : Int32).toInt = 1 := by decide +kernel
  have q45 : (45 : Int32).toInt = 45 := by decide +kernel
  have bb_hpre_0 := hpre_0.b
  have bb_hpre_4 := hpre_4.z.b
  have kk_hpre_0 := hpre_0.in
  exact vp_in_iff.mpr ⟨by omega, by omega⟩
-- bool@162 @162
theorem v_first_36   : (0 : Int32) = 0 ∨ (0 : Int32) = 1 := by
  have q0 : (0 : Int32).toInt = 0 := by decide +kernel
  first | exact Or.inl rfl | exact Or.inr rfl | exact bool_of (by omega)
-- nw@169 @169
theorem v_first_37 (σ : RS) (x1 : Int32) (x2 : Int32) (x20 : Int32) (x56 : Int32) (hpre_0 : TKI (σ.2.1 4) (σ.2.2.1 6) (σ.2.1 7) (σ.1 3) (σ.1 14)) (hpre_1 : 0 ≤ (σ.1 15).toInt) (hpre_2 : (σ.1 15).toInt ≤ 3510) (hpre_4 : PQ1 0 0 (σ.1 14) (σ.1 15) (σ.1 16) (σ.1 19) (σ.1 29) (σ.2.1 11) (σ.2.2.1 12) (σ.2.1 31) (σ.2.1 30) (σ.2.1 32) (σ.2.1 21) (σ.2.1 22) (σ.2.1 20) (σ.2.1 23) (σ.2.1 24) (σ.2.1 25) (σ.2.1 27) (σ.1 33) (σ.1 34) (σ.2.1 28)) (ex1 : x1 = (σ.2.1 4) (σ.1 14).toNatClampNeg) (tx1 : x1.toInt = ((σ.2.1 4) (σ.1 14).toNatClampNeg).toInt) (ex2 : x2 = (σ.1 19) - (1 : Int32)) (tx2 : x2.toInt = (σ.1 19).toInt - 1) (c3 : ¬ x1.toInt = 1) (c10 : ¬ x1.toInt = 4) (c18 : ¬ x1.toInt = 2) (c19 : ¬ x1.toInt = 3) (ex20 : x20 = (σ.2.1 22) x2.toNatClampNeg) (tx20 : x20.toInt = ((σ.2.1 22) ((σ.1 19).toInt - 1).toNat).toInt) (c21 : x20.toInt = 0) (hr52_0 : ((σ.2.1 4) (σ.1 14).toNatClampNeg).toInt = 5) (hr52_1 : ((σ.2.2.1 6) (σ.1 14).toNatClampNeg).toInt = (45 : Int32).toInt) (hr54 : ¬ (((σ.2.1 4) (σ.1 14).toNatClampNeg).toInt = 5 ∧ ((σ.2.2.1 6) (σ.1 14).toNatClampNeg).toInt = (45 : Int32).toInt)) (ex56 : x56 = (σ.1 14) + (1 : Int32)) : x56.toInt = (σ.1 14).toInt + 1 := by
  have q1 : (1 : Int32).toInt = 1 := by decide +kernel
  have q45 : (45 : Int32).toInt = 45 := by decide +kernel
  have bb_hpre_0 := hpre_0.b
  have bb_hpre_4 := hpre_4.z.b
  have kk_hpre_0 := hpre_0.in
  have w1 : (1 : Int32).toInt = 1 := by decide +kernel
  rw [ex56, z_add (by omega) (by omega)]; first | done | omega
-- post @278
theorem v_first_38 (σ : RS) (x1 : Int32) (x2 : Int32) (x20 : Int32) (x56 : Int32) (hpre_0 : TKI (σ.2.1 4) (σ.2.2.1 6) (σ.2.1 7) (σ.1 3) (σ.1 14)) (hpre_1 : 0 ≤ (σ.1 15).toInt) (hpre_2 : (σ.1 15).toInt ≤ 3510) (hpre_3 : (σ.1 8).toInt = 0) (hpre_4 : PQ1 0 0 (σ.1 14) (σ.1 15) (σ.1 16) (σ.1 19) (σ.1 29) (σ.2.1 11) (σ.2.2.1 12) (σ.2.1 31) (σ.2.1 30) (σ.2.1 32) (σ.2.1 21) (σ.2.1 22) (σ.2.1 20) (σ.2.1 23) (σ.2.1 24) (σ.2.1 25) (σ.2.1 27) (σ.1 33) (σ.1 34) (σ.2.1 28)) (hpre_5 : (σ.1 17).toInt = 1) (ex1 : x1 = (σ.2.1 4) (σ.1 14).toNatClampNeg) (tx1 : x1.toInt = ((σ.2.1 4) (σ.1 14).toNatClampNeg).toInt) (ex2 : x2 = (σ.1 19) - (1 : Int32)) (tx2 : x2.toInt = (σ.1 19).toInt - 1) (c3 : ¬ x1.toInt = 1) (c10 : ¬ x1.toInt = 4) (c18 : ¬ x1.toInt = 2) (c19 : ¬ x1.toInt = 3) (ex20 : x20 = (σ.2.1 22) x2.toNatClampNeg) (tx20 : x20.toInt = ((σ.2.1 22) ((σ.1 19).toInt - 1).toNat).toInt) (c21 : x20.toInt = 0) (hr52_0 : ((σ.2.1 4) (σ.1 14).toNatClampNeg).toInt = 5) (hr52_1 : ((σ.2.2.1 6) (σ.1 14).toNatClampNeg).toInt = (45 : Int32).toInt) (hr54 : ¬ (((σ.2.1 4) (σ.1 14).toNatClampNeg).toInt = 5 ∧ ((σ.2.2.1 6) (σ.1 14).toNatClampNeg).toInt = (45 : Int32).toInt)) (ex56 : x56 = (σ.1 14) + (1 : Int32)) (tx56 : x56.toInt = (σ.1 14).toInt + 1) : Keep (σ.1 15).toInt (σ.2.1 11) (σ.2.1 11) (σ.2.2.1 12) (σ.2.2.1 12) ∧ 0 ≤ (σ.1 8).toInt ∧ (σ.1 8).toInt ≤ 3 ∧ ((σ.1 8).toInt = 0 → TKI (σ.2.1 4) (σ.2.2.1 6) (σ.2.1 7) (σ.1 3) x56 ∧ LI (σ.1 17) x56 (σ.1 15) (σ.1 16) (σ.1 19) (σ.1 29) (σ.2.1 11) (σ.2.2.1 12) (σ.2.1 31) (σ.2.1 30) (σ.2.1 32) (σ.2.1 21) (upd (σ.2.1 22) x2.toNatClampNeg (31 : Int32)) (σ.2.1 20) (σ.2.1 23) (σ.2.1 24) (σ.2.1 25) (upd (σ.2.1 27) x2.toNatClampNeg (0 : Int32)) (σ.1 33) (σ.1 34) (σ.2.1 28) ∧ 2 * (σ.1 14).toInt - (σ.1 19).toInt < 2 * x56.toInt - (σ.1 19).toInt) := by
  have q0 : (0 : Int32).toInt = 0 := by decide +kernel
  have q1 : (1 : Int32).toInt = 1 := by decide +kernel
  have q31 : (31 : Int32).toInt = 31 := by decide +kernel
  have q45 : (45 : Int32).toInt = 45 := by decide +kernel
  have bb_hpre_0 := hpre_0.b
  have bb_hpre_4 := hpre_4.z.b
  have kk_hpre_0 := hpre_0.in
  have k := hpre_0.in (by omega)
  exact ⟨Keep.rf, by omega, by omega, fun _ => ⟨hpre_0.up (by omega) (by omega), Or.inl ⟨hpre_5, PQ_sign hpre_4 (by omega) (by rw [clampN]; omega) rfl q0 (by omega)⟩, by omega⟩⟩
-- in@155 @155
theorem v_first_39 (σ : RS) (x1 : Int32) (x2 : Int32) (x20 : Int32) (hpre_0 : TKI (σ.2.1 4) (σ.2.2.1 6) (σ.2.1 7) (σ.1 3) (σ.1 14)) (hpre_1 : 0 ≤ (σ.1 15).toInt) (hpre_2 : (σ.1 15).toInt ≤ 3510) (hpre_4 : PQ1 0 0 (σ.1 14) (σ.1 15) (σ.1 16) (σ.1 19) (σ.1 29) (σ.2.1 11) (σ.2.2.1 12) (σ.2.1 31) (σ.2.1 30) (σ.2.1 32) (σ.2.1 21) (σ.2.1 22) (σ.2.1 20) (σ.2.1 23) (σ.2.1 24) (σ.2.1 25) (σ.2.1 27) (σ.1 33) (σ.1 34) (σ.2.1 28)) (ex1 : x1 = (σ.2.1 4) (σ.1 14).toNatClampNeg) (tx1 : x1.toInt = ((σ.2.1 4) (σ.1 14).toNatClampNeg).toInt) (ex2 : x2 = (σ.1 19) - (1 : Int32)) (tx2 : x2.toInt = (σ.1 19).toInt - 1) (c3 : ¬ x1.toInt = 1) (c10 : ¬ x1.toInt = 4) (c18 : ¬ x1.toInt = 2) (c19 : ¬ x1.toInt = 3) (ex20 : x20 = (σ.2.1 22) x2.toNatClampNeg) (tx20 : x20.toInt = ((σ.2.1 22) ((σ.1 19).toInt - 1).toNat).toInt) (c21 : x20.toInt = 0) (hr52_0 : ((σ.2.1 4) (σ.1 14).toNatClampNeg).toInt = 5) (hr52_1 : ((σ.2.2.1 6) (σ.1 14).toNatClampNeg).toInt = (45 : Int32).toInt) (hr54_0 : ((σ.2.1 4) (σ.1 14).toNatClampNeg).toInt = 5) (hr54_1 : ((σ.2.2.1 6) (σ.1 14).toNatClampNeg).toInt = (45 : Int32).toInt) : vp_in x2 8 := by
  have q1 : (1 : Int32).toInt = 1 := by decide +kernel
  have q45 : (45 : Int32).toInt = 45 := by decide +kernel
  have bb_hpre_0 := hpre_0.b
  have bb_hpre_4 := hpre_4.z.b
  have kk_hpre_0 := hpre_0.in
  exact vp_in_iff.mpr ⟨by omega, by omega⟩
-- nw@169 @169
theorem v_first_40 (σ : RS) (x1 : Int32) (x2 : Int32) (x20 : Int32) (x57 : Int32) (hpre_0 : TKI (σ.2.1 4) (σ.2.2.1 6) (σ.2.1 7) (σ.1 3) (σ.1 14)) (hpre_1 : 0 ≤ (σ.1 15).toInt) (hpre_2 : (σ.1 15).toInt ≤ 3510) (hpre_4 : PQ1 0 0 (σ.1 14) (σ.1 15) (σ.1 16) (σ.1 19) (σ.1 29) (σ.2.1 11) (σ.2.2.1 12) (σ.2.1 31) (σ.2.1 30) (σ.2.1 32) (σ.2.1 21) (σ.2.1 22) (σ.2.1 20) (σ.2.1 23) (σ.2.1 24) (σ.2.1 25) (σ.2.1 27) (σ.1 33) (σ.1 34) (σ.2.1 28)) (ex1 : x1 = (σ.2.1 4) (σ.1 14).toNatClampNeg) (tx1 : x1.toInt = ((σ.2.1 4) (σ.1 14).toNatClampNeg).toInt) (ex2 : x2 = (σ.1 19) - (1 : Int32)) (tx2 : x2.toInt = (σ.1 19).toInt - 1) (c3 : ¬ x1.toInt = 1) (c10 : ¬ x1.toInt = 4) (c18 : ¬ x1.toInt = 2) (c19 : ¬ x1.toInt = 3) (ex20 : x20 = (σ.2.1 22) x2.toNatClampNeg) (tx20 : x20.toInt = ((σ.2.1 22) ((σ.1 19).toInt - 1).toNat).toInt) (c21 : x20.toInt = 0) (hr52_0 : ((σ.2.1 4) (σ.1 14).toNatClampNeg).toInt = 5) (hr52_1 : ((σ.2.2.1 6) (σ.1 14).toNatClampNeg).toInt = (45 : Int32).toInt) (hr54_0 : ((σ.2.1 4) (σ.1 14).toNatClampNeg).toInt = 5) (hr54_1 : ((σ.2.2.1 6) (σ.1 14).toNatClampNeg).toInt = (45 : Int32).toInt) (ex57 : x57 = (σ.1 14) + (1 : Int32)) : x57.toInt = (σ.1 14).toInt + 1 := by
  have q1 : (1 : Int32).toInt = 1 := by decide +kernel
  have q45 : (45 : Int32).toInt = 45 := by decide +kernel
  have bb_hpre_0 := hpre_0.b
  have bb_hpre_4 := hpre_4.z.b
  have kk_hpre_0 := hpre_0.in
  have w1 : (1 : Int32).toInt = 1 := by decide +kernel
  rw [ex57, z_add (by omega) (by omega)]; first | done | omega
-- post @278
theorem v_first_41 (σ : RS) (x1 : Int32) (x2 : Int32) (x20 : Int32) (x57 : Int32) (hpre_0 : TKI (σ.2.1 4) (σ.2.2.1 6) (σ.2.1 7) (σ.1 3) (σ.1 14)) (hpre_1 : 0 ≤ (σ.1 15).toInt) (hpre_2 : (σ.1 15).toInt ≤ 3510) (hpre_3 : (σ.1 8).toInt = 0) (hpre_4 : PQ1 0 0 (σ.1 14) (σ.1 15) (σ.1 16) (σ.1 19) (σ.1 29) (σ.2.1 11) (σ.2.2.1 12) (σ.2.1 31) (σ.2.1 30) (σ.2.1 32) (σ.2.1 21) (σ.2.1 22) (σ.2.1 20) (σ.2.1 23) (σ.2.1 24) (σ.2.1 25) (σ.2.1 27) (σ.1 33) (σ.1 34) (σ.2.1 28)) (hpre_5 : (σ.1 17).toInt = 1) (ex1 : x1 = (σ.2.1 4) (σ.1 14).toNatClampNeg) (tx1 : x1.toInt = ((σ.2.1 4) (σ.1 14).toNatClampNeg).toInt) (ex2 : x2 = (σ.1 19) - (1 : Int32)) (tx2 : x2.toInt = (σ.1 19).toInt - 1) (c3 : ¬ x1.toInt = 1) (c10 : ¬ x1.toInt = 4) (c18 : ¬ x1.toInt = 2) (c19 : ¬ x1.toInt = 3) (ex20 : x20 = (σ.2.1 22) x2.toNatClampNeg) (tx20 : x20.toInt = ((σ.2.1 22) ((σ.1 19).toInt - 1).toNat).toInt) (c21 : x20.toInt = 0) (hr52_0 : ((σ.2.1 4) (σ.1 14).toNatClampNeg).toInt = 5) (hr52_1 : ((σ.2.2.1 6) (σ.1 14).toNatClampNeg).toInt = (45 : Int32).toInt) (hr54_0 : ((σ.2.1 4) (σ.1 14).toNatClampNeg).toInt = 5) (hr54_1 : ((σ.2.2.1 6) (σ.1 14).toNatClampNeg).toInt = (45 : Int32).toInt) (ex57 : x57 = (σ.1 14) + (1 : Int32)) (tx57 : x57.toInt = (σ.1 14).toInt + 1) : Keep (σ.1 15).toInt (σ.2.1 11) (σ.2.1 11) (σ.2.2.1 12) (σ.2.2.1 12) ∧ 0 ≤ (σ.1 8).toInt ∧ (σ.1 8).toInt ≤ 3 ∧ ((σ.1 8).toInt = 0 → TKI (σ.2.1 4) (σ.2.2.1 6) (σ.2.1 7) (σ.1 3) x57 ∧ LI (σ.1 17) x57 (σ.1 15) (σ.1 16) (σ.1 19) (σ.1 29) (σ.2.1 11) (σ.2.2.1 12) (σ.2.1 31) (σ.2.1 30) (σ.2.1 32) (σ.2.1 21) (upd (σ.2.1 22) x2.toNatClampNeg (30 : Int32)) (σ.2.1 20) (σ.2.1 23) (σ.2.1 24) (σ.2.1 25) (upd (σ.2.1 27) x2.toNatClampNeg (0 : Int32)) (σ.1 33) (σ.1 34) (σ.2.1 28) ∧ 2 * (σ.1 14).toInt - (σ.1 19).toInt < 2 * x57.toInt - (σ.1 19).toInt) := by
  have q0 : (0 : Int32).toInt = 0 := by decide +kernel
  have q1 : (1 : Int32).toInt = 1 := by decide +kernel
  have q30 : (30 : Int32).toInt = 30 := by decide +kernel
  have q45 : (45 : Int32).toInt = 45 := by decide +kernel
  have bb_hpre_0 := hpre_0.b
  have bb_hpre_4 := hpre_4.z.b
  have kk_hpre_0 := hpre_0.in
  have k := hpre_0.in (by omega)
  exact ⟨Keep.rf, by omega, by omega, fun _ => ⟨hpre_0.up (by omega) (by omega), Or.inl ⟨hpre_5, PQ_sign hpre_4 (by omega) (by rw [clampN]; omega) rfl q0 (by omega)⟩, by omega⟩⟩
-- pre:isSign@128 @128
theorem v_first_42 (σ : RS) (x1 : Int32) (x2 : Int32) (x20 : Int32) (hpre_0 : TKI (σ.2.1 4) (σ.2.2.1 6) (σ.2.1 7) (σ.1 3) (σ.1 14)) (hpre_1 : 0 ≤ (σ.1 15).toInt) (hpre_2 : (σ.1 15).toInt ≤ 3510) (hpre_4 : PQ1 0 0 (σ.1 14) (σ.1 15) (σ.1 16) (σ.1 19) (σ.1 29) (σ.2.1 11) (σ.2.2.1 12) (σ.2.1 31) (σ.2.1 30) (σ.2.1 32) (σ.2.1 21) (σ.2.1 22) (σ.2.1 20) (σ.2.1 23) (σ.2.1 24) (σ.2.1 25) (σ.2.1 27) (σ.1 33) (σ.1 34) (σ.2.1 28)) (ex1 : x1 = (σ.2.1 4) (σ.1 14).toNatClampNeg) (tx1 : x1.toInt = ((σ.2.1 4) (σ.1 14).toNatClampNeg).toInt) (ex2 : x2 = (σ.1 19) - (1 : Int32)) (tx2 : x2.toInt = (σ.1 19).toInt - 1) (c3 : ¬ x1.toInt = 1) (c10 : ¬ x1.toInt = 4) (c18 : ¬ x1.toInt = 2) (c19 : ¬ x1.toInt = 3) (ex20 : x20 = (σ.2.1 22) x2.toNatClampNeg) (tx20 : x20.toInt = ((σ.2.1 22) ((σ.1 19).toInt - 1).toNat).toInt) (c21 : x20.toInt = 0) (hr52 : ¬ (((σ.2.1 4) (σ.1 14).toNatClampNeg).toInt = 5 ∧ ((σ.2.2.1 6) (σ.1 14).toNatClampNeg).toInt = (45 : Int32).toInt)) : 0 ≤ (σ.1 14).toInt ∧ (σ.1 14).toInt ≤ 41 := by
  have q1 : (1 : Int32).toInt = 1 := by decide +kernel
  have q45 : (45 : Int32).toInt = 45 := by decide +kernel
  have bb_hpre_0 := hpre_0.b
  have bb_hpre_4 := hpre_4.z.b
  have kk_hpre_0 := hpre_0.in
  refine ⟨?_, ?_⟩ <;> first | assumption | omega | (subst_vars; omega) | trivial
-- pre:isSign@179 @179
theorem v_first_43 (σ : RS) (x1 : Int32) (x2 : Int32) (x20 : Int32) (hpre_0 : TKI (σ.2.1 4) (σ.2.2.1 6) (σ.2.1 7) (σ.1 3) (σ.1 14)) (hpre_1 : 0 ≤ (σ.1 15).toInt) (hpre_2 : (σ.1 15).toInt ≤ 3510) (hpre_4 : PQ1 0 0 (σ.1 14) (σ.1 15) (σ.1 16) (σ.1 19) (σ.1 29) (σ.2.1 11) (σ.2.2.1 12) (σ.2.1 31) (σ.2.1 30) (σ.2.1 32) (σ.2.1 21) (σ.2.1 22) (σ.2.1 20) (σ.2.1 23) (σ.2.1 24) (σ.2.1 25) (σ.2.1 27) (σ.1 33) (σ.1 34) (σ.2.1 28)) (ex1 : x1 = (σ.2.1 4) (σ.1 14).toNatClampNeg) (tx1 : x1.toInt = ((σ.2.1 4) (σ.1 14).toNatClampNeg).toInt) (ex2 : x2 = (σ.1 19) - (1 : Int32)) (tx2 : x2.toInt = (σ.1 19).toInt - 1) (c3 : ¬ x1.toInt = 1) (c10 : ¬ x1.toInt = 4) (c18 : ¬ x1.toInt = 2) (c19 : ¬ x1.toInt = 3) (ex20 : x20 = (σ.2.1 22) x2.toNatClampNeg) (tx20 : x20.toInt = ((σ.2.1 22) ((σ.1 19).toInt - 1).toNat).toInt) (c21 : x20.toInt = 0) (hr52 : ¬ (((σ.2.1 4) (σ.1 14).toNatClampNeg).toInt = 5 ∧ ((σ.2.2.1 6) (σ.1 14).toNatClampNeg).toInt = (45 : Int32).toInt)) (hr58 : ¬ (((σ.2.1 4) (σ.1 14).toNatClampNeg).toInt = 5 ∧ ((σ.2.2.1 6) (σ.1 14).toNatClampNeg).toInt = (33 : Int32).toInt)) : 0 ≤ (σ.1 14).toInt ∧ (σ.1 14).toInt ≤ 41 := by
  have q1 : (1 : Int32).toInt = 1 := by decide +kernel
  have q33 : (33 : Int32).toInt = 33 := by decide +kernel
  have q45 : (45 : Int32).toInt = 45 := by decide +kernel
  have bb_hpre_0 := hpre_0.b
  have bb_hpre_4 := hpre_4.z.b
  have kk_hpre_0 := hpre_0.in
  refine ⟨?_, ?_⟩ <;> first | assumption | omega | (subst_vars; omega) | trivial
-- pre:isSign@206 @206
theorem v_first_44 (σ : RS) (x1 : Int32) (x2 : Int32) (x20 : Int32) (hpre_0 : TKI (σ.2.1 4) (σ.2.2.1 6) (σ.2.1 7) (σ.1 3) (σ.1 14)) (hpre_1 : 0 ≤ (σ.1 15).toInt) (hpre_2 : (σ.1 15).toInt ≤ 3510) (hpre_4 : PQ1 0 0 (σ.1 14) (σ.1 15) (σ.1 16) (σ.1 19) (σ.1 29) (σ.2.1 11) (σ.2.2.1 12) (σ.2.1 31) (σ.2.1 30) (σ.2.1 32) (σ.2.1 21) (σ.2.1 22) (σ.2.1 20) (σ.2.1 23) (σ.2.1 24) (σ.2.1 25) (σ.2.1 27) (σ.1 33) (σ.1 34) (σ.2.1 28)) (ex1 : x1 = (σ.2.1 4) (σ.1 14).toNatClampNeg) (tx1 : x1.toInt = ((σ.2.1 4) (σ.1 14).toNatClampNeg).toInt) (ex2 : x2 = (σ.1 19) - (1 : Int32)) (tx2 : x2.toInt = (σ.1 19).toInt - 1) (c3 : ¬ x1.toInt = 1) (c10 : ¬ x1.toInt = 4) (c18 : ¬ x1.toInt = 2) (c19 : ¬ x1.toInt = 3) (ex20 : x20 = (σ.2.1 22) x2.toNatClampNeg) (tx20 : x20.toInt = ((σ.2.1 22) ((σ.1 19).toInt - 1).toNat).toInt) (c21 : x20.toInt = 0) (hr52 : ¬ (((σ.2.1 4) (σ.1 14).toNatClampNeg).toInt = 5 ∧ ((σ.2.2.1 6) (σ.1 14).toNatClampNeg).toInt = (45 : Int32).toInt)) (hr58 : ¬ (((σ.2.1 4) (σ.1 14).toNatClampNeg).toInt = 5 ∧ ((σ.2.2.1 6) (σ.1 14).toNatClampNeg).toInt = (33 : Int32).toInt)) (hr60 : ¬ (((σ.2.1 4) (σ.1 14).toNatClampNeg).toInt = 5 ∧ ((σ.2.2.1 6) (σ.1 14).toNatClampNeg).toInt = (40 : Int32).toInt)) : 0 ≤ (σ.1 14).toInt ∧ (σ.1 14).toInt ≤ 41 := by
  have q1 : (1 : Int32).toInt = 1 := by decide +kernel
  have q33 : (33 : Int32).toInt = 33 := by decide +kernel
  have q40 : (40 : Int32).toInt = 40 := by decide +kernel
  have q45 : (45 : Int32).toInt = 45 := by decide +kernel
  have bb_hpre_0 := hpre_0.b
  have bb_hpre_4 := hpre_4.z.b
  have kk_hpre_0 := hpre_0.in
  refine ⟨?_, ?_⟩ <;> first | assumption | omega | (subst_vars; omega) | trivial
-- pre:misfit@275 @275
theorem v_first_45 (σ : RS) (x1 : Int32) (x2 : Int32) (x20 : Int32) (hpre_0 : TKI (σ.2.1 4) (σ.2.2.1 6) (σ.2.1 7) (σ.1 3) (σ.1 14)) (hpre_1 : 0 ≤ (σ.1 15).toInt) (hpre_2 : (σ.1 15).toInt ≤ 3510) (hpre_4 : PQ1 0 0 (σ.1 14) (σ.1 15) (σ.1 16) (σ.1 19) (σ.1 29) (σ.2.1 11) (σ.2.2.1 12) (σ.2.1 31) (σ.2.1 30) (σ.2.1 32) (σ.2.1 21) (σ.2.1 22) (σ.2.1 20) (σ.2.1 23) (σ.2.1 24) (σ.2.1 25) (σ.2.1 27) (σ.1 33) (σ.1 34) (σ.2.1 28)) (ex1 : x1 = (σ.2.1 4) (σ.1 14).toNatClampNeg) (tx1 : x1.toInt = ((σ.2.1 4) (σ.1 14).toNatClampNeg).toInt) (ex2 : x2 = (σ.1 19) - (1 : Int32)) (tx2 : x2.toInt = (σ.1 19).toInt - 1) (c3 : ¬ x1.toInt = 1) (c10 : ¬ x1.toInt = 4) (c18 : ¬ x1.toInt = 2) (c19 : ¬ x1.toInt = 3) (ex20 : x20 = (σ.2.1 22) x2.toNatClampNeg) (tx20 : x20.toInt = ((σ.2.1 22) ((σ.1 19).toInt - 1).toNat).toInt) (c21 : x20.toInt = 0) (hr52 : ¬ (((σ.2.1 4) (σ.1 14).toNatClampNeg).toInt = 5 ∧ ((σ.2.2.1 6) (σ.1 14).toNatClampNeg).toInt = (45 : Int32).toInt)) (hr58 : ¬ (((σ.2.1 4) (σ.1 14).toNatClampNeg).toInt = 5 ∧ ((σ.2.2.1 6) (σ.1 14).toNatClampNeg).toInt = (33 : Int32).toInt)) (hr60 : ¬ (((σ.2.1 4) (σ.1 14).toNatClampNeg).toInt = 5 ∧ ((σ.2.2.1 6) (σ.1 14).toNatClampNeg).toInt = (40 : Int32).toInt)) (hr62 : ¬ (((σ.2.1 4) (σ.1 14).toNatClampNeg).toInt = 5 ∧ ((σ.2.2.1 6) (σ.1 14).toNatClampNeg).toInt = (35 : Int32).toInt)) : 0 ≤ (σ.1 14).toInt ∧ (σ.1 14).toInt ≤ 41 := by
  have q1 : (1 : Int32).toInt = 1 := by decide +kernel
  have q33 : (33 : Int32).toInt = 33 := by decide +kernel
  have q35 : (35 : Int32).toInt = 35 := by decide +kernel
  have q40 : (40 : Int32).toInt = 40 := by decide +kernel
  have q45 : (45 : Int32).toInt = 45 := by decide +kernel
  have bb_hpre_0 := hpre_0.b
  have bb_hpre_4 := hpre_4.z.b
  have kk_hpre_0 := hpre_0.in
  refine ⟨?_, ?_⟩ <;> first | assumption | omega | (subst_vars; omega) | trivial
-- post @278
theorem v_first_46 (σ : RS) (x1 : Int32) (x2 : Int32) (x20 : Int32) (n65 : Int32) (hpre_0 : TKI (σ.2.1 4) (σ.2.2.1 6) (σ.2.1 7) (σ.1 3) (σ.1 14)) (hpre_1 : 0 ≤ (σ.1 15).toInt) (hpre_2 : (σ.1 15).toInt ≤ 3510) (hpre_3 : (σ.1 8).toInt = 0) (hpre_4 : PQ1 0 0 (σ.1 14) (σ.1 15) (σ.1 16) (σ.1 19) (σ.1 29) (σ.2.1 11) (σ.2.2.1 12) (σ.2.1 31) (σ.2.1 30) (σ.2.1 32) (σ.2.1 21) (σ.2.1 22) (σ.2.1 20) (σ.2.1 23) (σ.2.1 24) (σ.2.1 25) (σ.2.1 27) (σ.1 33) (σ.1 34) (σ.2.1 28)) (hpre_5 : (σ.1 17).toInt = 1) (ex1 : x1 = (σ.2.1 4) (σ.1 14).toNatClampNeg) (tx1 : x1.toInt = ((σ.2.1 4) (σ.1 14).toNatClampNeg).toInt) (ex2 : x2 = (σ.1 19) - (1 : Int32)) (tx2 : x2.toInt = (σ.1 19).toInt - 1) (c3 : ¬ x1.toInt = 1) (c10 : ¬ x1.toInt = 4) (c18 : ¬ x1.toInt = 2) (c19 : ¬ x1.toInt = 3) (ex20 : x20 = (σ.2.1 22) x2.toNatClampNeg) (tx20 : x20.toInt = ((σ.2.1 22) ((σ.1 19).toInt - 1).toNat).toInt) (c21 : x20.toInt = 0) (hr52 : ¬ (((σ.2.1 4) (σ.1 14).toNatClampNeg).toInt = 5 ∧ ((σ.2.2.1 6) (σ.1 14).toNatClampNeg).toInt = (45 : Int32).toInt)) (hr58 : ¬ (((σ.2.1 4) (σ.1 14).toNatClampNeg).toInt = 5 ∧ ((σ.2.2.1 6) (σ.1 14).toNatClampNeg).toInt = (33 : Int32).toInt)) (hr60 : ¬ (((σ.2.1 4) (σ.1 14).toNatClampNeg).toInt = 5 ∧ ((σ.2.2.1 6) (σ.1 14).toNatClampNeg).toInt = (40 : Int32).toInt)) (hr62 : ¬ (((σ.2.1 4) (σ.1 14).toNatClampNeg).toInt = 5 ∧ ((σ.2.2.1 6) (σ.1 14).toNatClampNeg).toInt = (35 : Int32).toInt)) (hr64 : (σ.1 8).toInt = 0 → n65.toInt = 2) : Keep (σ.1 15).toInt (σ.2.1 11) (σ.2.1 11) (σ.2.2.1 12) (σ.2.2.1 12) ∧ 0 ≤ n65.toInt ∧ n65.toInt ≤ 3 ∧ (n65.toInt = 0 → TKI (σ.2.1 4) (σ.2.2.1 6) (σ.2.1 7) (σ.1 3) (σ.1 14) ∧ LI (σ.1 17) (σ.1 14) (σ.1 15) (σ.1 16) (σ.1 19) (σ.1 29) (σ.2.1 11) (σ.2.2.1 12) (σ.2.1 31) (σ.2.1 30) (σ.2.1 32) (σ.2.1 21) (σ.2.1 22) (σ.2.1 20) (σ.2.1 23) (σ.2.1 24) (σ.2.1 25) (σ.2.1 27) (σ.1 33) (σ.1 34) (σ.2.1 28) ∧ 2 * (σ.1 14).toInt - (σ.1 19).toInt < 2 * (σ.1 14).toInt - (σ.1 19).toInt) := by
  have q1 : (1 : Int32).toInt = 1 := by decide +kernel
  have q33 : (33 : Int32).toInt = 33 := by decide +kernel
  have q35 : (35 : Int32).toInt = 35 := by decide +kernel
  have q40 : (40 : Int32).toInt = 40 := by decide +kernel
  have q45 : (45 : Int32).toInt = 45 := by decide +kernel
  have bb_hpre_0 := hpre_0.b
  have bb_hpre_4 := hpre_4.z.b
  have kk_hpre_0 := hpre_0.in
  exact ⟨Keep.rf, by omega, by omega, fun h => by omega⟩
-- nw@218 @218
theorem v_first_47 (σ : RS) (x1 : Int32) (x2 : Int32) (x20 : Int32) (x67 : Int32) (hpre_0 : TKI (σ.2.1 4) (σ.2.2.1 6) (σ.2.1 7) (σ.1 3) (σ.1 14)) (hpre_1 : 0 ≤ (σ.1 15).toInt) (hpre_2 : (σ.1 15).toInt ≤ 3510) (hpre_4 : PQ1 0 0 (σ.1 14) (σ.1 15) (σ.1 16) (σ.1 19) (σ.1 29) (σ.2.1 11) (σ.2.2.1 12) (σ.2.1 31) (σ.2.1 30) (σ.2.1 32) (σ.2.1 21) (σ.2.1 22) (σ.2.1 20) (σ.2.1 23) (σ.2.1 24) (σ.2.1 25) (σ.2.1 27) (σ.1 33) (σ.1 34) (σ.2.1 28)) (ex1 : x1 = (σ.2.1 4) (σ.1 14).toNatClampNeg) (tx1 : x1.toInt = ((σ.2.1 4) (σ.1 14).toNatClampNeg).toInt) (ex2 : x2 = (σ.1 19) - (1 : Int32)) (tx2 : x2.toInt = (σ.1 19).toInt - 1) (c3 : ¬ x1.toInt = 1) (c10 : ¬ x1.toInt = 4) (c18 : ¬ x1.toInt = 2) (c19 : ¬ x1.toInt = 3) (ex20 : x20 = (σ.2.1 22) x2.toNatClampNeg) (tx20 : x20.toInt = ((σ.2.1 22) ((σ.1 19).toInt - 1).toNat).toInt) (c21 : x20.toInt = 0) (hr52 : ¬ (((σ.2.1 4) (σ.1 14).toNatClampNeg).toInt = 5 ∧ ((σ.2.2.1 6) (σ.1 14).toNatClampNeg).toInt = (45 : Int32).toInt)) (hr58 : ¬ (((σ.2.1 4) (σ.1 14).toNatClampNeg).toInt = 5 ∧ ((σ.2.2.1 6) (σ.1 14).toNatClampNeg).toInt = (33 : Int32).toInt)) (hr60 : ¬ (((σ.2.1 4) (σ.1 14).toNatClampNeg).toInt = 5 ∧ ((σ.2.2.1 6) (σ.1 14).toNatClampNeg).toInt = (40 : Int32).toInt)) (hr62_0 : ((σ.2.1 4) (σ.1 14).toNatClampNeg).toInt = 5) (hr62_1 : ((σ.2.2.1 6) (σ.1 14).toNatClampNeg).toInt = (35 : Int32).toInt) (ex67 : x67 = (σ.1 14) + (1 : Int32)) : x67.toInt = (σ.1 14).toInt + 1 := by
  have q1 : (1 : Int32).toInt = 1 := by decide +kernel
  have q33 : (33 : Int32).toInt = 33 := by decide +kernel
  have q35 : (35 : Int32).toInt = 35 := by decide +kernel
  have q40 : (40 : Int32).toInt = 40 := by decide +kernel
  have q45 : (45 : Int32).toInt = 45 := by decide +kernel
  have bb_hpre_0 := hpre_0.b
  have bb_hpre_4 := hpre_4.z.b
  have kk_hpre_0 := hpre_0.in
  have w1 : (1 : Int32).toInt = 1 := by decide +kernel
  rw [ex67, z_add (by omega) (by omega)]; first | done | omega
-- in@230 @230
theorem v_first_48 (σ : RS) (x1 : Int32) (x2 : Int32) (x20 : Int32) (x67 : Int32) (hpre_0 : TKI (σ.2.1 4) (σ.2.2.1 6) (σ.2.1 7) (σ.1 3) (σ.1 14)) (hpre_1 : 0 ≤ (σ.1 15).toInt) (hpre_2 : (σ.1 15).toInt ≤ 3510) (hpre_4 : PQ1 0 0 (σ.1 14) (σ.1 15) (σ.1 16) (σ.1 19) (σ.1 29) (σ.2.1 11) (σ.2.2.1 12) (σ.2.1 31) (σ.2.1 30) (σ.2.1 32) (σ.2.1 21) (σ.2.1 22) (σ.2.1 20) (σ.2.1 23) (σ.2.1 24) (σ.2.1 25) (σ.2.1 27) (σ.1 33) (σ.1 34) (σ.2.1 28)) (ex1 : x1 = (σ.2.1 4) (σ.1 14).toNatClampNeg) (tx1 : x1.toInt = ((σ.2.1 4) (σ.1 14).toNatClampNeg).toInt) (ex2 : x2 = (σ.1 19) - (1 : Int32)) (tx2 : x2.toInt = (σ.1 19).toInt - 1) (c3 : ¬ x1.toInt = 1) (c10 : ¬ x1.toInt = 4) (c18 : ¬ x1.toInt = 2) (c19 : ¬ x1.toInt = 3) (ex20 : x20 = (σ.2.1 22) x2.toNatClampNeg) (tx20 : x20.toInt = ((σ.2.1 22) ((σ.1 19).toInt - 1).toNat).toInt) (c21 : x20.toInt = 0) (hr52 : ¬ (((σ.2.1 4) (σ.1 14).toNatClampNeg).toInt = 5 ∧ ((σ.2.2.1 6) (σ.1 14).toNatClampNeg).toInt = (45 : Int32).toInt)) (hr58 : ¬ (((σ.2.1 4) (σ.1 14).toNatClampNeg).toInt = 5 ∧ ((σ.2.2.1 6) (σ.1 14).toNatClampNeg).toInt = (33 : Int32).toInt)) (hr60 : ¬ (((σ.2.1 4) (σ.1 14).toNatClampNeg).toInt = 5 ∧ ((σ.2.2.1 6) (σ.1 14).toNatClampNeg).toInt = (40 : Int32).toInt)) (hr62_0 : ((σ.2.1 4) (σ.1 14).toNatClampNeg).toInt = 5) (hr62_1 : ((σ.2.2.1 6) (σ.1 14).toNatClampNeg).toInt = (35 : Int32).toInt) (ex67 : x67 = (σ.1 14) + (1 : Int32)) (tx67 : x67.toInt = (σ.1 14).toInt + 1) : vp_in x67 42 := by
  have q1 : (1 : Int32).toInt = 1 := by decide +kernel
  have q33 : (33 : Int32).toInt = 33 := by decide +kernel
  have q35 : (35 : Int32).toInt = 35 := by decide +kernel
  have q40 : (40 : Int32).toInt = 40 := by decide +kernel
  have q45 : (45 : Int32).toInt = 45 := by decide +kernel
  have bb_hpre_0 := hpre_0.b
  have bb_hpre_4 := hpre_4.z.b
  have kk_hpre_0 := hpre_0.in
  exact vp_in_iff.mpr ⟨by omega, by omega⟩
-- in@251 @251
theorem v_first_49 (σ : RS) (x1 : Int32) (x2 : Int32) (x20 : Int32) (x67 : Int32) (x68 : Int32) (hpre_0 : TKI (σ.2.1 4) (σ.2.2.1 6) (σ.2.1 7) (σ.1 3) (σ.1 14)) (hpre_1 : 0 ≤ (σ.1 15).toInt) (hpre_2 : (σ.1 15).toInt ≤ 3510) (hpre_4 : PQ1 0 0 (σ.1 14) (σ.1 15) (σ.1 16) (σ.1 19) (σ.1 29) (σ.2.1 11) (σ.2.2.1 12) (σ.2.1 31) (σ.2.1 30) (σ.2.1 32) (σ.2.1 21) (σ.2.1 22) (σ.2.1 20) (σ.2.1 23) (σ.2.1 24) (σ.2.1 25) (σ.2.1 27) (σ.1 33) (σ.1 34) (σ.2.1 28)) (ex1 : x1 = (σ.2.1 4) (σ.1 14).toNatClampNeg) (tx1 : x1.toInt = ((σ.2.1 4) (σ.1 14).toNatClampNeg).toInt) (ex2 : x2 = (σ.1 19) - (1 : Int32)) (tx2 : x2.toInt = (σ.1 19).toInt - 1) (c3 : ¬ x1.toInt = 1) (c10 : ¬ x1.toInt = 4) (c18 : ¬ x1.toInt = 2) (c19 : ¬ x1.toInt = 3) (ex20 : x20 = (σ.2.1 22) x2.toNatClampNeg) (tx20 : x20.toInt = ((σ.2.1 22) ((σ.1 19).toInt - 1).toNat).toInt) (c21 : x20.toInt = 0) (hr52 : ¬ (((σ.2.1 4) (σ.1 14).toNatClampNeg).toInt = 5 ∧ ((σ.2.2.1 6) (σ.1 14).toNatClampNeg).toInt = (45 : Int32).toInt)) (hr58 : ¬ (((σ.2.1 4) (σ.1 14).toNatClampNeg).toInt = 5 ∧ ((σ.2.2.1 6) (σ.1 14).toNatClampNeg).toInt = (33 : Int32).toInt)) (hr60 : ¬ (((σ.2.1 4) (σ.1 14).toNatClampNeg).toInt = 5 ∧ ((σ.2.2.1 6) (σ.1 14).toNatClampNeg).toInt = (40 : Int32).toInt)) (hr62_0 : ((σ.2.1 4) (σ.1 14).toNatClampNeg).toInt = 5) (hr62_1 : ((σ.2.2.1 6) (σ.1 14).toNatClampNeg).toInt = (35 : Int32).toInt) (ex67 : x67 = (σ.1 14) + (1 : Int32)) (tx67 : x67.toInt = (σ.1 14).toInt + 1) (ex68 : x68 = (σ.2.1 4) x67.toNatClampNeg) (tx68 : x68.toInt = ((σ.2.1 4) ((σ.1 14).toInt + 1).toNat).toInt) (c69 : x68.toInt = 3) : vp_in x67 42 := by
  have q1 : (1 : Int32).toInt = 1 := by decide +kernel
  have q33 : (33 : Int32).toInt = 33 := by decide +kernel
  have q35 : (35 : Int32).toInt = 35 := by decide +kernel
  have q40 : (40 : Int32).toInt = 40 := by decide +kernel
  have q45 : (45 : Int32).toInt = 45 := by decide +kernel
  have bb_hpre_0 := hpre_0.b
  have bb_hpre_4 := hpre_4.z.b
  have kk_hpre_0 := hpre_0.in
  exact vp_in_iff.mpr ⟨by omega, by omega⟩
-- pre:emit@252 @252
theorem v_first_50 (σ : RS) (x1 : Int32) (x2 : Int32) (x20 : Int32) (x67 : Int32) (x68 : Int32) (x70 : Int64) (hpre_0 : TKI (σ.2.1 4) (σ.2.2.1 6) (σ.2.1 7) (σ.1 3) (σ.1 14)) (hpre_1 : 0 ≤ (σ.1 15).toInt) (hpre_2 : (σ.1 15).toInt ≤ 3510) (hpre_4 : PQ1 0 0 (σ.1 14) (σ.1 15) (σ.1 16) (σ.1 19) (σ.1 29) (σ.2.1 11) (σ.2.2.1 12) (σ.2.1 31) (σ.2.1 30) (σ.2.1 32) (σ.2.1 21) (σ.2.1 22) (σ.2.1 20) (σ.2.1 23) (σ.2.1 24) (σ.2.1 25) (σ.2.1 27) (σ.1 33) (σ.1 34) (σ.2.1 28)) (ex1 : x1 = (σ.2.1 4) (σ.1 14).toNatClampNeg) (tx1 : x1.toInt = ((σ.2.1 4) (σ.1 14).toNatClampNeg).toInt) (ex2 : x2 = (σ.1 19) - (1 : Int32)) (tx2 : x2.toInt = (σ.1 19).toInt - 1) (c3 : ¬ x1.toInt = 1) (c10 : ¬ x1.toInt = 4) (c18 : ¬ x1.toInt = 2) (c19 : ¬ x1.toInt = 3) (ex20 : x20 = (σ.2.1 22) x2.toNatClampNeg) (tx20 : x20.toInt = ((σ.2.1 22) ((σ.1 19).toInt - 1).toNat).toInt) (c21 : x20.toInt = 0) (hr52 : ¬ (((σ.2.1 4) (σ.1 14).toNatClampNeg).toInt = 5 ∧ ((σ.2.2.1 6) (σ.1 14).toNatClampNeg).toInt = (45 : Int32).toInt)) (hr58 : ¬ (((σ.2.1 4) (σ.1 14).toNatClampNeg).toInt = 5 ∧ ((σ.2.2.1 6) (σ.1 14).toNatClampNeg).toInt = (33 : Int32).toInt)) (hr60 : ¬ (((σ.2.1 4) (σ.1 14).toNatClampNeg).toInt = 5 ∧ ((σ.2.2.1 6) (σ.1 14).toNatClampNeg).toInt = (40 : Int32).toInt)) (hr62_0 : ((σ.2.1 4) (σ.1 14).toNatClampNeg).toInt = 5) (hr62_1 : ((σ.2.2.1 6) (σ.1 14).toNatClampNeg).toInt = (35 : Int32).toInt) (ex67 : x67 = (σ.1 14) + (1 : Int32)) (tx67 : x67.toInt = (σ.1 14).toInt + 1) (ex68 : x68 = (σ.2.1 4) x67.toNatClampNeg) (tx68 : x68.toInt = ((σ.2.1 4) ((σ.1 14).toInt + 1).toNat).toInt) (c69 : x68.toInt = 3) (ex70 : x70 = (σ.2.2.1 6) x67.toNatClampNeg) (tx70 : x70.toInt = ((σ.2.2.1 6) ((σ.1 14).toInt + 1).toNat).toInt) : 0 ≤ (σ.1 15).toInt ∧ 0 ≤ (σ.1 16).toInt ∧ (σ.1 15).toInt + (σ.1 16).toInt < 3600 := by
  have q1 : (1 : Int32).toInt = 1 := by decide +kernel
  have q33 : (33 : Int32).toInt = 33 := by decide +kernel
  have q35 : (35 : Int32).toInt = 35 := by decide +kernel
  have q40 : (40 : Int32).toInt = 40 := by decide +kernel
  have q45 : (45 : Int32).toInt = 45 := by decide +kernel
  have bb_hpre_0 := hpre_0.b
  have bb_hpre_4 := hpre_4.z.b
  have kk_hpre_0 := hpre_0.in
  refine ⟨?_, ?_, ?_⟩ <;> first | assumption | omega | (subst_vars; omega) | trivial
-- nw@262 @262
theorem v_first_51 (σ : RS) (x1 : Int32) (x2 : Int32) (x20 : Int32) (x67 : Int32) (x68 : Int32) (x70 : Int64) (n72 : Int32) (r71 : Int32) (x73 : Int32) (hpre_0 : TKI (σ.2.1 4) (σ.2.2.1 6) (σ.2.1 7) (σ.1 3) (σ.1 14)) (hpre_1 : 0 ≤ (σ.1 15).toInt) (hpre_2 : (σ.1 15).toInt ≤ 3510) (hpre_4 : PQ1 0 0 (σ.1 14) (σ.1 15) (σ.1 16) (σ.1 19) (σ.1 29) (σ.2.1 11) (σ.2.2.1 12) (σ.2.1 31) (σ.2.1 30) (σ.2.1 32) (σ.2.1 21) (σ.2.1 22) (σ.2.1 20) (σ.2.1 23) (σ.2.1 24) (σ.2.1 25) (σ.2.1 27) (σ.1 33) (σ.1 34) (σ.2.1 28)) (ex1 : x1 = (σ.2.1 4) (σ.1 14).toNatClampNeg) (tx1 : x1.toInt = ((σ.2.1 4) (σ.1 14).toNatClampNeg).toInt) (ex2 : x2 = (σ.1 19) - (1 : Int32)) (tx2 : x2.toInt = (σ.1 19).toInt - 1) (c3 : ¬ x1.toInt = 1) (c10 : ¬ x1.toInt = 4) (c18 : ¬ x1.toInt = 2) (c19 : ¬ x1.toInt = 3) (ex20 : x20 = (σ.2.1 22) x2.toNatClampNeg) (tx20 : x20.toInt = ((σ.2.1 22) ((σ.1 19).toInt - 1).toNat).toInt) (c21 : x20.toInt = 0) (hr52 : ¬ (((σ.2.1 4) (σ.1 14).toNatClampNeg).toInt = 5 ∧ ((σ.2.2.1 6) (σ.1 14).toNatClampNeg).toInt = (45 : Int32).toInt)) (hr58 : ¬ (((σ.2.1 4) (σ.1 14).toNatClampNeg).toInt = 5 ∧ ((σ.2.2.1 6) (σ.1 14).toNatClampNeg).toInt = (33 : Int32).toInt)) (hr60 : ¬ (((σ.2.1 4) (σ.1 14).toNatClampNeg).toInt = 5 ∧ ((σ.2.2.1 6) (σ.1 14).toNatClampNeg).toInt = (40 : Int32).toInt)) (hr62_0 : ((σ.2.1 4) (σ.1 14).toNatClampNeg).toInt = 5) (hr62_1 : ((σ.2.2.1 6) (σ.1 14).toNatClampNeg).toInt = (35 : Int32).toInt) (ex67 : x67 = (σ.1 14) + (1 : Int32)) (tx67 : x67.toInt = (σ.1 14).toInt + 1) (ex68 : x68 = (σ.2.1 4) x67.toNatClampNeg) (tx68 : x68.toInt = ((σ.2.1 4) ((σ.1 14).toInt + 1).toNat).toInt) (c69 : x68.toInt = 3) (ex70 : x70 = (σ.2.2.1 6) x67.toNatClampNeg) (tx70 : x70.toInt = ((σ.2.2.1 6) ((σ.1 14).toInt + 1).toNat).toInt) (hr71_0 : n72.toInt = (σ.1 16).toInt + 1) (hr71_1 : r71.toInt = (σ.1 15).toInt + (σ.1 16).toInt) (ex73 : x73 = x67 + (1 : Int32)) : x73.toInt = x67.toInt + 1 := by
  have q1 : (1 : Int32).toInt = 1 := by decide +kernel
  have q33 : (33 : Int32).toInt = 33 := by decide +kernel
  have q35 : (35 : Int32).toInt = 35 := by decide +kernel
  have q40 : (40 : Int32).toInt = 40 := by decide +kernel
  have q45 : (45 : Int32).toInt = 45 := by decide +kernel
  have bb_hpre_0 := hpre_0.b
  have bb_hpre_4 := hpre_4.z.b
  have kk_hpre_0 := hpre_0.in
  have w1 : (1 : Int32).toInt = 1 := by decide +kernel
  rw [ex73, z_add (by omega) (by omega)]; first | done | omega
-- pre:ready@268 @268
theorem v_first_52 (σ : RS) (x1 : Int32) (x2 : Int32) (x20 : Int32) (x67 : Int32) (x68 : Int32) (x70 : Int64) (n72 : Int32) (r71 : Int32) (x73 : Int32) (hpre_0 : TKI (σ.2.1 4) (σ.2.2.1 6) (σ.2.1 7) (σ.1 3) (σ.1 14)) (hpre_1 : 0 ≤ (σ.1 15).toInt) (hpre_2 : (σ.1 15).toInt ≤ 3510) (hpre_4 : PQ1 0 0 (σ.1 14) (σ.1 15) (σ.1 16) (σ.1 19) (σ.1 29) (σ.2.1 11) (σ.2.2.1 12) (σ.2.1 31) (σ.2.1 30) (σ.2.1 32) (σ.2.1 21) (σ.2.1 22) (σ.2.1 20) (σ.2.1 23) (σ.2.1 24) (σ.2.1 25) (σ.2.1 27) (σ.1 33) (σ.1 34) (σ.2.1 28)) (ex1 : x1 = (σ.2.1 4) (σ.1 14).toNatClampNeg) (tx1 : x1.toInt = ((σ.2.1 4) (σ.1 14).toNatClampNeg).toInt) (ex2 : x2 = (σ.1 19) - (1 : Int32)) (tx2 : x2.toInt = (σ.1 19).toInt - 1) (c3 : ¬ x1.toInt = 1) (c10 : ¬ x1.toInt = 4) (c18 : ¬ x1.toInt = 2) (c19 : ¬ x1.toInt = 3) (ex20 : x20 = (σ.2.1 22) x2.toNatClampNeg) (tx20 : x20.toInt = ((σ.2.1 22) ((σ.1 19).toInt - 1).toNat).toInt) (c21 : x20.toInt = 0) (hr52 : ¬ (((σ.2.1 4) (σ.1 14).toNatClampNeg).toInt = 5 ∧ ((σ.2.2.1 6) (σ.1 14).toNatClampNeg).toInt = (45 : Int32).toInt)) (hr58 : ¬ (((σ.2.1 4) (σ.1 14).toNatClampNeg).toInt = 5 ∧ ((σ.2.2.1 6) (σ.1 14).toNatClampNeg).toInt = (33 : Int32).toInt)) (hr60 : ¬ (((σ.2.1 4) (σ.1 14).toNatClampNeg).toInt = 5 ∧ ((σ.2.2.1 6) (σ.1 14).toNatClampNeg).toInt = (40 : Int32).toInt)) (hr62_0 : ((σ.2.1 4) (σ.1 14).toNatClampNeg).toInt = 5) (hr62_1 : ((σ.2.2.1 6) (σ.1 14).toNatClampNeg).toInt = (35 : Int32).toInt) (ex67 : x67 = (σ.1 14) + (1 : Int32)) (tx67 : x67.toInt = (σ.1 14).toInt + 1) (ex68 : x68 = (σ.2.1 4) x67.toNatClampNeg) (tx68 : x68.toInt = ((σ.2.1 4) ((σ.1 14).toInt + 1).toNat).toInt) (c69 : x68.toInt = 3) (ex70 : x70 = (σ.2.2.1 6) x67.toNatClampNeg) (tx70 : x70.toInt = ((σ.2.2.1 6) ((σ.1 14).toInt + 1).toNat).toInt) (hr71_0 : n72.toInt = (σ.1 16).toInt + 1) (hr71_1 : r71.toInt = (σ.1 15).toInt + (σ.1 16).toInt) (ex73 : x73 = x67 + (1 : Int32)) (tx73 : x73.toInt = x67.toInt + 1) : 1 ≤ (σ.1 19).toInt ∧ (σ.1 19).toInt ≤ 8 ∧ ((1 : Int32) = 0 ∨ (1 : Int32) = 1) := by
  have q1 : (1 : Int32).toInt = 1 := by decide +kernel
  have q33 : (33 : Int32).toInt = 33 := by decide +kernel
  have q35 : (35 : Int32).toInt = 35 := by decide +kernel
  have q40 : (40 : Int32).toInt = 40 := by decide +kernel
  have q45 : (45 : Int32).toInt = 45 := by decide +kernel
  have bb_hpre_0 := hpre_0.b
  have bb_hpre_4 := hpre_4.z.b
  have kk_hpre_0 := hpre_0.in
  refine ⟨?_, ?_, ?_⟩ <;> first | assumption | omega | (subst_vars; omega) | trivial
-- post @278
theorem v_first_53 (σ : RS) (x1 : Int32) (x2 : Int32) (x20 : Int32) (x67 : Int32) (x68 : Int32) (x70 : Int64) (n72 : Int32) (r71 : Int32) (x73 : Int32) (hpre_0 : TKI (σ.2.1 4) (σ.2.2.1 6) (σ.2.1 7) (σ.1 3) (σ.1 14)) (hpre_1 : 0 ≤ (σ.1 15).toInt) (hpre_2 : (σ.1 15).toInt ≤ 3510) (hpre_3 : (σ.1 8).toInt = 0) (hpre_4 : PQ1 0 0 (σ.1 14) (σ.1 15) (σ.1 16) (σ.1 19) (σ.1 29) (σ.2.1 11) (σ.2.2.1 12) (σ.2.1 31) (σ.2.1 30) (σ.2.1 32) (σ.2.1 21) (σ.2.1 22) (σ.2.1 20) (σ.2.1 23) (σ.2.1 24) (σ.2.1 25) (σ.2.1 27) (σ.1 33) (σ.1 34) (σ.2.1 28)) (ex1 : x1 = (σ.2.1 4) (σ.1 14).toNatClampNeg) (tx1 : x1.toInt = ((σ.2.1 4) (σ.1 14).toNatClampNeg).toInt) (ex2 : x2 = (σ.1 19) - (1 : Int32)) (tx2 : x2.toInt = (σ.1 19).toInt - 1) (c3 : ¬ x1.toInt = 1) (c10 : ¬ x1.toInt = 4) (c18 : ¬ x1.toInt = 2) (c19 : ¬ x1.toInt = 3) (ex20 : x20 = (σ.2.1 22) x2.toNatClampNeg) (tx20 : x20.toInt = ((σ.2.1 22) ((σ.1 19).toInt - 1).toNat).toInt) (c21 : x20.toInt = 0) (hr52 : ¬ (((σ.2.1 4) (σ.1 14).toNatClampNeg).toInt = 5 ∧ ((σ.2.2.1 6) (σ.1 14).toNatClampNeg).toInt = (45 : Int32).toInt)) (hr58 : ¬ (((σ.2.1 4) (σ.1 14).toNatClampNeg).toInt = 5 ∧ ((σ.2.2.1 6) (σ.1 14).toNatClampNeg).toInt = (33 : Int32).toInt)) (hr60 : ¬ (((σ.2.1 4) (σ.1 14).toNatClampNeg).toInt = 5 ∧ ((σ.2.2.1 6) (σ.1 14).toNatClampNeg).toInt = (40 : Int32).toInt)) (hr62_0 : ((σ.2.1 4) (σ.1 14).toNatClampNeg).toInt = 5) (hr62_1 : ((σ.2.2.1 6) (σ.1 14).toNatClampNeg).toInt = (35 : Int32).toInt) (ex67 : x67 = (σ.1 14) + (1 : Int32)) (tx67 : x67.toInt = (σ.1 14).toInt + 1) (ex68 : x68 = (σ.2.1 4) x67.toNatClampNeg) (tx68 : x68.toInt = ((σ.2.1 4) ((σ.1 14).toInt + 1).toNat).toInt) (c69 : x68.toInt = 3) (ex70 : x70 = (σ.2.2.1 6) x67.toNatClampNeg) (tx70 : x70.toInt = ((σ.2.2.1 6) ((σ.1 14).toInt + 1).toNat).toInt) (hr71_0 : n72.toInt = (σ.1 16).toInt + 1) (hr71_1 : r71.toInt = (σ.1 15).toInt + (σ.1 16).toInt) (ex73 : x73 = x67 + (1 : Int32)) (tx73 : x73.toInt = x67.toInt + 1) : Keep (σ.1 15).toInt (σ.2.1 11) (upd (σ.2.1 11) ((σ.1 15).toInt + (σ.1 16).toInt).toNat (9 : Int32)) (σ.2.2.1 12) (vp_updL (σ.2.2.1 12) ((σ.1 15).toInt + (σ.1 16).toInt).toNat x70) ∧ 0 ≤ (σ.1 8).toInt ∧ (σ.1 8).toInt ≤ 3 ∧ ((σ.1 8).toInt = 0 → TKI (σ.2.1 4) (σ.2.2.1 6) (σ.2.1 7) (σ.1 3) x73 ∧ LI (0 : Int32) x73 (σ.1 15) n72 (σ.1 19) (σ.1 29) (upd (σ.2.1 11) ((σ.1 15).toInt + (σ.1 16).toInt).toNat (9 : Int32)) (vp_updL (σ.2.2.1 12) ((σ.1 15).toInt + (σ.1 16).toInt).toNat x70) (σ.2.1 31) (σ.2.1 30) (σ.2.1 32) (σ.2.1 21) (σ.2.1 22) (σ.2.1 20) (σ.2.1 23) (σ.2.1 24) (σ.2.1 25) (σ.2.1 27) (σ.1 33) (σ.1 34) (upd (σ.2.1 28) ((σ.1 19).toInt - 1).toNat (1 : Int32)) ∧ 2 * (σ.1 14).toInt - (σ.1 19).toInt < 2 * x73.toInt - (σ.1 19).toInt) := by
  have q0 : (0 : Int32).toInt = 0 := by decide +kernel
  have q1 : (1 : Int32).toInt = 1 := by decide +kernel
  have q9 : (9 : Int32).toInt = 9 := by decide +kernel
  have q33 : (33 : Int32).toInt = 33 := by decide +kernel
  have q35 : (35 : Int32).toInt = 35 := by decide +kernel
  have q40 : (40 : Int32).toInt = 40 := by decide +kernel
  have q45 : (45 : Int32).toInt = 45 := by decide +kernel
  have bb_hpre_0 := hpre_0.b
  have bb_hpre_4 := hpre_4.z.b
  have kk_hpre_0 := hpre_0.in
  have k := hpre_0.in (by omega)
  have k2 := (hpre_0.up (nx' := x67) (by omega) (by omega)).in (by rw [clampN, tx67]; omega)
  exact ⟨Keep.rf.em (by omega), by omega, by omega, fun _ => ⟨hpre_0.up (by omega) (by omega), Or.inr ⟨q0, (PQ_load hpre_4 hpre_2 (by omega) (by omega) (by omega) (by omega) (by omega)).2 (Or.inl q9)⟩, by omega⟩⟩
-- pre:misfit@236 @236
theorem v_first_54 (σ : RS) (x1 : Int32) (x2 : Int32) (x20 : Int32) (x67 : Int32) (x68 : Int32) (hpre_0 : TKI (σ.2.1 4) (σ.2.2.1 6) (σ.2.1 7) (σ.1 3) (σ.1 14)) (hpre_1 : 0 ≤ (σ.1 15).toInt) (hpre_2 : (σ.1 15).toInt ≤ 3510) (hpre_4 : PQ1 0 0 (σ.1 14) (σ.1 15) (σ.1 16) (σ.1 19) (σ.1 29) (σ.2.1 11) (σ.2.2.1 12) (σ.2.1 31) (σ.2.1 30) (σ.2.1 32) (σ.2.1 21) (σ.2.1 22) (σ.2.1 20) (σ.2.1 23) (σ.2.1 24) (σ.2.1 25) (σ.2.1 27) (σ.1 33) (σ.1 34) (σ.2.1 28)) (ex1 : x1 = (σ.2.1 4) (σ.1 14).toNatClampNeg) (tx1 : x1.toInt = ((σ.2.1 4) (σ.1 14).toNatClampNeg).toInt) (ex2 : x2 = (σ.1 19) - (1 : Int32)) (tx2 : x2.toInt = (σ.1 19).toInt - 1) (c3 : ¬ x1.toInt = 1) (c10 : ¬ x1.toInt = 4) (c18 : ¬ x1.toInt = 2) (c19 : ¬ x1.toInt = 3) (ex20 : x20 = (σ.2.1 22) x2.toNatClampNeg) (tx20 : x20.toInt = ((σ.2.1 22) ((σ.1 19).toInt - 1).toNat).toInt) (c21 : x20.toInt = 0) (hr52 : ¬ (((σ.2.1 4) (σ.1 14).toNatClampNeg).toInt = 5 ∧ ((σ.2.2.1 6) (σ.1 14).toNatClampNeg).toInt = (45 : Int32).toInt)) (hr58 : ¬ (((σ.2.1 4) (σ.1 14).toNatClampNeg).toInt = 5 ∧ ((σ.2.2.1 6) (σ.1 14).toNatClampNeg).toInt = (33 : Int32).toInt)) (hr60 : ¬ (((σ.2.1 4) (σ.1 14).toNatClampNeg).toInt = 5 ∧ ((σ.2.2.1 6) (σ.1 14).toNatClampNeg).toInt = (40 : Int32).toInt)) (hr62_0 : ((σ.2.1 4) (σ.1 14).toNatClampNeg).toInt = 5) (hr62_1 : ((σ.2.2.1 6) (σ.1 14).toNatClampNeg).toInt = (35 : Int32).toInt) (ex67 : x67 = (σ.1 14) + (1 : Int32)) (tx67 : x67.toInt = (σ.1 14).toInt + 1) (ex68 : x68 = (σ.2.1 4) x67.toNatClampNeg) (tx68 : x68.toInt = ((σ.2.1 4) ((σ.1 14).toInt + 1).toNat).toInt) (c69 : ¬ x68.toInt = 3) : 0 ≤ x67.toInt ∧ x67.toInt ≤ 41 := by
  have q1 : (1 : Int32).toInt = 1 := by decide +kernel
  have q33 : (33 : Int32).toInt = 33 := by decide +kernel
  have q35 : (35 : Int32).toInt = 35 := by decide +kernel
  have q40 : (40 : Int32).toInt = 40 := by decide +kernel
  have q45 : (45 : Int32).toInt = 45 := by decide +kernel
  have bb_hpre_0 := hpre_0.b
  have bb_hpre_4 := hpre_4.z.b
  have kk_hpre_0 := hpre_0.in
  refine ⟨?_, ?_⟩ <;> first | assumption | omega | (subst_vars; omega) | trivial
-- post @239
theorem v_first_55 (σ : RS) (x1 : Int32) (x2 : Int32) (x20 : Int32) (x67 : Int32) (x68 : Int32) (n76 : Int32) (hpre_0 : TKI (σ.2.1 4) (σ.2.2.1 6) (σ.2.1 7) (σ.1 3) (σ.1 14)) (hpre_1 : 0 ≤ (σ.1 15).toInt) (hpre_2 : (σ.1 15).toInt ≤ 3510) (hpre_3 : (σ.1 8).toInt = 0) (hpre_4 : PQ1 0 0 (σ.1 14) (σ.1 15) (σ.1 16) (σ.1 19) (σ.1 29) (σ.2.1 11) (σ.2.2.1 12) (σ.2.1 31) (σ.2.1 30) (σ.2.1 32) (σ.2.1 21) (σ.2.1 22) (σ.2.1 20) (σ.2.1 23) (σ.2.1 24) (σ.2.1 25) (σ.2.1 27) (σ.1 33) (σ.1 34) (σ.2.1 28)) (hpre_5 : (σ.1 17).toInt = 1) (ex1 : x1 = (σ.2.1 4) (σ.1 14).toNatClampNeg) (tx1 : x1.toInt = ((σ.2.1 4) (σ.1 14).toNatClampNeg).toInt) (ex2 : x2 = (σ.1 19) - (1 : Int32)) (tx2 : x2.toInt = (σ.1 19).toInt - 1) (c3 : ¬ x1.toInt = 1) (c10 : ¬ x1.toInt = 4) (c18 : ¬ x1.toInt = 2) (c19 : ¬ x1.toInt = 3) (ex20 : x20 = (σ.2.1 22) x2.toNatClampNeg) (tx20 : x20.toInt = ((σ.2.1 22) ((σ.1 19).toInt - 1).toNat).toInt) (c21 : x20.toInt = 0) (hr52 : ¬ (((σ.2.1 4) (σ.1 14).toNatClampNeg).toInt = 5 ∧ ((σ.2.2.1 6) (σ.1 14).toNatClampNeg).toInt = (45 : Int32).toInt)) (hr58 : ¬ (((σ.2.1 4) (σ.1 14).toNatClampNeg).toInt = 5 ∧ ((σ.2.2.1 6) (σ.1 14).toNatClampNeg).toInt = (33 : Int32).toInt)) (hr60 : ¬ (((σ.2.1 4) (σ.1 14).toNatClampNeg).toInt = 5 ∧ ((σ.2.2.1 6) (σ.1 14).toNatClampNeg).toInt = (40 : Int32).toInt)) (hr62_0 : ((σ.2.1 4) (σ.1 14).toNatClampNeg).toInt = 5) (hr62_1 : ((σ.2.2.1 6) (σ.1 14).toNatClampNeg).toInt = (35 : Int32).toInt) (ex67 : x67 = (σ.1 14) + (1 : Int32)) (tx67 : x67.toInt = (σ.1 14).toInt + 1) (ex68 : x68 = (σ.2.1 4) x67.toNatClampNeg) (tx68 : x68.toInt = ((σ.2.1 4) ((σ.1 14).toInt + 1).toNat).toInt) (c69 : ¬ x68.toInt = 3) (hr75 : (σ.1 8).toInt = 0 → n76.toInt = 2) : Keep (σ.1 15).toInt (σ.2.1 11) (σ.2.1 11) (σ.2.2.1 12) (σ.2.2.1 12) ∧ 0 ≤ n76.toInt ∧ n76.toInt ≤ 3 ∧ (n76.toInt = 0 → TKI (σ.2.1 4) (σ.2.2.1 6) (σ.2.1 7) (σ.1 3) x67 ∧ LI (σ.1 17) x67 (σ.1 15) (σ.1 16) (σ.1 19) (σ.1 29) (σ.2.1 11) (σ.2.2.1 12) (σ.2.1 31) (σ.2.1 30) (σ.2.1 32) (σ.2.1 21) (σ.2.1 22) (σ.2.1 20) (σ.2.1 23) (σ.2.1 24) (σ.2.1 25) (σ.2.1 27) (σ.1 33) (σ.1 34) (σ.2.1 28) ∧ 2 * (σ.1 14).toInt - (σ.1 19).toInt < 2 * x67.toInt - (σ.1 19).toInt) := by
  have q1 : (1 : Int32).toInt = 1 := by decide +kernel
  have q33 : (33 : Int32).toInt = 33 := by decide +kernel
  have q35 : (35 : Int32).toInt = 35 := by decide +kernel
  have q40 : (40 : Int32).toInt = 40 := by decide +kernel
  have q45 : (45 : Int32).toInt = 45 := by decide +kernel
  have bb_hpre_0 := hpre_0.b
  have bb_hpre_4 := hpre_4.z.b
  have kk_hpre_0 := hpre_0.in
  exact ⟨Keep.rf, by omega, by omega, fun h => by omega⟩
-- nw@191 @191
theorem v_first_56 (σ : RS) (x1 : Int32) (x2 : Int32) (x20 : Int32) (x78 : Int32) (hpre_0 : TKI (σ.2.1 4) (σ.2.2.1 6) (σ.2.1 7) (σ.1 3) (σ.1 14)) (hpre_1 : 0 ≤ (σ.1 15).toInt) (hpre_2 : (σ.1 15).toInt ≤ 3510) (hpre_4 : PQ1 0 0 (σ.1 14) (σ.1 15) (σ.1 16) (σ.1 19) (σ.1 29) (σ.2.1 11) (σ.2.2.1 12) (σ.2.1 31) (σ.2.1 30) (σ.2.1 32) (σ.2.1 21) (σ.2.1 22) (σ.2.1 20) (σ.2.1 23) (σ.2.1 24) (σ.2.1 25) (σ.2.1 27) (σ.1 33) (σ.1 34) (σ.2.1 28)) (ex1 : x1 = (σ.2.1 4) (σ.1 14).toNatClampNeg) (tx1 : x1.toInt = ((σ.2.1 4) (σ.1 14).toNatClampNeg).toInt) (ex2 : x2 = (σ.1 19) - (1 : Int32)) (tx2 : x2.toInt = (σ.1 19).toInt - 1) (c3 : ¬ x1.toInt = 1) (c10 : ¬ x1.toInt = 4) (c18 : ¬ x1.toInt = 2) (c19 : ¬ x1.toInt = 3) (ex20 : x20 = (σ.2.1 22) x2.toNatClampNeg) (tx20 : x20.toInt = ((σ.2.1 22) ((σ.1 19).toInt - 1).toNat).toInt) (c21 : x20.toInt = 0) (hr52 : ¬ (((σ.2.1 4) (σ.1 14).toNatClampNeg).toInt = 5 ∧ ((σ.2.2.1 6) (σ.1 14).toNatClampNeg).toInt = (45 : Int32).toInt)) (hr58 : ¬ (((σ.2.1 4) (σ.1 14).toNatClampNeg).toInt = 5 ∧ ((σ.2.2.1 6) (σ.1 14).toNatClampNeg).toInt = (33 : Int32).toInt)) (hr60_0 : ((σ.2.1 4) (σ.1 14).toNatClampNeg).toInt = 5) (hr60_1 : ((σ.2.2.1 6) (σ.1 14).toNatClampNeg).toInt = (40 : Int32).toInt) (ex78 : x78 = (σ.1 14) + (1 : Int32)) : x78.toInt = (σ.1 14).toInt + 1 := by
  have q1 : (1 : Int32).toInt = 1 := by decide +kernel
  have q33 : (33 : Int32).toInt = 33 := by decide +kernel
  have q40 : (40 : Int32).toInt = 40 := by decide +kernel
  have q45 : (45 : Int32).toInt = 45 := by decide +kernel
  have bb_hpre_0 := hpre_0.b
  have bb_hpre_4 := hpre_4.z.b
  have kk_hpre_0 := hpre_0.in
  have w1 : (1 : Int32).toInt = 1 := by decide +kernel
  rw [ex78, z_add (by omega) (by omega)]; first | done | omega
-- pre:open@197 @197
theorem v_first_57 (σ : RS) (x1 : Int32) (x2 : Int32) (x20 : Int32) (x78 : Int32) (hpre_0 : TKI (σ.2.1 4) (σ.2.2.1 6) (σ.2.1 7) (σ.1 3) (σ.1 14)) (hpre_1 : 0 ≤ (σ.1 15).toInt) (hpre_2 : (σ.1 15).toInt ≤ 3510) (hpre_3 : (σ.1 8).toInt = 0) (hpre_4 : PQ1 0 0 (σ.1 14) (σ.1 15) (σ.1 16) (σ.1 19) (σ.1 29) (σ.2.1 11) (σ.2.2.1 12) (σ.2.1 31) (σ.2.1 30) (σ.2.1 32) (σ.2.1 21) (σ.2.1 22) (σ.2.1 20) (σ.2.1 23) (σ.2.1 24) (σ.2.1 25) (σ.2.1 27) (σ.1 33) (σ.1 34) (σ.2.1 28)) (ex1 : x1 = (σ.2.1 4) (σ.1 14).toNatClampNeg) (tx1 : x1.toInt = ((σ.2.1 4) (σ.1 14).toNatClampNeg).toInt) (ex2 : x2 = (σ.1 19) - (1 : Int32)) (tx2 : x2.toInt = (σ.1 19).toInt - 1) (c3 : ¬ x1.toInt = 1) (c10 : ¬ x1.toInt = 4) (c18 : ¬ x1.toInt = 2) (c19 : ¬ x1.toInt = 3) (ex20 : x20 = (σ.2.1 22) x2.toNatClampNeg) (tx20 : x20.toInt = ((σ.2.1 22) ((σ.1 19).toInt - 1).toNat).toInt) (c21 : x20.toInt = 0) (hr52 : ¬ (((σ.2.1 4) (σ.1 14).toNatClampNeg).toInt = 5 ∧ ((σ.2.2.1 6) (σ.1 14).toNatClampNeg).toInt = (45 : Int32).toInt)) (hr58 : ¬ (((σ.2.1 4) (σ.1 14).toNatClampNeg).toInt = 5 ∧ ((σ.2.2.1 6) (σ.1 14).toNatClampNeg).toInt = (33 : Int32).toInt)) (hr60_0 : ((σ.2.1 4) (σ.1 14).toNatClampNeg).toInt = 5) (hr60_1 : ((σ.2.2.1 6) (σ.1 14).toNatClampNeg).toInt = (40 : Int32).toInt) (ex78 : x78 = (σ.1 14) + (1 : Int32)) (tx78 : x78.toInt = (σ.1 14).toInt + 1) : 0 ≤ (σ.1 19).toInt ∧ (σ.1 19).toInt ≤ 5 ∧ (σ.1 8).toInt = 0 ∧ 0 ≤ x78.toInt ∧ x78.toInt ≤ 41 := by
  have q1 : (1 : Int32).toInt = 1 := by decide +kernel
  have q33 : (33 : Int32).toInt = 33 := by decide +kernel
  have q40 : (40 : Int32).toInt = 40 := by decide +kernel
  have q45 : (45 : Int32).toInt = 45 := by decide +kernel
  have bb_hpre_0 := hpre_0.b
  have bb_hpre_4 := hpre_4.z.b
  have kk_hpre_0 := hpre_0.in
  refine ⟨?_, ?_, ?_, ?_, ?_⟩ <;> first | assumption | omega | (subst_vars; omega) | trivial
-- post @278
theorem v_first_58 (σ : RS) (x1 : Int32) (x2 : Int32) (x20 : Int32) (x78 : Int32) (F80 : (Nat → Int32)) (n81 : Int32) (F82 : (Nat → Int32)) (F83 : (Nat → Int32)) (F85 : (Nat → Int32)) (F86 : (Nat → Int32)) (n87 : Int32) (n88 : Int32) (hpre_0 : TKI (σ.2.1 4) (σ.2.2.1 6) (σ.2.1 7) (σ.1 3) (σ.1 14)) (hpre_1 : 0 ≤ (σ.1 15).toInt) (hpre_2 : (σ.1 15).toInt ≤ 3510) (hpre_3 : (σ.1 8).toInt = 0) (hpre_4 : PQ1 0 0 (σ.1 14) (σ.1 15) (σ.1 16) (σ.1 19) (σ.1 29) (σ.2.1 11) (σ.2.2.1 12) (σ.2.1 31) (σ.2.1 30) (σ.2.1 32) (σ.2.1 21) (σ.2.1 22) (σ.2.1 20) (σ.2.1 23) (σ.2.1 24) (σ.2.1 25) (σ.2.1 27) (σ.1 33) (σ.1 34) (σ.2.1 28)) (ex1 : x1 = (σ.2.1 4) (σ.1 14).toNatClampNeg) (tx1 : x1.toInt = ((σ.2.1 4) (σ.1 14).toNatClampNeg).toInt) (ex2 : x2 = (σ.1 19) - (1 : Int32)) (tx2 : x2.toInt = (σ.1 19).toInt - 1) (c3 : ¬ x1.toInt = 1) (c10 : ¬ x1.toInt = 4) (c18 : ¬ x1.toInt = 2) (c19 : ¬ x1.toInt = 3) (ex20 : x20 = (σ.2.1 22) x2.toNatClampNeg) (tx20 : x20.toInt = ((σ.2.1 22) ((σ.1 19).toInt - 1).toNat).toInt) (c21 : x20.toInt = 0) (hr52 : ¬ (((σ.2.1 4) (σ.1 14).toNatClampNeg).toInt = 5 ∧ ((σ.2.2.1 6) (σ.1 14).toNatClampNeg).toInt = (45 : Int32).toInt)) (hr58 : ¬ (((σ.2.1 4) (σ.1 14).toNatClampNeg).toInt = 5 ∧ ((σ.2.2.1 6) (σ.1 14).toNatClampNeg).toInt = (33 : Int32).toInt)) (hr60_0 : ((σ.2.1 4) (σ.1 14).toNatClampNeg).toInt = 5) (hr60_1 : ((σ.2.2.1 6) (σ.1 14).toNatClampNeg).toInt = (40 : Int32).toInt) (ex78 : x78 = (σ.1 14) + (1 : Int32)) (tx78 : x78.toInt = (σ.1 14).toInt + 1) (hr79 : ((σ.1 19).toInt = 5 ∧ n88.toInt = 3 ∧ n81.toInt = 5) ∨ ((σ.1 19).toInt < 5 ∧ n88 = (σ.1 8) ∧ n81.toInt = (σ.1 19).toInt + 1 ∧ F80 = upd (σ.2.1 20) (σ.1 19).toInt.toNat (2 : Int32) ∧ F82 = upd (σ.2.1 21) (σ.1 19).toInt.toNat (σ.1 29) ∧ F83 = upd (σ.2.1 22) (σ.1 19).toInt.toNat (0 : Int32) ∧ F85 = upd (σ.2.1 27) (σ.1 19).toInt.toNat (1 : Int32) ∧ F86 = upd (σ.2.1 28) (σ.1 19).toInt.toNat (0 : Int32) ∧ n87.toInt = 1)) : Keep (σ.1 15).toInt (σ.2.1 11) (σ.2.1 11) (σ.2.2.1 12) (σ.2.2.1 12) ∧ 0 ≤ n88.toInt ∧ n88.toInt ≤ 3 ∧ (n88.toInt = 0 → TKI (σ.2.1 4) (σ.2.2.1 6) (σ.2.1 7) (σ.1 3) x78 ∧ LI n87 x78 (σ.1 15) (σ.1 16) n81 (σ.1 29) (σ.2.1 11) (σ.2.2.1 12) (σ.2.1 31) (σ.2.1 30) (σ.2.1 32) F82 F83 F80 (σ.2.1 23) (σ.2.1 24) (σ.2.1 25) F85 (σ.1 33) (σ.1 34) F86 ∧ 2 * (σ.1 14).toInt - (σ.1 19).toInt < 2 * x78.toInt - n81.toInt) := by
  have q0 : (0 : Int32).toInt = 0 := by decide +kernel
  have q1 : (1 : Int32).toInt = 1 := by decide +kernel
  have q2 : (2 : Int32).toInt = 2 := by decide +kernel
  have q33 : (33 : Int32).toInt = 33 := by decide +kernel
  have q40 : (40 : Int32).toInt = 40 := by decide +kernel
  have q45 : (45 : Int32).toInt = 45 := by decide +kernel
  have bb_hpre_0 := hpre_0.b
  have bb_hpre_4 := hpre_4.z.b
  have kk_hpre_0 := hpre_0.in
  have k := hpre_0.in (by omega)
  rcases hr79 with ⟨f1, f2, f3⟩ | ⟨f1, f2, f3, f4, f5, f6, f7, f8, f9⟩
  · exact ⟨Keep.rf, by omega, by omega, fun h => by omega⟩
  · have f2 := congrArg Int32.toInt f2
    subst f4 f5 f6 f7 f8
    exact ⟨Keep.rf, by omega, by omega, fun _ => ⟨hpre_0.up (by omega) (by omega), Or.inl ⟨f9, PQ_brack hpre_4 (by omega) (by omega) (by omega) (by omega) rfl rfl rfl rfl q0 q2⟩, by omega⟩⟩
-- pre:isSign@142 @142
theorem v_first_59 (σ : RS) (x1 : Int32) (x2 : Int32) (x20 : Int32) (hpre_0 : TKI (σ.2.1 4) (σ.2.2.1 6) (σ.2.1 7) (σ.1 3) (σ.1 14)) (hpre_1 : 0 ≤ (σ.1 15).toInt) (hpre_2 : (σ.1 15).toInt ≤ 3510) (hpre_4 : PQ1 0 0 (σ.1 14) (σ.1 15) (σ.1 16) (σ.1 19) (σ.1 29) (σ.2.1 11) (σ.2.2.1 12) (σ.2.1 31) (σ.2.1 30) (σ.2.1 32) (σ.2.1 21) (σ.2.1 22) (σ.2.1 20) (σ.2.1 23) (σ.2.1 24) (σ.2.1 25) (σ.2.1 27) (σ.1 33) (σ.1 34) (σ.2.1 28)) (ex1 : x1 = (σ.2.1 4) (σ.1 14).toNatClampNeg) (tx1 : x1.toInt = ((σ.2.1 4) (σ.1 14).toNatClampNeg).toInt) (ex2 : x2 = (σ.1 19) - (1 : Int32)) (tx2 : x2.toInt = (σ.1 19).toInt - 1) (c3 : ¬ x1.toInt = 1) (c10 : ¬ x1.toInt = 4) (c18 : ¬ x1.toInt = 2) (c19 : ¬ x1.toInt = 3) (ex20 : x20 = (σ.2.1 22) x2.toNatClampNeg) (tx20 : x20.toInt = ((σ.2.1 22) ((σ.1 19).toInt - 1).toNat).toInt) (c21 : x20.toInt = 0) (hr52 : ¬ (((σ.2.1 4) (σ.1 14).toNatClampNeg).toInt = 5 ∧ ((σ.2.2.1 6) (σ.1 14).toNatClampNeg).toInt = (45 : Int32).toInt)) (hr58_0 : ((σ.2.1 4) (σ.1 14).toNatClampNeg).toInt = 5) (hr58_1 : ((σ.2.2.1 6) (σ.1 14).toNatClampNeg).toInt = (33 : Int32).toInt) : 0 ≤ (σ.1 14).toInt ∧ (σ.1 14).toInt ≤ 41 := by
  have q1 : (1 : Int32).toInt = 1 := by decide +kernel
  have q33 : (33 : Int32).toInt = 33 := by decide +kernel
  have q45 : (45 : Int32).toInt = 45 := by decide +kernel
  have bb_hpre_0 := hpre_0.b
  have bb_hpre_4 := hpre_4.z.b
  have kk_hpre_0 := hpre_0.in
  refine ⟨?_, ?_⟩ <;> first | assumption | omega | (subst_vars; omega) | trivial
-- in@155 @155
theorem v_first_60 (σ : RS) (x1 : Int32) (x2 : Int32) (x20 : Int32) (hpre_0 : TKI (σ.2.1 4) (σ.2.2.1 6) (σ.2.1 7) (σ.1 3) (σ.1 14)) (hpre_1 : 0 ≤ (σ.1 15).toInt) (hpre_2 : (σ.1 15).toInt ≤ 3510) (hpre_4 : PQ1 0 0 (σ.1 14) (σ.1 15) (σ.1 16) (σ.1 19) (σ.1 29) (σ.2.1 11) (σ.2.2.1 12) (σ.2.1 31) (σ.2.1 30) (σ.2.1 32) (σ.2.1 21) (σ.2.1 22) (σ.2.1 20) (σ.2.1 23) (σ.2.1 24) (σ.2.1 25) (σ.2.1 27) (σ.1 33) (σ.1 34) (σ.2.1 28)) (ex1 : x1 = (σ.2.1 4) (σ.1 14).toNatClampNeg) (tx1 : x1.toInt = ((σ.2.1 4) (σ.1 14).toNatClampNeg).toInt) (ex2 : x2 = (σ.1 19) - (1 : Int32)) (tx2 : x2.toInt = (σ.1 19).toInt - 1) (c3 : ¬ x1.toInt = 1) (c10 : ¬ x1.toInt = 4) (c18 : ¬ x1.toInt = 2) (c19 : ¬ x1.toInt = 3) (ex20 : x20 = (σ.2.1 22) x2.toNatClampNeg) (tx20 : x20.toInt = ((σ.2.1 22) ((σ.1 19).toInt - 1).toNat).toInt) (c21 : x20.toInt = 0) (hr58_0 : ((σ.2.1 4) (σ.1 14).toNatClampNeg).toInt = 5) (hr58_1 : ((σ.2.2.1 6) (σ.1 14).toNatClampNeg).toInt = (33 : Int32).toInt) : vp_in x2 8 := by
  have q1 : (1 : Int32).toInt = 1 := by decide +kernel
  have q33 : (33 : Int32).toInt = 33 := by decide +kernel
  have bb_hpre_0 := hpre_0.b
  have bb_hpre_4 := hpre_4.z.b
  have kk_hpre_0 := hpre_0.in
  exact vp_in_iff.mpr ⟨by omega, by omega⟩
-- nw@169 @169
theorem v_first_61 (σ : RS) (x1 : Int32) (x2 : Int32) (x20 : Int32) (x92 : Int32) (hpre_0 : TKI (σ.2.1 4) (σ.2.2.1 6) (σ.2.1 7) (σ.1 3) (σ.1 14)) (hpre_1 : 0 ≤ (σ.1 15).toInt) (hpre_2 : (σ.1 15).toInt ≤ 3510) (hpre_4 : PQ1 0 0 (σ.1 14) (σ.1 15) (σ.1 16) (σ.1 19) (σ.1 29) (σ.2.1 11) (σ.2.2.1 12) (σ.2.1 31) (σ.2.1 30) (σ.2.1 32) (σ.2.1 21) (σ.2.1 22) (σ.2.1 20) (σ.2.1 23) (σ.2.1 24) (σ.2.1 25) (σ.2.1 27) (σ.1 33) (σ.1 34) (σ.2.1 28)) (ex1 : x1 = (σ.2.1 4) (σ.1 14).toNatClampNeg) (tx1 : x1.toInt = ((σ.2.1 4) (σ.1 14).toNatClampNeg).toInt) (ex2 : x2 = (σ.1 19) - (1 : Int32)) (tx2 : x2.toInt = (σ.1 19).toInt - 1) (c3 : ¬ x1.toInt = 1) (c10 : ¬ x1.toInt = 4) (c18 : ¬ x1.toInt = 2) (c19 : ¬ x1.toInt = 3) (ex20 : x20 = (σ.2.1 22) x2.toNatClampNeg) (tx20 : x20.toInt = ((σ.2.1 22) ((σ.1 19).toInt - 1).toNat).toInt) (c21 : x20.toInt = 0) (hr52 : ¬ (((σ.2.1 4) (σ.1 14).toNatClampNeg).toInt = 5 ∧ ((σ.2.2.1 6) (σ.1 14).toNatClampNeg).toInt = (45 : Int32).toInt)) (hr58_0 : ((σ.2.1 4) (σ.1 14).toNatClampNeg).toInt = 5) (hr58_1 : ((σ.2.2.1 6) (σ.1 14).toNatClampNeg).toInt = (33 : Int32).toInt) (hr90 : ¬ (((σ.2.1 4) (σ.1 14).toNatClampNeg).toInt = 5 ∧ ((σ.2.2.1 6) (σ.1 14).toNatClampNeg).toInt = (45 : Int32).toInt)) (ex92 : x92 = (σ.1 14) + (1 : Int32)) : x92.toInt = (σ.1 14).toInt + 1 := by
  have q1 : (1 : Int32).toInt = 1 := by decide +kernel
  have q33 : (33 : Int32).toInt = 33 := by decide +kernel
  have q45 : (45 : Int32).toInt = 45 := by decide +kernel
  have bb_hpre_0 := hpre_0.b
  have bb_hpre_4 := hpre_4.z.b
  have kk_hpre_0 := hpre_0.in
  have w1 : (1 : Int32).toInt = 1 := by decide +kernel
  rw [ex92, z_add (by omega) (by omega)]; first | done | omega
-- post @278
theorem v_first_62 (σ : RS) (x1 : Int32) (x2 : Int32) (x20 : Int32) (x92 : Int32) (hpre_0 : TKI (σ.2.1 4) (σ.2.2.1 6) (σ.2.1 7) (σ.1 3) (σ.1 14)) (hpre_1 : 0 ≤ (σ.1 15).toInt) (hpre_2 : (σ.1 15).toInt ≤ 3510) (hpre_3 : (σ.1 8).toInt = 0) (hpre_4 : PQ1 0 0 (σ.1 14) (σ.1 15) (σ.1 16) (σ.1 19) (σ.1 29) (σ.2.1 11) (σ.2.2.1 12) (σ.2.1 31) (σ.2.1 30) (σ.2.1 32) (σ.2.1 21) (σ.2.1 22) (σ.2.1 20) (σ.2.1 23) (σ.2.1 24) (σ.2.1 25) (σ.2.1 27) (σ.1 33) (σ.1 34) (σ.2.1 28)) (hpre_5 : (σ.1 17).toInt = 1) (ex1 : x1 = (σ.2.1 4) (σ.1 14).toNatClampNeg) (tx1 : x1.toInt = ((σ.2.1 4) (σ.1 14).toNatClampNeg).toInt) (ex2 : x2 = (σ.1 19) - (1 : Int32)) (tx2 : x2.toInt = (σ.1 19).toInt - 1) (c3 : ¬ x1.toInt = 1) (c10 : ¬ x1.toInt = 4) (c18 : ¬ x1.toInt = 2) (c19 : ¬ x1.toInt = 3) (ex20 : x20 = (σ.2.1 22) x2.toNatClampNeg) (tx20 : x20.toInt = ((σ.2.1 22) ((σ.1 19).toInt - 1).toNat).toInt) (c21 : x20.toInt = 0) (hr52 : ¬ (((σ.2.1 4) (σ.1 14).toNatClampNeg).toInt = 5 ∧ ((σ.2.2.1 6) (σ.1 14).toNatClampNeg).toInt = (45 : Int32).toInt)) (hr58_0 : ((σ.2.1 4) (σ.1 14).toNatClampNeg).toInt = 5) (hr58_1 : ((σ.2.2.1 6) (σ.1 14).toNatClampNeg).toInt = (33 : Int32).toInt) (hr90 : ¬ (((σ.2.1 4) (σ.1 14).toNatClampNeg).toInt = 5 ∧ ((σ.2.2.1 6) (σ.1 14).toNatClampNeg).toInt = (45 : Int32).toInt)) (ex92 : x92 = (σ.1 14) + (1 : Int32)) (tx92 : x92.toInt = (σ.1 14).toInt + 1) : Keep (σ.1 15).toInt (σ.2.1 11) (σ.2.1 11) (σ.2.2.1 12) (σ.2.2.1 12) ∧ 0 ≤ (σ.1 8).toInt ∧ (σ.1 8).toInt ≤ 3 ∧ ((σ.1 8).toInt = 0 → TKI (σ.2.1 4) (σ.2.2.1 6) (σ.2.1 7) (σ.1 3) x92 ∧ LI (σ.1 17) x92 (σ.1 15) (σ.1 16) (σ.1 19) (σ.1 29) (σ.2.1 11) (σ.2.2.1 12) (σ.2.1 31) (σ.2.1 30) (σ.2.1 32) (σ.2.1 21) (upd (σ.2.1 22) x2.toNatClampNeg (31 : Int32)) (σ.2.1 20) (σ.2.1 23) (σ.2.1 24) (σ.2.1 25) (upd (σ.2.1 27) x2.toNatClampNeg (0 : Int32)) (σ.1 33) (σ.1 34) (σ.2.1 28) ∧ 2 * (σ.1 14).toInt - (σ.1 19).toInt < 2 * x92.toInt - (σ.1 19).toInt) := by
  have q0 : (0 : Int32).toInt = 0 := by decide +kernel
  have q1 : (1 : Int32).toInt = 1 := by decide +kernel
  have q31 : (31 : Int32).toInt = 31 := by decide +kernel
  have q33 : (33 : Int32).toInt = 33 := by decide +kernel
  have q45 : (45 : Int32).toInt = 45 := by decide +kernel
  have bb_hpre_0 := hpre_0.b
  have bb_hpre_4 := hpre_4.z.b
  have kk_hpre_0 := hpre_0.in
  have k := hpre_0.in (by omega)
  exact ⟨Keep.rf, by omega, by omega, fun _ => ⟨hpre_0.up (by omega) (by omega), Or.inl ⟨hpre_5, PQ_sign hpre_4 (by omega) (by rw [clampN]; omega) rfl q0 (by omega)⟩, by omega⟩⟩
-- in@155 @155
theorem v_first_63 (σ : RS) (x1 : Int32) (x2 : Int32) (x20 : Int32) (hpre_0 : TKI (σ.2.1 4) (σ.2.2.1 6) (σ.2.1 7) (σ.1 3) (σ.1 14)) (hpre_1 : 0 ≤ (σ.1 15).toInt) (hpre_2 : (σ.1 15).toInt ≤ 3510) (hpre_4 : PQ1 0 0 (σ.1 14) (σ.1 15) (σ.1 16) (σ.1 19) (σ.1 29) (σ.2.1 11) (σ.2.2.1 12) (σ.2.1 31) (σ.2.1 30) (σ.2.1 32) (σ.2.1 21) (σ.2.1 22) (σ.2.1 20) (σ.2.1 23) (σ.2.1 24) (σ.2.1 25) (σ.2.1 27) (σ.1 33) (σ.1 34) (σ.2.1 28)) (ex1 : x1 = (σ.2.1 4) (σ.1 14).toNatClampNeg) (tx1 : x1.toInt = ((σ.2.1 4) (σ.1 14).toNatClampNeg).toInt) (ex2 : x2 = (σ.1 19) - (1 : Int32)) (tx2 : x2.toInt = (σ.1 19).toInt - 1) (c3 : ¬ x1.toInt = 1) (c10 : ¬ x1.toInt = 4) (c18 : ¬ x1.toInt = 2) (c19 : ¬ x1.toInt = 3) (ex20 : x20 = (σ.2.1 22) x2.toNatClampNeg) (tx20 : x20.toInt = ((σ.2.1 22) ((σ.1 19).toInt - 1).toNat).toInt) (c21 : x20.toInt = 0) (hr58_0 : ((σ.2.1 4) (σ.1 14).toNatClampNeg).toInt = 5) (hr58_1 : ((σ.2.2.1 6) (σ.1 14).toNatClampNeg).toInt = (33 : Int32).toInt) (hr90_0 : ((σ.2.1 4) (σ.1 14).toNatClampNeg).toInt = 5) (hr90_1 : ((σ.2.2.1 6) (σ.1 14).toNatClampNeg).toInt = (45 : Int32).toInt) : vp_in x2 8 := by
  have q1 : (1 : Int32).toInt = 1 := by decide +kernel
  have q33 : (33 : Int32).toInt = 33 := by decide +kernel
  have q45 : (45 : Int32).toInt = 45 := by decide +kernel
  have bb_hpre_0 := hpre_0.b
  have bb_hpre_4 := hpre_4.z.b
  have kk_hpre_0 := hpre_0.in
  exact vp_in_iff.mpr ⟨by omega, by omega⟩
-- nw@169 @169
theorem v_first_64 (σ : RS) (x1 : Int32) (x2 : Int32) (x20 : Int32) (x93 : Int32) (hpre_0 : TKI (σ.2.1 4) (σ.2.2.1 6) (σ.2.1 7) (σ.1 3) (σ.1 14)) (hpre_1 : 0 ≤ (σ.1 15).toInt) (hpre_2 : (σ.1 15).toInt ≤ 3510) (hpre_4 : PQ1 0 0 (σ.1 14) (σ.1 15) (σ.1 16) (σ.1 19) (σ.1 29) (σ.2.1 11) (σ.2.2.1 12) (σ.2.1 31) (σ.2.1 30) (σ.2.1 32) (σ.2.1 21) (σ.2.1 22) (σ.2.1 20) (σ.2.1 23) (σ.2.1 24) (σ.2.1 25) (σ.2.1 27) (σ.1 33) (σ.1 34) (σ.2.1 28)) (ex1 : x1 = (σ.2.1 4) (σ.1 14).toNatClampNeg) (tx1 : x1.toInt = ((σ.2.1 4) (σ.1 14).toNatClampNeg).toInt) (ex2 : x2 = (σ.1 19) - (1 : Int32)) (tx2 : x2.toInt = (σ.1 19).toInt - 1) (c3 : ¬ x1.toInt = 1) (c10 : ¬ x1.toInt = 4) (c18 : ¬ x1.toInt = 2) (c19 : ¬ x1.toInt = 3) (ex20 : x20 = (σ.2.1 22) x2.toNatClampNeg) (tx20 : x20.toInt = ((σ.2.1 22) ((σ.1 19).toInt - 1).toNat).toInt) (c21 : x20.toInt = 0) (hr52 : ¬ (((σ.2.1 4) (σ.1 14).toNatClampNeg).toInt = 5 ∧ ((σ.2.2.1 6) (σ.1 14).toNatClampNeg).toInt = (45 : Int32).toInt)) (hr58_0 : ((σ.2.1 4) (σ.1 14).toNatClampNeg).toInt = 5) (hr58_1 : ((σ.2.2.1 6) (σ.1 14).toNatClampNeg).toInt = (33 : Int32).toInt) (hr90_0 : ((σ.2.1 4) (σ.1 14).toNatClampNeg).toInt = 5) (hr90_1 : ((σ.2.2.1 6) (σ.1 14).toNatClampNeg).toInt = (45 : Int32).toInt) (ex93 : x93 = (σ.1 14) + (1 : Int32)) : x93.toInt = (σ.1 14).toInt + 1 := by
  have q1 : (1 : Int32).toInt = 1 := by decide +kernel
  have q33 : (33 : Int32).toInt = 33 := by decide +kernel
  have q45 : (45 : Int32).toInt = 45 := by decide +kernel
  have bb_hpre_0 := hpre_0.b
  have bb_hpre_4 := hpre_4.z.b
  have kk_hpre_0 := hpre_0.in
  have w1 : (1 : Int32).toInt = 1 := by decide +kernel
  rw [ex93, z_add (by omega) (by omega)]; first | done | omega
-- post @278
theorem v_first_65 (σ : RS) (x1 : Int32) (x2 : Int32) (x20 : Int32) (x93 : Int32) (hpre_0 : TKI (σ.2.1 4) (σ.2.2.1 6) (σ.2.1 7) (σ.1 3) (σ.1 14)) (hpre_1 : 0 ≤ (σ.1 15).toInt) (hpre_2 : (σ.1 15).toInt ≤ 3510) (hpre_3 : (σ.1 8).toInt = 0) (hpre_4 : PQ1 0 0 (σ.1 14) (σ.1 15) (σ.1 16) (σ.1 19) (σ.1 29) (σ.2.1 11) (σ.2.2.1 12) (σ.2.1 31) (σ.2.1 30) (σ.2.1 32) (σ.2.1 21) (σ.2.1 22) (σ.2.1 20) (σ.2.1 23) (σ.2.1 24) (σ.2.1 25) (σ.2.1 27) (σ.1 33) (σ.1 34) (σ.2.1 28)) (hpre_5 : (σ.1 17).toInt = 1) (ex1 : x1 = (σ.2.1 4) (σ.1 14).toNatClampNeg) (tx1 : x1.toInt = ((σ.2.1 4) (σ.1 14).toNatClampNeg).toInt) (ex2 : x2 = (σ.1 19) - (1 : Int32)) (tx2 : x2.toInt = (σ.1 19).toInt - 1) (c3 : ¬ x1.toInt = 1) (c10 : ¬ x1.toInt = 4) (c18 : ¬ x1.toInt = 2) (c19 : ¬ x1.toInt = 3) (ex20 : x20 = (σ.2.1 22) x2.toNatClampNeg) (tx20 : x20.toInt = ((σ.2.1 22) ((σ.1 19).toInt - 1).toNat).toInt) (c21 : x20.toInt = 0) (hr52 : ¬ (((σ.2.1 4) (σ.1 14).toNatClampNeg).toInt = 5 ∧ ((σ.2.2.1 6) (σ.1 14).toNatClampNeg).toInt = (45 : Int32).toInt)) (hr58_0 : ((σ.2.1 4) (σ.1 14).toNatClampNeg).toInt = 5) (hr58_1 : ((σ.2.2.1 6) (σ.1 14).toNatClampNeg).toInt = (33 : Int32).toInt) (hr90_0 : ((σ.2.1 4) (σ.1 14).toNatClampNeg).toInt = 5) (hr90_1 : ((σ.2.2.1 6) (σ.1 14).toNatClampNeg).toInt = (45 : Int32).toInt) (ex93 : x93 = (σ.1 14) + (1 : Int32)) (tx93 : x93.toInt = (σ.1 14).toInt + 1) : Keep (σ.1 15).toInt (σ.2.1 11) (σ.2.1 11) (σ.2.2.1 12) (σ.2.2.1 12) ∧ 0 ≤ (σ.1 8).toInt ∧ (σ.1 8).toInt ≤ 3 ∧ ((σ.1 8).toInt = 0 → TKI (σ.2.1 4) (σ.2.2.1 6) (σ.2.1 7) (σ.1 3) x93 ∧ LI (σ.1 17) x93 (σ.1 15) (σ.1 16) (σ.1 19) (σ.1 29) (σ.2.1 11) (σ.2.2.1 12) (σ.2.1 31) (σ.2.1 30) (σ.2.1 32) (σ.2.1 21) (upd (σ.2.1 22) x2.toNatClampNeg (30 : Int32)) (σ.2.1 20) (σ.2.1 23) (σ.2.1 24) (σ.2.1 25) (upd (σ.2.1 27) x2.toNatClampNeg (0 : Int32)) (σ.1 33) (σ.1 34) (σ.2.1 28) ∧ 2 * (σ.1 14).toInt - (σ.1 19).toInt < 2 * x93.toInt - (σ.1 19).toInt) := by
  have q0 : (0 : Int32).toInt = 0 := by decide +kernel
  have q1 : (1 : Int32).toInt = 1 := by decide +kernel
  have q30 : (30 : Int32).toInt = 30 := by decide +kernel
  have q33 : (33 : Int32).toInt = 33 := by decide +kernel
  have q45 : (45 : Int32).toInt = 45 := by decide +kernel
  have bb_hpre_0 := hpre_0.b
  have bb_hpre_4 := hpre_4.z.b
  have kk_hpre_0 := hpre_0.in
  have k := hpre_0.in (by omega)
  exact ⟨Keep.rf, by omega, by omega, fun _ => ⟨hpre_0.up (by omega) (by omega), Or.inl ⟨hpre_5, PQ_sign hpre_4 (by omega) (by rw [clampN]; omega) rfl q0 (by omega)⟩, by omega⟩⟩
-- pre:word@101 @101
theorem v_first_66 (σ : RS) (x1 : Int32) (x2 : Int32) (hpre_0 : TKI (σ.2.1 4) (σ.2.2.1 6) (σ.2.1 7) (σ.1 3) (σ.1 14)) (hpre_1 : 0 ≤ (σ.1 15).toInt) (hpre_2 : (σ.1 15).toInt ≤ 3510) (hpre_3 : (σ.1 8).toInt = 0) (hpre_4 : PQ1 0 0 (σ.1 14) (σ.1 15) (σ.1 16) (σ.1 19) (σ.1 29) (σ.2.1 11) (σ.2.2.1 12) (σ.2.1 31) (σ.2.1 30) (σ.2.1 32) (σ.2.1 21) (σ.2.1 22) (σ.2.1 20) (σ.2.1 23) (σ.2.1 24) (σ.2.1 25) (σ.2.1 27) (σ.1 33) (σ.1 34) (σ.2.1 28)) (ex1 : x1 = (σ.2.1 4) (σ.1 14).toNatClampNeg) (tx1 : x1.toInt = ((σ.2.1 4) (σ.1 14).toNatClampNeg).toInt) (ex2 : x2 = (σ.1 19) - (1 : Int32)) (tx2 : x2.toInt = (σ.1 19).toInt - 1) (c3 : ¬ x1.toInt = 1) (c10 : ¬ x1.toInt = 4) (c18 : ¬ x1.toInt = 2) (c19 : x1.toInt = 3) : TKI (σ.2.1 4) (σ.2.2.1 6) (σ.2.1 7) (σ.1 3) (σ.1 14) ∧ 0 ≤ (σ.1 15).toInt ∧ (σ.1 15).toInt ≤ 3510 ∧ (σ.1 8).toInt = 0 ∧ PQ1 0 0 (σ.1 14) (σ.1 15) (σ.1 16) (σ.1 19) (σ.1 29) (σ.2.1 11) (σ.2.2.1 12) (σ.2.1 31) (σ.2.1 30) (σ.2.1 32) (σ.2.1 21) (σ.2.1 22) (σ.2.1 20) (σ.2.1 23) (σ.2.1 24) (σ.2.1 25) (σ.2.1 27) (σ.1 33) (σ.1 34) (σ.2.1 28) ∧ ((σ.2.1 4) (σ.1 14).toNatClampNeg).toInt = 3 := by
  have q1 : (1 : Int32).toInt = 1 := by decide +kernel
  have bb_hpre_0 := hpre_0.b
  have bb_hpre_4 := hpre_4.z.b
  have kk_hpre_0 := hpre_0.in
  refine ⟨?_, ?_, ?_, ?_, ?_, ?_⟩ <;> first | assumption | omega | (subst_vars; omega) | trivial
-- post @278
theorem v_first_67 (σ : RS) (x1 : Int32) (x2 : Int32) (n95 : Int32) (F96 : (Nat → Int32)) (G97 : (Nat → Int64)) (n98 : Int32) (n99 : Int32) (n100 : Int32) (F101 : (Nat → Int32)) (F102 : (Nat → Int32)) (F103 : (Nat → Int32)) (F104 : (Nat → Int32)) (F105 : (Nat → Int32)) (F106 : (Nat → Int32)) (F107 : (Nat → Int32)) (F108 : (Nat → Int32)) (F109 : (Nat → Int32)) (F111 : (Nat → Int32)) (F112 : (Nat → Int32)) (n113 : Int32) (n114 : Int32) (n115 : Int32) (n116 : Int32) (hpre_0 : TKI (σ.2.1 4) (σ.2.2.1 6) (σ.2.1 7) (σ.1 3) (σ.1 14)) (hpre_1 : 0 ≤ (σ.1 15).toInt) (hpre_2 : (σ.1 15).toInt ≤ 3510) (hpre_4 : PQ1 0 0 (σ.1 14) (σ.1 15) (σ.1 16) (σ.1 19) (σ.1 29) (σ.2.1 11) (σ.2.2.1 12) (σ.2.1 31) (σ.2.1 30) (σ.2.1 32) (σ.2.1 21) (σ.2.1 22) (σ.2.1 20) (σ.2.1 23) (σ.2.1 24) (σ.2.1 25) (σ.2.1 27) (σ.1 33) (σ.1 34) (σ.2.1 28)) (ex1 : x1 = (σ.2.1 4) (σ.1 14).toNatClampNeg) (tx1 : x1.toInt = ((σ.2.1 4) (σ.1 14).toNatClampNeg).toInt) (ex2 : x2 = (σ.1 19) - (1 : Int32)) (tx2 : x2.toInt = (σ.1 19).toInt - 1) (c3 : ¬ x1.toInt = 1) (c10 : ¬ x1.toInt = 4) (c18 : ¬ x1.toInt = 2) (c19 : x1.toInt = 3) (hr94_0 : Keep (σ.1 15).toInt (σ.2.1 11) F96 (σ.2.2.1 12) G97) (hr94_1 : 0 ≤ n116.toInt) (hr94_2 : n116.toInt ≤ 3) (hr94_3 : n116.toInt = 0 → TKI (σ.2.1 4) (σ.2.2.1 6) (σ.2.1 7) (σ.1 3) n95 ∧ LI n113 n95 (σ.1 15) n98 n99 n100 F96 G97 F101 F102 F103 F104 F105 F106 F107 F108 F109 F111 n114 n115 F112 ∧ 2 * (σ.1 14).toInt - (σ.1 19).toInt < 2 * n95.toInt - n99.toInt) : Keep (σ.1 15).toInt (σ.2.1 11) F96 (σ.2.2.1 12) G97 ∧ 0 ≤ n116.toInt ∧ n116.toInt ≤ 3 ∧ (n116.toInt = 0 → TKI (σ.2.1 4) (σ.2.2.1 6) (σ.2.1 7) (σ.1 3) n95 ∧ LI n113 n95 (σ.1 15) n98 n99 n100 F96 G97 F101 F102 F103 F104 F105 F106 F107 F108 F109 F111 n114 n115 F112 ∧ 2 * (σ.1 14).toInt - (σ.1 19).toInt < 2 * n95.toInt - n99.toInt) := by
  have q1 : (1 : Int32).toInt = 1 := by decide +kernel
  have bb_hpre_0 := hpre_0.b
  have bb_hpre_4 := hpre_4.z.b
  have kk_hpre_0 := hpre_0.in
  exact ⟨hr94_0, hr94_1, hr94_2, fun h => ⟨(hr94_3 h).1, (hr94_3 h).2.1, by have := (hr94_3 h).2.2; omega⟩⟩
-- in@60 @60
theorem v_first_68 (σ : RS) (x1 : Int32) (x2 : Int32) (hpre_0 : TKI (σ.2.1 4) (σ.2.2.1 6) (σ.2.1 7) (σ.1 3) (σ.1 14)) (hpre_1 : 0 ≤ (σ.1 15).toInt) (hpre_2 : (σ.1 15).toInt ≤ 3510) (hpre_4 : PQ1 0 0 (σ.1 14) (σ.1 15) (σ.1 16) (σ.1 19) (σ.1 29) (σ.2.1 11) (σ.2.2.1 12) (σ.2.1 31) (σ.2.1 30) (σ.2.1 32) (σ.2.1 21) (σ.2.1 22) (σ.2.1 20) (σ.2.1 23) (σ.2.1 24) (σ.2.1 25) (σ.2.1 27) (σ.1 33) (σ.1 34) (σ.2.1 28)) (ex1 : x1 = (σ.2.1 4) (σ.1 14).toNatClampNeg) (tx1 : x1.toInt = ((σ.2.1 4) (σ.1 14).toNatClampNeg).toInt) (ex2 : x2 = (σ.1 19) - (1 : Int32)) (tx2 : x2.toInt = (σ.1 19).toInt - 1) (c3 : ¬ x1.toInt = 1) (c10 : ¬ x1.toInt = 4) (c18 : x1.toInt = 2) (c118 : ¬ x1.toInt = 1) (c119 : ¬ x1.toInt = 4) : vp_in (σ.1 14) 42 := by
  have q1 : (1 : Int32).toInt = 1 := by decide +kernel
  have bb_hpre_0 := hpre_0.b
  have bb_hpre_4 := hpre_4.z.b
  have kk_hpre_0 := hpre_0.in
  exact vp_in_iff.mpr ⟨by omega, by omega⟩
-- nw@61 @61
theorem v_first_69 (σ : RS) (x1 : Int32) (x2 : Int32) (x120 : Int32) (x121 : Int32) (hpre_0 : TKI (σ.2.1 4) (σ.2.2.1 6) (σ.2.1 7) (σ.1 3) (σ.1 14)) (hpre_1 : 0 ≤ (σ.1 15).toInt) (hpre_2 : (σ.1 15).toInt ≤ 3510) (hpre_4 : PQ1 0 0 (σ.1 14) (σ.1 15) (σ.1 16) (σ.1 19) (σ.1 29) (σ.2.1 11) (σ.2.2.1 12) (σ.2.1 31) (σ.2.1 30) (σ.2.1 32) (σ.2.1 21) (σ.2.1 22) (σ.2.1 20) (σ.2.1 23) (σ.2.1 24) (σ.2.1 25) (σ.2.1 27) (σ.1 33) (σ.1 34) (σ.2.1 28)) (ex1 : x1 = (σ.2.1 4) (σ.1 14).toNatClampNeg) (tx1 : x1.toInt = ((σ.2.1 4) (σ.1 14).toNatClampNeg).toInt) (ex2 : x2 = (σ.1 19) - (1 : Int32)) (tx2 : x2.toInt = (σ.1 19).toInt - 1) (c3 : ¬ x1.toInt = 1) (c10 : ¬ x1.toInt = 4) (c18 : x1.toInt = 2) (c118 : ¬ x1.toInt = 1) (c119 : ¬ x1.toInt = 4) (ex120 : x120 = (σ.2.1 7) (σ.1 14).toNatClampNeg) (tx120 : x120.toInt = ((σ.2.1 7) (σ.1 14).toNatClampNeg).toInt) (ex121 : x121 = (2 : Int32) + x120) : x121.toInt = 2 + x120.toInt := by
  have q1 : (1 : Int32).toInt = 1 := by decide +kernel
  have q2 : (2 : Int32).toInt = 2 := by decide +kernel
  have bb_hpre_0 := hpre_0.b
  have bb_hpre_4 := hpre_4.z.b
  have kk_hpre_0 := hpre_0.in
  have w0 : (2 : Int32).toInt = 2 := by decide +kernel
  rw [ex121, z_add (by omega) (by omega)]; first | done | omega
-- nw@63 @63
theorem v_first_70 (σ : RS) (x1 : Int32) (x2 : Int32) (x120 : Int32) (x121 : Int32) (x122 : Int32) (hpre_0 : TKI (σ.2.1 4) (σ.2.2.1 6) (σ.2.1 7) (σ.1 3) (σ.1 14)) (hpre_1 : 0 ≤ (σ.1 15).toInt) (hpre_2 : (σ.1 15).toInt ≤ 3510) (hpre_4 : PQ1 0 0 (σ.1 14) (σ.1 15) (σ.1 16) (σ.1 19) (σ.1 29) (σ.2.1 11) (σ.2.2.1 12) (σ.2.1 31) (σ.2.1 30) (σ.2.1 32) (σ.2.1 21) (σ.2.1 22) (σ.2.1 20) (σ.2.1 23) (σ.2.1 24) (σ.2.1 25) (σ.2.1 27) (σ.1 33) (σ.1 34) (σ.2.1 28)) (ex1 : x1 = (σ.2.1 4) (σ.1 14).toNatClampNeg) (tx1 : x1.toInt = ((σ.2.1 4) (σ.1 14).toNatClampNeg).toInt) (ex2 : x2 = (σ.1 19) - (1 : Int32)) (tx2 : x2.toInt = (σ.1 19).toInt - 1) (c3 : ¬ x1.toInt = 1) (c10 : ¬ x1.toInt = 4) (c18 : x1.toInt = 2) (c118 : ¬ x1.toInt = 1) (c119 : ¬ x1.toInt = 4) (ex120 : x120 = (σ.2.1 7) (σ.1 14).toNatClampNeg) (tx120 : x120.toInt = ((σ.2.1 7) (σ.1 14).toNatClampNeg).toInt) (ex121 : x121 = (2 : Int32) + x120) (tx121 : x121.toInt = 2 + x120.toInt) (ex122 : x122 = x121 - (1 : Int32)) : x122.toInt = x121.toInt - 1 := by
  have q1 : (1 : Int32).toInt = 1 := by decide +kernel
  have q2 : (2 : Int32).toInt = 2 := by decide +kernel
  have bb_hpre_0 := hpre_0.b
  have bb_hpre_4 := hpre_4.z.b
  have kk_hpre_0 := hpre_0.in
  have w1 : (1 : Int32).toInt = 1 := by decide +kernel
  rw [ex122, z_sub (by omega) (by omega)]; first | done | omega
-- in@72 @72
theorem v_first_71 (σ : RS) (x1 : Int32) (x2 : Int32) (x120 : Int32) (x121 : Int32) (x122 : Int32) (hpre_0 : TKI (σ.2.1 4) (σ.2.2.1 6) (σ.2.1 7) (σ.1 3) (σ.1 14)) (hpre_1 : 0 ≤ (σ.1 15).toInt) (hpre_2 : (σ.1 15).toInt ≤ 3510) (hpre_4 : PQ1 0 0 (σ.1 14) (σ.1 15) (σ.1 16) (σ.1 19) (σ.1 29) (σ.2.1 11) (σ.2.2.1 12) (σ.2.1 31) (σ.2.1 30) (σ.2.1 32) (σ.2.1 21) (σ.2.1 22) (σ.2.1 20) (σ.2.1 23) (σ.2.1 24) (σ.2.1 25) (σ.2.1 27) (σ.1 33) (σ.1 34) (σ.2.1 28)) (ex1 : x1 = (σ.2.1 4) (σ.1 14).toNatClampNeg) (tx1 : x1.toInt = ((σ.2.1 4) (σ.1 14).toNatClampNeg).toInt) (ex2 : x2 = (σ.1 19) - (1 : Int32)) (tx2 : x2.toInt = (σ.1 19).toInt - 1) (c3 : ¬ x1.toInt = 1) (c10 : ¬ x1.toInt = 4) (c18 : x1.toInt = 2) (c118 : ¬ x1.toInt = 1) (c119 : ¬ x1.toInt = 4) (ex120 : x120 = (σ.2.1 7) (σ.1 14).toNatClampNeg) (tx120 : x120.toInt = ((σ.2.1 7) (σ.1 14).toNatClampNeg).toInt) (ex121 : x121 = (2 : Int32) + x120) (tx121 : x121.toInt = 2 + x120.toInt) (ex122 : x122 = x121 - (1 : Int32)) (tx122 : x122.toInt = x121.toInt - 1) : vp_in (σ.1 14) 42 := by
  have q1 : (1 : Int32).toInt = 1 := by decide +kernel
  have q2 : (2 : Int32).toInt = 2 := by decide +kernel
  have bb_hpre_0 := hpre_0.b
  have bb_hpre_4 := hpre_4.z.b
  have kk_hpre_0 := hpre_0.in
  exact vp_in_iff.mpr ⟨by omega, by omega⟩
-- pre:emit@73 @73
theorem v_first_72 (σ : RS) (x1 : Int32) (x2 : Int32) (x120 : Int32) (x121 : Int32) (x122 : Int32) (x123 : Int64) (hpre_0 : TKI (σ.2.1 4) (σ.2.2.1 6) (σ.2.1 7) (σ.1 3) (σ.1 14)) (hpre_1 : 0 ≤ (σ.1 15).toInt) (hpre_2 : (σ.1 15).toInt ≤ 3510) (hpre_4 : PQ1 0 0 (σ.1 14) (σ.1 15) (σ.1 16) (σ.1 19) (σ.1 29) (σ.2.1 11) (σ.2.2.1 12) (σ.2.1 31) (σ.2.1 30) (σ.2.1 32) (σ.2.1 21) (σ.2.1 22) (σ.2.1 20) (σ.2.1 23) (σ.2.1 24) (σ.2.1 25) (σ.2.1 27) (σ.1 33) (σ.1 34) (σ.2.1 28)) (ex1 : x1 = (σ.2.1 4) (σ.1 14).toNatClampNeg) (tx1 : x1.toInt = ((σ.2.1 4) (σ.1 14).toNatClampNeg).toInt) (ex2 : x2 = (σ.1 19) - (1 : Int32)) (tx2 : x2.toInt = (σ.1 19).toInt - 1) (c3 : ¬ x1.toInt = 1) (c10 : ¬ x1.toInt = 4) (c18 : x1.toInt = 2) (c118 : ¬ x1.toInt = 1) (c119 : ¬ x1.toInt = 4) (ex120 : x120 = (σ.2.1 7) (σ.1 14).toNatClampNeg) (tx120 : x120.toInt = ((σ.2.1 7) (σ.1 14).toNatClampNeg).toInt) (ex121 : x121 = (2 : Int32) + x120) (tx121 : x121.toInt = 2 + x120.toInt) (ex122 : x122 = x121 - (1 : Int32)) (tx122 : x122.toInt = x121.toInt - 1) (ex123 : x123 = (σ.2.2.1 6) (σ.1 14).toNatClampNeg) (tx123 : x123.toInt = ((σ.2.2.1 6) (σ.1 14).toNatClampNeg).toInt) : 0 ≤ (σ.1 15).toInt ∧ 0 ≤ (σ.1 16).toInt ∧ (σ.1 15).toInt + (σ.1 16).toInt < 3600 := by
  have q1 : (1 : Int32).toInt = 1 := by decide +kernel
  have q2 : (2 : Int32).toInt = 2 := by decide +kernel
  have bb_hpre_0 := hpre_0.b
  have bb_hpre_4 := hpre_4.z.b
  have kk_hpre_0 := hpre_0.in
  refine ⟨?_, ?_, ?_⟩ <;> first | assumption | omega | (subst_vars; omega) | trivial
-- nw@83 @83
theorem v_first_73 (σ : RS) (x1 : Int32) (x2 : Int32) (x120 : Int32) (x121 : Int32) (x122 : Int32) (x123 : Int64) (n125 : Int32) (r124 : Int32) (x126 : Int32) (hpre_0 : TKI (σ.2.1 4) (σ.2.2.1 6) (σ.2.1 7) (σ.1 3) (σ.1 14)) (hpre_1 : 0 ≤ (σ.1 15).toInt) (hpre_2 : (σ.1 15).toInt ≤ 3510) (hpre_4 : PQ1 0 0 (σ.1 14) (σ.1 15) (σ.1 16) (σ.1 19) (σ.1 29) (σ.2.1 11) (σ.2.2.1 12) (σ.2.1 31) (σ.2.1 30) (σ.2.1 32) (σ.2.1 21) (σ.2.1 22) (σ.2.1 20) (σ.2.1 23) (σ.2.1 24) (σ.2.1 25) (σ.2.1 27) (σ.1 33) (σ.1 34) (σ.2.1 28)) (ex1 : x1 = (σ.2.1 4) (σ.1 14).toNatClampNeg) (tx1 : x1.toInt = ((σ.2.1 4) (σ.1 14).toNatClampNeg).toInt) (ex2 : x2 = (σ.1 19) - (1 : Int32)) (tx2 : x2.toInt = (σ.1 19).toInt - 1) (c3 : ¬ x1.toInt = 1) (c10 : ¬ x1.toInt = 4) (c18 : x1.toInt = 2) (c118 : ¬ x1.toInt = 1) (c119 : ¬ x1.toInt = 4) (ex120 : x120 = (σ.2.1 7) (σ.1 14).toNatClampNeg) (tx120 : x120.toInt = ((σ.2.1 7) (σ.1 14).toNatClampNeg).toInt) (ex121 : x121 = (2 : Int32) + x120) (tx121 : x121.toInt = 2 + x120.toInt) (ex122 : x122 = x121 - (1 : Int32)) (tx122 : x122.toInt = x121.toInt - 1) (ex123 : x123 = (σ.2.2.1 6) (σ.1 14).toNatClampNeg) (tx123 : x123.toInt = ((σ.2.2.1 6) (σ.1 14).toNatClampNeg).toInt) (hr124_0 : n125.toInt = (σ.1 16).toInt + 1) (hr124_1 : r124.toInt = (σ.1 15).toInt + (σ.1 16).toInt) (ex126 : x126 = (σ.1 14) + (1 : Int32)) : x126.toInt = (σ.1 14).toInt + 1 := by
  have q1 : (1 : Int32).toInt = 1 := by decide +kernel
  have q2 : (2 : Int32).toInt = 2 := by decide +kernel
  have bb_hpre_0 := hpre_0.b
  have bb_hpre_4 := hpre_4.z.b
  have kk_hpre_0 := hpre_0.in
  have w1 : (1 : Int32).toInt = 1 := by decide +kernel
  rw [ex126, z_add (by omega) (by omega)]; first | done | omega
-- pre:ready@89 @89
theorem v_first_74 (σ : RS) (x1 : Int32) (x2 : Int32) (x120 : Int32) (x121 : Int32) (x122 : Int32) (x123 : Int64) (n125 : Int32) (r124 : Int32) (x126 : Int32) (hpre_0 : TKI (σ.2.1 4) (σ.2.2.1 6) (σ.2.1 7) (σ.1 3) (σ.1 14)) (hpre_1 : 0 ≤ (σ.1 15).toInt) (hpre_2 : (σ.1 15).toInt ≤ 3510) (hpre_4 : PQ1 0 0 (σ.1 14) (σ.1 15) (σ.1 16) (σ.1 19) (σ.1 29) (σ.2.1 11) (σ.2.2.1 12) (σ.2.1 31) (σ.2.1 30) (σ.2.1 32) (σ.2.1 21) (σ.2.1 22) (σ.2.1 20) (σ.2.1 23) (σ.2.1 24) (σ.2.1 25) (σ.2.1 27) (σ.1 33) (σ.1 34) (σ.2.1 28)) (ex1 : x1 = (σ.2.1 4) (σ.1 14).toNatClampNeg) (tx1 : x1.toInt = ((σ.2.1 4) (σ.1 14).toNatClampNeg).toInt) (ex2 : x2 = (σ.1 19) - (1 : Int32)) (tx2 : x2.toInt = (σ.1 19).toInt - 1) (c3 : ¬ x1.toInt = 1) (c10 : ¬ x1.toInt = 4) (c18 : x1.toInt = 2) (c118 : ¬ x1.toInt = 1) (c119 : ¬ x1.toInt = 4) (ex120 : x120 = (σ.2.1 7) (σ.1 14).toNatClampNeg) (tx120 : x120.toInt = ((σ.2.1 7) (σ.1 14).toNatClampNeg).toInt) (ex121 : x121 = (2 : Int32) + x120) (tx121 : x121.toInt = 2 + x120.toInt) (ex122 : x122 = x121 - (1 : Int32)) (tx122 : x122.toInt = x121.toInt - 1) (ex123 : x123 = (σ.2.2.1 6) (σ.1 14).toNatClampNeg) (tx123 : x123.toInt = ((σ.2.2.1 6) (σ.1 14).toNatClampNeg).toInt) (hr124_0 : n125.toInt = (σ.1 16).toInt + 1) (hr124_1 : r124.toInt = (σ.1 15).toInt + (σ.1 16).toInt) (ex126 : x126 = (σ.1 14) + (1 : Int32)) (tx126 : x126.toInt = (σ.1 14).toInt + 1) : 1 ≤ (σ.1 19).toInt ∧ (σ.1 19).toInt ≤ 8 ∧ ((0 : Int32) = 0 ∨ (0 : Int32) = 1) := by
  have q0 : (0 : Int32).toInt = 0 := by decide +kernel
  have q1 : (1 : Int32).toInt = 1 := by decide +kernel
  have q2 : (2 : Int32).toInt = 2 := by decide +kernel
  have bb_hpre_0 := hpre_0.b
  have bb_hpre_4 := hpre_4.z.b
  have kk_hpre_0 := hpre_0.in
  refine ⟨?_, ?_, ?_⟩ <;> first | assumption | omega | (subst_vars; omega) | trivial
-- post @278
theorem v_first_75 (σ : RS) (x1 : Int32) (x2 : Int32) (x120 : Int32) (x121 : Int32) (x122 : Int32) (x123 : Int64) (n125 : Int32) (r124 : Int32) (x126 : Int32) (hpre_0 : TKI (σ.2.1 4) (σ.2.2.1 6) (σ.2.1 7) (σ.1 3) (σ.1 14)) (hpre_1 : 0 ≤ (σ.1 15).toInt) (hpre_2 : (σ.1 15).toInt ≤ 3510) (hpre_3 : (σ.1 8).toInt = 0) (hpre_4 : PQ1 0 0 (σ.1 14) (σ.1 15) (σ.1 16) (σ.1 19) (σ.1 29) (σ.2.1 11) (σ.2.2.1 12) (σ.2.1 31) (σ.2.1 30) (σ.2.1 32) (σ.2.1 21) (σ.2.1 22) (σ.2.1 20) (σ.2.1 23) (σ.2.1 24) (σ.2.1 25) (σ.2.1 27) (σ.1 33) (σ.1 34) (σ.2.1 28)) (ex1 : x1 = (σ.2.1 4) (σ.1 14).toNatClampNeg) (tx1 : x1.toInt = ((σ.2.1 4) (σ.1 14).toNatClampNeg).toInt) (ex2 : x2 = (σ.1 19) - (1 : Int32)) (tx2 : x2.toInt = (σ.1 19).toInt - 1) (c3 : ¬ x1.toInt = 1) (c10 : ¬ x1.toInt = 4) (c18 : x1.toInt = 2) (c118 : ¬ x1.toInt = 1) (c119 : ¬ x1.toInt = 4) (ex120 : x120 = (σ.2.1 7) (σ.1 14).toNatClampNeg) (tx120 : x120.toInt = ((σ.2.1 7) (σ.1 14).toNatClampNeg).toInt) (ex121 : x121 = (2 : Int32) + x120) (tx121 : x121.toInt = 2 + x120.toInt) (ex122 : x122 = x121 - (1 : Int32)) (tx122 : x122.toInt = x121.toInt - 1) (ex123 : x123 = (σ.2.2.1 6) (σ.1 14).toNatClampNeg) (tx123 : x123.toInt = ((σ.2.2.1 6) (σ.1 14).toNatClampNeg).toInt) (hr124_0 : n125.toInt = (σ.1 16).toInt + 1) (hr124_1 : r124.toInt = (σ.1 15).toInt + (σ.1 16).toInt) (ex126 : x126 = (σ.1 14) + (1 : Int32)) (tx126 : x126.toInt = (σ.1 14).toInt + 1) : Keep (σ.1 15).toInt (σ.2.1 11) (upd (σ.2.1 11) ((σ.1 15).toInt + (σ.1 16).toInt).toNat x122) (σ.2.2.1 12) (vp_updL (σ.2.2.1 12) ((σ.1 15).toInt + (σ.1 16).toInt).toNat x123) ∧ 0 ≤ (σ.1 8).toInt ∧ (σ.1 8).toInt ≤ 3 ∧ ((σ.1 8).toInt = 0 → TKI (σ.2.1 4) (σ.2.2.1 6) (σ.2.1 7) (σ.1 3) x126 ∧ LI (0 : Int32) x126 (σ.1 15) n125 (σ.1 19) (σ.1 29) (upd (σ.2.1 11) ((σ.1 15).toInt + (σ.1 16).toInt).toNat x122) (vp_updL (σ.2.2.1 12) ((σ.1 15).toInt + (σ.1 16).toInt).toNat x123) (σ.2.1 31) (σ.2.1 30) (σ.2.1 32) (σ.2.1 21) (σ.2.1 22) (σ.2.1 20) (σ.2.1 23) (σ.2.1 24) (σ.2.1 25) (σ.2.1 27) (σ.1 33) (σ.1 34) (upd (σ.2.1 28) ((σ.1 19).toInt - 1).toNat (0 : Int32)) ∧ 2 * (σ.1 14).toInt - (σ.1 19).toInt < 2 * x126.toInt - (σ.1 19).toInt) := by
  have q0 : (0 : Int32).toInt = 0 := by decide +kernel
  have q1 : (1 : Int32).toInt = 1 := by decide +kernel
  have q2 : (2 : Int32).toInt = 2 := by decide +kernel
  have bb_hpre_0 := hpre_0.b
  have bb_hpre_4 := hpre_4.z.b
  have kk_hpre_0 := hpre_0.in
  have k := hpre_0.in (by omega)
  exact ⟨Keep.rf.em (by omega), by omega, by omega, fun _ => ⟨hpre_0.up (by omega) (by omega), Or.inr ⟨q0, (PQ_load hpre_4 hpre_2 (by omega) (by omega) (by omega) (by omega) (by omega)).2 (Or.inr (fun hc => by rw [upd_at (by omega)]; exact q0))⟩, by omega⟩⟩
-- dead@44 @47
theorem v_first_76 (σ : RS) (x1 : Int32) (ex1 : x1 = (σ.2.1 4) (σ.1 14).toNatClampNeg) (tx1 : x1.toInt = ((σ.2.1 4) (σ.1 14).toNatClampNeg).toInt) (c3 : ¬ x1.toInt = 1) (c10 : ¬ x1.toInt = 4) (c18 : x1.toInt = 2) (c118 : ¬ x1.toInt = 1) (c119 : x1.toInt = 4) : False := by
  first | assumption | omega | (subst_vars; omega) | trivial
-- dead@35 @38
theorem v_first_77 (σ : RS) (x1 : Int32) (ex1 : x1 = (σ.2.1 4) (σ.1 14).toNatClampNeg) (tx1 : x1.toInt = ((σ.2.1 4) (σ.1 14).toNatClampNeg).toInt) (c3 : ¬ x1.toInt = 1) (c10 : ¬ x1.toInt = 4) (c18 : x1.toInt = 2) (c118 : x1.toInt = 1) : False := by
  first | assumption | omega | (subst_vars; omega) | trivial
set_option maxHeartbeats 4000000 in
set_option maxRecDepth 100000 in
theorem M_first (l : Launch) (D : va_G) (cy : Nat → ClassId) (sz0 : Nat) (sa : Nat → Nat) (ad : Nat → Nat) (σ : RS) (sz : Nat)  (hpre : TKI (σ.2.1 4) (σ.2.2.1 6) (σ.2.1 7) (σ.1 3) (σ.1 14) ∧ 0 ≤ (σ.1 15).toInt ∧ (σ.1 15).toInt ≤ 3510 ∧ (σ.1 8).toInt = 0 ∧ PQ1 0 0 (σ.1 14) (σ.1 15) (σ.1 16) (σ.1 19) (σ.1 29) (σ.2.1 11) (σ.2.2.1 12) (σ.2.1 31) (σ.2.1 30) (σ.2.1 32) (σ.2.1 21) (σ.2.1 22) (σ.2.1 20) (σ.2.1 23) (σ.2.1 24) (σ.2.1 25) (σ.2.1 27) (σ.1 33) (σ.1 34) (σ.2.1 28) ∧ (σ.1 17).toInt = 1) : Met l yX12_first (Cond.code yX12_first cX12_first 3 none :: GWm) ({ frames := 5, cells := 0, slots := 0, locals := 109 }) (PcR D cy sz0 sa ad [.ref (ad 0)] σ sz) (va_Qv (fun (u : Int32 × (Nat → Int32) × (Nat → Int64) × Int32 × Int32 × Int32 × (Nat → Int32) × (Nat → Int32) × (Nat → Int32) × (Nat → Int32) × (Nat → Int32) × (Nat → Int32) × (Nat → Int32) × (Nat → Int32) × (Nat → Int32) × (Nat → Int32) × (Nat → Int32) × (Nat → Int32) × Int32 × Int32 × Int32 × Int32 × Int32) => Keep (σ.1 15).toInt (σ.2.1 11) u.2.1 (σ.2.2.1 12) u.2.2.1 ∧ 0 ≤ u.2.2.2.2.2.2.2.2.2.2.2.2.2.2.2.2.2.2.2.2.2.1.toInt ∧ u.2.2.2.2.2.2.2.2.2.2.2.2.2.2.2.2.2.2.2.2.2.1.toInt ≤ 3 ∧ (u.2.2.2.2.2.2.2.2.2.2.2.2.2.2.2.2.2.2.2.2.2.1.toInt = 0 → TKI (σ.2.1 4) (σ.2.2.1 6) (σ.2.1 7) (σ.1 3) u.1 ∧ LI u.2.2.2.2.2.2.2.2.2.2.2.2.2.2.2.2.2.2.1 u.1 (σ.1 15) u.2.2.2.1 u.2.2.2.2.1 u.2.2.2.2.2.1 u.2.1 u.2.2.1 u.2.2.2.2.2.2.1 u.2.2.2.2.2.2.2.1 u.2.2.2.2.2.2.2.2.1 u.2.2.2.2.2.2.2.2.2.1 u.2.2.2.2.2.2.2.2.2.2.1 u.2.2.2.2.2.2.2.2.2.2.2.1 u.2.2.2.2.2.2.2.2.2.2.2.2.1 u.2.2.2.2.2.2.2.2.2.2.2.2.2.1 u.2.2.2.2.2.2.2.2.2.2.2.2.2.2.1 u.2.2.2.2.2.2.2.2.2.2.2.2.2.2.2.2.1 u.2.2.2.2.2.2.2.2.2.2.2.2.2.2.2.2.2.2.2.1 u.2.2.2.2.2.2.2.2.2.2.2.2.2.2.2.2.2.2.2.2.1 u.2.2.2.2.2.2.2.2.2.2.2.2.2.2.2.2.2.1 ∧ 2 * (σ.1 14).toInt - (σ.1 19).toInt < 2 * u.1.toInt - u.2.2.2.2.1.toInt)) (fun (u : Int32 × (Nat → Int32) × (Nat → Int64) × Int32 × Int32 × Int32 × (Nat → Int32) × (Nat → Int32) × (Nat → Int32) × (Nat → Int32) × (Nat → Int32) × (Nat → Int32) × (Nat → Int32) × (Nat → Int32) × (Nat → Int32) × (Nat → Int32) × (Nat → Int32) × (Nat → Int32) × Int32 × Int32 × Int32 × Int32 × Int32) (t : State) => RP D cy ad (rS (rS (rS (rS (rS (rA (rA (rA (rA (rA (rA (rA (rA (rA (rA (rA (rA (rS (rS (rS (rJ (rA (rS σ 14 u.1) 11 u.2.1) 12 u.2.2.1) 16 u.2.2.2.1) 19 u.2.2.2.2.1) 29 u.2.2.2.2.2.1) 31 u.2.2.2.2.2.2.1) 30 u.2.2.2.2.2.2.2.1) 32 u.2.2.2.2.2.2.2.2.1) 21 u.2.2.2.2.2.2.2.2.2.1) 22 u.2.2.2.2.2.2.2.2.2.2.1) 20 u.2.2.2.2.2.2.2.2.2.2.2.1) 23 u.2.2.2.2.2.2.2.2.2.2.2.2.1) 24 u.2.2.2.2.2.2.2.2.2.2.2.2.2.1) 25 u.2.2.2.2.2.2.2.2.2.2.2.2.2.2.1) 26 u.2.2.2.2.2.2.2.2.2.2.2.2.2.2.2.1) 27 u.2.2.2.2.2.2.2.2.2.2.2.2.2.2.2.2.1) 28 u.2.2.2.2.2.2.2.2.2.2.2.2.2.2.2.2.2.1) 17 u.2.2.2.2.2.2.2.2.2.2.2.2.2.2.2.2.2.2.1) 33 u.2.2.2.2.2.2.2.2.2.2.2.2.2.2.2.2.2.2.2.1) 34 u.2.2.2.2.2.2.2.2.2.2.2.2.2.2.2.2.2.2.2.2.1) 8 u.2.2.2.2.2.2.2.2.2.2.2.2.2.2.2.2.2.2.2.2.2.1) 9 u.2.2.2.2.2.2.2.2.2.2.2.2.2.2.2.2.2.2.2.2.2.2) t.heap) (AR cy ad sz)) 0 0 (AR cy ad sz) := by
  refine RM_of (loc0 := [(0, .ref (ad 0))]) (by decide) rfl rfl (Nat.le_of_ble_eq_true rfl) ?_
  intro p e s m below meth c ls hsz C hP hS hl
  have hx := C.1
  have hb := C.2.1
  have hown := C.2.2.2.2.1
  have hw := C.2.2.2.2.2.1
  clear hsz
  obtain ⟨hpre_0, hpre_1, hpre_2, hpre_3, hpre_4, hpre_5⟩ := hpre
  refine lv_aload_n hx hb dX12_first_0 rfl (lv_at hl 0 rfl) ?_
  refine rg_4 C hP wm_16 dX12_first_1 ?_
  refine lv_aload_n hx hb dX12_first_4 rfl (lv_at hl 0 rfl) ?_
  refine rg_14 (v := (σ.1 14)) C hP rfl wm_62 dX12_first_5 ?_
  refine ra_4 (f := (σ.2.1 4)) C hP rfl (v_first_1 σ hpre_0 hpre_1 hpre_2 hpre_4) dX12_first_8 (fun x1 ex1 => ?_)
  have tx1 : x1.toInt = ((σ.2.1 4) (σ.1 14).toNatClampNeg).toInt := by rw [ex1]
  refine lv_istore_n (lv' := [(1, .int x1), (0, .ref (ad 0))]) hx hb dX12_first_9 rfl hl (by decide) rfl (fun ls hl => ?_)
  refine lv_aload_n hx hb dX12_first_10 rfl (lv_at hl 1 rfl) ?_
  refine rg_19 (v := (σ.1 19)) C hP rfl wm_70 dX12_first_11 ?_
  refine lv_iconst (v := 1) hx hb dX12_first_14 (by decide +kernel) ?_
  refine lv_isub hx hb dX12_first_15 ?_
  refine lv_topi (fun x2 ex2 => ?_)
  have tx2 : x2.toInt = (σ.1 19).toInt - 1 := (v_first_2 σ x1 x2 hpre_0 hpre_1 hpre_2 hpre_4 ex1 tx1 ex2)
  refine lv_istore_n (lv' := [(2, .int x2), (1, .int x1), (0, .ref (ad 0))]) hx hb dX12_first_16 rfl hl (by decide) rfl (fun ls hl => ?_)
  refine lv_iload_n hx hb dX12_first_17 rfl (lv_at hl 1 rfl) ?_
  refine lv_iconst (v := 1) hx hb dX12_first_18 (by decide +kernel) ?_
  refine lv_icmp_eq (tgt := 32) hx hb dX12_first_19 (by decide) (fun c3 => ?_) (fun c3 => ?_)
  · have c3 : x1.toInt = 1 := by have h := z_eq c3; rw [show (1 : Int32).toInt = 1 from by decide +kernel] at h; exact h
    refine lv_aload_n hx hb dX12_first_32 rfl (lv_at hl 2 rfl) ?_
    refine lv_iload_n hx hb dX12_first_33 rfl (lv_at hl 1 rfl) ?_
    refine lv_iconst (v := 1) hx hb dX12_first_34 (by decide +kernel) ?_
    refine lv_icmp_ne (tgt := 42) hx hb dX12_first_35 (by decide) (fun c4 => ?_) (fun c4 => ?_)
    · have c4 : ¬ x1.toInt = 1 := by have h := z_ne c4; rw [show (1 : Int32).toInt = 1 from by decide +kernel] at h; exact h
      exact absurd (v_first_3 σ x1 ex1 tx1 c3 c4) id
    · have c4 : x1.toInt = 1 := by have h := z_eq c4; rw [show (1 : Int32).toInt = 1 from by decide +kernel] at h; exact h
      refine lv_iconst (v := 1) hx hb dX12_first_38 (by decide +kernel) ?_
      refine lv_goto (tgt := 64) hx hb dX12_first_39 (by decide) ?_
      refine lv_aload_n hx hb dX12_first_64 rfl (lv_at hl 2 rfl) ?_
      refine rg_6 C hP wm_19 dX12_first_65 ?_
      refine lv_aload_n hx hb dX12_first_68 rfl (lv_at hl 2 rfl) ?_
      refine rg_14 (v := (σ.1 14)) C hP rfl wm_62 dX12_first_69 ?_
      refine ra_6 (f := (σ.2.2.1 6)) C hP rfl (v_first_4 σ x1 x2 hpre_0 hpre_1 hpre_2 hpre_4 ex1 tx1 ex2 tx2 c3 c4) dX12_first_72 (fun x5 ex5 => ?_)
      have tx5 : x5.toInt = ((σ.2.2.1 6) (σ.1 14).toNatClampNeg).toInt := by rw [ex5]
      refine r_callVi (As := [.int 1, .long x5]) (rest := []) C hP hS hl.1 ⟨Nat.zero_le _, Nat.zero_le _⟩ (M_emit l D cy sz0 sa ad σ s.heap.size (1 : Int32) x5 (v_first_5 σ x1 x2 x5 hpre_0 hpre_1 hpre_2 hpre_4 ex1 tx1 ex2 tx2 c3 c4 ex5 tx5)) (n := 2) ⟨wm_89, wm_64, by decide +kernel⟩ ⟨wm_90, wm_91, wm_10⟩ rfl rfl (lv_room (Nat.le_of_ble_eq_true rfl)) ⟨Nat.le_of_ble_eq_true rfl, Nat.le_of_ble_eq_true rfl⟩ dX12_first_73 (fun r6 u H locs hr6 hP hS => ?_)
      obtain ⟨n7, rfl⟩ : ∃ z, z = u := ⟨_, rfl⟩
      have hr6 : n7.toInt = (σ.1 16).toInt + 1 ∧ r6.toInt = (σ.1 15).toInt + (σ.1 16).toInt := hr6
      obtain ⟨hr6_0, hr6_1⟩ := hr6
      have hP : RP D cy ad (rS (rJ (rA σ 11 (upd (σ.2.1 11) ((σ.1 15).toInt + (σ.1 16).toInt).toNat (1 : Int32))) 12 (vp_updL (σ.2.2.1 12) ((σ.1 15).toInt + (σ.1 16).toInt).toNat x5)) 16 n7) H := hP
      refine lv_pop hx hb dX12_first_76 rfl ?_
      refine lv_aload_n hx hb dX12_first_77 rfl (lv_at hl 2 rfl) ?_
      refine lv_dup hx hb dX12_first_78 rfl ?_
      refine rg_14 (v := (σ.1 14)) C hP rfl wm_62 dX12_first_79 ?_
      refine lv_iconst (v := 1) hx hb dX12_first_82 (by decide +kernel) ?_
      refine lv_iadd hx hb dX12_first_83 ?_
      refine lv_topi (fun x8 ex8 => ?_)
      have tx8 : x8.toInt = (σ.1 14).toInt + 1 := (v_first_6 σ x1 x2 x5 n7 r6 x8 hpre_0 hpre_1 hpre_2 hpre_4 ex1 tx1 ex2 tx2 c3 c4 ex5 tx5 hr6_0 hr6_1 ex8)
      refine rp_14 C hP hS wm_62 dX12_first_84 (fun H locs hP hS => ?_)
      refine lv_aload_n hx hb dX12_first_87 rfl (lv_at hl 2 rfl) ?_
      refine lv_iconst (v := 0) hx hb dX12_first_88 (by decide +kernel) ?_
      refine r_callVv (As := [.int 0]) (rest := []) C hP hS hl.1 ⟨Nat.zero_le _, Nat.zero_le _⟩ (M_ready l D cy sz0 sa ad (rS (rS (rJ (rA σ 11 (upd (σ.2.1 11) ((σ.1 15).toInt + (σ.1 16).toInt).toNat (1 : Int32))) 12 (vp_updL (σ.2.2.1 12) ((σ.1 15).toInt + (σ.1 16).toInt).toNat x5)) 16 n7) 14 x8) H.size (0 : Int32) (v_first_7 σ x1 x2 x5 n7 r6 x8 hpre_0 hpre_1 hpre_2 hpre_4 ex1 tx1 ex2 tx2 c3 c4 ex5 tx5 hr6_0 hr6_1 ex8 tx8)) (n := 1) ⟨wm_95, wm_83, by decide +kernel⟩ ⟨wm_96, wm_97, wm_10⟩ rfl rfl (lv_room (Nat.le_of_ble_eq_true rfl)) ⟨Nat.le_of_ble_eq_true rfl, Nat.le_of_ble_eq_true rfl⟩ dX12_first_89 (fun u H locs hr9 hP hS => ?_)
      have hr9 : True := hr9
      have hP : RP D cy ad (rS (rA (rS (rS (rJ (rA σ 11 (upd (σ.2.1 11) ((σ.1 15).toInt + (σ.1 16).toInt).toNat (1 : Int32))) 12 (vp_updL (σ.2.2.1 12) ((σ.1 15).toInt + (σ.1 16).toInt).toNat x5)) 16 n7) 14 x8) 28 (upd (σ.2.1 28) ((σ.1 19).toInt - 1).toNat (0 : Int32))) 17 (0 : Int32)) H := hP
      refine lv_goto (tgt := 278) hx hb dX12_first_92 (by decide) ?_
      have hP : RP D cy ad (rS (rS (rS (rS (rS (rA (rA (rA (rA (rA (rA (rA (rA (rA (rA (rA (rA (rS (rS (rS (rJ (rA (rS σ 14 x8) 11 (upd (σ.2.1 11) ((σ.1 15).toInt + (σ.1 16).toInt).toNat (1 : Int32))) 12 (vp_updL (σ.2.2.1 12) ((σ.1 15).toInt + (σ.1 16).toInt).toNat x5)) 16 n7) 19 (σ.1 19)) 29 (σ.1 29)) 31 (σ.2.1 31)) 30 (σ.2.1 30)) 32 (σ.2.1 32)) 21 (σ.2.1 21)) 22 (σ.2.1 22)) 20 (σ.2.1 20)) 23 (σ.2.1 23)) 24 (σ.2.1 24)) 25 (σ.2.1 25)) 26 (σ.2.1 26)) 27 (σ.2.1 27)) 28 (upd (σ.2.1 28) ((σ.1 19).toInt - 1).toNat (0 : Int32))) 17 (0 : Int32)) 33 (σ.1 33)) 34 (σ.1 34)) 8 (σ.1 8)) 9 (σ.1 9)) H := RP.cong hP (Eq.trans (b := (σ.1 0)) rfl rfl) (Eq.trans (b := (σ.1 1)) rfl rfl) (Eq.trans (b := (σ.2.1 2)) rfl rfl) (Eq.trans (b := (σ.1 3)) rfl rfl) (Eq.trans (b := (σ.2.1 4)) rfl rfl) (Eq.trans (b := (σ.2.1 5)) rfl rfl) (Eq.trans (b := (σ.2.2.1 6)) rfl rfl) (Eq.trans (b := (σ.2.1 7)) rfl rfl) (Eq.trans (b := (σ.1 8)) rfl rfl) (Eq.trans (b := (σ.1 9)) rfl rfl) (Eq.trans (b := (σ.1 10)) rfl rfl) (Eq.trans (b := (upd (σ.2.1 11) ((σ.1 15).toInt + (σ.1 16).toInt).toNat (1 : Int32))) rfl rfl) (Eq.trans (b := (vp_updL (σ.2.2.1 12) ((σ.1 15).toInt + (σ.1 16).toInt).toNat x5)) rfl rfl) (Eq.trans (b := (σ.2.1 13)) rfl rfl) (Eq.trans (b := x8) rfl rfl) (Eq.trans (b := (σ.1 15)) rfl rfl) (Eq.trans (b := n7) rfl rfl) (Eq.trans (b := (0 : Int32)) rfl rfl) (Eq.trans (b := (σ.1 18)) rfl rfl) (Eq.trans (b := (σ.1 19)) rfl rfl) (Eq.trans (b := (σ.2.1 20)) rfl rfl) (Eq.trans (b := (σ.2.1 21)) rfl rfl) (Eq.trans (b := (σ.2.1 22)) rfl rfl) (Eq.trans (b := (σ.2.1 23)) rfl rfl) (Eq.trans (b := (σ.2.1 24)) rfl rfl) (Eq.trans (b := (σ.2.1 25)) rfl rfl) (Eq.trans (b := (σ.2.1 26)) rfl rfl) (Eq.trans (b := (σ.2.1 27)) rfl rfl) (Eq.trans (b := (upd (σ.2.1 28) ((σ.1 19).toInt - 1).toNat (0 : Int32))) rfl rfl) (Eq.trans (b := (σ.1 29)) rfl rfl) (Eq.trans (b := (σ.2.1 30)) rfl rfl) (Eq.trans (b := (σ.2.1 31)) rfl rfl) (Eq.trans (b := (σ.2.1 32)) rfl rfl) (Eq.trans (b := (σ.1 33)) rfl rfl) (Eq.trans (b := (σ.1 34)) rfl rfl) (Eq.trans (b := (σ.1 35)) rfl rfl) (Eq.trans (b := (σ.2.1 36)) rfl rfl) (Eq.trans (b := (σ.2.1 37)) rfl rfl) (Eq.trans (b := (σ.2.1 38)) rfl rfl) (Eq.trans (b := (σ.2.1 39)) rfl rfl) (Eq.trans (b := (σ.2.1 40)) rfl rfl) (Eq.trans (b := (σ.2.1 41)) rfl rfl) (Eq.trans (b := (σ.2.1 42)) rfl rfl) (Eq.trans (b := (σ.2.1 43)) rfl rfl) (Eq.trans (b := (σ.2.1 44)) rfl rfl) (Eq.trans (b := (σ.2.1 45)) rfl rfl) (Eq.trans (b := (σ.2.1 46)) rfl rfl) (Eq.trans (b := (σ.1 47)) rfl rfl) (Eq.trans (b := (σ.2.1 48)) rfl rfl) (Eq.trans (b := (σ.1 49)) rfl rfl) (Eq.trans (b := (σ.2.1 50)) rfl rfl) (Eq.trans (b := (σ.2.1 51)) rfl rfl) (Eq.trans (b := (σ.2.2.1 52)) rfl rfl) (Eq.trans (b := (σ.2.2.1 53)) rfl rfl) (Eq.trans (b := (σ.2.2.2)) rfl rfl) (Eq.trans (b := (σ.1 55)) rfl rfl) (Eq.trans (b := (σ.1 56)) rfl rfl) (Eq.trans (b := (σ.1 57)) rfl rfl) (Eq.trans (b := (σ.2.1 58)) rfl rfl) (Eq.trans (b := (σ.1 59)) rfl rfl)
      exact r_retv C ⟨x8, (upd (σ.2.1 11) ((σ.1 15).toInt + (σ.1 16).toInt).toNat (1 : Int32)), (vp_updL (σ.2.2.1 12) ((σ.1 15).toInt + (σ.1 16).toInt).toNat x5), n7, (σ.1 19), (σ.1 29), (σ.2.1 31), (σ.2.1 30), (σ.2.1 32), (σ.2.1 21), (σ.2.1 22), (σ.2.1 20), (σ.2.1 23), (σ.2.1 24), (σ.2.1 25), (σ.2.1 26), (σ.2.1 27), (upd (σ.2.1 28) ((σ.1 19).toInt - 1).toNat (0 : Int32)), (0 : Int32), (σ.1 33), (σ.1 34), (σ.1 8), (σ.1 9)⟩ (v_first_8 σ x1 x2 x5 n7 r6 x8 hpre_0 hpre_1 hpre_2 hpre_3 hpre_4 ex1 tx1 ex2 tx2 c3 c4 ex5 tx5 hr6_0 hr6_1 ex8 tx8) hP hS dX12_first_278
  · have c3 : ¬ x1.toInt = 1 := by have h := z_ne c3; rw [show (1 : Int32).toInt = 1 from by decide +kernel] at h; exact h
    refine lv_iload_n hx hb dX12_first_22 rfl (lv_at hl 1 rfl) ?_
    refine lv_iconst (v := 4) hx hb dX12_first_23 (by decide +kernel) ?_
    refine lv_icmp_eq (tgt := 32) hx hb dX12_first_24 (by decide) (fun c10 => ?_) (fun c10 => ?_)
    · have c10 : x1.toInt = 4 := by have h := z_eq c10; rw [show (4 : Int32).toInt = 4 from by decide +kernel] at h; exact h
      refine lv_aload_n hx hb dX12_first_32 rfl (lv_at hl 2 rfl) ?_
      refine lv_iload_n hx hb dX12_first_33 rfl (lv_at hl 1 rfl) ?_
      refine lv_iconst (v := 1) hx hb dX12_first_34 (by decide +kernel) ?_
      refine lv_icmp_ne (tgt := 42) hx hb dX12_first_35 (by decide) (fun c11 => ?_) (fun c11 => ?_)
      · have c11 : ¬ x1.toInt = 1 := by have h := z_ne c11; rw [show (1 : Int32).toInt = 1 from by decide +kernel] at h; exact h
        refine lv_iload_n hx hb dX12_first_42 rfl (lv_at hl 1 rfl) ?_
        refine lv_iconst (v := 4) hx hb dX12_first_43 (by decide +kernel) ?_
        refine lv_icmp_ne (tgt := 51) hx hb dX12_first_44 (by decide) (fun c12 => ?_) (fun c12 => ?_)
        · have c12 : ¬ x1.toInt = 4 := by have h := z_ne c12; rw [show (4 : Int32).toInt = 4 from by decide +kernel] at h; exact h
          exact absurd (v_first_9 σ x1 ex1 tx1 c3 c10 c11 c12) id
        · have c12 : x1.toInt = 4 := by have h := z_eq c12; rw [show (4 : Int32).toInt = 4 from by decide +kernel] at h; exact h
          refine lv_iconst (v := 5) hx hb dX12_first_47 (by decide +kernel) ?_
          refine lv_goto (tgt := 64) hx hb dX12_first_48 (by decide) ?_
          refine lv_aload_n hx hb dX12_first_64 rfl (lv_at hl 2 rfl) ?_
          refine rg_6 C hP wm_19 dX12_first_65 ?_
          refine lv_aload_n hx hb dX12_first_68 rfl (lv_at hl 2 rfl) ?_
          refine rg_14 (v := (σ.1 14)) C hP rfl wm_62 dX12_first_69 ?_
          refine ra_6 (f := (σ.2.2.1 6)) C hP rfl (v_first_10 σ x1 x2 hpre_0 hpre_1 hpre_2 hpre_4 ex1 tx1 ex2 tx2 c3 c10 c11 c12) dX12_first_72 (fun x13 ex13 => ?_)
          have tx13 : x13.toInt = ((σ.2.2.1 6) (σ.1 14).toNatClampNeg).toInt := by rw [ex13]
          refine r_callVi (As := [.int 5, .long x13]) (rest := []) C hP hS hl.1 ⟨Nat.zero_le _, Nat.zero_le _⟩ (M_emit l D cy sz0 sa ad σ s.heap.size (5 : Int32) x13 (v_first_11 σ x1 x2 x13 hpre_0 hpre_1 hpre_2 hpre_4 ex1 tx1 ex2 tx2 c3 c10 c11 c12 ex13 tx13)) (n := 2) ⟨wm_89, wm_64, by decide +kernel⟩ ⟨wm_90, wm_91, wm_10⟩ rfl rfl (lv_room (Nat.le_of_ble_eq_true rfl)) ⟨Nat.le_of_ble_eq_true rfl, Nat.le_of_ble_eq_true rfl⟩ dX12_first_73 (fun r14 u H locs hr14 hP hS => ?_)
          obtain ⟨n15, rfl⟩ : ∃ z, z = u := ⟨_, rfl⟩
          have hr14 : n15.toInt = (σ.1 16).toInt + 1 ∧ r14.toInt = (σ.1 15).toInt + (σ.1 16).toInt := hr14
          obtain ⟨hr14_0, hr14_1⟩ := hr14
          have hP : RP D cy ad (rS (rJ (rA σ 11 (upd (σ.2.1 11) ((σ.1 15).toInt + (σ.1 16).toInt).toNat (5 : Int32))) 12 (vp_updL (σ.2.2.1 12) ((σ.1 15).toInt + (σ.1 16).toInt).toNat x13)) 16 n15) H := hP
          refine lv_pop hx hb dX12_first_76 rfl ?_
          refine lv_aload_n hx hb dX12_first_77 rfl (lv_at hl 2 rfl) ?_
          refine lv_dup hx hb dX12_first_78 rfl ?_
          refine rg_14 (v := (σ.1 14)) C hP rfl wm_62 dX12_first_79 ?_
          refine lv_iconst (v := 1) hx hb dX12_first_82 (by decide +kernel) ?_
          refine lv_iadd hx hb dX12_first_83 ?_
          refine lv_topi (fun x16 ex16 => ?_)
          have tx16 : x16.toInt = (σ.1 14).toInt + 1 := (v_first_12 σ x1 x2 x13 n15 r14 x16 hpre_0 hpre_1 hpre_2 hpre_4 ex1 tx1 ex2 tx2 c3 c10 c11 c12 ex13 tx13 hr14_0 hr14_1 ex16)
          refine rp_14 C hP hS wm_62 dX12_first_84 (fun H locs hP hS => ?_)
          refine lv_aload_n hx hb dX12_first_87 rfl (lv_at hl 2 rfl) ?_
          refine lv_iconst (v := 0) hx hb dX12_first_88 (by decide +kernel) ?_
          refine r_callVv (As := [.int 0]) (rest := []) C hP hS hl.1 ⟨Nat.zero_le _, Nat.zero_le _⟩ (M_ready l D cy sz0 sa ad (rS (rS (rJ (rA σ 11 (upd (σ.2.1 11) ((σ.1 15).toInt + (σ.1 16).toInt).toNat (5 : Int32))) 12 (vp_updL (σ.2.2.1 12) ((σ.1 15).toInt + (σ.1 16).toInt).toNat x13)) 16 n15) 14 x16) H.size (0 : Int32) (v_first_13 σ x1 x2 x13 n15 r14 x16 hpre_0 hpre_1 hpre_2 hpre_4 ex1 tx1 ex2 tx2 c3 c10 c11 c12 ex13 tx13 hr14_0 hr14_1 ex16 tx16)) (n := 1) ⟨wm_95, wm_83, by decide +kernel⟩ ⟨wm_96, wm_97, wm_10⟩ rfl rfl (lv_room (Nat.le_of_ble_eq_true rfl)) ⟨Nat.le_of_ble_eq_true rfl, Nat.le_of_ble_eq_true rfl⟩ dX12_first_89 (fun u H locs hr17 hP hS => ?_)
          have hr17 : True := hr17
          have hP : RP D cy ad (rS (rA (rS (rS (rJ (rA σ 11 (upd (σ.2.1 11) ((σ.1 15).toInt + (σ.1 16).toInt).toNat (5 : Int32))) 12 (vp_updL (σ.2.2.1 12) ((σ.1 15).toInt + (σ.1 16).toInt).toNat x13)) 16 n15) 14 x16) 28 (upd (σ.2.1 28) ((σ.1 19).toInt - 1).toNat (0 : Int32))) 17 (0 : Int32)) H := hP
          refine lv_goto (tgt := 278) hx hb dX12_first_92 (by decide) ?_
          have hP : RP D cy ad (rS (rS (rS (rS (rS (rA (rA (rA (rA (rA (rA (rA (rA (rA (rA (rA (rA (rS (rS (rS (rJ (rA (rS σ 14 x16) 11 (upd (σ.2.1 11) ((σ.1 15).toInt + (σ.1 16).toInt).toNat (5 : Int32))) 12 (vp_updL (σ.2.2.1 12) ((σ.1 15).toInt + (σ.1 16).toInt).toNat x13)) 16 n15) 19 (σ.1 19)) 29 (σ.1 29)) 31 (σ.2.1 31)) 30 (σ.2.1 30)) 32 (σ.2.1 32)) 21 (σ.2.1 21)) 22 (σ.2.1 22)) 20 (σ.2.1 20)) 23 (σ.2.1 23)) 24 (σ.2.1 24)) 25 (σ.2.1 25)) 26 (σ.2.1 26)) 27 (σ.2.1 27)) 28 (upd (σ.2.1 28) ((σ.1 19).toInt - 1).toNat (0 : Int32))) 17 (0 : Int32)) 33 (σ.1 33)) 34 (σ.1 34)) 8 (σ.1 8)) 9 (σ.1 9)) H := RP.cong hP (Eq.trans (b := (σ.1 0)) rfl rfl) (Eq.trans (b := (σ.1 1)) rfl rfl) (Eq.trans (b := (σ.2.1 2)) rfl rfl) (Eq.trans (b := (σ.1 3)) rfl rfl) (Eq.trans (b := (σ.2.1 4)) rfl rfl) (Eq.trans (b := (σ.2.1 5)) rfl rfl) (Eq.trans (b := (σ.2.2.1 6)) rfl rfl) (Eq.trans (b := (σ.2.1 7)) rfl rfl) (Eq.trans (b := (σ.1 8)) rfl rfl) (Eq.trans (b := (σ.1 9)) rfl rfl) (Eq.trans (b := (σ.1 10)) rfl rfl) (Eq.trans (b := (upd (σ.2.1 11) ((σ.1 15).toInt + (σ.1 16).toInt).toNat (5 : Int32))) rfl rfl) (Eq.trans (b := (vp_updL (σ.2.2.1 12) ((σ.1 15).toInt + (σ.1 16).toInt).toNat x13)) rfl rfl) (Eq.trans (b := (σ.2.1 13)) rfl rfl) (Eq.trans (b := x16) rfl rfl) (Eq.trans (b := (σ.1 15)) rfl rfl) (Eq.trans (b := n15) rfl rfl) (Eq.trans (b := (0 : Int32)) rfl rfl) (Eq.trans (b := (σ.1 18)) rfl rfl) (Eq.trans (b := (σ.1 19)) rfl rfl) (Eq.trans (b := (σ.2.1 20)) rfl rfl) (Eq.trans (b := (σ.2.1 21)) rfl rfl) (Eq.trans (b := (σ.2.1 22)) rfl rfl) (Eq.trans (b := (σ.2.1 23)) rfl rfl) (Eq.trans (b := (σ.2.1 24)) rfl rfl) (Eq.trans (b := (σ.2.1 25)) rfl rfl) (Eq.trans (b := (σ.2.1 26)) rfl rfl) (Eq.trans (b := (σ.2.1 27)) rfl rfl) (Eq.trans (b := (upd (σ.2.1 28) ((σ.1 19).toInt - 1).toNat (0 : Int32))) rfl rfl) (Eq.trans (b := (σ.1 29)) rfl rfl) (Eq.trans (b := (σ.2.1 30)) rfl rfl) (Eq.trans (b := (σ.2.1 31)) rfl rfl) (Eq.trans (b := (σ.2.1 32)) rfl rfl) (Eq.trans (b := (σ.1 33)) rfl rfl) (Eq.trans (b := (σ.1 34)) rfl rfl) (Eq.trans (b := (σ.1 35)) rfl rfl) (Eq.trans (b := (σ.2.1 36)) rfl rfl) (Eq.trans (b := (σ.2.1 37)) rfl rfl) (Eq.trans (b := (σ.2.1 38)) rfl rfl) (Eq.trans (b := (σ.2.1 39)) rfl rfl) (Eq.trans (b := (σ.2.1 40)) rfl rfl) (Eq.trans (b := (σ.2.1 41)) rfl rfl) (Eq.trans (b := (σ.2.1 42)) rfl rfl) (Eq.trans (b := (σ.2.1 43)) rfl rfl) (Eq.trans (b := (σ.2.1 44)) rfl rfl) (Eq.trans (b := (σ.2.1 45)) rfl rfl) (Eq.trans (b := (σ.2.1 46)) rfl rfl) (Eq.trans (b := (σ.1 47)) rfl rfl) (Eq.trans (b := (σ.2.1 48)) rfl rfl) (Eq.trans (b := (σ.1 49)) rfl rfl) (Eq.trans (b := (σ.2.1 50)) rfl rfl) (Eq.trans (b := (σ.2.1 51)) rfl rfl) (Eq.trans (b := (σ.2.2.1 52)) rfl rfl) (Eq.trans (b := (σ.2.2.1 53)) rfl rfl) (Eq.trans (b := (σ.2.2.2)) rfl rfl) (Eq.trans (b := (σ.1 55)) rfl rfl) (Eq.trans (b := (σ.1 56)) rfl rfl) (Eq.trans (b := (σ.1 57)) rfl rfl) (Eq.trans (b := (σ.2.1 58)) rfl rfl) (Eq.trans (b := (σ.1 59)) rfl rfl)
          exact r_retv C ⟨x16, (upd (σ.2.1 11) ((σ.1 15).toInt + (σ.1 16).toInt).toNat (5 : Int32)), (vp_updL (σ.2.2.1 12) ((σ.1 15).toInt + (σ.1 16).toInt).toNat x13), n15, (σ.1 19), (σ.1 29), (σ.2.1 31), (σ.2.1 30), (σ.2.1 32), (σ.2.1 21), (σ.2.1 22), (σ.2.1 20), (σ.2.1 23), (σ.2.1 24), (σ.2.1 25), (σ.2.1 26), (σ.2.1 27), (upd (σ.2.1 28) ((σ.1 19).toInt - 1).toNat (0 : Int32)), (0 : Int32), (σ.1 33), (σ.1 34), (σ.1 8), (σ.1 9)⟩ (v_first_14 σ x1 x2 x13 n15 r14 x16 hpre_0 hpre_1 hpre_2 hpre_3 hpre_4 ex1 tx1 ex2 tx2 c3 c10 c11 c12 ex13 tx13 hr14_0 hr14_1 ex16 tx16) hP hS dX12_first_278
      · have c11 : x1.toInt = 1 := by have h := z_eq c11; rw [show (1 : Int32).toInt = 1 from by decide +kernel] at h; exact h
        exact absurd (v_first_15 σ x1 ex1 tx1 c3 c10 c11) id
    · have c10 : ¬ x1.toInt = 4 := by have h := z_ne c10; rw [show (4 : Int32).toInt = 4 from by decide +kernel] at h; exact h
      refine lv_iload_n hx hb dX12_first_27 rfl (lv_at hl 1 rfl) ?_
      refine lv_iconst (v := 2) hx hb dX12_first_28 (by decide +kernel) ?_
      refine lv_icmp_ne (tgt := 95) hx hb dX12_first_29 (by decide) (fun c18 => ?_) (fun c18 => ?_)
      · have c18 : ¬ x1.toInt = 2 := by have h := z_ne c18; rw [show (2 : Int32).toInt = 2 from by decide +kernel] at h; exact h
        refine lv_iload_n hx hb dX12_first_95 rfl (lv_at hl 1 rfl) ?_
        refine lv_iconst (v := 3) hx hb dX12_first_96 (by decide +kernel) ?_
        refine lv_icmp_ne (tgt := 107) hx hb dX12_first_97 (by decide) (fun c19 => ?_) (fun c19 => ?_)
        · have c19 : ¬ x1.toInt = 3 := by have h := z_ne c19; rw [show (3 : Int32).toInt = 3 from by decide +kernel] at h; exact h
          refine lv_aload_n hx hb dX12_first_107 rfl (lv_at hl 2 rfl) ?_
          refine rg_22 C hP wm_78 dX12_first_108 ?_
          refine lv_iload_n hx hb dX12_first_111 rfl (lv_at hl 0 rfl) ?_
          refine ra_22 (f := (σ.2.1 22)) C hP rfl (v_first_16 σ x1 x2 hpre_0 hpre_1 hpre_2 hpre_4 ex1 tx1 ex2 tx2 c3 c10 c18 c19) dX12_first_112 (fun x20 ex20 => ?_)
          have tx20 : x20.toInt = ((σ.2.1 22) ((σ.1 19).toInt - 1).toNat).toInt := by rw [ex20, clampN, tx2]
          refine lv_if_ne (tgt := 176) hx hb dX12_first_113 (by decide) (fun c21 => ?_) (fun c21 => ?_)
          · have c21 : ¬ x20.toInt = 0 := by have h := z_ne c21; rw [show (0 : Int32).toInt = 0 from by decide +kernel] at h; exact h
            refine lv_aload_n hx hb dX12_first_176 rfl (lv_at hl 2 rfl) ?_
            refine lv_bipush (v := 40) hx hb dX12_first_177 (by decide +kernel) ?_
            refine r_callVi (As := [.int 40]) (rest := []) C hP hS hl.1 ⟨Nat.zero_le _, Nat.zero_le _⟩ (M_isSign l D cy sz0 sa ad σ s.heap.size (40 : Int32) (v_first_17 σ x1 x2 x20 hpre_0 hpre_1 hpre_2 hpre_4 ex1 tx1 ex2 tx2 c3 c10 c18 c19 ex20 tx20 c21)) (n := 1) ⟨wm_92, wm_61, by decide +kernel⟩ ⟨wm_93, wm_94, wm_10⟩ rfl rfl (lv_room (Nat.le_of_ble_eq_true rfl)) ⟨Nat.le_of_ble_eq_true rfl, Nat.le_of_ble_eq_true rfl⟩ dX12_first_179 (fun r22 u H locs hr22 hP hS => ?_)
            have hr22 : (r22.toInt = 0 ∧ ¬ (((σ.2.1 4) (σ.1 14).toNatClampNeg).toInt = 5 ∧ ((σ.2.2.1 6) (σ.1 14).toNatClampNeg).toInt = (40 : Int32).toInt)) ∨ (r22.toInt = 1 ∧ (((σ.2.1 4) (σ.1 14).toNatClampNeg).toInt = 5 ∧ ((σ.2.2.1 6) (σ.1 14).toNatClampNeg).toInt = (40 : Int32).toInt)) := hr22
            refine lv_if_eq (tgt := 203) hx hb dX12_first_182 (by decide) (fun c23 => ?_) (fun c23 => ?_)
            · have c23 : r22.toInt = 0 := by have h := z_eq c23; rw [show (0 : Int32).toInt = 0 from by decide +kernel] at h; exact h
              have hr22 : ¬ (((σ.2.1 4) (σ.1 14).toNatClampNeg).toInt = 5 ∧ ((σ.2.2.1 6) (σ.1 14).toNatClampNeg).toInt = (40 : Int32).toInt) := bq_f hr22 c23
              refine lv_aload_n hx hb dX12_first_203 rfl (lv_at hl 2 rfl) ?_
              refine lv_bipush (v := 35) hx hb dX12_first_204 (by decide +kernel) ?_
              refine r_callVi (As := [.int 35]) (rest := []) C hP hS hl.1 ⟨Nat.zero_le _, Nat.zero_le _⟩ (M_isSign l D cy sz0 sa ad σ H.size (35 : Int32) (v_first_18 σ x1 x2 x20 hpre_0 hpre_1 hpre_2 hpre_4 ex1 tx1 ex2 tx2 c3 c10 c18 c19 ex20 tx20 c21 hr22)) (n := 1) ⟨wm_92, wm_61, by decide +kernel⟩ ⟨wm_93, wm_94, wm_10⟩ rfl rfl (lv_room (Nat.le_of_ble_eq_true rfl)) ⟨Nat.le_of_ble_eq_true rfl, Nat.le_of_ble_eq_true rfl⟩ dX12_first_206 (fun r24 u H locs hr24 hP hS => ?_)
              have hr24 : (r24.toInt = 0 ∧ ¬ (((σ.2.1 4) (σ.1 14).toNatClampNeg).toInt = 5 ∧ ((σ.2.2.1 6) (σ.1 14).toNatClampNeg).toInt = (35 : Int32).toInt)) ∨ (r24.toInt = 1 ∧ (((σ.2.1 4) (σ.1 14).toNatClampNeg).toInt = 5 ∧ ((σ.2.2.1 6) (σ.1 14).toNatClampNeg).toInt = (35 : Int32).toInt)) := hr24
              refine lv_if_eq (tgt := 274) hx hb dX12_first_209 (by decide) (fun c25 => ?_) (fun c25 => ?_)
              · have c25 : r24.toInt = 0 := by have h := z_eq c25; rw [show (0 : Int32).toInt = 0 from by decide +kernel] at h; exact h
                have hr24 : ¬ (((σ.2.1 4) (σ.1 14).toNatClampNeg).toInt = 5 ∧ ((σ.2.2.1 6) (σ.1 14).toNatClampNeg).toInt = (35 : Int32).toInt) := bq_f hr24 c25
                refine lv_aload_n hx hb dX12_first_274 rfl (lv_at hl 2 rfl) ?_
                refine r_callVv (As := []) (rest := []) C hP hS hl.1 ⟨Nat.zero_le _, Nat.zero_le _⟩ (M_misfit l D cy sz0 sa ad σ H.size  (v_first_19 σ x1 x2 x20 hpre_0 hpre_1 hpre_2 hpre_4 ex1 tx1 ex2 tx2 c3 c10 c18 c19 ex20 tx20 c21 hr22 hr24)) (n := 0) ⟨wm_116, wm_63, by decide +kernel⟩ ⟨wm_117, wm_118, wm_10⟩ rfl rfl (lv_room (Nat.le_of_ble_eq_true rfl)) ⟨Nat.le_of_ble_eq_true rfl, Nat.le_of_ble_eq_true rfl⟩ dX12_first_275 (fun u H locs hr26 hP hS => ?_)
                obtain ⟨n27, n28⟩ := u
                have hr26 : (σ.1 8).toInt = 0 → n27.toInt = 2 := hr26
                have hP : RP D cy ad (rS (rS σ 8 n27) 9 n28) H := hP
                have hP : RP D cy ad (rS (rS (rS (rS (rS (rA (rA (rA (rA (rA (rA (rA (rA (rA (rA (rA (rA (rS (rS (rS (rJ (rA (rS σ 14 (σ.1 14)) 11 (σ.2.1 11)) 12 (σ.2.2.1 12)) 16 (σ.1 16)) 19 (σ.1 19)) 29 (σ.1 29)) 31 (σ.2.1 31)) 30 (σ.2.1 30)) 32 (σ.2.1 32)) 21 (σ.2.1 21)) 22 (σ.2.1 22)) 20 (σ.2.1 20)) 23 (σ.2.1 23)) 24 (σ.2.1 24)) 25 (σ.2.1 25)) 26 (σ.2.1 26)) 27 (σ.2.1 27)) 28 (σ.2.1 28)) 17 (σ.1 17)) 33 (σ.1 33)) 34 (σ.1 34)) 8 n27) 9 n28) H := RP.cong hP (Eq.trans (b := (σ.1 0)) rfl rfl) (Eq.trans (b := (σ.1 1)) rfl rfl) (Eq.trans (b := (σ.2.1 2)) rfl rfl) (Eq.trans (b := (σ.1 3)) rfl rfl) (Eq.trans (b := (σ.2.1 4)) rfl rfl) (Eq.trans (b := (σ.2.1 5)) rfl rfl) (Eq.trans (b := (σ.2.2.1 6)) rfl rfl) (Eq.trans (b := (σ.2.1 7)) rfl rfl) (Eq.trans (b := n27) rfl rfl) (Eq.trans (b := n28) rfl rfl) (Eq.trans (b := (σ.1 10)) rfl rfl) (Eq.trans (b := (σ.2.1 11)) rfl rfl) (Eq.trans (b := (σ.2.2.1 12)) rfl rfl) (Eq.trans (b := (σ.2.1 13)) rfl rfl) (Eq.trans (b := (σ.1 14)) rfl rfl) (Eq.trans (b := (σ.1 15)) rfl rfl) (Eq.trans (b := (σ.1 16)) rfl rfl) (Eq.trans (b := (σ.1 17)) rfl rfl) (Eq.trans (b := (σ.1 18)) rfl rfl) (Eq.trans (b := (σ.1 19)) rfl rfl) (Eq.trans (b := (σ.2.1 20)) rfl rfl) (Eq.trans (b := (σ.2.1 21)) rfl rfl) (Eq.trans (b := (σ.2.1 22)) rfl rfl) (Eq.trans (b := (σ.2.1 23)) rfl rfl) (Eq.trans (b := (σ.2.1 24)) rfl rfl) (Eq.trans (b := (σ.2.1 25)) rfl rfl) (Eq.trans (b := (σ.2.1 26)) rfl rfl) (Eq.trans (b := (σ.2.1 27)) rfl rfl) (Eq.trans (b := (σ.2.1 28)) rfl rfl) (Eq.trans (b := (σ.1 29)) rfl rfl) (Eq.trans (b := (σ.2.1 30)) rfl rfl) (Eq.trans (b := (σ.2.1 31)) rfl rfl) (Eq.trans (b := (σ.2.1 32)) rfl rfl) (Eq.trans (b := (σ.1 33)) rfl rfl) (Eq.trans (b := (σ.1 34)) rfl rfl) (Eq.trans (b := (σ.1 35)) rfl rfl) (Eq.trans (b := (σ.2.1 36)) rfl rfl) (Eq.trans (b := (σ.2.1 37)) rfl rfl) (Eq.trans (b := (σ.2.1 38)) rfl rfl) (Eq.trans (b := (σ.2.1 39)) rfl rfl) (Eq.trans (b := (σ.2.1 40)) rfl rfl) (Eq.trans (b := (σ.2.1 41)) rfl rfl) (Eq.trans (b := (σ.2.1 42)) rfl rfl) (Eq.trans (b := (σ.2.1 43)) rfl rfl) (Eq.trans (b := (σ.2.1 44)) rfl rfl) (Eq.trans (b := (σ.2.1 45)) rfl rfl) (Eq.trans (b := (σ.2.1 46)) rfl rfl) (Eq.trans (b := (σ.1 47)) rfl rfl) (Eq.trans (b := (σ.2.1 48)) rfl rfl) (Eq.trans (b := (σ.1 49)) rfl rfl) (Eq.trans (b := (σ.2.1 50)) rfl rfl) (Eq.trans (b := (σ.2.1 51)) rfl rfl) (Eq.trans (b := (σ.2.2.1 52)) rfl rfl) (Eq.trans (b := (σ.2.2.1 53)) rfl rfl) (Eq.trans (b := (σ.2.2.2)) rfl rfl) (Eq.trans (b := (σ.1 55)) rfl rfl) (Eq.trans (b := (σ.1 56)) rfl rfl) (Eq.trans (b := (σ.1 57)) rfl rfl) (Eq.trans (b := (σ.2.1 58)) rfl rfl) (Eq.trans (b := (σ.1 59)) rfl rfl)
                exact r_retv C ⟨(σ.1 14), (σ.2.1 11), (σ.2.2.1 12), (σ.1 16), (σ.1 19), (σ.1 29), (σ.2.1 31), (σ.2.1 30), (σ.2.1 32), (σ.2.1 21), (σ.2.1 22), (σ.2.1 20), (σ.2.1 23), (σ.2.1 24), (σ.2.1 25), (σ.2.1 26), (σ.2.1 27), (σ.2.1 28), (σ.1 17), (σ.1 33), (σ.1 34), n27, n28⟩ (v_first_20 σ x1 x2 x20 n27 hpre_0 hpre_1 hpre_2 hpre_3 hpre_4 hpre_5 ex1 tx1 ex2 tx2 c3 c10 c18 c19 ex20 tx20 c21 hr22 hr24 hr26) hP hS dX12_first_278
              · have c25 : ¬ r24.toInt = 0 := by have h := z_ne c25; rw [show (0 : Int32).toInt = 0 from by decide +kernel] at h; exact h
                have hr24v : r24.toInt = 1 := hr24.elim (fun h9 => absurd h9.1 c25) (fun h9 => h9.1)
                have hr24 : ((σ.2.1 4) (σ.1 14).toNatClampNeg).toInt = 5 ∧ ((σ.2.2.1 6) (σ.1 14).toNatClampNeg).toInt = (35 : Int32).toInt := bq_t hr24 c25
                obtain ⟨hr24_0, hr24_1⟩ := hr24
                refine lv_aload_n hx hb dX12_first_212 rfl (lv_at hl 2 rfl) ?_
                refine lv_dup hx hb dX12_first_213 rfl ?_
                refine rg_14 (v := (σ.1 14)) C hP rfl wm_62 dX12_first_214 ?_
                refine lv_iconst (v := 1) hx hb dX12_first_217 (by decide +kernel) ?_
                refine lv_iadd hx hb dX12_first_218 ?_
                refine lv_topi (fun x29 ex29 => ?_)
                have tx29 : x29.toInt = (σ.1 14).toInt + 1 := (v_first_21 σ x1 x2 x20 x29 hpre_0 hpre_1 hpre_2 hpre_4 ex1 tx1 ex2 tx2 c3 c10 c18 c19 ex20 tx20 c21 hr22 hr24_0 hr24_1 ex29)
                refine rp_14 C hP hS wm_62 dX12_first_219 (fun H locs hP hS => ?_)
                refine lv_aload_n hx hb dX12_first_222 rfl (lv_at hl 2 rfl) ?_
                refine rg_4 C hP wm_16 dX12_first_223 ?_
                refine lv_aload_n hx hb dX12_first_226 rfl (lv_at hl 2 rfl) ?_
                refine rg_14 (v := x29) C hP rfl wm_62 dX12_first_227 ?_
                refine ra_4 (f := (σ.2.1 4)) C hP rfl (v_first_22 σ x1 x2 x20 x29 hpre_0 hpre_1 hpre_2 hpre_4 ex1 tx1 ex2 tx2 c3 c10 c18 c19 ex20 tx20 c21 hr22 hr24_0 hr24_1 ex29 tx29) dX12_first_230 (fun x30 ex30 => ?_)
                have tx30 : x30.toInt = ((σ.2.1 4) ((σ.1 14).toInt + 1).toNat).toInt := by rw [ex30, clampN, tx29]
                refine lv_iconst (v := 3) hx hb dX12_first_231 (by decide +kernel) ?_
                refine lv_icmp_eq (tgt := 240) hx hb dX12_first_232 (by decide) (fun c31 => ?_) (fun c31 => ?_)
                · have c31 : x30.toInt = 3 := by have h := z_eq c31; rw [show (3 : Int32).toInt = 3 from by decide +kernel] at h; exact h
                  refine lv_aload_n hx hb dX12_first_240 rfl (lv_at hl 2 rfl) ?_
                  refine lv_bipush (v := 9) hx hb dX12_first_241 (by decide +kernel) ?_
                  refine lv_aload_n hx hb dX12_first_243 rfl (lv_at hl 2 rfl) ?_
                  refine rg_6 C hP wm_19 dX12_first_244 ?_
                  refine lv_aload_n hx hb dX12_first_247 rfl (lv_at hl 2 rfl) ?_
                  refine rg_14 (v := x29) C hP rfl wm_62 dX12_first_248 ?_
                  refine ra_6 (f := (σ.2.2.1 6)) C hP rfl (v_first_23 σ x1 x2 x20 x29 x30 hpre_0 hpre_1 hpre_2 hpre_4 ex1 tx1 ex2 tx2 c3 c10 c18 c19 ex20 tx20 c21 hr22 hr24_0 hr24_1 ex29 tx29 ex30 tx30 c31) dX12_first_251 (fun x32 ex32 => ?_)
                  have tx32 : x32.toInt = ((σ.2.2.1 6) ((σ.1 14).toInt + 1).toNat).toInt := by rw [ex32, clampN, tx29]
                  refine r_callVi (As := [.int 9, .long x32]) (rest := []) C hP hS hl.1 ⟨Nat.zero_le _, Nat.zero_le _⟩ (M_emit l D cy sz0 sa ad (rS σ 14 x29) H.size (9 : Int32) x32 (v_first_24 σ x1 x2 x20 x29 x30 x32 hpre_0 hpre_1 hpre_2 hpre_4 ex1 tx1 ex2 tx2 c3 c10 c18 c19 ex20 tx20 c21 hr22 hr24_0 hr24_1 ex29 tx29 ex30 tx30 c31 ex32 tx32)) (n := 2) ⟨wm_89, wm_64, by decide +kernel⟩ ⟨wm_90, wm_91, wm_10⟩ rfl rfl (lv_room (Nat.le_of_ble_eq_true rfl)) ⟨Nat.le_of_ble_eq_true rfl, Nat.le_of_ble_eq_true rfl⟩ dX12_first_252 (fun r33 u H locs hr33 hP hS => ?_)
                  obtain ⟨n34, rfl⟩ : ∃ z, z = u := ⟨_, rfl⟩
                  have hr33 : n34.toInt = (σ.1 16).toInt + 1 ∧ r33.toInt = (σ.1 15).toInt + (σ.1 16).toInt := hr33
                  obtain ⟨hr33_0, hr33_1⟩ := hr33
                  have hP : RP D cy ad (rS (rJ (rA (rS σ 14 x29) 11 (upd (σ.2.1 11) ((σ.1 15).toInt + (σ.1 16).toInt).toNat (9 : Int32))) 12 (vp_updL (σ.2.2.1 12) ((σ.1 15).toInt + (σ.1 16).toInt).toNat x32)) 16 n34) H := hP
                  refine lv_pop hx hb dX12_first_255 rfl ?_
                  refine lv_aload_n hx hb dX12_first_256 rfl (lv_at hl 2 rfl) ?_
                  refine lv_dup hx hb dX12_first_257 rfl ?_
                  refine rg_14 (v := x29) C hP rfl wm_62 dX12_first_258 ?_
                  refine lv_iconst (v := 1) hx hb dX12_first_261 (by decide +kernel) ?_
                  refine lv_iadd hx hb dX12_first_262 ?_
                  refine lv_topi (fun x35 ex35 => ?_)
                  have tx35 : x35.toInt = x29.toInt + 1 := (v_first_25 σ x1 x2 x20 x29 x30 x32 n34 r33 x35 hpre_0 hpre_1 hpre_2 hpre_4 ex1 tx1 ex2 tx2 c3 c10 c18 c19 ex20 tx20 c21 hr22 hr24_0 hr24_1 ex29 tx29 ex30 tx30 c31 ex32 tx32 hr33_0 hr33_1 ex35)
                  refine rp_14 C hP hS wm_62 dX12_first_263 (fun H locs hP hS => ?_)
                  refine lv_aload_n hx hb dX12_first_266 rfl (lv_at hl 2 rfl) ?_
                  refine lv_iconst (v := 1) hx hb dX12_first_267 (by decide +kernel) ?_
                  refine r_callVv (As := [.int 1]) (rest := []) C hP hS hl.1 ⟨Nat.zero_le _, Nat.zero_le _⟩ (M_ready l D cy sz0 sa ad (rS (rS (rJ (rA (rS σ 14 x29) 11 (upd (σ.2.1 11) ((σ.1 15).toInt + (σ.1 16).toInt).toNat (9 : Int32))) 12 (vp_updL (σ.2.2.1 12) ((σ.1 15).toInt + (σ.1 16).toInt).toNat x32)) 16 n34) 14 x35) H.size (1 : Int32) (v_first_26 σ x1 x2 x20 x29 x30 x32 n34 r33 x35 hpre_0 hpre_1 hpre_2 hpre_4 ex1 tx1 ex2 tx2 c3 c10 c18 c19 ex20 tx20 c21 hr22 hr24_0 hr24_1 ex29 tx29 ex30 tx30 c31 ex32 tx32 hr33_0 hr33_1 ex35 tx35)) (n := 1) ⟨wm_95, wm_83, by decide +kernel⟩ ⟨wm_96, wm_97, wm_10⟩ rfl rfl (lv_room (Nat.le_of_ble_eq_true rfl)) ⟨Nat.le_of_ble_eq_true rfl, Nat.le_of_ble_eq_true rfl⟩ dX12_first_268 (fun u H locs hr36 hP hS => ?_)
                  have hr36 : True := hr36
                  have hP : RP D cy ad (rS (rA (rS (rS (rJ (rA (rS σ 14 x29) 11 (upd (σ.2.1 11) ((σ.1 15).toInt + (σ.1 16).toInt).toNat (9 : Int32))) 12 (vp_updL (σ.2.2.1 12) ((σ.1 15).toInt + (σ.1 16).toInt).toNat x32)) 16 n34) 14 x35) 28 (upd (σ.2.1 28) ((σ.1 19).toInt - 1).toNat (1 : Int32))) 17 (0 : Int32)) H := hP
                  refine lv_goto (tgt := 278) hx hb dX12_first_271 (by decide) ?_
                  have hP : RP D cy ad (rS (rS (rS (rS (rS (rA (rA (rA (rA (rA (rA (rA (rA (rA (rA (rA (rA (rS (rS (rS (rJ (rA (rS σ 14 x35) 11 (upd (σ.2.1 11) ((σ.1 15).toInt + (σ.1 16).toInt).toNat (9 : Int32))) 12 (vp_updL (σ.2.2.1 12) ((σ.1 15).toInt + (σ.1 16).toInt).toNat x32)) 16 n34) 19 (σ.1 19)) 29 (σ.1 29)) 31 (σ.2.1 31)) 30 (σ.2.1 30)) 32 (σ.2.1 32)) 21 (σ.2.1 21)) 22 (σ.2.1 22)) 20 (σ.2.1 20)) 23 (σ.2.1 23)) 24 (σ.2.1 24)) 25 (σ.2.1 25)) 26 (σ.2.1 26)) 27 (σ.2.1 27)) 28 (upd (σ.2.1 28) ((σ.1 19).toInt - 1).toNat (1 : Int32))) 17 (0 : Int32)) 33 (σ.1 33)) 34 (σ.1 34)) 8 (σ.1 8)) 9 (σ.1 9)) H := RP.cong hP (Eq.trans (b := (σ.1 0)) rfl rfl) (Eq.trans (b := (σ.1 1)) rfl rfl) (Eq.trans (b := (σ.2.1 2)) rfl rfl) (Eq.trans (b := (σ.1 3)) rfl rfl) (Eq.trans (b := (σ.2.1 4)) rfl rfl) (Eq.trans (b := (σ.2.1 5)) rfl rfl) (Eq.trans (b := (σ.2.2.1 6)) rfl rfl) (Eq.trans (b := (σ.2.1 7)) rfl rfl) (Eq.trans (b := (σ.1 8)) rfl rfl) (Eq.trans (b := (σ.1 9)) rfl rfl) (Eq.trans (b := (σ.1 10)) rfl rfl) (Eq.trans (b := (upd (σ.2.1 11) ((σ.1 15).toInt + (σ.1 16).toInt).toNat (9 : Int32))) rfl rfl) (Eq.trans (b := (vp_updL (σ.2.2.1 12) ((σ.1 15).toInt + (σ.1 16).toInt).toNat x32)) rfl rfl) (Eq.trans (b := (σ.2.1 13)) rfl rfl) (Eq.trans (b := x35) rfl rfl) (Eq.trans (b := (σ.1 15)) rfl rfl) (Eq.trans (b := n34) rfl rfl) (Eq.trans (b := (0 : Int32)) rfl rfl) (Eq.trans (b := (σ.1 18)) rfl rfl) (Eq.trans (b := (σ.1 19)) rfl rfl) (Eq.trans (b := (σ.2.1 20)) rfl rfl) (Eq.trans (b := (σ.2.1 21)) rfl rfl) (Eq.trans (b := (σ.2.1 22)) rfl rfl) (Eq.trans (b := (σ.2.1 23)) rfl rfl) (Eq.trans (b := (σ.2.1 24)) rfl rfl) (Eq.trans (b := (σ.2.1 25)) rfl rfl) (Eq.trans (b := (σ.2.1 26)) rfl rfl) (Eq.trans (b := (σ.2.1 27)) rfl rfl) (Eq.trans (b := (upd (σ.2.1 28) ((σ.1 19).toInt - 1).toNat (1 : Int32))) rfl rfl) (Eq.trans (b := (σ.1 29)) rfl rfl) (Eq.trans (b := (σ.2.1 30)) rfl rfl) (Eq.trans (b := (σ.2.1 31)) rfl rfl) (Eq.trans (b := (σ.2.1 32)) rfl rfl) (Eq.trans (b := (σ.1 33)) rfl rfl) (Eq.trans (b := (σ.1 34)) rfl rfl) (Eq.trans (b := (σ.1 35)) rfl rfl) (Eq.trans (b := (σ.2.1 36)) rfl rfl) (Eq.trans (b := (σ.2.1 37)) rfl rfl) (Eq.trans (b := (σ.2.1 38)) rfl rfl) (Eq.trans (b := (σ.2.1 39)) rfl rfl) (Eq.trans (b := (σ.2.1 40)) rfl rfl) (Eq.trans (b := (σ.2.1 41)) rfl rfl) (Eq.trans (b := (σ.2.1 42)) rfl rfl) (Eq.trans (b := (σ.2.1 43)) rfl rfl) (Eq.trans (b := (σ.2.1 44)) rfl rfl) (Eq.trans (b := (σ.2.1 45)) rfl rfl) (Eq.trans (b := (σ.2.1 46)) rfl rfl) (Eq.trans (b := (σ.1 47)) rfl rfl) (Eq.trans (b := (σ.2.1 48)) rfl rfl) (Eq.trans (b := (σ.1 49)) rfl rfl) (Eq.trans (b := (σ.2.1 50)) rfl rfl) (Eq.trans (b := (σ.2.1 51)) rfl rfl) (Eq.trans (b := (σ.2.2.1 52)) rfl rfl) (Eq.trans (b := (σ.2.2.1 53)) rfl rfl) (Eq.trans (b := (σ.2.2.2)) rfl rfl) (Eq.trans (b := (σ.1 55)) rfl rfl) (Eq.trans (b := (σ.1 56)) rfl rfl) (Eq.trans (b := (σ.1 57)) rfl rfl) (Eq.trans (b := (σ.2.1 58)) rfl rfl) (Eq.trans (b := (σ.1 59)) rfl rfl)
                  exact r_retv C ⟨x35, (upd (σ.2.1 11) ((σ.1 15).toInt + (σ.1 16).toInt).toNat (9 : Int32)), (vp_updL (σ.2.2.1 12) ((σ.1 15).toInt + (σ.1 16).toInt).toNat x32), n34, (σ.1 19), (σ.1 29), (σ.2.1 31), (σ.2.1 30), (σ.2.1 32), (σ.2.1 21), (σ.2.1 22), (σ.2.1 20), (σ.2.1 23), (σ.2.1 24), (σ.2.1 25), (σ.2.1 26), (σ.2.1 27), (upd (σ.2.1 28) ((σ.1 19).toInt - 1).toNat (1 : Int32)), (0 : Int32), (σ.1 33), (σ.1 34), (σ.1 8), (σ.1 9)⟩ (v_first_27 σ x1 x2 x20 x29 x30 x32 n34 r33 x35 hpre_0 hpre_1 hpre_2 hpre_3 hpre_4 ex1 tx1 ex2 tx2 c3 c10 c18 c19 ex20 tx20 c21 hr22 hr24_0 hr24_1 ex29 tx29 ex30 tx30 c31 ex32 tx32 hr33_0 hr33_1 ex35 tx35) hP hS dX12_first_278
                · have c31 : ¬ x30.toInt = 3 := by have h := z_ne c31; rw [show (3 : Int32).toInt = 3 from by decide +kernel] at h; exact h
                  refine lv_aload_n hx hb dX12_first_235 rfl (lv_at hl 2 rfl) ?_
                  refine r_callVv (As := []) (rest := []) C hP hS hl.1 ⟨Nat.zero_le _, Nat.zero_le _⟩ (M_misfit l D cy sz0 sa ad (rS σ 14 x29) H.size  (v_first_28 σ x1 x2 x20 x29 x30 hpre_0 hpre_1 hpre_2 hpre_4 ex1 tx1 ex2 tx2 c3 c10 c18 c19 ex20 tx20 c21 hr22 hr24_0 hr24_1 ex29 tx29 ex30 tx30 c31)) (n := 0) ⟨wm_116, wm_63, by decide +kernel⟩ ⟨wm_117, wm_118, wm_10⟩ rfl rfl (lv_room (Nat.le_of_ble_eq_true rfl)) ⟨Nat.le_of_ble_eq_true rfl, Nat.le_of_ble_eq_true rfl⟩ dX12_first_236 (fun u H locs hr37 hP hS => ?_)
                  obtain ⟨n38, n39⟩ := u
                  have hr37 : (σ.1 8).toInt = 0 → n38.toInt = 2 := hr37
                  have hP : RP D cy ad (rS (rS (rS σ 14 x29) 8 n38) 9 n39) H := hP
                  have hP : RP D cy ad (rS (rS (rS (rS (rS (rA (rA (rA (rA (rA (rA (rA (rA (rA (rA (rA (rA (rS (rS (rS (rJ (rA (rS σ 14 x29) 11 (σ.2.1 11)) 12 (σ.2.2.1 12)) 16 (σ.1 16)) 19 (σ.1 19)) 29 (σ.1 29)) 31 (σ.2.1 31)) 30 (σ.2.1 30)) 32 (σ.2.1 32)) 21 (σ.2.1 21)) 22 (σ.2.1 22)) 20 (σ.2.1 20)) 23 (σ.2.1 23)) 24 (σ.2.1 24)) 25 (σ.2.1 25)) 26 (σ.2.1 26)) 27 (σ.2.1 27)) 28 (σ.2.1 28)) 17 (σ.1 17)) 33 (σ.1 33)) 34 (σ.1 34)) 8 n38) 9 n39) H := RP.cong hP (Eq.trans (b := (σ.1 0)) rfl rfl) (Eq.trans (b := (σ.1 1)) rfl rfl) (Eq.trans (b := (σ.2.1 2)) rfl rfl) (Eq.trans (b := (σ.1 3)) rfl rfl) (Eq.trans (b := (σ.2.1 4)) rfl rfl) (Eq.trans (b := (σ.2.1 5)) rfl rfl) (Eq.trans (b := (σ.2.2.1 6)) rfl rfl) (Eq.trans (b := (σ.2.1 7)) rfl rfl) (Eq.trans (b := n38) rfl rfl) (Eq.trans (b := n39) rfl rfl) (Eq.trans (b := (σ.1 10)) rfl rfl) (Eq.trans (b := (σ.2.1 11)) rfl rfl) (Eq.trans (b := (σ.2.2.1 12)) rfl rfl) (Eq.trans (b := (σ.2.1 13)) rfl rfl) (Eq.trans (b := x29) rfl rfl) (Eq.trans (b := (σ.1 15)) rfl rfl) (Eq.trans (b := (σ.1 16)) rfl rfl) (Eq.trans (b := (σ.1 17)) rfl rfl) (Eq.trans (b := (σ.1 18)) rfl rfl) (Eq.trans (b := (σ.1 19)) rfl rfl) (Eq.trans (b := (σ.2.1 20)) rfl rfl) (Eq.trans (b := (σ.2.1 21)) rfl rfl) (Eq.trans (b := (σ.2.1 22)) rfl rfl) (Eq.trans (b := (σ.2.1 23)) rfl rfl) (Eq.trans (b := (σ.2.1 24)) rfl rfl) (Eq.trans (b := (σ.2.1 25)) rfl rfl) (Eq.trans (b := (σ.2.1 26)) rfl rfl) (Eq.trans (b := (σ.2.1 27)) rfl rfl) (Eq.trans (b := (σ.2.1 28)) rfl rfl) (Eq.trans (b := (σ.1 29)) rfl rfl) (Eq.trans (b := (σ.2.1 30)) rfl rfl) (Eq.trans (b := (σ.2.1 31)) rfl rfl) (Eq.trans (b := (σ.2.1 32)) rfl rfl) (Eq.trans (b := (σ.1 33)) rfl rfl) (Eq.trans (b := (σ.1 34)) rfl rfl) (Eq.trans (b := (σ.1 35)) rfl rfl) (Eq.trans (b := (σ.2.1 36)) rfl rfl) (Eq.trans (b := (σ.2.1 37)) rfl rfl) (Eq.trans (b := (σ.2.1 38)) rfl rfl) (Eq.trans (b := (σ.2.1 39)) rfl rfl) (Eq.trans (b := (σ.2.1 40)) rfl rfl) (Eq.trans (b := (σ.2.1 41)) rfl rfl) (Eq.trans (b := (σ.2.1 42)) rfl rfl) (Eq.trans (b := (σ.2.1 43)) rfl rfl) (Eq.trans (b := (σ.2.1 44)) rfl rfl) (Eq.trans (b := (σ.2.1 45)) rfl rfl) (Eq.trans (b := (σ.2.1 46)) rfl rfl) (Eq.trans (b := (σ.1 47)) rfl rfl) (Eq.trans (b := (σ.2.1 48)) rfl rfl) (Eq.trans (b := (σ.1 49)) rfl rfl) (Eq.trans (b := (σ.2.1 50)) rfl rfl) (Eq.trans (b := (σ.2.1 51)) rfl rfl) (Eq.trans (b := (σ.2.2.1 52)) rfl rfl) (Eq.trans (b := (σ.2.2.1 53)) rfl rfl) (Eq.trans (b := (σ.2.2.2)) rfl rfl) (Eq.trans (b := (σ.1 55)) rfl rfl) (Eq.trans (b := (σ.1 56)) rfl rfl) (Eq.trans (b := (σ.1 57)) rfl rfl) (Eq.trans (b := (σ.2.1 58)) rfl rfl) (Eq.trans (b := (σ.1 59)) rfl rfl)
                  exact r_retv C ⟨x29, (σ.2.1 11), (σ.2.2.1 12), (σ.1 16), (σ.1 19), (σ.1 29), (σ.2.1 31), (σ.2.1 30), (σ.2.1 32), (σ.2.1 21), (σ.2.1 22), (σ.2.1 20), (σ.2.1 23), (σ.2.1 24), (σ.2.1 25), (σ.2.1 26), (σ.2.1 27), (σ.2.1 28), (σ.1 17), (σ.1 33), (σ.1 34), n38, n39⟩ (v_first_29 σ x1 x2 x20 x29 x30 n38 hpre_0 hpre_1 hpre_2 hpre_3 hpre_4 hpre_5 ex1 tx1 ex2 tx2 c3 c10 c18 c19 ex20 tx20 c21 hr22 hr24_0 hr24_1 ex29 tx29 ex30 tx30 c31 hr37) hP hS dX12_first_239
            · have c23 : ¬ r22.toInt = 0 := by have h := z_ne c23; rw [show (0 : Int32).toInt = 0 from by decide +kernel] at h; exact h
              have hr22v : r22.toInt = 1 := hr22.elim (fun h9 => absurd h9.1 c23) (fun h9 => h9.1)
              have hr22 : ((σ.2.1 4) (σ.1 14).toNatClampNeg).toInt = 5 ∧ ((σ.2.2.1 6) (σ.1 14).toNatClampNeg).toInt = (40 : Int32).toInt := bq_t hr22 c23
              obtain ⟨hr22_0, hr22_1⟩ := hr22
              refine lv_aload_n hx hb dX12_first_185 rfl (lv_at hl 2 rfl) ?_
              refine lv_dup hx hb dX12_first_186 rfl ?_
              refine rg_14 (v := (σ.1 14)) C hP rfl wm_62 dX12_first_187 ?_
              refine lv_iconst (v := 1) hx hb dX12_first_190 (by decide +kernel) ?_
              refine lv_iadd hx hb dX12_first_191 ?_
              refine lv_topi (fun x40 ex40 => ?_)
              have tx40 : x40.toInt = (σ.1 14).toInt + 1 := (v_first_30 σ x1 x2 x20 x40 hpre_0 hpre_1 hpre_2 hpre_4 ex1 tx1 ex2 tx2 c3 c10 c18 c19 ex20 tx20 c21 hr22_0 hr22_1 ex40)
              refine rp_14 C hP hS wm_62 dX12_first_192 (fun H locs hP hS => ?_)
              refine lv_aload_n hx hb dX12_first_195 rfl (lv_at hl 2 rfl) ?_
              refine lv_iconst (v := 2) hx hb dX12_first_196 (by decide +kernel) ?_
              refine r_callVv (As := [.int 2]) (rest := []) C hP hS hl.1 ⟨Nat.zero_le _, Nat.zero_le _⟩ (M_open l D cy sz0 sa ad (rS σ 14 x40) H.size (2 : Int32) (v_first_31 σ x1 x2 x20 x40 hpre_0 hpre_1 hpre_2 hpre_3 hpre_4 ex1 tx1 ex2 tx2 c3 c10 c18 c19 ex20 tx20 c21 hr22_0 hr22_1 ex40 tx40)) (n := 1) ⟨wm_98, wm_69, by decide +kernel⟩ ⟨wm_99, wm_100, wm_10⟩ rfl rfl (lv_room (Nat.le_of_ble_eq_true rfl)) ⟨Nat.le_of_ble_eq_true rfl, Nat.le_of_ble_eq_true rfl⟩ dX12_first_197 (fun u H locs hr41 hP hS => ?_)
              obtain ⟨F42, n43, F44, F45, F46, F47, F48, n49, n50, n51⟩ := u
              have hr41 : ((σ.1 19).toInt = 5 ∧ n50.toInt = 3 ∧ n43.toInt = 5) ∨ ((σ.1 19).toInt < 5 ∧ n50 = (σ.1 8) ∧ n43.toInt = (σ.1 19).toInt + 1 ∧ F42 = upd (σ.2.1 20) (σ.1 19).toInt.toNat (2 : Int32) ∧ F44 = upd (σ.2.1 21) (σ.1 19).toInt.toNat (σ.1 29) ∧ F45 = upd (σ.2.1 22) (σ.1 19).toInt.toNat (0 : Int32) ∧ F47 = upd (σ.2.1 27) (σ.1 19).toInt.toNat (1 : Int32) ∧ F48 = upd (σ.2.1 28) (σ.1 19).toInt.toNat (0 : Int32) ∧ n49.toInt = 1) := hr41
              have hP : RP D cy ad (rS (rS (rS (rA (rA (rA (rA (rA (rS (rA (rS σ 14 x40) 20 F42) 19 n43) 21 F44) 22 F45) 26 F46) 27 F47) 28 F48) 17 n49) 8 n50) 9 n51) H := hP
              refine lv_goto (tgt := 278) hx hb dX12_first_200 (by decide) ?_
              have hP : RP D cy ad (rS (rS (rS (rS (rS (rA (rA (rA (rA (rA (rA (rA (rA (rA (rA (rA (rA (rS (rS (rS (rJ (rA (rS σ 14 x40) 11 (σ.2.1 11)) 12 (σ.2.2.1 12)) 16 (σ.1 16)) 19 n43) 29 (σ.1 29)) 31 (σ.2.1 31)) 30 (σ.2.1 30)) 32 (σ.2.1 32)) 21 F44) 22 F45) 20 F42) 23 (σ.2.1 23)) 24 (σ.2.1 24)) 25 (σ.2.1 25)) 26 F46) 27 F47) 28 F48) 17 n49) 33 (σ.1 33)) 34 (σ.1 34)) 8 n50) 9 n51) H := RP.cong hP (Eq.trans (b := (σ.1 0)) rfl rfl) (Eq.trans (b := (σ.1 1)) rfl rfl) (Eq.trans (b := (σ.2.1 2)) rfl rfl) (Eq.trans (b := (σ.1 3)) rfl rfl) (Eq.trans (b := (σ.2.1 4)) rfl rfl) (Eq.trans (b := (σ.2.1 5)) rfl rfl) (Eq.trans (b := (σ.2.2.1 6)) rfl rfl) (Eq.trans (b := (σ.2.1 7)) rfl rfl) (Eq.trans (b := n50) rfl rfl) (Eq.trans (b := n51) rfl rfl) (Eq.trans (b := (σ.1 10)) rfl rfl) (Eq.trans (b := (σ.2.1 11)) rfl rfl) (Eq.trans (b := (σ.2.2.1 12)) rfl rfl) (Eq.trans (b := (σ.2.1 13)) rfl rfl) (Eq.trans (b := x40) rfl rfl) (Eq.trans (b := (σ.1 15)) rfl rfl) (Eq.trans (b := (σ.1 16)) rfl rfl) (Eq.trans (b := n49) rfl rfl) (Eq.trans (b := (σ.1 18)) rfl rfl) (Eq.trans (b := n43) rfl rfl) (Eq.trans (b := F42) rfl rfl) (Eq.trans (b := F44) rfl rfl) (Eq.trans (b := F45) rfl rfl) (Eq.trans (b := (σ.2.1 23)) rfl rfl) (Eq.trans (b := (σ.2.1 24)) rfl rfl) (Eq.trans (b := (σ.2.1 25)) rfl rfl) (Eq.trans (b := F46) rfl rfl) (Eq.trans (b := F47) rfl rfl) (Eq.trans (b := F48) rfl rfl) (Eq.trans (b := (σ.1 29)) rfl rfl) (Eq.trans (b := (σ.2.1 30)) rfl rfl) (Eq.trans (b := (σ.2.1 31)) rfl rfl) (Eq.trans (b := (σ.2.1 32)) rfl rfl) (Eq.trans (b := (σ.1 33)) rfl rfl) (Eq.trans (b := (σ.1 34)) rfl rfl) (Eq.trans (b := (σ.1 35)) rfl rfl) (Eq.trans (b := (σ.2.1 36)) rfl rfl) (Eq.trans (b := (σ.2.1 37)) rfl rfl) (Eq.trans (b := (σ.2.1 38)) rfl rfl) (Eq.trans (b := (σ.2.1 39)) rfl rfl) (Eq.trans (b := (σ.2.1 40)) rfl rfl) (Eq.trans (b := (σ.2.1 41)) rfl rfl) (Eq.trans (b := (σ.2.1 42)) rfl rfl) (Eq.trans (b := (σ.2.1 43)) rfl rfl) (Eq.trans (b := (σ.2.1 44)) rfl rfl) (Eq.trans (b := (σ.2.1 45)) rfl rfl) (Eq.trans (b := (σ.2.1 46)) rfl rfl) (Eq.trans (b := (σ.1 47)) rfl rfl) (Eq.trans (b := (σ.2.1 48)) rfl rfl) (Eq.trans (b := (σ.1 49)) rfl rfl) (Eq.trans (b := (σ.2.1 50)) rfl rfl) (Eq.trans (b := (σ.2.1 51)) rfl rfl) (Eq.trans (b := (σ.2.2.1 52)) rfl rfl) (Eq.trans (b := (σ.2.2.1 53)) rfl rfl) (Eq.trans (b := (σ.2.2.2)) rfl rfl) (Eq.trans (b := (σ.1 55)) rfl rfl) (Eq.trans (b := (σ.1 56)) rfl rfl) (Eq.trans (b := (σ.1 57)) rfl rfl) (Eq.trans (b := (σ.2.1 58)) rfl rfl) (Eq.trans (b := (σ.1 59)) rfl rfl)
              exact r_retv C ⟨x40, (σ.2.1 11), (σ.2.2.1 12), (σ.1 16), n43, (σ.1 29), (σ.2.1 31), (σ.2.1 30), (σ.2.1 32), F44, F45, F42, (σ.2.1 23), (σ.2.1 24), (σ.2.1 25), F46, F47, F48, n49, (σ.1 33), (σ.1 34), n50, n51⟩ (v_first_32 σ x1 x2 x20 x40 F42 n43 F44 F45 F47 F48 n49 n50 hpre_0 hpre_1 hpre_2 hpre_3 hpre_4 ex1 tx1 ex2 tx2 c3 c10 c18 c19 ex20 tx20 c21 hr22_0 hr22_1 ex40 tx40 hr41) hP hS dX12_first_278
          · have c21 : x20.toInt = 0 := by have h := z_eq c21; rw [show (0 : Int32).toInt = 0 from by decide +kernel] at h; exact h
            refine lv_aload_n hx hb dX12_first_116 rfl (lv_at hl 2 rfl) ?_
            refine lv_bipush (v := 45) hx hb dX12_first_117 (by decide +kernel) ?_
            refine r_callVi (As := [.int 45]) (rest := []) C hP hS hl.1 ⟨Nat.zero_le _, Nat.zero_le _⟩ (M_isSign l D cy sz0 sa ad σ s.heap.size (45 : Int32) (v_first_33 σ x1 x2 x20 hpre_0 hpre_1 hpre_2 hpre_4 ex1 tx1 ex2 tx2 c3 c10 c18 c19 ex20 tx20 c21)) (n := 1) ⟨wm_92, wm_61, by decide +kernel⟩ ⟨wm_93, wm_94, wm_10⟩ rfl rfl (lv_room (Nat.le_of_ble_eq_true rfl)) ⟨Nat.le_of_ble_eq_true rfl, Nat.le_of_ble_eq_true rfl⟩ dX12_first_119 (fun r52 u H locs hr52 hP hS => ?_)
            have hr52 : (r52.toInt = 0 ∧ ¬ (((σ.2.1 4) (σ.1 14).toNatClampNeg).toInt = 5 ∧ ((σ.2.2.1 6) (σ.1 14).toNatClampNeg).toInt = (45 : Int32).toInt)) ∨ (r52.toInt = 1 ∧ (((σ.2.1 4) (σ.1 14).toNatClampNeg).toInt = 5 ∧ ((σ.2.2.1 6) (σ.1 14).toNatClampNeg).toInt = (45 : Int32).toInt)) := hr52
            refine lv_if_ne (tgt := 134) hx hb dX12_first_122 (by decide) (fun c53 => ?_) (fun c53 => ?_)
            · have c53 : ¬ r52.toInt = 0 := by have h := z_ne c53; rw [show (0 : Int32).toInt = 0 from by decide +kernel] at h; exact h
              have hr52v : r52.toInt = 1 := hr52.elim (fun h9 => absurd h9.1 c53) (fun h9 => h9.1)
              have hr52 : ((σ.2.1 4) (σ.1 14).toNatClampNeg).toInt = 5 ∧ ((σ.2.2.1 6) (σ.1 14).toNatClampNeg).toInt = (45 : Int32).toInt := bq_t hr52 c53
              obtain ⟨hr52_0, hr52_1⟩ := hr52
              refine lv_aload_n hx hb dX12_first_134 rfl (lv_at hl 2 rfl) ?_
              refine rg_22 C hP wm_78 dX12_first_135 ?_
              refine lv_iload_n hx hb dX12_first_138 rfl (lv_at hl 0 rfl) ?_
              refine lv_aload_n hx hb dX12_first_139 rfl (lv_at hl 2 rfl) ?_
              refine lv_bipush (v := 45) hx hb dX12_first_140 (by decide +kernel) ?_
              refine r_callVi (As := [.int 45]) (rest := [.int x2, .ref (ad 22)]) C hP hS hl.1 ⟨Nat.zero_le _, Nat.zero_le _⟩ (M_isSign l D cy sz0 sa ad σ H.size (45 : Int32) (v_first_34 σ x1 x2 x20 hpre_0 hpre_1 hpre_2 hpre_4 ex1 tx1 ex2 tx2 c3 c10 c18 c19 ex20 tx20 c21 hr52_0 hr52_1)) (n := 1) ⟨wm_92, wm_61, by decide +kernel⟩ ⟨wm_93, wm_94, wm_10⟩ rfl rfl (lv_room (Nat.le_of_ble_eq_true rfl)) ⟨Nat.le_of_ble_eq_true rfl, Nat.le_of_ble_eq_true rfl⟩ dX12_first_142 (fun r54 u H locs hr54 hP hS => ?_)
              have hr54 : (r54.toInt = 0 ∧ ¬ (((σ.2.1 4) (σ.1 14).toNatClampNeg).toInt = 5 ∧ ((σ.2.2.1 6) (σ.1 14).toNatClampNeg).toInt = (45 : Int32).toInt)) ∨ (r54.toInt = 1 ∧ (((σ.2.1 4) (σ.1 14).toNatClampNeg).toInt = 5 ∧ ((σ.2.2.1 6) (σ.1 14).toNatClampNeg).toInt = (45 : Int32).toInt)) := hr54
              refine lv_if_eq (tgt := 153) hx hb dX12_first_145 (by decide) (fun c55 => ?_) (fun c55 => ?_)
              · have c55 : r54.toInt = 0 := by have h := z_eq c55; rw [show (0 : Int32).toInt = 0 from by decide +kernel] at h; exact h
                have hr54 : ¬ (((σ.2.1 4) (σ.1 14).toNatClampNeg).toInt = 5 ∧ ((σ.2.2.1 6) (σ.1 14).toNatClampNeg).toInt = (45 : Int32).toInt) := bq_f hr54 c55
                refine lv_bipush (v := 31) hx hb dX12_first_153 (by decide +kernel) ?_
                refine rw_22 (f := (σ.2.1 22)) C hP hS rfl (v_first_35 σ x1 x2 x20 hpre_0 hpre_1 hpre_2 hpre_4 ex1 tx1 ex2 tx2 c3 c10 c18 c19 ex20 tx20 c21 hr52_0 hr52_1) dX12_first_155 (fun H locs hP hS => ?_)
                refine lv_aload_n hx hb dX12_first_156 rfl (lv_at hl 2 rfl) ?_
                refine rg_27 C hP wm_80 dX12_first_157 ?_
                refine lv_iload_n hx hb dX12_first_160 rfl (lv_at hl 0 rfl) ?_
                refine lv_iconst (v := 0) hx hb dX12_first_161 (by decide +kernel) ?_
                refine rw_27 (f := (σ.2.1 27)) C hP hS rfl (v_first_36  ) (v_first_35 σ x1 x2 x20 hpre_0 hpre_1 hpre_2 hpre_4 ex1 tx1 ex2 tx2 c3 c10 c18 c19 ex20 tx20 c21 hr52_0 hr52_1) dX12_first_162 (fun H locs hP hS => ?_)
                refine lv_aload_n hx hb dX12_first_163 rfl (lv_at hl 2 rfl) ?_
                refine lv_dup hx hb dX12_first_164 rfl ?_
                refine rg_14 (v := (σ.1 14)) C hP rfl wm_62 dX12_first_165 ?_
                refine lv_iconst (v := 1) hx hb dX12_first_168 (by decide +kernel) ?_
                refine lv_iadd hx hb dX12_first_169 ?_
                refine lv_topi (fun x56 ex56 => ?_)
                have tx56 : x56.toInt = (σ.1 14).toInt + 1 := (v_first_37 σ x1 x2 x20 x56 hpre_0 hpre_1 hpre_2 hpre_4 ex1 tx1 ex2 tx2 c3 c10 c18 c19 ex20 tx20 c21 hr52_0 hr52_1 hr54 ex56)
                refine rp_14 C hP hS wm_62 dX12_first_170 (fun H locs hP hS => ?_)
                refine lv_goto (tgt := 278) hx hb dX12_first_173 (by decide) ?_
                have hP : RP D cy ad (rS (rS (rS (rS (rS (rA (rA (rA (rA (rA (rA (rA (rA (rA (rA (rA (rA (rS (rS (rS (rJ (rA (rS σ 14 x56) 11 (σ.2.1 11)) 12 (σ.2.2.1 12)) 16 (σ.1 16)) 19 (σ.1 19)) 29 (σ.1 29)) 31 (σ.2.1 31)) 30 (σ.2.1 30)) 32 (σ.2.1 32)) 21 (σ.2.1 21)) 22 (upd (σ.2.1 22) x2.toNatClampNeg (31 : Int32))) 20 (σ.2.1 20)) 23 (σ.2.1 23)) 24 (σ.2.1 24)) 25 (σ.2.1 25)) 26 (σ.2.1 26)) 27 (upd (σ.2.1 27) x2.toNatClampNeg (0 : Int32))) 28 (σ.2.1 28)) 17 (σ.1 17)) 33 (σ.1 33)) 34 (σ.1 34)) 8 (σ.1 8)) 9 (σ.1 9)) H := RP.cong hP (Eq.trans (b := (σ.1 0)) rfl rfl) (Eq.trans (b := (σ.1 1)) rfl rfl) (Eq.trans (b := (σ.2.1 2)) rfl rfl) (Eq.trans (b := (σ.1 3)) rfl rfl) (Eq.trans (b := (σ.2.1 4)) rfl rfl) (Eq.trans (b := (σ.2.1 5)) rfl rfl) (Eq.trans (b := (σ.2.2.1 6)) rfl rfl) (Eq.trans (b := (σ.2.1 7)) rfl rfl) (Eq.trans (b := (σ.1 8)) rfl rfl) (Eq.trans (b := (σ.1 9)) rfl rfl) (Eq.trans (b := (σ.1 10)) rfl rfl) (Eq.trans (b := (σ.2.1 11)) rfl rfl) (Eq.trans (b := (σ.2.2.1 12)) rfl rfl) (Eq.trans (b := (σ.2.1 13)) rfl rfl) (Eq.trans (b := x56) rfl rfl) (Eq.trans (b := (σ.1 15)) rfl rfl) (Eq.trans (b := (σ.1 16)) rfl rfl) (Eq.trans (b := (σ.1 17)) rfl rfl) (Eq.trans (b := (σ.1 18)) rfl rfl) (Eq.trans (b := (σ.1 19)) rfl rfl) (Eq.trans (b := (σ.2.1 20)) rfl rfl) (Eq.trans (b := (σ.2.1 21)) rfl rfl) (Eq.trans (b := (upd (σ.2.1 22) x2.toNatClampNeg (31 : Int32))) rfl rfl) (Eq.trans (b := (σ.2.1 23)) rfl rfl) (Eq.trans (b := (σ.2.1 24)) rfl rfl) (Eq.trans (b := (σ.2.1 25)) rfl rfl) (Eq.trans (b := (σ.2.1 26)) rfl rfl) (Eq.trans (b := (upd (σ.2.1 27) x2.toNatClampNeg (0 : Int32))) rfl rfl) (Eq.trans (b := (σ.2.1 28)) rfl rfl) (Eq.trans (b := (σ.1 29)) rfl rfl) (Eq.trans (b := (σ.2.1 30)) rfl rfl) (Eq.trans (b := (σ.2.1 31)) rfl rfl) (Eq.trans (b := (σ.2.1 32)) rfl rfl) (Eq.trans (b := (σ.1 33)) rfl rfl) (Eq.trans (b := (σ.1 34)) rfl rfl) (Eq.trans (b := (σ.1 35)) rfl rfl) (Eq.trans (b := (σ.2.1 36)) rfl rfl) (Eq.trans (b := (σ.2.1 37)) rfl rfl) (Eq.trans (b := (σ.2.1 38)) rfl rfl) (Eq.trans (b := (σ.2.1 39)) rfl rfl) (Eq.trans (b := (σ.2.1 40)) rfl rfl) (Eq.trans (b := (σ.2.1 41)) rfl rfl) (Eq.trans (b := (σ.2.1 42)) rfl rfl) (Eq.trans (b := (σ.2.1 43)) rfl rfl) (Eq.trans (b := (σ.2.1 44)) rfl rfl) (Eq.trans (b := (σ.2.1 45)) rfl rfl) (Eq.trans (b := (σ.2.1 46)) rfl rfl) (Eq.trans (b := (σ.1 47)) rfl rfl) (Eq.trans (b := (σ.2.1 48)) rfl rfl) (Eq.trans (b := (σ.1 49)) rfl rfl) (Eq.trans (b := (σ.2.1 50)) rfl rfl) (Eq.trans (b := (σ.2.1 51)) rfl rfl) (Eq.trans (b := (σ.2.2.1 52)) rfl rfl) (Eq.trans (b := (σ.2.2.1 53)) rfl rfl) (Eq.trans (b := (σ.2.2.2)) rfl rfl) (Eq.trans (b := (σ.1 55)) rfl rfl) (Eq.trans (b := (σ.1 56)) rfl rfl) (Eq.trans (b := (σ.1 57)) rfl rfl) (Eq.trans (b := (σ.2.1 58)) rfl rfl) (Eq.trans (b := (σ.1 59)) rfl rfl)
                exact r_retv C ⟨x56, (σ.2.1 11), (σ.2.2.1 12), (σ.1 16), (σ.1 19), (σ.1 29), (σ.2.1 31), (σ.2.1 30), (σ.2.1 32), (σ.2.1 21), (upd (σ.2.1 22) x2.toNatClampNeg (31 : Int32)), (σ.2.1 20), (σ.2.1 23), (σ.2.1 24), (σ.2.1 25), (σ.2.1 26), (upd (σ.2.1 27) x2.toNatClampNeg (0 : Int32)), (σ.2.1 28), (σ.1 17), (σ.1 33), (σ.1 34), (σ.1 8), (σ.1 9)⟩ (v_first_38 σ x1 x2 x20 x56 hpre_0 hpre_1 hpre_2 hpre_3 hpre_4 hpre_5 ex1 tx1 ex2 tx2 c3 c10 c18 c19 ex20 tx20 c21 hr52_0 hr52_1 hr54 ex56 tx56) hP hS dX12_first_278
              · have c55 : ¬ r54.toInt = 0 := by have h := z_ne c55; rw [show (0 : Int32).toInt = 0 from by decide +kernel] at h; exact h
                have hr54v : r54.toInt = 1 := hr54.elim (fun h9 => absurd h9.1 c55) (fun h9 => h9.1)
                have hr54 : ((σ.2.1 4) (σ.1 14).toNatClampNeg).toInt = 5 ∧ ((σ.2.2.1 6) (σ.1 14).toNatClampNeg).toInt = (45 : Int32).toInt := bq_t hr54 c55
                obtain ⟨hr54_0, hr54_1⟩ := hr54
                refine lv_bipush (v := 30) hx hb dX12_first_148 (by decide +kernel) ?_
                refine lv_goto (tgt := 155) hx hb dX12_first_150 (by decide) ?_
                refine rw_22 (f := (σ.2.1 22)) C hP hS rfl (v_first_39 σ x1 x2 x20 hpre_0 hpre_1 hpre_2 hpre_4 ex1 tx1 ex2 tx2 c3 c10 c18 c19 ex20 tx20 c21 hr52_0 hr52_1 hr54_0 hr54_1) dX12_first_155 (fun H locs hP hS => ?_)
                refine lv_aload_n hx hb dX12_first_156 rfl (lv_at hl 2 rfl) ?_
                refine rg_27 C hP wm_80 dX12_first_157 ?_
                refine lv_iload_n hx hb dX12_first_160 rfl (lv_at hl 0 rfl) ?_
                refine lv_iconst (v := 0) hx hb dX12_first_161 (by decide +kernel) ?_
                refine rw_27 (f := (σ.2.1 27)) C hP hS rfl (v_first_36  ) (v_first_39 σ x1 x2 x20 hpre_0 hpre_1 hpre_2 hpre_4 ex1 tx1 ex2 tx2 c3 c10 c18 c19 ex20 tx20 c21 hr52_0 hr52_1 hr54_0 hr54_1) dX12_first_162 (fun H locs hP hS => ?_)
                refine lv_aload_n hx hb dX12_first_163 rfl (lv_at hl 2 rfl) ?_
                refine lv_dup hx hb dX12_first_164 rfl ?_
                refine rg_14 (v := (σ.1 14)) C hP rfl wm_62 dX12_first_165 ?_
                refine lv_iconst (v := 1) hx hb dX12_first_168 (by decide +kernel) ?_
                refine lv_iadd hx hb dX12_first_169 ?_
                refine lv_topi (fun x57 ex57 => ?_)
                have tx57 : x57.toInt = (σ.1 14).toInt + 1 := (v_first_40 σ x1 x2 x20 x57 hpre_0 hpre_1 hpre_2 hpre_4 ex1 tx1 ex2 tx2 c3 c10 c18 c19 ex20 tx20 c21 hr52_0 hr52_1 hr54_0 hr54_1 ex57)
                refine rp_14 C hP hS wm_62 dX12_first_170 (fun H locs hP hS => ?_)
                refine lv_goto (tgt := 278) hx hb dX12_first_173 (by decide) ?_
                have hP : RP D cy ad (rS (rS (rS (rS (rS (rA (rA (rA (rA (rA (rA (rA (rA (rA (rA (rA (rA (rS (rS (rS (rJ (rA (rS σ 14 x57) 11 (σ.2.1 11)) 12 (σ.2.2.1 12)) 16 (σ.1 16)) 19 (σ.1 19)) 29 (σ.1 29)) 31 (σ.2.1 31)) 30 (σ.2.1 30)) 32 (σ.2.1 32)) 21 (σ.2.1 21)) 22 (upd (σ.2.1 22) x2.toNatClampNeg (30 : Int32))) 20 (σ.2.1 20)) 23 (σ.2.1 23)) 24 (σ.2.1 24)) 25 (σ.2.1 25)) 26 (σ.2.1 26)) 27 (upd (σ.2.1 27) x2.toNatClampNeg (0 : Int32))) 28 (σ.2.1 28)) 17 (σ.1 17)) 33 (σ.1 33)) 34 (σ.1 34)) 8 (σ.1 8)) 9 (σ.1 9)) H := RP.cong hP (Eq.trans (b := (σ.1 0)) rfl rfl) (Eq.trans (b := (σ.1 1)) rfl rfl) (Eq.trans (b := (σ.2.1 2)) rfl rfl) (Eq.trans (b := (σ.1 3)) rfl rfl) (Eq.trans (b := (σ.2.1 4)) rfl rfl) (Eq.trans (b := (σ.2.1 5)) rfl rfl) (Eq.trans (b := (σ.2.2.1 6)) rfl rfl) (Eq.trans (b := (σ.2.1 7)) rfl rfl) (Eq.trans (b := (σ.1 8)) rfl rfl) (Eq.trans (b := (σ.1 9)) rfl rfl) (Eq.trans (b := (σ.1 10)) rfl rfl) (Eq.trans (b := (σ.2.1 11)) rfl rfl) (Eq.trans (b := (σ.2.2.1 12)) rfl rfl) (Eq.trans (b := (σ.2.1 13)) rfl rfl) (Eq.trans (b := x57) rfl rfl) (Eq.trans (b := (σ.1 15)) rfl rfl) (Eq.trans (b := (σ.1 16)) rfl rfl) (Eq.trans (b := (σ.1 17)) rfl rfl) (Eq.trans (b := (σ.1 18)) rfl rfl) (Eq.trans (b := (σ.1 19)) rfl rfl) (Eq.trans (b := (σ.2.1 20)) rfl rfl) (Eq.trans (b := (σ.2.1 21)) rfl rfl) (Eq.trans (b := (upd (σ.2.1 22) x2.toNatClampNeg (30 : Int32))) rfl rfl) (Eq.trans (b := (σ.2.1 23)) rfl rfl) (Eq.trans (b := (σ.2.1 24)) rfl rfl) (Eq.trans (b := (σ.2.1 25)) rfl rfl) (Eq.trans (b := (σ.2.1 26)) rfl rfl) (Eq.trans (b := (upd (σ.2.1 27) x2.toNatClampNeg (0 : Int32))) rfl rfl) (Eq.trans (b := (σ.2.1 28)) rfl rfl) (Eq.trans (b := (σ.1 29)) rfl rfl) (Eq.trans (b := (σ.2.1 30)) rfl rfl) (Eq.trans (b := (σ.2.1 31)) rfl rfl) (Eq.trans (b := (σ.2.1 32)) rfl rfl) (Eq.trans (b := (σ.1 33)) rfl rfl) (Eq.trans (b := (σ.1 34)) rfl rfl) (Eq.trans (b := (σ.1 35)) rfl rfl) (Eq.trans (b := (σ.2.1 36)) rfl rfl) (Eq.trans (b := (σ.2.1 37)) rfl rfl) (Eq.trans (b := (σ.2.1 38)) rfl rfl) (Eq.trans (b := (σ.2.1 39)) rfl rfl) (Eq.trans (b := (σ.2.1 40)) rfl rfl) (Eq.trans (b := (σ.2.1 41)) rfl rfl) (Eq.trans (b := (σ.2.1 42)) rfl rfl) (Eq.trans (b := (σ.2.1 43)) rfl rfl) (Eq.trans (b := (σ.2.1 44)) rfl rfl) (Eq.trans (b := (σ.2.1 45)) rfl rfl) (Eq.trans (b := (σ.2.1 46)) rfl rfl) (Eq.trans (b := (σ.1 47)) rfl rfl) (Eq.trans (b := (σ.2.1 48)) rfl rfl) (Eq.trans (b := (σ.1 49)) rfl rfl) (Eq.trans (b := (σ.2.1 50)) rfl rfl) (Eq.trans (b := (σ.2.1 51)) rfl rfl) (Eq.trans (b := (σ.2.2.1 52)) rfl rfl) (Eq.trans (b := (σ.2.2.1 53)) rfl rfl) (Eq.trans (b := (σ.2.2.2)) rfl rfl) (Eq.trans (b := (σ.1 55)) rfl rfl) (Eq.trans (b := (σ.1 56)) rfl rfl) (Eq.trans (b := (σ.1 57)) rfl rfl) (Eq.trans (b := (σ.2.1 58)) rfl rfl) (Eq.trans (b := (σ.1 59)) rfl rfl)
                exact r_retv C ⟨x57, (σ.2.1 11), (σ.2.2.1 12), (σ.1 16), (σ.1 19), (σ.1 29), (σ.2.1 31), (σ.2.1 30), (σ.2.1 32), (σ.2.1 21), (upd (σ.2.1 22) x2.toNatClampNeg (30 : Int32)), (σ.2.1 20), (σ.2.1 23), (σ.2.1 24), (σ.2.1 25), (σ.2.1 26), (upd (σ.2.1 27) x2.toNatClampNeg (0 : Int32)), (σ.2.1 28), (σ.1 17), (σ.1 33), (σ.1 34), (σ.1 8), (σ.1 9)⟩ (v_first_41 σ x1 x2 x20 x57 hpre_0 hpre_1 hpre_2 hpre_3 hpre_4 hpre_5 ex1 tx1 ex2 tx2 c3 c10 c18 c19 ex20 tx20 c21 hr52_0 hr52_1 hr54_0 hr54_1 ex57 tx57) hP hS dX12_first_278
            · have c53 : r52.toInt = 0 := by have h := z_eq c53; rw [show (0 : Int32).toInt = 0 from by decide +kernel] at h; exact h
              have hr52 : ¬ (((σ.2.1 4) (σ.1 14).toNatClampNeg).toInt = 5 ∧ ((σ.2.2.1 6) (σ.1 14).toNatClampNeg).toInt = (45 : Int32).toInt) := bq_f hr52 c53
              refine lv_aload_n hx hb dX12_first_125 rfl (lv_at hl 2 rfl) ?_
              refine lv_bipush (v := 33) hx hb dX12_first_126 (by decide +kernel) ?_
              refine r_callVi (As := [.int 33]) (rest := []) C hP hS hl.1 ⟨Nat.zero_le _, Nat.zero_le _⟩ (M_isSign l D cy sz0 sa ad σ H.size (33 : Int32) (v_first_42 σ x1 x2 x20 hpre_0 hpre_1 hpre_2 hpre_4 ex1 tx1 ex2 tx2 c3 c10 c18 c19 ex20 tx20 c21 hr52)) (n := 1) ⟨wm_92, wm_61, by decide +kernel⟩ ⟨wm_93, wm_94, wm_10⟩ rfl rfl (lv_room (Nat.le_of_ble_eq_true rfl)) ⟨Nat.le_of_ble_eq_true rfl, Nat.le_of_ble_eq_true rfl⟩ dX12_first_128 (fun r58 u H locs hr58 hP hS => ?_)
              have hr58 : (r58.toInt = 0 ∧ ¬ (((σ.2.1 4) (σ.1 14).toNatClampNeg).toInt = 5 ∧ ((σ.2.2.1 6) (σ.1 14).toNatClampNeg).toInt = (33 : Int32).toInt)) ∨ (r58.toInt = 1 ∧ (((σ.2.1 4) (σ.1 14).toNatClampNeg).toInt = 5 ∧ ((σ.2.2.1 6) (σ.1 14).toNatClampNeg).toInt = (33 : Int32).toInt)) := hr58
              refine lv_if_eq (tgt := 176) hx hb dX12_first_131 (by decide) (fun c59 => ?_) (fun c59 => ?_)
              · have c59 : r58.toInt = 0 := by have h := z_eq c59; rw [show (0 : Int32).toInt = 0 from by decide +kernel] at h; exact h
                have hr58 : ¬ (((σ.2.1 4) (σ.1 14).toNatClampNeg).toInt = 5 ∧ ((σ.2.2.1 6) (σ.1 14).toNatClampNeg).toInt = (33 : Int32).toInt) := bq_f hr58 c59
                refine lv_aload_n hx hb dX12_first_176 rfl (lv_at hl 2 rfl) ?_
                refine lv_bipush (v := 40) hx hb dX12_first_177 (by decide +kernel) ?_
                refine r_callVi (As := [.int 40]) (rest := []) C hP hS hl.1 ⟨Nat.zero_le _, Nat.zero_le _⟩ (M_isSign l D cy sz0 sa ad σ H.size (40 : Int32) (v_first_43 σ x1 x2 x20 hpre_0 hpre_1 hpre_2 hpre_4 ex1 tx1 ex2 tx2 c3 c10 c18 c19 ex20 tx20 c21 hr52 hr58)) (n := 1) ⟨wm_92, wm_61, by decide +kernel⟩ ⟨wm_93, wm_94, wm_10⟩ rfl rfl (lv_room (Nat.le_of_ble_eq_true rfl)) ⟨Nat.le_of_ble_eq_true rfl, Nat.le_of_ble_eq_true rfl⟩ dX12_first_179 (fun r60 u H locs hr60 hP hS => ?_)
                have hr60 : (r60.toInt = 0 ∧ ¬ (((σ.2.1 4) (σ.1 14).toNatClampNeg).toInt = 5 ∧ ((σ.2.2.1 6) (σ.1 14).toNatClampNeg).toInt = (40 : Int32).toInt)) ∨ (r60.toInt = 1 ∧ (((σ.2.1 4) (σ.1 14).toNatClampNeg).toInt = 5 ∧ ((σ.2.2.1 6) (σ.1 14).toNatClampNeg).toInt = (40 : Int32).toInt)) := hr60
                refine lv_if_eq (tgt := 203) hx hb dX12_first_182 (by decide) (fun c61 => ?_) (fun c61 => ?_)
                · have c61 : r60.toInt = 0 := by have h := z_eq c61; rw [show (0 : Int32).toInt = 0 from by decide +kernel] at h; exact h
                  have hr60 : ¬ (((σ.2.1 4) (σ.1 14).toNatClampNeg).toInt = 5 ∧ ((σ.2.2.1 6) (σ.1 14).toNatClampNeg).toInt = (40 : Int32).toInt) := bq_f hr60 c61
                  refine lv_aload_n hx hb dX12_first_203 rfl (lv_at hl 2 rfl) ?_
                  refine lv_bipush (v := 35) hx hb dX12_first_204 (by decide +kernel) ?_
                  refine r_callVi (As := [.int 35]) (rest := []) C hP hS hl.1 ⟨Nat.zero_le _, Nat.zero_le _⟩ (M_isSign l D cy sz0 sa ad σ H.size (35 : Int32) (v_first_44 σ x1 x2 x20 hpre_0 hpre_1 hpre_2 hpre_4 ex1 tx1 ex2 tx2 c3 c10 c18 c19 ex20 tx20 c21 hr52 hr58 hr60)) (n := 1) ⟨wm_92, wm_61, by decide +kernel⟩ ⟨wm_93, wm_94, wm_10⟩ rfl rfl (lv_room (Nat.le_of_ble_eq_true rfl)) ⟨Nat.le_of_ble_eq_true rfl, Nat.le_of_ble_eq_true rfl⟩ dX12_first_206 (fun r62 u H locs hr62 hP hS => ?_)
                  have hr62 : (r62.toInt = 0 ∧ ¬ (((σ.2.1 4) (σ.1 14).toNatClampNeg).toInt = 5 ∧ ((σ.2.2.1 6) (σ.1 14).toNatClampNeg).toInt = (35 : Int32).toInt)) ∨ (r62.toInt = 1 ∧ (((σ.2.1 4) (σ.1 14).toNatClampNeg).toInt = 5 ∧ ((σ.2.2.1 6) (σ.1 14).toNatClampNeg).toInt = (35 : Int32).toInt)) := hr62
                  refine lv_if_eq (tgt := 274) hx hb dX12_first_209 (by decide) (fun c63 => ?_) (fun c63 => ?_)
                  · have c63 : r62.toInt = 0 := by have h := z_eq c63; rw [show (0 : Int32).toInt = 0 from by decide +kernel] at h; exact h
                    have hr62 : ¬ (((σ.2.1 4) (σ.1 14).toNatClampNeg).toInt = 5 ∧ ((σ.2.2.1 6) (σ.1 14).toNatClampNeg).toInt = (35 : Int32).toInt) := bq_f hr62 c63
                    refine lv_aload_n hx hb dX12_first_274 rfl (lv_at hl 2 rfl) ?_
                    refine r_callVv (As := []) (rest := []) C hP hS hl.1 ⟨Nat.zero_le _, Nat.zero_le _⟩ (M_misfit l D cy sz0 sa ad σ H.size  (v_first_45 σ x1 x2 x20 hpre_0 hpre_1 hpre_2 hpre_4 ex1 tx1 ex2 tx2 c3 c10 c18 c19 ex20 tx20 c21 hr52 hr58 hr60 hr62)) (n := 0) ⟨wm_116, wm_63, by decide +kernel⟩ ⟨wm_117, wm_118, wm_10⟩ rfl rfl (lv_room (Nat.le_of_ble_eq_true rfl)) ⟨Nat.le_of_ble_eq_true rfl, Nat.le_of_ble_eq_true rfl⟩ dX12_first_275 (fun u H locs hr64 hP hS => ?_)
                    obtain ⟨n65, n66⟩ := u
                    have hr64 : (σ.1 8).toInt = 0 → n65.toInt = 2 := hr64
                    have hP : RP D cy ad (rS (rS σ 8 n65) 9 n66) H := hP
                    have hP : RP D cy ad (rS (rS (rS (rS (rS (rA (rA (rA (rA (rA (rA (rA (rA (rA (rA (rA (rA (rS (rS (rS (rJ (rA (rS σ 14 (σ.1 14)) 11 (σ.2.1 11)) 12 (σ.2.2.1 12)) 16 (σ.1 16)) 19 (σ.1 19)) 29 (σ.1 29)) 31 (σ.2.1 31)) 30 (σ.2.1 30)) 32 (σ.2.1 32)) 21 (σ.2.1 21)) 22 (σ.2.1 22)) 20 (σ.2.1 20)) 23 (σ.2.1 23)) 24 (σ.2.1 24)) 25 (σ.2.1 25)) 26 (σ.2.1 26)) 27 (σ.2.1 27)) 28 (σ.2.1 28)) 17 (σ.1 17)) 33 (σ.1 33)) 34 (σ.1 34)) 8 n65) 9 n66) H := RP.cong hP (Eq.trans (b := (σ.1 0)) rfl rfl) (Eq.trans (b := (σ.1 1)) rfl rfl) (Eq.trans (b := (σ.2.1 2)) rfl rfl) (Eq.trans (b := (σ.1 3)) rfl rfl) (Eq.trans (b := (σ.2.1 4)) rfl rfl) (Eq.trans (b := (σ.2.1 5)) rfl rfl) (Eq.trans (b := (σ.2.2.1 6)) rfl rfl) (Eq.trans (b := (σ.2.1 7)) rfl rfl) (Eq.trans (b := n65) rfl rfl) (Eq.trans (b := n66) rfl rfl) (Eq.trans (b := (σ.1 10)) rfl rfl) (Eq.trans (b := (σ.2.1 11)) rfl rfl) (Eq.trans (b := (σ.2.2.1 12)) rfl rfl) (Eq.trans (b := (σ.2.1 13)) rfl rfl) (Eq.trans (b := (σ.1 14)) rfl rfl) (Eq.trans (b := (σ.1 15)) rfl rfl) (Eq.trans (b := (σ.1 16)) rfl rfl) (Eq.trans (b := (σ.1 17)) rfl rfl) (Eq.trans (b := (σ.1 18)) rfl rfl) (Eq.trans (b := (σ.1 19)) rfl rfl) (Eq.trans (b := (σ.2.1 20)) rfl rfl) (Eq.trans (b := (σ.2.1 21)) rfl rfl) (Eq.trans (b := (σ.2.1 22)) rfl rfl) (Eq.trans (b := (σ.2.1 23)) rfl rfl) (Eq.trans (b := (σ.2.1 24)) rfl rfl) (Eq.trans (b := (σ.2.1 25)) rfl rfl) (Eq.trans (b := (σ.2.1 26)) rfl rfl) (Eq.trans (b := (σ.2.1 27)) rfl rfl) (Eq.trans (b := (σ.2.1 28)) rfl rfl) (Eq.trans (b := (σ.1 29)) rfl rfl) (Eq.trans (b := (σ.2.1 30)) rfl rfl) (Eq.trans (b := (σ.2.1 31)) rfl rfl) (Eq.trans (b := (σ.2.1 32)) rfl rfl) (Eq.trans (b := (σ.1 33)) rfl rfl) (Eq.trans (b := (σ.1 34)) rfl rfl) (Eq.trans (b := (σ.1 35)) rfl rfl) (Eq.trans (b := (σ.2.1 36)) rfl rfl) (Eq.trans (b := (σ.2.1 37)) rfl rfl) (Eq.trans (b := (σ.2.1 38)) rfl rfl) (Eq.trans (b := (σ.2.1 39)) rfl rfl) (Eq.trans (b := (σ.2.1 40)) rfl rfl) (Eq.trans (b := (σ.2.1 41)) rfl rfl) (Eq.trans (b := (σ.2.1 42)) rfl rfl) (Eq.trans (b := (σ.2.1 43)) rfl rfl) (Eq.trans (b := (σ.2.1 44)) rfl rfl) (Eq.trans (b := (σ.2.1 45)) rfl rfl) (Eq.trans (b := (σ.2.1 46)) rfl rfl) (Eq.trans (b := (σ.1 47)) rfl rfl) (Eq.trans (b := (σ.2.1 48)) rfl rfl) (Eq.trans (b := (σ.1 49)) rfl rfl) (Eq.trans (b := (σ.2.1 50)) rfl rfl) (Eq.trans (b := (σ.2.1 51)) rfl rfl) (Eq.trans (b := (σ.2.2.1 52)) rfl rfl) (Eq.trans (b := (σ.2.2.1 53)) rfl rfl) (Eq.trans (b := (σ.2.2.2)) rfl rfl) (Eq.trans (b := (σ.1 55)) rfl rfl) (Eq.trans (b := (σ.1 56)) rfl rfl) (Eq.trans (b := (σ.1 57)) rfl rfl) (Eq.trans (b := (σ.2.1 58)) rfl rfl) (Eq.trans (b := (σ.1 59)) rfl rfl)
                    exact r_retv C ⟨(σ.1 14), (σ.2.1 11), (σ.2.2.1 12), (σ.1 16), (σ.1 19), (σ.1 29), (σ.2.1 31), (σ.2.1 30), (σ.2.1 32), (σ.2.1 21), (σ.2.1 22), (σ.2.1 20), (σ.2.1 23), (σ.2.1 24), (σ.2.1 25), (σ.2.1 26), (σ.2.1 27), (σ.2.1 28), (σ.1 17), (σ.1 33), (σ.1 34), n65, n66⟩ (v_first_46 σ x1 x2 x20 n65 hpre_0 hpre_1 hpre_2 hpre_3 hpre_4 hpre_5 ex1 tx1 ex2 tx2 c3 c10 c18 c19 ex20 tx20 c21 hr52 hr58 hr60 hr62 hr64) hP hS dX12_first_278
                  · have c63 : ¬ r62.toInt = 0 := by have h := z_ne c63; rw [show (0 : Int32).toInt = 0 from by decide +kernel] at h; exact h
                    have hr62v : r62.toInt = 1 := hr62.elim (fun h9 => absurd h9.1 c63) (fun h9 => h9.1)
                    have hr62 : ((σ.2.1 4) (σ.1 14).toNatClampNeg).toInt = 5 ∧ ((σ.2.2.1 6) (σ.1 14).toNatClampNeg).toInt = (35 : Int32).toInt := bq_t hr62 c63
                    obtain ⟨hr62_0, hr62_1⟩ := hr62
                    refine lv_aload_n hx hb dX12_first_212 rfl (lv_at hl 2 rfl) ?_
                    refine lv_dup hx hb dX12_first_213 rfl ?_
                    refine rg_14 (v := (σ.1 14)) C hP rfl wm_62 dX12_first_214 ?_
                    refine lv_iconst (v := 1) hx hb dX12_first_217 (by decide +kernel) ?_
                    refine lv_iadd hx hb dX12_first_218 ?_
                    refine lv_topi (fun x67 ex67 => ?_)
                    have tx67 : x67.toInt = (σ.1 14).toInt + 1 := (v_first_47 σ x1 x2 x20 x67 hpre_0 hpre_1 hpre_2 hpre_4 ex1 tx1 ex2 tx2 c3 c10 c18 c19 ex20 tx20 c21 hr52 hr58 hr60 hr62_0 hr62_1 ex67)
                    refine rp_14 C hP hS wm_62 dX12_first_219 (fun H locs hP hS => ?_)
                    refine lv_aload_n hx hb dX12_first_222 rfl (lv_at hl 2 rfl) ?_
                    refine rg_4 C hP wm_16 dX12_first_223 ?_
                    refine lv_aload_n hx hb dX12_first_226 rfl (lv_at hl 2 rfl) ?_
                    refine rg_14 (v := x67) C hP rfl wm_62 dX12_first_227 ?_
                    refine ra_4 (f := (σ.2.1 4)) C hP rfl (v_first_48 σ x1 x2 x20 x67 hpre_0 hpre_1 hpre_2 hpre_4 ex1 tx1 ex2 tx2 c3 c10 c18 c19 ex20 tx20 c21 hr52 hr58 hr60 hr62_0 hr62_1 ex67 tx67) dX12_first_230 (fun x68 ex68 => ?_)
                    have tx68 : x68.toInt = ((σ.2.1 4) ((σ.1 14).toInt + 1).toNat).toInt := by rw [ex68, clampN, tx67]
                    refine lv_iconst (v := 3) hx hb dX12_first_231 (by decide +kernel) ?_
                    refine lv_icmp_eq (tgt := 240) hx hb dX12_first_232 (by decide) (fun c69 => ?_) (fun c69 => ?_)
                    · have c69 : x68.toInt = 3 := by have h := z_eq c69; rw [show (3 : Int32).toInt = 3 from by decide +kernel] at h; exact h
                      refine lv_aload_n hx hb dX12_first_240 rfl (lv_at hl 2 rfl) ?_
                      refine lv_bipush (v := 9) hx hb dX12_first_241 (by decide +kernel) ?_
                      refine lv_aload_n hx hb dX12_first_243 rfl (lv_at hl 2 rfl) ?_
                      refine rg_6 C hP wm_19 dX12_first_244 ?_
                      refine lv_aload_n hx hb dX12_first_247 rfl (lv_at hl 2 rfl) ?_
                      refine rg_14 (v := x67) C hP rfl wm_62 dX12_first_248 ?_
                      refine ra_6 (f := (σ.2.2.1 6)) C hP rfl (v_first_49 σ x1 x2 x20 x67 x68 hpre_0 hpre_1 hpre_2 hpre_4 ex1 tx1 ex2 tx2 c3 c10 c18 c19 ex20 tx20 c21 hr52 hr58 hr60 hr62_0 hr62_1 ex67 tx67 ex68 tx68 c69) dX12_first_251 (fun x70 ex70 => ?_)
                      have tx70 : x70.toInt = ((σ.2.2.1 6) ((σ.1 14).toInt + 1).toNat).toInt := by rw [ex70, clampN, tx67]
                      refine r_callVi (As := [.int 9, .long x70]) (rest := []) C hP hS hl.1 ⟨Nat.zero_le _, Nat.zero_le _⟩ (M_emit l D cy sz0 sa ad (rS σ 14 x67) H.size (9 : Int32) x70 (v_first_50 σ x1 x2 x20 x67 x68 x70 hpre_0 hpre_1 hpre_2 hpre_4 ex1 tx1 ex2 tx2 c3 c10 c18 c19 ex20 tx20 c21 hr52 hr58 hr60 hr62_0 hr62_1 ex67 tx67 ex68 tx68 c69 ex70 tx70)) (n := 2) ⟨wm_89, wm_64, by decide +kernel⟩ ⟨wm_90, wm_91, wm_10⟩ rfl rfl (lv_room (Nat.le_of_ble_eq_true rfl)) ⟨Nat.le_of_ble_eq_true rfl, Nat.le_of_ble_eq_true rfl⟩ dX12_first_252 (fun r71 u H locs hr71 hP hS => ?_)
                      obtain ⟨n72, rfl⟩ : ∃ z, z = u := ⟨_, rfl⟩
                      have hr71 : n72.toInt = (σ.1 16).toInt + 1 ∧ r71.toInt = (σ.1 15).toInt + (σ.1 16).toInt := hr71
                      obtain ⟨hr71_0, hr71_1⟩ := hr71
                      have hP : RP D cy ad (rS (rJ (rA (rS σ 14 x67) 11 (upd (σ.2.1 11) ((σ.1 15).toInt + (σ.1 16).toInt).toNat (9 : Int32))) 12 (vp_updL (σ.2.2.1 12) ((σ.1 15).toInt + (σ.1 16).toInt).toNat x70)) 16 n72) H := hP
                      refine lv_pop hx hb dX12_first_255 rfl ?_
                      refine lv_aload_n hx hb dX12_first_256 rfl (lv_at hl 2 rfl) ?_
                      refine lv_dup hx hb dX12_first_257 rfl ?_
                      refine rg_14 (v := x67) C hP rfl wm_62 dX12_first_258 ?_
                      refine lv_iconst (v := 1) hx hb dX12_first_261 (by decide +kernel) ?_
                      refine lv_iadd hx hb dX12_first_262 ?_
                      refine lv_topi (fun x73 ex73 => ?_)
                      have tx73 : x73.toInt = x67.toInt + 1 := (v_first_51 σ x1 x2 x20 x67 x68 x70 n72 r71 x73 hpre_0 hpre_1 hpre_2 hpre_4 ex1 tx1 ex2 tx2 c3 c10 c18 c19 ex20 tx20 c21 hr52 hr58 hr60 hr62_0 hr62_1 ex67 tx67 ex68 tx68 c69 ex70 tx70 hr71_0 hr71_1 ex73)
                      refine rp_14 C hP hS wm_62 dX12_first_263 (fun H locs hP hS => ?_)
                      refine lv_aload_n hx hb dX12_first_266 rfl (lv_at hl 2 rfl) ?_
                      refine lv_iconst (v := 1) hx hb dX12_first_267 (by decide +kernel) ?_
                      refine r_callVv (As := [.int 1]) (rest := []) C hP hS hl.1 ⟨Nat.zero_le _, Nat.zero_le _⟩ (M_ready l D cy sz0 sa ad (rS (rS (rJ (rA (rS σ 14 x67) 11 (upd (σ.2.1 11) ((σ.1 15).toInt + (σ.1 16).toInt).toNat (9 : Int32))) 12 (vp_updL (σ.2.2.1 12) ((σ.1 15).toInt + (σ.1 16).toInt).toNat x70)) 16 n72) 14 x73) H.size (1 : Int32) (v_first_52 σ x1 x2 x20 x67 x68 x70 n72 r71 x73 hpre_0 hpre_1 hpre_2 hpre_4 ex1 tx1 ex2 tx2 c3 c10 c18 c19 ex20 tx20 c21 hr52 hr58 hr60 hr62_0 hr62_1 ex67 tx67 ex68 tx68 c69 ex70 tx70 hr71_0 hr71_1 ex73 tx73)) (n := 1) ⟨wm_95, wm_83, by decide +kernel⟩ ⟨wm_96, wm_97, wm_10⟩ rfl rfl (lv_room (Nat.le_of_ble_eq_true rfl)) ⟨Nat.le_of_ble_eq_true rfl, Nat.le_of_ble_eq_true rfl⟩ dX12_first_268 (fun u H locs hr74 hP hS => ?_)
                      have hr74 : True := hr74
                      have hP : RP D cy ad (rS (rA (rS (rS (rJ (rA (rS σ 14 x67) 11 (upd (σ.2.1 11) ((σ.1 15).toInt + (σ.1 16).toInt).toNat (9 : Int32))) 12 (vp_updL (σ.2.2.1 12) ((σ.1 15).toInt + (σ.1 16).toInt).toNat x70)) 16 n72) 14 x73) 28 (upd (σ.2.1 28) ((σ.1 19).toInt - 1).toNat (1 : Int32))) 17 (0 : Int32)) H := hP
                      refine lv_goto (tgt := 278) hx hb dX12_first_271 (by decide) ?_
                      have hP : RP D cy ad (rS (rS (rS (rS (rS (rA (rA (rA (rA (rA (rA (rA (rA (rA (rA (rA (rA (rS (rS (rS (rJ (rA (rS σ 14 x73) 11 (upd (σ.2.1 11) ((σ.1 15).toInt + (σ.1 16).toInt).toNat (9 : Int32))) 12 (vp_updL (σ.2.2.1 12) ((σ.1 15).toInt + (σ.1 16).toInt).toNat x70)) 16 n72) 19 (σ.1 19)) 29 (σ.1 29)) 31 (σ.2.1 31)) 30 (σ.2.1 30)) 32 (σ.2.1 32)) 21 (σ.2.1 21)) 22 (σ.2.1 22)) 20 (σ.2.1 20)) 23 (σ.2.1 23)) 24 (σ.2.1 24)) 25 (σ.2.1 25)) 26 (σ.2.1 26)) 27 (σ.2.1 27)) 28 (upd (σ.2.1 28) ((σ.1 19).toInt - 1).toNat (1 : Int32))) 17 (0 : Int32)) 33 (σ.1 33)) 34 (σ.1 34)) 8 (σ.1 8)) 9 (σ.1 9)) H := RP.cong hP (Eq.trans (b := (σ.1 0)) rfl rfl) (Eq.trans (b := (σ.1 1)) rfl rfl) (Eq.trans (b := (σ.2.1 2)) rfl rfl) (Eq.trans (b := (σ.1 3)) rfl rfl) (Eq.trans (b := (σ.2.1 4)) rfl rfl) (Eq.trans (b := (σ.2.1 5)) rfl rfl) (Eq.trans (b := (σ.2.2.1 6)) rfl rfl) (Eq.trans (b := (σ.2.1 7)) rfl rfl) (Eq.trans (b := (σ.1 8)) rfl rfl) (Eq.trans (b := (σ.1 9)) rfl rfl) (Eq.trans (b := (σ.1 10)) rfl rfl) (Eq.trans (b := (upd (σ.2.1 11) ((σ.1 15).toInt + (σ.1 16).toInt).toNat (9 : Int32))) rfl rfl) (Eq.trans (b := (vp_updL (σ.2.2.1 12) ((σ.1 15).toInt + (σ.1 16).toInt).toNat x70)) rfl rfl) (Eq.trans (b := (σ.2.1 13)) rfl rfl) (Eq.trans (b := x73) rfl rfl) (Eq.trans (b := (σ.1 15)) rfl rfl) (Eq.trans (b := n72) rfl rfl) (Eq.trans (b := (0 : Int32)) rfl rfl) (Eq.trans (b := (σ.1 18)) rfl rfl) (Eq.trans (b := (σ.1 19)) rfl rfl) (Eq.trans (b := (σ.2.1 20)) rfl rfl) (Eq.trans (b := (σ.2.1 21)) rfl rfl) (Eq.trans (b := (σ.2.1 22)) rfl rfl) (Eq.trans (b := (σ.2.1 23)) rfl rfl) (Eq.trans (b := (σ.2.1 24)) rfl rfl) (Eq.trans (b := (σ.2.1 25)) rfl rfl) (Eq.trans (b := (σ.2.1 26)) rfl rfl) (Eq.trans (b := (σ.2.1 27)) rfl rfl) (Eq.trans (b := (upd (σ.2.1 28) ((σ.1 19).toInt - 1).toNat (1 : Int32))) rfl rfl) (Eq.trans (b := (σ.1 29)) rfl rfl) (Eq.trans (b := (σ.2.1 30)) rfl rfl) (Eq.trans (b := (σ.2.1 31)) rfl rfl) (Eq.trans (b := (σ.2.1 32)) rfl rfl) (Eq.trans (b := (σ.1 33)) rfl rfl) (Eq.trans (b := (σ.1 34)) rfl rfl) (Eq.trans (b := (σ.1 35)) rfl rfl) (Eq.trans (b := (σ.2.1 36)) rfl rfl) (Eq.trans (b := (σ.2.1 37)) rfl rfl) (Eq.trans (b := (σ.2.1 38)) rfl rfl) (Eq.trans (b := (σ.2.1 39)) rfl rfl) (Eq.trans (b := (σ.2.1 40)) rfl rfl) (Eq.trans (b := (σ.2.1 41)) rfl rfl) (Eq.trans (b := (σ.2.1 42)) rfl rfl) (Eq.trans (b := (σ.2.1 43)) rfl rfl) (Eq.trans (b := (σ.2.1 44)) rfl rfl) (Eq.trans (b := (σ.2.1 45)) rfl rfl) (Eq.trans (b := (σ.2.1 46)) rfl rfl) (Eq.trans (b := (σ.1 47)) rfl rfl) (Eq.trans (b := (σ.2.1 48)) rfl rfl) (Eq.trans (b := (σ.1 49)) rfl rfl) (Eq.trans (b := (σ.2.1 50)) rfl rfl) (Eq.trans (b := (σ.2.1 51)) rfl rfl) (Eq.trans (b := (σ.2.2.1 52)) rfl rfl) (Eq.trans (b := (σ.2.2.1 53)) rfl rfl) (Eq.trans (b := (σ.2.2.2)) rfl rfl) (Eq.trans (b := (σ.1 55)) rfl rfl) (Eq.trans (b := (σ.1 56)) rfl rfl) (Eq.trans (b := (σ.1 57)) rfl rfl) (Eq.trans (b := (σ.2.1 58)) rfl rfl) (Eq.trans (b := (σ.1 59)) rfl rfl)
                      exact r_retv C ⟨x73, (upd (σ.2.1 11) ((σ.1 15).toInt + (σ.1 16).toInt).toNat (9 : Int32)), (vp_updL (σ.2.2.1 12) ((σ.1 15).toInt + (σ.1 16).toInt).toNat x70), n72, (σ.1 19), (σ.1 29), (σ.2.1 31), (σ.2.1 30), (σ.2.1 32), (σ.2.1 21), (σ.2.1 22), (σ.2.1 20), (σ.2.1 23), (σ.2.1 24), (σ.2.1 25), (σ.2.1 26), (σ.2.1 27), (upd (σ.2.1 28) ((σ.1 19).toInt - 1).toNat (1 : Int32)), (0 : Int32), (σ.1 33), (σ.1 34), (σ.1 8), (σ.1 9)⟩ (v_first_53 σ x1 x2 x20 x67 x68 x70 n72 r71 x73 hpre_0 hpre_1 hpre_2 hpre_3 hpre_4 ex1 tx1 ex2 tx2 c3 c10 c18 c19 ex20 tx20 c21 hr52 hr58 hr60 hr62_0 hr62_1 ex67 tx67 ex68 tx68 c69 ex70 tx70 hr71_0 hr71_1 ex73 tx73) hP hS dX12_first_278
                    · have c69 : ¬ x68.toInt = 3 := by have h := z_ne c69; rw [show (3 : Int32).toInt = 3 from by decide +kernel] at h; exact h
                      refine lv_aload_n hx hb dX12_first_235 rfl (lv_at hl 2 rfl) ?_
                      refine r_callVv (As := []) (rest := []) C hP hS hl.1 ⟨Nat.zero_le _, Nat.zero_le _⟩ (M_misfit l D cy sz0 sa ad (rS σ 14 x67) H.size  (v_first_54 σ x1 x2 x20 x67 x68 hpre_0 hpre_1 hpre_2 hpre_4 ex1 tx1 ex2 tx2 c3 c10 c18 c19 ex20 tx20 c21 hr52 hr58 hr60 hr62_0 hr62_1 ex67 tx67 ex68 tx68 c69)) (n := 0) ⟨wm_116, wm_63, by decide +kernel⟩ ⟨wm_117, wm_118, wm_10⟩ rfl rfl (lv_room (Nat.le_of_ble_eq_true rfl)) ⟨Nat.le_of_ble_eq_true rfl, Nat.le_of_ble_eq_true rfl⟩ dX12_first_236 (fun u H locs hr75 hP hS => ?_)
                      obtain ⟨n76, n77⟩ := u
                      have hr75 : (σ.1 8).toInt = 0 → n76.toInt = 2 := hr75
                      have hP : RP D cy ad (rS (rS (rS σ 14 x67) 8 n76) 9 n77) H := hP
                      have hP : RP D cy ad (rS (rS (rS (rS (rS (rA (rA (rA (rA (rA (rA (rA (rA (rA (rA (rA (rA (rS (rS (rS (rJ (rA (rS σ 14 x67) 11 (σ.2.1 11)) 12 (σ.2.2.1 12)) 16 (σ.1 16)) 19 (σ.1 19)) 29 (σ.1 29)) 31 (σ.2.1 31)) 30 (σ.2.1 30)) 32 (σ.2.1 32)) 21 (σ.2.1 21)) 22 (σ.2.1 22)) 20 (σ.2.1 20)) 23 (σ.2.1 23)) 24 (σ.2.1 24)) 25 (σ.2.1 25)) 26 (σ.2.1 26)) 27 (σ.2.1 27)) 28 (σ.2.1 28)) 17 (σ.1 17)) 33 (σ.1 33)) 34 (σ.1 34)) 8 n76) 9 n77) H := RP.cong hP (Eq.trans (b := (σ.1 0)) rfl rfl) (Eq.trans (b := (σ.1 1)) rfl rfl) (Eq.trans (b := (σ.2.1 2)) rfl rfl) (Eq.trans (b := (σ.1 3)) rfl rfl) (Eq.trans (b := (σ.2.1 4)) rfl rfl) (Eq.trans (b := (σ.2.1 5)) rfl rfl) (Eq.trans (b := (σ.2.2.1 6)) rfl rfl) (Eq.trans (b := (σ.2.1 7)) rfl rfl) (Eq.trans (b := n76) rfl rfl) (Eq.trans (b := n77) rfl rfl) (Eq.trans (b := (σ.1 10)) rfl rfl) (Eq.trans (b := (σ.2.1 11)) rfl rfl) (Eq.trans (b := (σ.2.2.1 12)) rfl rfl) (Eq.trans (b := (σ.2.1 13)) rfl rfl) (Eq.trans (b := x67) rfl rfl) (Eq.trans (b := (σ.1 15)) rfl rfl) (Eq.trans (b := (σ.1 16)) rfl rfl) (Eq.trans (b := (σ.1 17)) rfl rfl) (Eq.trans (b := (σ.1 18)) rfl rfl) (Eq.trans (b := (σ.1 19)) rfl rfl) (Eq.trans (b := (σ.2.1 20)) rfl rfl) (Eq.trans (b := (σ.2.1 21)) rfl rfl) (Eq.trans (b := (σ.2.1 22)) rfl rfl) (Eq.trans (b := (σ.2.1 23)) rfl rfl) (Eq.trans (b := (σ.2.1 24)) rfl rfl) (Eq.trans (b := (σ.2.1 25)) rfl rfl) (Eq.trans (b := (σ.2.1 26)) rfl rfl) (Eq.trans (b := (σ.2.1 27)) rfl rfl) (Eq.trans (b := (σ.2.1 28)) rfl rfl) (Eq.trans (b := (σ.1 29)) rfl rfl) (Eq.trans (b := (σ.2.1 30)) rfl rfl) (Eq.trans (b := (σ.2.1 31)) rfl rfl) (Eq.trans (b := (σ.2.1 32)) rfl rfl) (Eq.trans (b := (σ.1 33)) rfl rfl) (Eq.trans (b := (σ.1 34)) rfl rfl) (Eq.trans (b := (σ.1 35)) rfl rfl) (Eq.trans (b := (σ.2.1 36)) rfl rfl) (Eq.trans (b := (σ.2.1 37)) rfl rfl) (Eq.trans (b := (σ.2.1 38)) rfl rfl) (Eq.trans (b := (σ.2.1 39)) rfl rfl) (Eq.trans (b := (σ.2.1 40)) rfl rfl) (Eq.trans (b := (σ.2.1 41)) rfl rfl) (Eq.trans (b := (σ.2.1 42)) rfl rfl) (Eq.trans (b := (σ.2.1 43)) rfl rfl) (Eq.trans (b := (σ.2.1 44)) rfl rfl) (Eq.trans (b := (σ.2.1 45)) rfl rfl) (Eq.trans (b := (σ.2.1 46)) rfl rfl) (Eq.trans (b := (σ.1 47)) rfl rfl) (Eq.trans (b := (σ.2.1 48)) rfl rfl) (Eq.trans (b := (σ.1 49)) rfl rfl) (Eq.trans (b := (σ.2.1 50)) rfl rfl) (Eq.trans (b := (σ.2.1 51)) rfl rfl) (Eq.trans (b := (σ.2.2.1 52)) rfl rfl) (Eq.trans (b := (σ.2.2.1 53)) rfl rfl) (Eq.trans (b := (σ.2.2.2)) rfl rfl) (Eq.trans (b := (σ.1 55)) rfl rfl) (Eq.trans (b := (σ.1 56)) rfl rfl) (Eq.trans (b := (σ.1 57)) rfl rfl) (Eq.trans (b := (σ.2.1 58)) rfl rfl) (Eq.trans (b := (σ.1 59)) rfl rfl)
                      exact r_retv C ⟨x67, (σ.2.1 11), (σ.2.2.1 12), (σ.1 16), (σ.1 19), (σ.1 29), (σ.2.1 31), (σ.2.1 30), (σ.2.1 32), (σ.2.1 21), (σ.2.1 22), (σ.2.1 20), (σ.2.1 23), (σ.2.1 24), (σ.2.1 25), (σ.2.1 26), (σ.2.1 27), (σ.2.1 28), (σ.1 17), (σ.1 33), (σ.1 34), n76, n77⟩ (v_first_55 σ x1 x2 x20 x67 x68 n76 hpre_0 hpre_1 hpre_2 hpre_3 hpre_4 hpre_5 ex1 tx1 ex2 tx2 c3 c10 c18 c19 ex20 tx20 c21 hr52 hr58 hr60 hr62_0 hr62_1 ex67 tx67 ex68 tx68 c69 hr75) hP hS dX12_first_239
                · have c61 : ¬ r60.toInt = 0 := by have h := z_ne c61; rw [show (0 : Int32).toInt = 0 from by decide +kernel] at h; exact h
                  have hr60v : r60.toInt = 1 := hr60.elim (fun h9 => absurd h9.1 c61) (fun h9 => h9.1)
                  have hr60 : ((σ.2.1 4) (σ.1 14).toNatClampNeg).toInt = 5 ∧ ((σ.2.2.1 6) (σ.1 14).toNatClampNeg).toInt = (40 : Int32).toInt := bq_t hr60 c61
                  obtain ⟨hr60_0, hr60_1⟩ := hr60
                  refine lv_aload_n hx hb dX12_first_185 rfl (lv_at hl 2 rfl) ?_
                  refine lv_dup hx hb dX12_first_186 rfl ?_
                  refine rg_14 (v := (σ.1 14)) C hP rfl wm_62 dX12_first_187 ?_
                  refine lv_iconst (v := 1) hx hb dX12_first_190 (by decide +kernel) ?_
                  refine lv_iadd hx hb dX12_first_191 ?_
                  refine lv_topi (fun x78 ex78 => ?_)
                  have tx78 : x78.toInt = (σ.1 14).toInt + 1 := (v_first_56 σ x1 x2 x20 x78 hpre_0 hpre_1 hpre_2 hpre_4 ex1 tx1 ex2 tx2 c3 c10 c18 c19 ex20 tx20 c21 hr52 hr58 hr60_0 hr60_1 ex78)
                  refine rp_14 C hP hS wm_62 dX12_first_192 (fun H locs hP hS => ?_)
                  refine lv_aload_n hx hb dX12_first_195 rfl (lv_at hl 2 rfl) ?_
                  refine lv_iconst (v := 2) hx hb dX12_first_196 (by decide +kernel) ?_
                  refine r_callVv (As := [.int 2]) (rest := []) C hP hS hl.1 ⟨Nat.zero_le _, Nat.zero_le _⟩ (M_open l D cy sz0 sa ad (rS σ 14 x78) H.size (2 : Int32) (v_first_57 σ x1 x2 x20 x78 hpre_0 hpre_1 hpre_2 hpre_3 hpre_4 ex1 tx1 ex2 tx2 c3 c10 c18 c19 ex20 tx20 c21 hr52 hr58 hr60_0 hr60_1 ex78 tx78)) (n := 1) ⟨wm_98, wm_69, by decide +kernel⟩ ⟨wm_99, wm_100, wm_10⟩ rfl rfl (lv_room (Nat.le_of_ble_eq_true rfl)) ⟨Nat.le_of_ble_eq_true rfl, Nat.le_of_ble_eq_true rfl⟩ dX12_first_197 (fun u H locs hr79 hP hS => ?_)
                  obtain ⟨F80, n81, F82, F83, F84, F85, F86, n87, n88, n89⟩ := u
                  have hr79 : ((σ.1 19).toInt = 5 ∧ n88.toInt = 3 ∧ n81.toInt = 5) ∨ ((σ.1 19).toInt < 5 ∧ n88 = (σ.1 8) ∧ n81.toInt = (σ.1 19).toInt + 1 ∧ F80 = upd (σ.2.1 20) (σ.1 19).toInt.toNat (2 : Int32) ∧ F82 = upd (σ.2.1 21) (σ.1 19).toInt.toNat (σ.1 29) ∧ F83 = upd (σ.2.1 22) (σ.1 19).toInt.toNat (0 : Int32) ∧ F85 = upd (σ.2.1 27) (σ.1 19).toInt.toNat (1 : Int32) ∧ F86 = upd (σ.2.1 28) (σ.1 19).toInt.toNat (0 : Int32) ∧ n87.toInt = 1) := hr79
                  have hP : RP D cy ad (rS (rS (rS (rA (rA (rA (rA (rA (rS (rA (rS σ 14 x78) 20 F80) 19 n81) 21 F82) 22 F83) 26 F84) 27 F85) 28 F86) 17 n87) 8 n88) 9 n89) H := hP
                  refine lv_goto (tgt := 278) hx hb dX12_first_200 (by decide) ?_
                  have hP : RP D cy ad (rS (rS (rS (rS (rS (rA (rA (rA (rA (rA (rA (rA (rA (rA (rA (rA (rA (rS (rS (rS (rJ (rA (rS σ 14 x78) 11 (σ.2.1 11)) 12 (σ.2.2.1 12)) 16 (σ.1 16)) 19 n81) 29 (σ.1 29)) 31 (σ.2.1 31)) 30 (σ.2.1 30)) 32 (σ.2.1 32)) 21 F82) 22 F83) 20 F80) 23 (σ.2.1 23)) 24 (σ.2.1 24)) 25 (σ.2.1 25)) 26 F84) 27 F85) 28 F86) 17 n87) 33 (σ.1 33)) 34 (σ.1 34)) 8 n88) 9 n89) H := RP.cong hP (Eq.trans (b := (σ.1 0)) rfl rfl) (Eq.trans (b := (σ.1 1)) rfl rfl) (Eq.trans (b := (σ.2.1 2)) rfl rfl) (Eq.trans (b := (σ.1 3)) rfl rfl) (Eq.trans (b := (σ.2.1 4)) rfl rfl) (Eq.trans (b := (σ.2.1 5)) rfl rfl) (Eq.trans (b := (σ.2.2.1 6)) rfl rfl) (Eq.trans (b := (σ.2.1 7)) rfl rfl) (Eq.trans (b := n88) rfl rfl) (Eq.trans (b := n89) rfl rfl) (Eq.trans (b := (σ.1 10)) rfl rfl) (Eq.trans (b := (σ.2.1 11)) rfl rfl) (Eq.trans (b := (σ.2.2.1 12)) rfl rfl) (Eq.trans (b := (σ.2.1 13)) rfl rfl) (Eq.trans (b := x78) rfl rfl) (Eq.trans (b := (σ.1 15)) rfl rfl) (Eq.trans (b := (σ.1 16)) rfl rfl) (Eq.trans (b := n87) rfl rfl) (Eq.trans (b := (σ.1 18)) rfl rfl) (Eq.trans (b := n81) rfl rfl) (Eq.trans (b := F80) rfl rfl) (Eq.trans (b := F82) rfl rfl) (Eq.trans (b := F83) rfl rfl) (Eq.trans (b := (σ.2.1 23)) rfl rfl) (Eq.trans (b := (σ.2.1 24)) rfl rfl) (Eq.trans (b := (σ.2.1 25)) rfl rfl) (Eq.trans (b := F84) rfl rfl) (Eq.trans (b := F85) rfl rfl) (Eq.trans (b := F86) rfl rfl) (Eq.trans (b := (σ.1 29)) rfl rfl) (Eq.trans (b := (σ.2.1 30)) rfl rfl) (Eq.trans (b := (σ.2.1 31)) rfl rfl) (Eq.trans (b := (σ.2.1 32)) rfl rfl) (Eq.trans (b := (σ.1 33)) rfl rfl) (Eq.trans (b := (σ.1 34)) rfl rfl) (Eq.trans (b := (σ.1 35)) rfl rfl) (Eq.trans (b := (σ.2.1 36)) rfl rfl) (Eq.trans (b := (σ.2.1 37)) rfl rfl) (Eq.trans (b := (σ.2.1 38)) rfl rfl) (Eq.trans (b := (σ.2.1 39)) rfl rfl) (Eq.trans (b := (σ.2.1 40)) rfl rfl) (Eq.trans (b := (σ.2.1 41)) rfl rfl) (Eq.trans (b := (σ.2.1 42)) rfl rfl) (Eq.trans (b := (σ.2.1 43)) rfl rfl) (Eq.trans (b := (σ.2.1 44)) rfl rfl) (Eq.trans (b := (σ.2.1 45)) rfl rfl) (Eq.trans (b := (σ.2.1 46)) rfl rfl) (Eq.trans (b := (σ.1 47)) rfl rfl) (Eq.trans (b := (σ.2.1 48)) rfl rfl) (Eq.trans (b := (σ.1 49)) rfl rfl) (Eq.trans (b := (σ.2.1 50)) rfl rfl) (Eq.trans (b := (σ.2.1 51)) rfl rfl) (Eq.trans (b := (σ.2.2.1 52)) rfl rfl) (Eq.trans (b := (σ.2.2.1 53)) rfl rfl) (Eq.trans (b := (σ.2.2.2)) rfl rfl) (Eq.trans (b := (σ.1 55)) rfl rfl) (Eq.trans (b := (σ.1 56)) rfl rfl) (Eq.trans (b := (σ.1 57)) rfl rfl) (Eq.trans (b := (σ.2.1 58)) rfl rfl) (Eq.trans (b := (σ.1 59)) rfl rfl)
                  exact r_retv C ⟨x78, (σ.2.1 11), (σ.2.2.1 12), (σ.1 16), n81, (σ.1 29), (σ.2.1 31), (σ.2.1 30), (σ.2.1 32), F82, F83, F80, (σ.2.1 23), (σ.2.1 24), (σ.2.1 25), F84, F85, F86, n87, (σ.1 33), (σ.1 34), n88, n89⟩ (v_first_58 σ x1 x2 x20 x78 F80 n81 F82 F83 F85 F86 n87 n88 hpre_0 hpre_1 hpre_2 hpre_3 hpre_4 ex1 tx1 ex2 tx2 c3 c10 c18 c19 ex20 tx20 c21 hr52 hr58 hr60_0 hr60_1 ex78 tx78 hr79) hP hS dX12_first_278
              · have c59 : ¬ r58.toInt = 0 := by have h := z_ne c59; rw [show (0 : Int32).toInt = 0 from by decide +kernel] at h; exact h
                have hr58v : r58.toInt = 1 := hr58.elim (fun h9 => absurd h9.1 c59) (fun h9 => h9.1)
                have hr58 : ((σ.2.1 4) (σ.1 14).toNatClampNeg).toInt = 5 ∧ ((σ.2.2.1 6) (σ.1 14).toNatClampNeg).toInt = (33 : Int32).toInt := bq_t hr58 c59
                obtain ⟨hr58_0, hr58_1⟩ := hr58
                refine lv_aload_n hx hb dX12_first_134 rfl (lv_at hl 2 rfl) ?_
                refine rg_22 C hP wm_78 dX12_first_135 ?_
                refine lv_iload_n hx hb dX12_first_138 rfl (lv_at hl 0 rfl) ?_
                refine lv_aload_n hx hb dX12_first_139 rfl (lv_at hl 2 rfl) ?_
                refine lv_bipush (v := 45) hx hb dX12_first_140 (by decide +kernel) ?_
                refine r_callVi (As := [.int 45]) (rest := [.int x2, .ref (ad 22)]) C hP hS hl.1 ⟨Nat.zero_le _, Nat.zero_le _⟩ (M_isSign l D cy sz0 sa ad σ H.size (45 : Int32) (v_first_59 σ x1 x2 x20 hpre_0 hpre_1 hpre_2 hpre_4 ex1 tx1 ex2 tx2 c3 c10 c18 c19 ex20 tx20 c21 hr52 hr58_0 hr58_1)) (n := 1) ⟨wm_92, wm_61, by decide +kernel⟩ ⟨wm_93, wm_94, wm_10⟩ rfl rfl (lv_room (Nat.le_of_ble_eq_true rfl)) ⟨Nat.le_of_ble_eq_true rfl, Nat.le_of_ble_eq_true rfl⟩ dX12_first_142 (fun r90 u H locs hr90 hP hS => ?_)
                have hr90 : (r90.toInt = 0 ∧ ¬ (((σ.2.1 4) (σ.1 14).toNatClampNeg).toInt = 5 ∧ ((σ.2.2.1 6) (σ.1 14).toNatClampNeg).toInt = (45 : Int32).toInt)) ∨ (r90.toInt = 1 ∧ (((σ.2.1 4) (σ.1 14).toNatClampNeg).toInt = 5 ∧ ((σ.2.2.1 6) (σ.1 14).toNatClampNeg).toInt = (45 : Int32).toInt)) := hr90
                refine lv_if_eq (tgt := 153) hx hb dX12_first_145 (by decide) (fun c91 => ?_) (fun c91 => ?_)
                · have c91 : r90.toInt = 0 := by have h := z_eq c91; rw [show (0 : Int32).toInt = 0 from by decide +kernel] at h; exact h
                  have hr90 : ¬ (((σ.2.1 4) (σ.1 14).toNatClampNeg).toInt = 5 ∧ ((σ.2.2.1 6) (σ.1 14).toNatClampNeg).toInt = (45 : Int32).toInt) := bq_f hr90 c91
                  refine lv_bipush (v := 31) hx hb dX12_first_153 (by decide +kernel) ?_
                  refine rw_22 (f := (σ.2.1 22)) C hP hS rfl (v_first_60 σ x1 x2 x20 hpre_0 hpre_1 hpre_2 hpre_4 ex1 tx1 ex2 tx2 c3 c10 c18 c19 ex20 tx20 c21 hr58_0 hr58_1) dX12_first_155 (fun H locs hP hS => ?_)
                  refine lv_aload_n hx hb dX12_first_156 rfl (lv_at hl 2 rfl) ?_
                  refine rg_27 C hP wm_80 dX12_first_157 ?_
                  refine lv_iload_n hx hb dX12_first_160 rfl (lv_at hl 0 rfl) ?_
                  refine lv_iconst (v := 0) hx hb dX12_first_161 (by decide +kernel) ?_
                  refine rw_27 (f := (σ.2.1 27)) C hP hS rfl (v_first_36  ) (v_first_60 σ x1 x2 x20 hpre_0 hpre_1 hpre_2 hpre_4 ex1 tx1 ex2 tx2 c3 c10 c18 c19 ex20 tx20 c21 hr58_0 hr58_1) dX12_first_162 (fun H locs hP hS => ?_)
                  refine lv_aload_n hx hb dX12_first_163 rfl (lv_at hl 2 rfl) ?_
                  refine lv_dup hx hb dX12_first_164 rfl ?_
                  refine rg_14 (v := (σ.1 14)) C hP rfl wm_62 dX12_first_165 ?_
                  refine lv_iconst (v := 1) hx hb dX12_first_168 (by decide +kernel) ?_
                  refine lv_iadd hx hb dX12_first_169 ?_
                  refine lv_topi (fun x92 ex92 => ?_)
                  have tx92 : x92.toInt = (σ.1 14).toInt + 1 := (v_first_61 σ x1 x2 x20 x92 hpre_0 hpre_1 hpre_2 hpre_4 ex1 tx1 ex2 tx2 c3 c10 c18 c19 ex20 tx20 c21 hr52 hr58_0 hr58_1 hr90 ex92)
                  refine rp_14 C hP hS wm_62 dX12_first_170 (fun H locs hP hS => ?_)
                  refine lv_goto (tgt := 278) hx hb dX12_first_173 (by decide) ?_
                  have hP : RP D cy ad (rS (rS (rS (rS (rS (rA (rA (rA (rA (rA (rA (rA (rA (rA (rA (rA (rA (rS (rS (rS (rJ (rA (rS σ 14 x92) 11 (σ.2.1 11)) 12 (σ.2.2.1 12)) 16 (σ.1 16)) 19 (σ.1 19)) 29 (σ.1 29)) 31 (σ.2.1 31)) 30 (σ.2.1 30)) 32 (σ.2.1 32)) 21 (σ.2.1 21)) 22 (upd (σ.2.1 22) x2.toNatClampNeg (31 : Int32))) 20 (σ.2.1 20)) 23 (σ.2.1 23)) 24 (σ.2.1 24)) 25 (σ.2.1 25)) 26 (σ.2.1 26)) 27 (upd (σ.2.1 27) x2.toNatClampNeg (0 : Int32))) 28 (σ.2.1 28)) 17 (σ.1 17)) 33 (σ.1 33)) 34 (σ.1 34)) 8 (σ.1 8)) 9 (σ.1 9)) H := RP.cong hP (Eq.trans (b := (σ.1 0)) rfl rfl) (Eq.trans (b := (σ.1 1)) rfl rfl) (Eq.trans (b := (σ.2.1 2)) rfl rfl) (Eq.trans (b := (σ.1 3)) rfl rfl) (Eq.trans (b := (σ.2.1 4)) rfl rfl) (Eq.trans (b := (σ.2.1 5)) rfl rfl) (Eq.trans (b := (σ.2.2.1 6)) rfl rfl) (Eq.trans (b := (σ.2.1 7)) rfl rfl) (Eq.trans (b := (σ.1 8)) rfl rfl) (Eq.trans (b := (σ.1 9)) rfl rfl) (Eq.trans (b := (σ.1 10)) rfl rfl) (Eq.trans (b := (σ.2.1 11)) rfl rfl) (Eq.trans (b := (σ.2.2.1 12)) rfl rfl) (Eq.trans (b := (σ.2.1 13)) rfl rfl) (Eq.trans (b := x92) rfl rfl) (Eq.trans (b := (σ.1 15)) rfl rfl) (Eq.trans (b := (σ.1 16)) rfl rfl) (Eq.trans (b := (σ.1 17)) rfl rfl) (Eq.trans (b := (σ.1 18)) rfl rfl) (Eq.trans (b := (σ.1 19)) rfl rfl) (Eq.trans (b := (σ.2.1 20)) rfl rfl) (Eq.trans (b := (σ.2.1 21)) rfl rfl) (Eq.trans (b := (upd (σ.2.1 22) x2.toNatClampNeg (31 : Int32))) rfl rfl) (Eq.trans (b := (σ.2.1 23)) rfl rfl) (Eq.trans (b := (σ.2.1 24)) rfl rfl) (Eq.trans (b := (σ.2.1 25)) rfl rfl) (Eq.trans (b := (σ.2.1 26)) rfl rfl) (Eq.trans (b := (upd (σ.2.1 27) x2.toNatClampNeg (0 : Int32))) rfl rfl) (Eq.trans (b := (σ.2.1 28)) rfl rfl) (Eq.trans (b := (σ.1 29)) rfl rfl) (Eq.trans (b := (σ.2.1 30)) rfl rfl) (Eq.trans (b := (σ.2.1 31)) rfl rfl) (Eq.trans (b := (σ.2.1 32)) rfl rfl) (Eq.trans (b := (σ.1 33)) rfl rfl) (Eq.trans (b := (σ.1 34)) rfl rfl) (Eq.trans (b := (σ.1 35)) rfl rfl) (Eq.trans (b := (σ.2.1 36)) rfl rfl) (Eq.trans (b := (σ.2.1 37)) rfl rfl) (Eq.trans (b := (σ.2.1 38)) rfl rfl) (Eq.trans (b := (σ.2.1 39)) rfl rfl) (Eq.trans (b := (σ.2.1 40)) rfl rfl) (Eq.trans (b := (σ.2.1 41)) rfl rfl) (Eq.trans (b := (σ.2.1 42)) rfl rfl) (Eq.trans (b := (σ.2.1 43)) rfl rfl) (Eq.trans (b := (σ.2.1 44)) rfl rfl) (Eq.trans (b := (σ.2.1 45)) rfl rfl) (Eq.trans (b := (σ.2.1 46)) rfl rfl) (Eq.trans (b := (σ.1 47)) rfl rfl) (Eq.trans (b := (σ.2.1 48)) rfl rfl) (Eq.trans (b := (σ.1 49)) rfl rfl) (Eq.trans (b := (σ.2.1 50)) rfl rfl) (Eq.trans (b := (σ.2.1 51)) rfl rfl) (Eq.trans (b := (σ.2.2.1 52)) rfl rfl) (Eq.trans (b := (σ.2.2.1 53)) rfl rfl) (Eq.trans (b := (σ.2.2.2)) rfl rfl) (Eq.trans (b := (σ.1 55)) rfl rfl) (Eq.trans (b := (σ.1 56)) rfl rfl) (Eq.trans (b := (σ.1 57)) rfl rfl) (Eq.trans (b := (σ.2.1 58)) rfl rfl) (Eq.trans (b := (σ.1 59)) rfl rfl)
                  exact r_retv C ⟨x92, (σ.2.1 11), (σ.2.2.1 12), (σ.1 16), (σ.1 19), (σ.1 29), (σ.2.1 31), (σ.2.1 30), (σ.2.1 32), (σ.2.1 21), (upd (σ.2.1 22) x2.toNatClampNeg (31 : Int32)), (σ.2.1 20), (σ.2.1 23), (σ.2.1 24), (σ.2.1 25), (σ.2.1 26), (upd (σ.2.1 27) x2.toNatClampNeg (0 : Int32)), (σ.2.1 28), (σ.1 17), (σ.1 33), (σ.1 34), (σ.1 8), (σ.1 9)⟩ (v_first_62 σ x1 x2 x20 x92 hpre_0 hpre_1 hpre_2 hpre_3 hpre_4 hpre_5 ex1 tx1 ex2 tx2 c3 c10 c18 c19 ex20 tx20 c21 hr52 hr58_0 hr58_1 hr90 ex92 tx92) hP hS dX12_first_278
                · have c91 : ¬ r90.toInt = 0 := by have h := z_ne c91; rw [show (0 : Int32).toInt = 0 from by decide +kernel] at h; exact h
                  have hr90v : r90.toInt = 1 := hr90.elim (fun h9 => absurd h9.1 c91) (fun h9 => h9.1)
                  have hr90 : ((σ.2.1 4) (σ.1 14).toNatClampNeg).toInt = 5 ∧ ((σ.2.2.1 6) (σ.1 14).toNatClampNeg).toInt = (45 : Int32).toInt := bq_t hr90 c91
                  obtain ⟨hr90_0, hr90_1⟩ := hr90
                  refine lv_bipush (v := 30) hx hb dX12_first_148 (by decide +kernel) ?_
                  refine lv_goto (tgt := 155) hx hb dX12_first_150 (by decide) ?_
                  refine rw_22 (f := (σ.2.1 22)) C hP hS rfl (v_first_63 σ x1 x2 x20 hpre_0 hpre_1 hpre_2 hpre_4 ex1 tx1 ex2 tx2 c3 c10 c18 c19 ex20 tx20 c21 hr58_0 hr58_1 hr90_0 hr90_1) dX12_first_155 (fun H locs hP hS => ?_)
                  refine lv_aload_n hx hb dX12_first_156 rfl (lv_at hl 2 rfl) ?_
                  refine rg_27 C hP wm_80 dX12_first_157 ?_
                  refine lv_iload_n hx hb dX12_first_160 rfl (lv_at hl 0 rfl) ?_
                  refine lv_iconst (v := 0) hx hb dX12_first_161 (by decide +kernel) ?_
                  refine rw_27 (f := (σ.2.1 27)) C hP hS rfl (v_first_36  ) (v_first_63 σ x1 x2 x20 hpre_0 hpre_1 hpre_2 hpre_4 ex1 tx1 ex2 tx2 c3 c10 c18 c19 ex20 tx20 c21 hr58_0 hr58_1 hr90_0 hr90_1) dX12_first_162 (fun H locs hP hS => ?_)
                  refine lv_aload_n hx hb dX12_first_163 rfl (lv_at hl 2 rfl) ?_
                  refine lv_dup hx hb dX12_first_164 rfl ?_
                  refine rg_14 (v := (σ.1 14)) C hP rfl wm_62 dX12_first_165 ?_
                  refine lv_iconst (v := 1) hx hb dX12_first_168 (by decide +kernel) ?_
                  refine lv_iadd hx hb dX12_first_169 ?_
                  refine lv_topi (fun x93 ex93 => ?_)
                  have tx93 : x93.toInt = (σ.1 14).toInt + 1 := (v_first_64 σ x1 x2 x20 x93 hpre_0 hpre_1 hpre_2 hpre_4 ex1 tx1 ex2 tx2 c3 c10 c18 c19 ex20 tx20 c21 hr52 hr58_0 hr58_1 hr90_0 hr90_1 ex93)
                  refine rp_14 C hP hS wm_62 dX12_first_170 (fun H locs hP hS => ?_)
                  refine lv_goto (tgt := 278) hx hb dX12_first_173 (by decide) ?_
                  have hP : RP D cy ad (rS (rS (rS (rS (rS (rA (rA (rA (rA (rA (rA (rA (rA (rA (rA (rA (rA (rS (rS (rS (rJ (rA (rS σ 14 x93) 11 (σ.2.1 11)) 12 (σ.2.2.1 12)) 16 (σ.1 16)) 19 (σ.1 19)) 29 (σ.1 29)) 31 (σ.2.1 31)) 30 (σ.2.1 30)) 32 (σ.2.1 32)) 21 (σ.2.1 21)) 22 (upd (σ.2.1 22) x2.toNatClampNeg (30 : Int32))) 20 (σ.2.1 20)) 23 (σ.2.1 23)) 24 (σ.2.1 24)) 25 (σ.2.1 25)) 26 (σ.2.1 26)) 27 (upd (σ.2.1 27) x2.toNatClampNeg (0 : Int32))) 28 (σ.2.1 28)) 17 (σ.1 17)) 33 (σ.1 33)) 34 (σ.1 34)) 8 (σ.1 8)) 9 (σ.1 9)) H := RP.cong hP (Eq.trans (b := (σ.1 0)) rfl rfl) (Eq.trans (b := (σ.1 1)) rfl rfl) (Eq.trans (b := (σ.2.1 2)) rfl rfl) (Eq.trans (b := (σ.1 3)) rfl rfl) (Eq.trans (b := (σ.2.1 4)) rfl rfl) (Eq.trans (b := (σ.2.1 5)) rfl rfl) (Eq.trans (b := (σ.2.2.1 6)) rfl rfl) (Eq.trans (b := (σ.2.1 7)) rfl rfl) (Eq.trans (b := (σ.1 8)) rfl rfl) (Eq.trans (b := (σ.1 9)) rfl rfl) (Eq.trans (b := (σ.1 10)) rfl rfl) (Eq.trans (b := (σ.2.1 11)) rfl rfl) (Eq.trans (b := (σ.2.2.1 12)) rfl rfl) (Eq.trans (b := (σ.2.1 13)) rfl rfl) (Eq.trans (b := x93) rfl rfl) (Eq.trans (b := (σ.1 15)) rfl rfl) (Eq.trans (b := (σ.1 16)) rfl rfl) (Eq.trans (b := (σ.1 17)) rfl rfl) (Eq.trans (b := (σ.1 18)) rfl rfl) (Eq.trans (b := (σ.1 19)) rfl rfl) (Eq.trans (b := (σ.2.1 20)) rfl rfl) (Eq.trans (b := (σ.2.1 21)) rfl rfl) (Eq.trans (b := (upd (σ.2.1 22) x2.toNatClampNeg (30 : Int32))) rfl rfl) (Eq.trans (b := (σ.2.1 23)) rfl rfl) (Eq.trans (b := (σ.2.1 24)) rfl rfl) (Eq.trans (b := (σ.2.1 25)) rfl rfl) (Eq.trans (b := (σ.2.1 26)) rfl rfl) (Eq.trans (b := (upd (σ.2.1 27) x2.toNatClampNeg (0 : Int32))) rfl rfl) (Eq.trans (b := (σ.2.1 28)) rfl rfl) (Eq.trans (b := (σ.1 29)) rfl rfl) (Eq.trans (b := (σ.2.1 30)) rfl rfl) (Eq.trans (b := (σ.2.1 31)) rfl rfl) (Eq.trans (b := (σ.2.1 32)) rfl rfl) (Eq.trans (b := (σ.1 33)) rfl rfl) (Eq.trans (b := (σ.1 34)) rfl rfl) (Eq.trans (b := (σ.1 35)) rfl rfl) (Eq.trans (b := (σ.2.1 36)) rfl rfl) (Eq.trans (b := (σ.2.1 37)) rfl rfl) (Eq.trans (b := (σ.2.1 38)) rfl rfl) (Eq.trans (b := (σ.2.1 39)) rfl rfl) (Eq.trans (b := (σ.2.1 40)) rfl rfl) (Eq.trans (b := (σ.2.1 41)) rfl rfl) (Eq.trans (b := (σ.2.1 42)) rfl rfl) (Eq.trans (b := (σ.2.1 43)) rfl rfl) (Eq.trans (b := (σ.2.1 44)) rfl rfl) (Eq.trans (b := (σ.2.1 45)) rfl rfl) (Eq.trans (b := (σ.2.1 46)) rfl rfl) (Eq.trans (b := (σ.1 47)) rfl rfl) (Eq.trans (b := (σ.2.1 48)) rfl rfl) (Eq.trans (b := (σ.1 49)) rfl rfl) (Eq.trans (b := (σ.2.1 50)) rfl rfl) (Eq.trans (b := (σ.2.1 51)) rfl rfl) (Eq.trans (b := (σ.2.2.1 52)) rfl rfl) (Eq.trans (b := (σ.2.2.1 53)) rfl rfl) (Eq.trans (b := (σ.2.2.2)) rfl rfl) (Eq.trans (b := (σ.1 55)) rfl rfl) (Eq.trans (b := (σ.1 56)) rfl rfl) (Eq.trans (b := (σ.1 57)) rfl rfl) (Eq.trans (b := (σ.2.1 58)) rfl rfl) (Eq.trans (b := (σ.1 59)) rfl rfl)
                  exact r_retv C ⟨x93, (σ.2.1 11), (σ.2.2.1 12), (σ.1 16), (σ.1 19), (σ.1 29), (σ.2.1 31), (σ.2.1 30), (σ.2.1 32), (σ.2.1 21), (upd (σ.2.1 22) x2.toNatClampNeg (30 : Int32)), (σ.2.1 20), (σ.2.1 23), (σ.2.1 24), (σ.2.1 25), (σ.2.1 26), (upd (σ.2.1 27) x2.toNatClampNeg (0 : Int32)), (σ.2.1 28), (σ.1 17), (σ.1 33), (σ.1 34), (σ.1 8), (σ.1 9)⟩ (v_first_65 σ x1 x2 x20 x93 hpre_0 hpre_1 hpre_2 hpre_3 hpre_4 hpre_5 ex1 tx1 ex2 tx2 c3 c10 c18 c19 ex20 tx20 c21 hr52 hr58_0 hr58_1 hr90_0 hr90_1 ex93 tx93) hP hS dX12_first_278
        · have c19 : x1.toInt = 3 := by have h := z_eq c19; rw [show (3 : Int32).toInt = 3 from by decide +kernel] at h; exact h
          refine lv_aload_n hx hb dX12_first_100 rfl (lv_at hl 2 rfl) ?_
          refine r_callVv (As := []) (rest := []) C hP hS hl.1 ⟨Nat.zero_le _, Nat.zero_le _⟩ (M_word l D cy sz0 sa ad σ s.heap.size  (v_first_66 σ x1 x2 hpre_0 hpre_1 hpre_2 hpre_3 hpre_4 ex1 tx1 ex2 tx2 c3 c10 c18 c19)) (n := 0) ⟨wm_113, wm_105, by decide +kernel⟩ ⟨wm_114, wm_115, wm_10⟩ rfl rfl (lv_room (Nat.le_of_ble_eq_true rfl)) ⟨Nat.le_of_ble_eq_true rfl, Nat.le_of_ble_eq_true rfl⟩ dX12_first_101 (fun u H locs hr94 hP hS => ?_)
          obtain ⟨n95, F96, G97, n98, n99, n100, F101, F102, F103, F104, F105, F106, F107, F108, F109, F110, F111, F112, n113, n114, n115, n116, n117⟩ := u
          have hr94 : Keep (σ.1 15).toInt (σ.2.1 11) F96 (σ.2.2.1 12) G97 ∧ 0 ≤ n116.toInt ∧ n116.toInt ≤ 3 ∧ (n116.toInt = 0 → TKI (σ.2.1 4) (σ.2.2.1 6) (σ.2.1 7) (σ.1 3) n95 ∧ LI n113 n95 (σ.1 15) n98 n99 n100 F96 G97 F101 F102 F103 F104 F105 F106 F107 F108 F109 F111 n114 n115 F112 ∧ 2 * (σ.1 14).toInt - (σ.1 19).toInt < 2 * n95.toInt - n99.toInt) := hr94
          obtain ⟨hr94_0, hr94_1, hr94_2, hr94_3⟩ := hr94
          have hP : RP D cy ad (rS (rS (rS (rS (rS (rA (rA (rA (rA (rA (rA (rA (rA (rA (rA (rA (rA (rS (rS (rS (rJ (rA (rS σ 14 n95) 11 F96) 12 G97) 16 n98) 19 n99) 29 n100) 31 F101) 30 F102) 32 F103) 21 F104) 22 F105) 20 F106) 23 F107) 24 F108) 25 F109) 26 F110) 27 F111) 28 F112) 17 n113) 33 n114) 34 n115) 8 n116) 9 n117) H := hP
          refine lv_goto (tgt := 278) hx hb dX12_first_104 (by decide) ?_
          exact r_retv C ⟨n95, F96, G97, n98, n99, n100, F101, F102, F103, F104, F105, F106, F107, F108, F109, F110, F111, F112, n113, n114, n115, n116, n117⟩ (v_first_67 σ x1 x2 n95 F96 G97 n98 n99 n100 F101 F102 F103 F104 F105 F106 F107 F108 F109 F111 F112 n113 n114 n115 n116 hpre_0 hpre_1 hpre_2 hpre_4 ex1 tx1 ex2 tx2 c3 c10 c18 c19 hr94_0 hr94_1 hr94_2 hr94_3) hP hS dX12_first_278
      · have c18 : x1.toInt = 2 := by have h := z_eq c18; rw [show (2 : Int32).toInt = 2 from by decide +kernel] at h; exact h
        refine lv_aload_n hx hb dX12_first_32 rfl (lv_at hl 2 rfl) ?_
        refine lv_iload_n hx hb dX12_first_33 rfl (lv_at hl 1 rfl) ?_
        refine lv_iconst (v := 1) hx hb dX12_first_34 (by decide +kernel) ?_
        refine lv_icmp_ne (tgt := 42) hx hb dX12_first_35 (by decide) (fun c118 => ?_) (fun c118 => ?_)
        · have c118 : ¬ x1.toInt = 1 := by have h := z_ne c118; rw [show (1 : Int32).toInt = 1 from by decide +kernel] at h; exact h
          refine lv_iload_n hx hb dX12_first_42 rfl (lv_at hl 1 rfl) ?_
          refine lv_iconst (v := 4) hx hb dX12_first_43 (by decide +kernel) ?_
          refine lv_icmp_ne (tgt := 51) hx hb dX12_first_44 (by decide) (fun c119 => ?_) (fun c119 => ?_)
          · have c119 : ¬ x1.toInt = 4 := by have h := z_ne c119; rw [show (4 : Int32).toInt = 4 from by decide +kernel] at h; exact h
            refine lv_iconst (v := 2) hx hb dX12_first_51 (by decide +kernel) ?_
            refine lv_aload_n hx hb dX12_first_52 rfl (lv_at hl 2 rfl) ?_
            refine rg_7 C hP wm_20 dX12_first_53 ?_
            refine lv_aload_n hx hb dX12_first_56 rfl (lv_at hl 2 rfl) ?_
            refine rg_14 (v := (σ.1 14)) C hP rfl wm_62 dX12_first_57 ?_
            refine ra_7 (f := (σ.2.1 7)) C hP rfl (v_first_68 σ x1 x2 hpre_0 hpre_1 hpre_2 hpre_4 ex1 tx1 ex2 tx2 c3 c10 c18 c118 c119) dX12_first_60 (fun x120 ex120 => ?_)
            have tx120 : x120.toInt = ((σ.2.1 7) (σ.1 14).toNatClampNeg).toInt := by rw [ex120]
            refine lv_iadd hx hb dX12_first_61 ?_
            refine lv_topi (fun x121 ex121 => ?_)
            have tx121 : x121.toInt = 2 + x120.toInt := (v_first_69 σ x1 x2 x120 x121 hpre_0 hpre_1 hpre_2 hpre_4 ex1 tx1 ex2 tx2 c3 c10 c18 c118 c119 ex120 tx120 ex121)
            refine lv_iconst (v := 1) hx hb dX12_first_62 (by decide +kernel) ?_
            refine lv_isub hx hb dX12_first_63 ?_
            refine lv_topi (fun x122 ex122 => ?_)
            have tx122 : x122.toInt = x121.toInt - 1 := (v_first_70 σ x1 x2 x120 x121 x122 hpre_0 hpre_1 hpre_2 hpre_4 ex1 tx1 ex2 tx2 c3 c10 c18 c118 c119 ex120 tx120 ex121 tx121 ex122)
            refine lv_aload_n hx hb dX12_first_64 rfl (lv_at hl 2 rfl) ?_
            refine rg_6 C hP wm_19 dX12_first_65 ?_
            refine lv_aload_n hx hb dX12_first_68 rfl (lv_at hl 2 rfl) ?_
            refine rg_14 (v := (σ.1 14)) C hP rfl wm_62 dX12_first_69 ?_
            refine ra_6 (f := (σ.2.2.1 6)) C hP rfl (v_first_71 σ x1 x2 x120 x121 x122 hpre_0 hpre_1 hpre_2 hpre_4 ex1 tx1 ex2 tx2 c3 c10 c18 c118 c119 ex120 tx120 ex121 tx121 ex122 tx122) dX12_first_72 (fun x123 ex123 => ?_)
            have tx123 : x123.toInt = ((σ.2.2.1 6) (σ.1 14).toNatClampNeg).toInt := by rw [ex123]
            refine r_callVi (As := [.int x122, .long x123]) (rest := []) C hP hS hl.1 ⟨Nat.zero_le _, Nat.zero_le _⟩ (M_emit l D cy sz0 sa ad σ s.heap.size x122 x123 (v_first_72 σ x1 x2 x120 x121 x122 x123 hpre_0 hpre_1 hpre_2 hpre_4 ex1 tx1 ex2 tx2 c3 c10 c18 c118 c119 ex120 tx120 ex121 tx121 ex122 tx122 ex123 tx123)) (n := 2) ⟨wm_89, wm_64, by decide +kernel⟩ ⟨wm_90, wm_91, wm_10⟩ rfl rfl (lv_room (Nat.le_of_ble_eq_true rfl)) ⟨Nat.le_of_ble_eq_true rfl, Nat.le_of_ble_eq_true rfl⟩ dX12_first_73 (fun r124 u H locs hr124 hP hS => ?_)
            obtain ⟨n125, rfl⟩ : ∃ z, z = u := ⟨_, rfl⟩
            have hr124 : n125.toInt = (σ.1 16).toInt + 1 ∧ r124.toInt = (σ.1 15).toInt + (σ.1 16).toInt := hr124
            obtain ⟨hr124_0, hr124_1⟩ := hr124
            have hP : RP D cy ad (rS (rJ (rA σ 11 (upd (σ.2.1 11) ((σ.1 15).toInt + (σ.1 16).toInt).toNat x122)) 12 (vp_updL (σ.2.2.1 12) ((σ.1 15).toInt + (σ.1 16).toInt).toNat x123)) 16 n125) H := hP
            refine lv_pop hx hb dX12_first_76 rfl ?_
            refine lv_aload_n hx hb dX12_first_77 rfl (lv_at hl 2 rfl) ?_
            refine lv_dup hx hb dX12_first_78 rfl ?_
            refine rg_14 (v := (σ.1 14)) C hP rfl wm_62 dX12_first_79 ?_
            refine lv_iconst (v := 1) hx hb dX12_first_82 (by decide +kernel) ?_
            refine lv_iadd hx hb dX12_first_83 ?_
            refine lv_topi (fun x126 ex126 => ?_)
            have tx126 : x126.toInt = (σ.1 14).toInt + 1 := (v_first_73 σ x1 x2 x120 x121 x122 x123 n125 r124 x126 hpre_0 hpre_1 hpre_2 hpre_4 ex1 tx1 ex2 tx2 c3 c10 c18 c118 c119 ex120 tx120 ex121 tx121 ex122 tx122 ex123 tx123 hr124_0 hr124_1 ex126)
            refine rp_14 C hP hS wm_62 dX12_first_84 (fun H locs hP hS => ?_)
            refine lv_aload_n hx hb dX12_first_87 rfl (lv_at hl 2 rfl) ?_
            refine lv_iconst (v := 0) hx hb dX12_first_88 (by decide +kernel) ?_
            refine r_callVv (As := [.int 0]) (rest := []) C hP hS hl.1 ⟨Nat.zero_le _, Nat.zero_le _⟩ (M_ready l D cy sz0 sa ad (rS (rS (rJ (rA σ 11 (upd (σ.2.1 11) ((σ.1 15).toInt + (σ.1 16).toInt).toNat x122)) 12 (vp_updL (σ.2.2.1 12) ((σ.1 15).toInt + (σ.1 16).toInt).toNat x123)) 16 n125) 14 x126) H.size (0 : Int32) (v_first_74 σ x1 x2 x120 x121 x122 x123 n125 r124 x126 hpre_0 hpre_1 hpre_2 hpre_4 ex1 tx1 ex2 tx2 c3 c10 c18 c118 c119 ex120 tx120 ex121 tx121 ex122 tx122 ex123 tx123 hr124_0 hr124_1 ex126 tx126)) (n := 1) ⟨wm_95, wm_83, by decide +kernel⟩ ⟨wm_96, wm_97, wm_10⟩ rfl rfl (lv_room (Nat.le_of_ble_eq_true rfl)) ⟨Nat.le_of_ble_eq_true rfl, Nat.le_of_ble_eq_true rfl⟩ dX12_first_89 (fun u H locs hr127 hP hS => ?_)
            have hr127 : True := hr127
            have hP : RP D cy ad (rS (rA (rS (rS (rJ (rA σ 11 (upd (σ.2.1 11) ((σ.1 15).toInt + (σ.1 16).toInt).toNat x122)) 12 (vp_updL (σ.2.2.1 12) ((σ.1 15).toInt + (σ.1 16).toInt).toNat x123)) 16 n125) 14 x126) 28 (upd (σ.2.1 28) ((σ.1 19).toInt - 1).toNat (0 : Int32))) 17 (0 : Int32)) H := hP
            refine lv_goto (tgt := 278) hx hb dX12_first_92 (by decide) ?_
            have hP : RP D cy ad (rS (rS (rS (rS (rS (rA (rA (rA (rA (rA (rA (rA (rA (rA (rA (rA (rA (rS (rS (rS (rJ (rA (rS σ 14 x126) 11 (upd (σ.2.1 11) ((σ.1 15).toInt + (σ.1 16).toInt).toNat x122)) 12 (vp_updL (σ.2.2.1 12) ((σ.1 15).toInt + (σ.1 16).toInt).toNat x123)) 16 n125) 19 (σ.1 19)) 29 (σ.1 29)) 31 (σ.2.1 31)) 30 (σ.2.1 30)) 32 (σ.2.1 32)) 21 (σ.2.1 21)) 22 (σ.2.1 22)) 20 (σ.2.1 20)) 23 (σ.2.1 23)) 24 (σ.2.1 24)) 25 (σ.2.1 25)) 26 (σ.2.1 26)) 27 (σ.2.1 27)) 28 (upd (σ.2.1 28) ((σ.1 19).toInt - 1).toNat (0 : Int32))) 17 (0 : Int32)) 33 (σ.1 33)) 34 (σ.1 34)) 8 (σ.1 8)) 9 (σ.1 9)) H := RP.cong hP (Eq.trans (b := (σ.1 0)) rfl rfl) (Eq.trans (b := (σ.1 1)) rfl rfl) (Eq.trans (b := (σ.2.1 2)) rfl rfl) (Eq.trans (b := (σ.1 3)) rfl rfl) (Eq.trans (b := (σ.2.1 4)) rfl rfl) (Eq.trans (b := (σ.2.1 5)) rfl rfl) (Eq.trans (b := (σ.2.2.1 6)) rfl rfl) (Eq.trans (b := (σ.2.1 7)) rfl rfl) (Eq.trans (b := (σ.1 8)) rfl rfl) (Eq.trans (b := (σ.1 9)) rfl rfl) (Eq.trans (b := (σ.1 10)) rfl rfl) (Eq.trans (b := (upd (σ.2.1 11) ((σ.1 15).toInt + (σ.1 16).toInt).toNat x122)) rfl rfl) (Eq.trans (b := (vp_updL (σ.2.2.1 12) ((σ.1 15).toInt + (σ.1 16).toInt).toNat x123)) rfl rfl) (Eq.trans (b := (σ.2.1 13)) rfl rfl) (Eq.trans (b := x126) rfl rfl) (Eq.trans (b := (σ.1 15)) rfl rfl) (Eq.trans (b := n125) rfl rfl) (Eq.trans (b := (0 : Int32)) rfl rfl) (Eq.trans (b := (σ.1 18)) rfl rfl) (Eq.trans (b := (σ.1 19)) rfl rfl) (Eq.trans (b := (σ.2.1 20)) rfl rfl) (Eq.trans (b := (σ.2.1 21)) rfl rfl) (Eq.trans (b := (σ.2.1 22)) rfl rfl) (Eq.trans (b := (σ.2.1 23)) rfl rfl) (Eq.trans (b := (σ.2.1 24)) rfl rfl) (Eq.trans (b := (σ.2.1 25)) rfl rfl) (Eq.trans (b := (σ.2.1 26)) rfl rfl) (Eq.trans (b := (σ.2.1 27)) rfl rfl) (Eq.trans (b := (upd (σ.2.1 28) ((σ.1 19).toInt - 1).toNat (0 : Int32))) rfl rfl) (Eq.trans (b := (σ.1 29)) rfl rfl) (Eq.trans (b := (σ.2.1 30)) rfl rfl) (Eq.trans (b := (σ.2.1 31)) rfl rfl) (Eq.trans (b := (σ.2.1 32)) rfl rfl) (Eq.trans (b := (σ.1 33)) rfl rfl) (Eq.trans (b := (σ.1 34)) rfl rfl) (Eq.trans (b := (σ.1 35)) rfl rfl) (Eq.trans (b := (σ.2.1 36)) rfl rfl) (Eq.trans (b := (σ.2.1 37)) rfl rfl) (Eq.trans (b := (σ.2.1 38)) rfl rfl) (Eq.trans (b := (σ.2.1 39)) rfl rfl) (Eq.trans (b := (σ.2.1 40)) rfl rfl) (Eq.trans (b := (σ.2.1 41)) rfl rfl) (Eq.trans (b := (σ.2.1 42)) rfl rfl) (Eq.trans (b := (σ.2.1 43)) rfl rfl) (Eq.trans (b := (σ.2.1 44)) rfl rfl) (Eq.trans (b := (σ.2.1 45)) rfl rfl) (Eq.trans (b := (σ.2.1 46)) rfl rfl) (Eq.trans (b := (σ.1 47)) rfl rfl) (Eq.trans (b := (σ.2.1 48)) rfl rfl) (Eq.trans (b := (σ.1 49)) rfl rfl) (Eq.trans (b := (σ.2.1 50)) rfl rfl) (Eq.trans (b := (σ.2.1 51)) rfl rfl) (Eq.trans (b := (σ.2.2.1 52)) rfl rfl) (Eq.trans (b := (σ.2.2.1 53)) rfl rfl) (Eq.trans (b := (σ.2.2.2)) rfl rfl) (Eq.trans (b := (σ.1 55)) rfl rfl) (Eq.trans (b := (σ.1 56)) rfl rfl) (Eq.trans (b := (σ.1 57)) rfl rfl) (Eq.trans (b := (σ.2.1 58)) rfl rfl) (Eq.trans (b := (σ.1 59)) rfl rfl)
            exact r_retv C ⟨x126, (upd (σ.2.1 11) ((σ.1 15).toInt + (σ.1 16).toInt).toNat x122), (vp_updL (σ.2.2.1 12) ((σ.1 15).toInt + (σ.1 16).toInt).toNat x123), n125, (σ.1 19), (σ.1 29), (σ.2.1 31), (σ.2.1 30), (σ.2.1 32), (σ.2.1 21), (σ.2.1 22), (σ.2.1 20), (σ.2.1 23), (σ.2.1 24), (σ.2.1 25), (σ.2.1 26), (σ.2.1 27), (upd (σ.2.1 28) ((σ.1 19).toInt - 1).toNat (0 : Int32)), (0 : Int32), (σ.1 33), (σ.1 34), (σ.1 8), (σ.1 9)⟩ (v_first_75 σ x1 x2 x120 x121 x122 x123 n125 r124 x126 hpre_0 hpre_1 hpre_2 hpre_3 hpre_4 ex1 tx1 ex2 tx2 c3 c10 c18 c118 c119 ex120 tx120 ex121 tx121 ex122 tx122 ex123 tx123 hr124_0 hr124_1 ex126 tx126) hP hS dX12_first_278
          · have c119 : x1.toInt = 4 := by have h := z_eq c119; rw [show (4 : Int32).toInt = 4 from by decide +kernel] at h; exact h
            exact absurd (v_first_76 σ x1 ex1 tx1 c3 c10 c18 c118 c119) id
        · have c118 : x1.toInt = 1 := by have h := z_eq c118; rw [show (1 : Int32).toInt = 1 from by decide +kernel] at h; exact h
          exact absurd (v_first_77 σ x1 ex1 tx1 c3 c10 c18 c118) id
